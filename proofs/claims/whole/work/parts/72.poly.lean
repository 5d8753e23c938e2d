/-- coefficients by their powers -/
abbrev cfF : Type := Int → Int64
def dF (F : cfF) : cfF := fun k => -F (k - 2) - F (k + 2)
def dN : Nat → cfF → cfF
  | 0, F => F
  | c + 1, F => dN c (dF F)
def mon (a : Int) : cfF := fun k => if k = a then 1 else 0
def sup (B : Int) (F : cfF) : Prop := ∀ k, (k < -B ∨ B < k) → F k = 0
theorem i64_a (a b c d : Int64) : -(a + b) - (c + d) = (-a - c) + (-b - d) := by grind
theorem i64_b (a b c : Int64) : a + b + c = a + c + b := by grind
theorem i64_c (a b c : Int64) : a + (b + c) = a + c + b := by grind
theorem dF_add (F G : cfF) : dF (fun k => F k + G k) = fun k => dF F k + dF G k := by
  funext k
  exact i64_a _ _ _ _
theorem dF_0 : dF (fun _ => 0) = fun _ => 0 := by
  funext k
  show -(0 : Int64) - 0 = 0
  decide
theorem sup_dF {B : Int} {F : cfF} (h : sup B F) : sup (B + 2) (dF F) := fun k hk => by
  show -F (k - 2) - F (k + 2) = 0
  rw [h _ (by omega), h _ (by omega)]
  decide
theorem sup_mono {B C : Int} {F : cfF} (h : sup B F) (hBC : B ≤ C) : sup C F := fun k hk => h k (by omega)
theorem sup_dN : ∀ (c : Nat) {B : Int} {F : cfF}, sup B F → sup (B + 2 * c) (dN c F) := by
  intro c
  induction c with
  | zero => intro B F h; exact sup_mono h (by omega)
  | succ c ih => intro B F h; exact sup_mono (ih (sup_dF h)) (by omega)
theorem sup_add {B : Int} {F G : cfF} (h : sup B F) (h' : sup B G) : sup B (fun k => F k + G k) := fun k hk => by
  show F k + G k = 0
  rw [h k hk, h' k hk]
  decide
theorem sup_mon {a B : Int} (h1 : -B ≤ a) (h2 : a ≤ B) : sup B (mon a) := fun k hk => by
  unfold mon
  rw [if_neg (by omega)]
-- the reference's arrays: 257 places, power 0 at 128
def rq1 (m : Nat → Int64) (F : cfF) : Prop := ∀ t, t < 257 → m t = F ((t : Int) - 128)
theorem rq1_db {B : Int} {S : l2} {F : cfF} (hB : B ≤ 128) (hs : sup B F) (h : rq1 S.1 F) : rq1 (dbP S).1 (dF F) := fun t ht => by
  show (if t < 257 then dbF S.1 t else S.1 t) = -F ((t : Int) - 128 - 2) - F ((t : Int) - 128 + 2)
  rw [if_pos ht]
  unfold dbF
  have e1 : (if 2 ≤ t then S.1 (t - 2) else 0) = F ((t : Int) - 128 - 2) := by
    by_cases c : 2 ≤ t
    · rw [if_pos c, h _ (by omega)]
      congr 1
      omega
    · rw [if_neg c, hs _ (by omega)]
  have e2 : (if t ≤ 254 then S.1 (t + 2) else 0) = F ((t : Int) - 128 + 2) := by
    by_cases c : t ≤ 254
    · rw [if_pos c, h _ (by omega)]
      congr 1
      omega
    · rw [if_neg c, hs _ (by omega)]
  rw [e1, e2]
theorem rq1_dN : ∀ (j i : Nat) (S : l2) (F : cfF) (B : Int), sup B F → B + 2 * j ≤ 130 → B ≤ 128 → rq1 S.1 F → rq1 (itN (fun _ => dbP) i j S).1 (dN j F) := by
  intro j
  induction j with
  | zero => intro i S F B _ _ _ h; rw [itN_0]; exact h
  | succ j ih =>
    intro i S F B hs hB hB' h
    rw [itN_s]
    by_cases c : j = 0
    · subst c
      rw [itN_0]
      exact rq1_db hB' hs h
    · exact ih (i + 1) _ _ (B + 2) (sup_dF hs) (by omega) (by omega) (rq1_db hB' hs h)
-- the class's tally
def rwF (t : Nat → Int32) (n c : Nat) : cfF := fun k => if -(n : Int) ≤ k ∧ k ≤ n ∧ (k + n) % 2 = 0 then (t (c * 9 + ((k + n) / 2).toNat)).toInt64 else 0
def hF (t : Nat → Int32) (n : Nat) : Nat → cfF → cfF
  | 0, F => F
  | c + 1, F => hF t n c (fun k => dF F k + rwF t n (c + 1) k)
theorem sup_rw (t : Nat → Int32) (n c : Nat) : sup n (rwF t n c) := fun k hk => by
  unfold rwF
  rw [if_neg (by omega)]
theorem hF_add {t : Nat → Int32} {n : Nat} : ∀ c (F G : cfF), hF t n c (fun k => F k + G k) = fun k => hF t n c F k + dN c G k := by
  intro c
  induction c with
  | zero => intro F G; rfl
  | succ c ih =>
    intro F G
    show hF t n c _ = fun k => hF t n c _ k + dN c (dF G) k
    rw [← ih, dF_add]
    congr 1
    funext k
    exact i64_b _ _ _
theorem hF_congr {t t' : Nat → Int32} {n : Nat} : ∀ c, (∀ c', 1 ≤ c' → c' ≤ c → rwF t' n c' = rwF t n c') → ∀ F, hF t' n c F = hF t n c F := by
  intro c
  induction c with
  | zero => intro _ F; rfl
  | succ c ih =>
    intro h F
    show hF t' n c _ = hF t n c _
    rw [h (c + 1) (by omega) (Nat.le_refl _)]
    exact ih (fun c' a b => h c' a (by omega)) _
theorem hF_up {t t' : Nat → Int32} {n c0 a0 : Nat} (hn : n ≤ 8) (ha : a0 ≤ n) (h0 : 1 ≤ c0) (ht : ∀ x, x ≠ c0 * 9 + a0 → t' x = t x) (ht0 : (t' (c0 * 9 + a0)).toInt64 = (t (c0 * 9 + a0)).toInt64 + 1) : ∀ c F, c0 ≤ c → hF t' n c F = fun k => hF t n c F k + dN (c0 - 1) (mon (2 * a0 - n)) k := by
  have r1 : ∀ c, c ≠ c0 → rwF t' n c = rwF t n c := fun c hc => by
    funext k
    unfold rwF
    by_cases q : -(n : Int) ≤ k ∧ k ≤ n ∧ (k + n) % 2 = 0
    · rw [if_pos q, if_pos q, ht _ (by omega)]
    · rw [if_neg q, if_neg q]
  have r2 : rwF t' n c0 = fun k => rwF t n c0 k + mon (2 * a0 - n) k := by
    funext k
    unfold rwF mon
    by_cases q : -(n : Int) ≤ k ∧ k ≤ n ∧ (k + n) % 2 = 0
    · rw [if_pos q, if_pos q]
      by_cases e : k = 2 * a0 - n
      · rw [if_pos e, show ((k + n) / 2).toNat = a0 by omega, ht0]
      · rw [if_neg e, ht _ (by omega), Int64.add_zero]
    · rw [if_neg q, if_neg q, if_neg (by omega), Int64.add_zero]
  intro c
  induction c with
  | zero => intro F h; omega
  | succ c ih =>
    intro F h
    by_cases e : c + 1 = c0
    · show hF t' n c _ = fun k => hF t n c _ k + _
      rw [e, r2, hF_congr c (fun c' _ b => r1 c' (by omega)) _, show c0 - 1 = c by omega, ← hF_add]
      congr 1
      funext k
      exact (Int64.add_assoc _ _ _).symm
    · show hF t' n c _ = fun k => hF t n c _ k + _
      rw [r1 (c + 1) e]
      exact ih _ (by omega)
theorem hF_0 {t : Nat → Int32} {n : Nat} (hn : n ≤ 8) : ∀ c, (∀ x, x < (c + 1) * 9 → t x = 0) → hF t n c (fun _ => 0) = fun _ => 0 := by
  intro c
  induction c with
  | zero => intro _; rfl
  | succ c ih =>
    intro h
    show hF t n c (fun k => dF (fun _ => 0) k + rwF t n (c + 1) k) = _
    have e : (fun k => dF (fun _ => 0) k + rwF t n (c + 1) k) = fun _ => 0 := by
      funext k
      rw [dF_0]
      unfold rwF
      by_cases q : -(n : Int) ≤ k ∧ k ≤ n ∧ (k + n) % 2 = 0
      · rw [if_pos q, h _ (by omega)]
        show (0 : Int64) + (0 : Int32).toInt64 = 0
        decide
      · rw [if_neg q]
        show (0 : Int64) + 0 = 0
        decide
    rw [e]
    exact ih (fun x hx => h x (by omega))
-- the class's arrays: 125 places, power 0 at 62
def rq2 (m : Nat → Int64) (F : cfF) : Prop := ∀ t, t < 125 → m t = F ((t : Int) - 62)
theorem mbc_at : ∀ k i (m : Nat → Int64) (tb ob : Int64) (m0 : Nat → Int64), i + k = 125 → (∀ t, i ≤ t → m t = m0 t) → tb = (if 2 ≤ i then m0 (i - 2) else 0) → ob = (if 1 ≤ i then m0 (i - 1) else 0) → ∀ t, t < 125 → mbc i k m tb ob t = if i ≤ t then -(if 2 ≤ t then m0 (t - 2) else 0) - (if t + 2 < 125 then m0 (t + 2) else 0) else m t := by
  intro k
  induction k with
  | zero => intro i m tb ob m0 hi _ _ _ t ht; rw [mbc, if_neg (by omega)]
  | succ k ih =>
    intro i m tb ob m0 hi hm h1 h2 t ht
    rw [mbc, ih (i + 1) _ _ _ m0 (by omega) (fun t ht => by unfold vp_updL; rw [if_neg (by omega)]; exact hm t (by omega)) (by
      rw [h2]
      by_cases c : 1 ≤ i
      · rw [if_pos c, if_pos (by omega)]; rfl
      · rw [if_neg c, if_neg (by omega)]) (by rw [if_pos (by omega)]; exact hm i (Nat.le_refl _)) t ht]
    by_cases c : i + 1 ≤ t
    · rw [if_pos c, if_pos (show i ≤ t by omega)]
    · rw [if_neg c]
      by_cases e : t = i
      · subst e
        rw [if_pos (Nat.le_refl _)]
        unfold vp_updL
        rw [if_pos rfl, h1]
        congr 1
        by_cases q : t + 2 < 125
        · rw [if_pos q, if_pos q, hm _ (by omega)]
        · rw [if_neg q, if_neg q]
      · rw [if_neg (show ¬ i ≤ t by omega)]
        unfold vp_updL
        rw [if_neg e]
theorem rq2_mbc {B : Int} {m : Nat → Int64} {F : cfF} (hB : B ≤ 62) (hs : sup B F) (h : rq2 m F) : rq2 (mbc 0 125 m 0 0) (dF F) := fun t ht => by
  rw [mbc_at 125 0 m 0 0 m (by omega) (fun _ _ => rfl) (by rw [if_neg (by omega)]) (by rw [if_neg (by omega)]) t ht, if_pos (Nat.zero_le _)]
  show _ = -F ((t : Int) - 62 - 2) - F ((t : Int) - 62 + 2)
  have e1 : (if 2 ≤ t then m (t - 2) else 0) = F ((t : Int) - 62 - 2) := by
    by_cases c : 2 ≤ t
    · rw [if_pos c, h _ (by omega)]
      congr 1
      omega
    · rw [if_neg c, hs _ (by omega)]
  have e2 : (if t + 2 < 125 then m (t + 2) else 0) = F ((t : Int) - 62 + 2) := by
    by_cases c : t + 2 < 125
    · rw [if_pos c, h _ (by omega)]
      congr 1
      omega
    · rw [if_neg c, hs _ (by omega)]
  rw [e1, e2]
theorem ads_at {tt : Nat → Int32} {c n : Nat} (hn : n ≤ 8) : ∀ k i (m : Nat → Int64) t, i + k = n + 1 → ads tt c n i k m t = if 62 + 2 * i ≤ t + n ∧ t ≤ 62 + n ∧ (t + n) % 2 = 0 then m t + (tt (c * 9 + (t + n - 62) / 2)).toInt64 else m t := by
  intro k
  induction k with
  | zero => intro i m t hi; rw [ads, if_neg (by omega)]
  | succ k ih =>
    intro i m t hi
    rw [ads, ih (i + 1) _ t (by omega)]
    unfold vp_updL
    by_cases e : t = 62 + 2 * i - n
    · rw [if_neg (by omega), if_pos e, if_pos (by omega), show (t + n - 62) / 2 = i by omega, e]
    · rw [if_neg e]
      by_cases q : 62 + 2 * (i + 1) ≤ t + n ∧ t ≤ 62 + n ∧ (t + n) % 2 = 0
      · rw [if_pos q, if_pos (by omega)]
      · rw [if_neg q, if_neg (by omega)]
theorem rq2_ads {tt : Nat → Int32} {c n : Nat} (hn : n ≤ 8) {m : Nat → Int64} {F : cfF} (h : rq2 m F) : rq2 (ads tt c n 0 (n + 1) m) (fun k => F k + rwF tt n c k) := fun t ht => by
  rw [ads_at hn (n + 1) 0 m t (by omega)]
  show _ = F _ + rwF tt n c ((t : Int) - 62)
  unfold rwF
  by_cases q : 62 + 2 * 0 ≤ t + n ∧ t ≤ 62 + n ∧ (t + n) % 2 = 0
  · rw [if_pos q, if_pos (by omega), h t ht, show (((t : Int) - 62 + n) / 2).toNat = (t + n - 62) / 2 by omega]
  · rw [if_neg q, if_neg (by omega), Int64.add_zero]
    exact h t ht
theorem rq2_hor {tt : Nat → Int32} {n : Nat} (hn : n ≤ 8) : ∀ (c : Nat) (m : Nat → Int64) (F : cfF) (B : Int), 0 ≤ B → B + 2 * c ≤ 64 → 8 ≤ B + 2 → B ≤ 62 → sup B F → rq2 m F → rq2 (hor tt n c m) (hF tt n c F) ∧ sup (B + 2 * c) (hF tt n c F) := by
  intro c
  induction c with
  | zero => intro m F B _ _ _ _ hs h; exact ⟨h, sup_mono hs (by omega)⟩
  | succ c ih =>
    intro m F B h0 hB hB8 hB' hs h
    rw [hor]
    have h1 : rq2 (ads tt (c + 1) n 0 (n + 1) (mbc 0 125 m 0 0)) (fun k => dF F k + rwF tt n (c + 1) k) := rq2_ads hn (rq2_mbc hB' hs h)
    have h2 : sup (B + 2) (fun k => dF F k + rwF tt n (c + 1) k) := sup_add (sup_dF hs) (sup_mono (sup_rw tt n (c + 1)) (by omega))
    by_cases z : c = 0
    · subst z
      exact ⟨h1, sup_mono h2 (by omega)⟩
    · have := ih _ _ (B + 2) (by omega) (by omega) (by omega) (by omega) h2 h1
      exact ⟨this.1, sup_mono this.2 (by omega)⟩
