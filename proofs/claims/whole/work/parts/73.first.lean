theorem adN_pc : ∀ n, n < 9 → ∀ i, i < 2 ^ n → adN (nI i) 0 n 128 + n = 128 + 2 * pc8 i := by decide +kernel
theorem pc8_n : ∀ n, n < 9 → ∀ i, i < 2 ^ n → pc8 i ≤ n := by decide +kernel
theorem pow_256 {n : Nat} (hn : n ≤ 8) : 2 ^ n ≤ 256 := Nat.pow_le_pow_right (n := 2) (by decide) hn
/-- both sides after the first i states -/
def Fst (n i : Nat) (t : Nat → Int32) (S : l4) : Prop :=
  rq1 S.1 (hF t n 28 (fun _ => 0)) ∧ ∀ x, x < 261 → ∃ k, k ≤ i ∧ t x = nI k
theorem Fst.step {f g : Nat → Int32} {n cc i : Nat} {t : Nat → Int32} {S : l4} (hD : Dia f g n cc) (hi : i < 2 ^ n) (h : Fst n i t S) : Fst n (i + 1) (if cvs (oth f n) (nI i) 0 (4 * n) 0 0 + cc ≤ 28 then upd t ((cvs (oth f n) (nI i) 0 (4 * n) 0 0 + cc) * 9 + pc8 i) (t ((cvs (oth f n) (nI i) 0 (4 * n) 0 0 + cc) * 9 + pc8 i) + 1) else t) (asS (oth f n) 33 n cc i S) := by
  have hn := hD.1
  have h256 := pow_256 hn
  have hb := nCv_le hD (thr_smo (nI i) n)
  have hr := (rdT_n hn (by omega) hD.ot S.2.2.2 (i := i)).2
  rw [cvs_n hn hD.ot]
  unfold asS
  rw [hr]
  generalize nCv (oth f n) (thr (nI i)) n = c at hb ⊢
  rw [if_pos hb.1]
  have hp := pc8_n n (by omega) i hi
  have ha := adN_pc n (by omega) i hi
  generalize pc8 i = a at hp ha ⊢
  obtain ⟨k0, hk0, hk1⟩ := h.2 ((c + cc) * 9 + a) (by omega)
  have hup := hF_up (t := t) (t' := upd t ((c + cc) * 9 + a) (t ((c + cc) * 9 + a) + 1)) (n := n) (c0 := c + cc) (a0 := a) hn hp hb.2 (fun x hx => upd_ne _ _ hx) (by
    rw [upd_self, hk1, ← nI_succ, nI_l (by omega), nI_l (by omega)]
    exact Int64.ofNat_add k0 1) 28 (fun _ => 0) hb.1
  refine ⟨fun y hy => ?_, fun x hx => ?_⟩
  · rw [hup]
    show (if y < 257 then S.1 y + _ else S.1 y) = hF t n 28 (fun _ => 0) _ + _
    rw [if_pos hy, h.1 y hy]
    congr 1
    have hpw : rq1 (pw0 S.2.1 i n) (mon (2 * a - n)) := fun z hz => by
      unfold pw0 vp_updL mon
      by_cases e : z = adN (nI i) 0 n 128
      · rw [if_pos e, if_pos (by omega)]
      · rw [if_neg e, if_neg (by omega)]
        show (if z < 257 then 0 else S.2.1 z) = 0
        rw [if_pos hz]
    exact rq1_dN (c + cc - 1) 1 (pw0 S.2.1 i n, S.2.2.1) (mon (2 * a - n)) 8 (sup_mon (by omega) (by omega)) (by omega) (by omega) hpw y hy
  · by_cases e : x = (c + cc) * 9 + a
    · rw [e, upd_self, hk1, ← nI_succ]
      exact ⟨k0 + 1, by omega, rfl⟩
    · rw [upd_ne _ _ e]
      obtain ⟨k, k1, k2⟩ := h.2 x hx
      exact ⟨k, by omega, k2⟩
theorem Fst.all {f g : Nat → Int32} {n cc : Nat} (hD : Dia f g n cc) : ∀ k i (t : Nat → Int32) (S : l4), i + k = 2 ^ n → Fst n i t S → Fst n (2 ^ n) (tal (oth f n) n cc i k t) (itN (asS (oth f n) 33 n cc) i k S) := by
  intro k
  induction k with
  | zero =>
    intro i t S hi h
    rw [tal, itN_0, ← show i = 2 ^ n by omega]
    exact h
  | succ k ih =>
    intro i t S hi h
    rw [tal, itN_s]
    exact ih (i + 1) _ _ (by omega) (Fst.step hD (by omega) h)
theorem first_all {f g : Nat → Int32} {n cc : Nat} (hD : Dia f g n cc) (t : Nat → Int32) (m ms mq mh : Nat → Int64) (mt : Nat → Int32) : ∃ F : cfF, sup 62 F ∧ rq1 (fiM (oth f n) 33 n cc ms mq mh mt).1 F ∧ rq2 (hor (tal (oth f n) n cc 0 (2 ^ n) (fl0 t 261)) n 28 (fl0L m 125)) F := by
  have hn := hD.1
  have h0 : Fst n 0 (fl0 t 261) (f0 ms, mq, mh, mt) := by
    refine ⟨fun y hy => ?_, fun x hx => ⟨0, Nat.le_refl _, ?_⟩⟩
    · rw [hF_0 hn 28 (fun x hx => by unfold fl0; rw [if_pos (by omega)])]
      show f0 ms y = 0
      unfold f0
      rw [if_pos hy]
    · unfold fl0
      rw [if_pos hx]
      rfl
  have h := Fst.all hD (2 ^ n) 0 _ _ (by omega) h0
  have e : itN (asS (oth f n) 33 n cc) 0 (2 ^ n) (f0 ms, mq, mh, mt) = fiM (oth f n) 33 n cc ms mq mh mt := rfl
  rw [e] at h
  generalize tal (oth f n) n cc 0 (2 ^ n) (fl0 t 261) = tt at h ⊢
  have hh := rq2_hor (tt := tt) hn 28 (fl0L m 125) (fun _ => 0) 6 (by omega) (by omega) (by omega) (by omega) (fun _ _ => rfl) (fun y hy => by unfold fl0L; rw [if_pos hy])
  exact ⟨_, hh.2, h.1, hh.1⟩
-- the writhe is small
theorem wrI_in {g : Nat → Int32} : ∀ (k i : Nat) (z : Int), (∀ x, i ≤ x → x < i + k → g x = 1 ∨ g x = -1) → ∃ y : Int, wrI g i k (Int32.ofInt z) = Int32.ofInt y ∧ z - k ≤ y ∧ y ≤ z + k := by
  intro k
  induction k with
  | zero => intro i z _; exact ⟨z, by rw [wrI], by omega, by omega⟩
  | succ k ih =>
    intro i z h
    rw [wrI]
    rcases h i (Nat.le_refl _) (by omega) with e | e
    · obtain ⟨y, y1, y2, y3⟩ := ih (i + 1) (z + 1) (fun x a b => h x (by omega) (by omega))
      refine ⟨y, ?_, by omega, by omega⟩
      rw [e, ← y1, Int32.ofInt_add]
      rfl
    · obtain ⟨y, y1, y2, y3⟩ := ih (i + 1) (z + -1) (fun x a b => h x (by omega) (by omega))
      refine ⟨y, ?_, by omega, by omega⟩
      rw [e, ← y1, Int32.ofInt_add]
      rfl
theorem wr_par : ∀ j : Nat, j < 17 → ((Int32.ofInt ((j : Int) - 8)).toInt64 - (Int32.ofInt ((j : Int) - 8)).toInt64 / 2 * 2 = 0 ↔ Int32.ofInt ((j : Int) - 8) - Int32.ofInt ((j : Int) - 8) / 2 * 2 = 0) ∧ (Int32.ofInt ((j : Int) - 8)).toInt = (j : Int) - 8 := by decide +kernel
theorem bm64 {x : Int} (h1 : -9223372036854775808 ≤ x) (h2 : x < 9223372036854775808) : x.bmod (2 ^ 64) = x := by
  rw [Int.bmod_def]
  omega
theorem bm32 {x : Int} (h1 : -2147483648 ≤ x) (h2 : x < 2147483648) : x.bmod (2 ^ 32) = x := by
  rw [Int.bmod_def]
  omega
theorem fi_same {g mp : Nat → Int32} {n : Nat} (hn : n ≤ 8) (hs : sgOK n g) (ha : agP n g mp) : ∃ y : Int, -8 ≤ y ∧ y ≤ 8 ∧ (∀ x, fiR mp n x = fiS g n x) ∧ fiS g n 0 = 0 ∧ (∀ e : Int32, (fiP e g n).toInt = e.toInt + 3 * y) ∧ ∀ e : Int32, -128 ≤ e.toInt → e.toInt ≤ 128 → (fiA e mp n).toInt = e.toInt + 3 * y + 128 := by
  have hw : wrM mp 0 n 0 = wrI g 0 n 0 := wr_eq n 0 0 (fun x _ h => ⟨hs x (by omega), ha x (by omega)⟩)
  obtain ⟨y, y1, y2, y3⟩ := wrI_in (g := g) n 0 0 (fun x _ h => hs x (by omega))
  have y1' : wrI g 0 n 0 = Int32.ofInt y := y1
  obtain ⟨j, hj⟩ : ∃ j : Nat, y = (j : Int) - 8 := ⟨(y + 8).toNat, by omega⟩
  have hp := wr_par j (by omega)
  rw [← hj] at hp
  refine ⟨y, by omega, by omega, fun x => ?_, ?_, fun e => ?_, fun e e1 e2 => ?_⟩
  · unfold fiR fiS
    rw [hw, y1']
    by_cases c : Int32.ofInt y - Int32.ofInt y / 2 * 2 = 0
    · rw [if_pos c, if_pos (hp.1.mpr c)]
    · rw [if_neg c, if_neg (fun z => c (hp.1.mp z))]
  · unfold fiS
    split <;> decide
  · unfold fiP
    have b1 := Int32.le_toInt e
    have b2 := Int32.toInt_lt e
    have h3 : (3 : Int64).toInt = 3 := by decide
    rw [y1', Int64.toInt_add, Int64.toInt_mul, Int32.toInt_toInt64, Int32.toInt_toInt64, hp.2, h3, bm64 (x := 3 * y) (by omega) (by omega), bm64 (by omega) (by omega)]
  · unfold fiA
    have h3 : (3 : Int32).toInt = 3 := by decide
    have h4 : (128 : Int32).toInt = 128 := by decide
    rw [hw, y1', Int32.toInt_add, Int32.toInt_add, Int32.toInt_mul, hp.2, h3, h4, bm32 (x := 3 * y) (by omega) (by omega), bm32 (x := e.toInt + 3 * y) (by omega) (by omega), bm32 (by omega) (by omega)]
/-- where the class reads -/
theorem fi_at {p : Int64} {z : Int} (h : p.toInt = z) (h1 : -62 ≤ z) (h2 : z ≤ 62) : (62 + p.toInt32).toNatClampNeg = (62 + z).toNat := by
  have h3 : (62 : Int32).toInt = 62 := by decide
  show (62 + p.toInt32).toInt.toNat = _
  rw [Int32.toInt_add, Int64.toInt_toInt32, h, h3, bm32 (x := z) (by omega) (by omega), bm32 (by omega) (by omega)]
theorem i64_lt {a b : Int64} : a < b ↔ a.toInt < b.toInt := Int64.lt_iff_toInt_lt
theorem st_first : ∀ w, Inv w → ∀ (a : Int32), zOpL M_A_first M_M_first [.int a] Inv w := by
  rintro w ⟨nd, fd, gd, n, f, g, nf, ff, gf, s, q, oe, t, m, l, u, c0, ln, mi, wd, pl, lt, cc, me, mp, mw, mv, my, mt, ms, mq, mh, ma, mz, mk, mn, mr, mx, rfl, hd, hg, hw, hu⟩ e
  have hn := hg.1.1
  have hcc := hg.1.cc
  obtain ⟨y, y1, y2, y3, y4, y5, y6⟩ := fi_same hn hg.1.2.2.1 hg.2.2
  have c62 : (62 : Int64).toInt = 62 := by decide
  have c62' : (-62 : Int64).toInt = -62 := by decide
  have d0 : (0 : Int32).toInt = 0 := by decide
  have d1 : (128 : Int32).toInt = 128 := by decide
  have d2 : (-128 : Int32).toInt = -128 := by decide
  have d3 : (256 : Int32).toInt = 256 := by decide
  have hp := y5 e
  have hlo : fiP e g n < -62 ↔ e.toInt + 3 * y < -62 := by rw [Int64.lt_iff_toInt_lt, hp, c62']
  have hhi : 62 < fiP e g n ↔ 62 < e.toInt + 3 * y := by rw [Int64.lt_iff_toInt_lt, hp, c62]
  have hle : fiP e g n ≤ 62 ↔ e.toInt + 3 * y ≤ 62 := by rw [Int64.le_iff_toInt_le, hp, c62]
  have h256 := pow_256 hn
  by_cases h : e < -128 ∨ 128 < e
  · have h' := h
    rw [Int32.lt_iff_toInt_lt, Int32.lt_iff_toInt_lt, d1, d2] at h'
    refine opLe (fun T => sp_A_first_no hn (by rw [hlo, hhi]; omega)) (fun X => sp_M_first_no h) y4.symm (Inv.of hd hg hw hu)
  · have h1 : ¬ e < -128 := fun z => h (Or.inl z)
    have h2 : e ≤ 128 := by
      have this : ¬ 128 < e := fun z => h (Or.inr z)
      rw [Int32.lt_iff_toInt_lt] at this
      rw [Int32.le_iff_toInt_le]
      omega
    have h1' := h1
    have h2' := h2
    rw [Int32.lt_iff_toInt_lt, d2] at h1'
    rw [Int32.le_iff_toInt_le, d1] at h2'
    have hA := y6 e (by omega) h2'
    have alo : fiA e mp n < 0 ↔ e.toInt + 3 * y + 128 < 0 := by rw [Int32.lt_iff_toInt_lt, hA, d0]
    have ahi : 256 < fiA e mp n ↔ 256 < e.toInt + 3 * y + 128 := by rw [Int32.lt_iff_toInt_lt, hA, d3]
    have hat : (fiA e mp n).toNatClampNeg = (e.toInt + 3 * y + 128).toNat := by show (fiA e mp n).toInt.toNat = _; rw [hA]
    obtain ⟨F, f1, f2, f3⟩ := first_all hg.1 t m ms mq mh mt
    have hM := fun (X : Nat → zE) => sp_M_first (X := X) (me := me) (mc := n) (mo := cc) (md := nd) (mw := mw) (ml := lt) (mv := mv) (my := my) (mt := mt) (ms := ms) (mq := mq) (mh := mh) (ma := ma) (mz := mz) (mk := mk) (mn := mn) (mr := mr) (mx := mx) (mp := mp) h1 h2 hn (by omega) (win_0 hg.1.ot hg.2.1) (K := 33) (fun i mt hi => (rdT_n hn (by omega) hg.1.ot mt).1)
    by_cases hp2 : fiP e g n < -62 ∨ 62 < fiP e g n
    · have hp3 := hp2
      rw [hlo, hhi] at hp3
      refine opLe (fun T => sp_A_first_no hn hp2) hM ?_ (Inv.of hd hg hw hu)
      rw [y3]
      congr 1
      by_cases hb : fiA e mp n < 0 ∨ 256 < fiA e mp n
      · rw [if_pos hb]
      · rw [if_neg hb, hat]
        rw [alo, ahi] at hb
        rw [f2 _ (by omega), f1 _ (by omega)]
    · have hp3 := hp2
      rw [hlo, hhi] at hp3
      refine opLe (fun T => sp_A_first hn (by omega) (fun z => hp2 (Or.inl z)) (hle.mpr (by omega))) hM ?_ (Inv.of hd hg hw hu)
      have hb : ¬ (fiA e mp n < 0 ∨ 256 < fiA e mp n) := by rw [alo, ahi]; omega
      rw [y3, if_neg hb, hat, fi_at hp (by omega) (by omega)]
      congr 1
      rw [f2 _ (by omega), f3 _ (by omega)]
      congr 1
      omega
