theorem inj2_fn {f g : Nat → Int32} {n : Nat} (h : inj2 f g n) : fnS (pas f g n) := by
  constructor
  · rintro x y y' ⟨a, a1, a2, a3, a4⟩ ⟨b, b1, b2, b3, b4⟩
    have := h a b a1 b1 (by rw [a2, b2]) (by rw [a3, b3])
    rw [← a4, ← b4, this]
  · rintro x x' y ⟨a, a1, a2, a3, a4⟩ ⟨b, b1, b2, b3, b4⟩
    have := h (opp a) (opp b) (opp_ltn a1) (opp_ltn b1) (by rw [cin_opp, cin_opp, a2, b2]) (by rw [a4, b4])
    rw [← a3, ← b3, opp_inj this]
theorem edg_lab {f g : Nat → Int32} {n : Nat} (h : edg (4 * n) f) : labS (pas f g n) := by
  rintro x y ⟨a, a1, a2, a3, a4⟩
  obtain ⟨k, k1, k2, k3⟩ := h a a1
  exact ⟨k, by omega, by rw [← a3, k3]⟩
theorem pas_in {f g : Nat → Int32} {n h : Nat} (hh : h < 4 * n) (hc : cin g h = true) : pas f g n (f h) (f (opp h)) := ⟨h, hh, hc, rfl, rfl⟩
theorem pas_out {f g : Nat → Int32} {n h : Nat} (hh : h < 4 * n) (hc : cin g h = false) : pas f g n (f (opp h)) (f h) := ⟨opp h, opp_ltn hh, by rw [cin_opp, hc]; rfl, rfl, by rw [opp_opp]⟩
theorem pas_in' {f g : Nat → Int32} {n h : Nat} {v : Int32} (hv : f h = v) (hh : h < 4 * n) (hc : cin g h = true) : pas f g n v (f (opp h)) := ⟨h, hh, hc, hv, rfl⟩
theorem pas_out' {f g : Nat → Int32} {n h : Nat} {v : Int32} (hv : f h = v) (hh : h < 4 * n) (hc : cin g h = false) : pas f g n (f (opp h)) v := ⟨opp h, opp_ltn hh, by rw [cin_opp, hc]; rfl, rfl, by rw [opp_opp]; exact hv⟩
/-- a label that is nowhere -/
theorem pas_none {f g : Nat → Int32} {n : Nat} {v : Int32} (h : ∀ t, t < 4 * n → f t ≠ v) : ¬ ∃ y, pas f g n v y := fun ⟨_, a, a1, _, a3, _⟩ => h a a1 a3
theorem pas_some {f g : Nat → Int32} {n : Nat} (hb : bal (pas f g n)) {t : Nat} (ht : t < 4 * n) : ∃ y, pas f g n (f t) y := by
  cases hc : cin g t with
  | true => exact ⟨_, pas_in ht hc⟩
  | false => exact (hb _).mpr ⟨_, pas_out ht hc⟩
-- a crossing more
theorem cin_up {g : Nat → Int32} {n h : Nat} (p : Bool) (hh : h < 4 * n) : cin (upd g n (sgn p)) h = cin g h := cin_congr rfl (upd_ne _ _ (by omega))
theorem cin_new (g : Nat → Int32) (n : Nat) (p : Bool) : cin (upd g n (sgn p)) (4 * n) = true ∧ cin (upd g n (sgn p)) (4 * n + 1) = (!p) ∧ cin (upd g n (sgn p)) (4 * n + 2) = false ∧ cin (upd g n (sgn p)) (4 * n + 3) = p := by
  unfold cin
  rw [show (4 * n) / 4 = n by omega, show (4 * n + 1) / 4 = n by omega, show (4 * n + 2) / 4 = n by omega, show (4 * n + 3) / 4 = n by omega, upd_self, show 4 * n % 2 = 0 by omega, show (4 * n + 1) % 2 = 1 by omega, show (4 * n + 2) % 2 = 0 by omega, show (4 * n + 3) % 2 = 1 by omega, show 4 * n % 4 = 0 by omega, show (4 * n + 1) % 4 = 1 by omega, show (4 * n + 2) % 4 = 2 by omega, show (4 * n + 3) % 4 = 3 by omega]
  cases p <;> decide
theorem opp_4 (n : Nat) : opp (4 * n) = 4 * n + 2 ∧ opp (4 * n + 1) = 4 * n + 3 ∧ opp (4 * n + 2) = 4 * n ∧ opp (4 * n + 3) = 4 * n + 1 := by unfold opp; omega
theorem pas_ap {f g : Nat → Int32} {n : Nat} (a b c d : Int32) (p : Bool) (x y : Int32) : pas (apE f n a b c d) (upd g n (sgn p)) (n + 1) x y ↔ pas f g n x y ∨ (x = a ∧ y = c) ∨ (x = (if p = true then d else b) ∧ y = (if p = true then b else d)) := by
  have cn := cin_new g n p
  have o4 := opp_4 n
  constructor
  · rintro ⟨h, h1, h2, h3, h4⟩
    by_cases hl : h < 4 * n
    · rw [cin_up p hl] at h2
      rw [apE_lt _ _ _ _ _ hl] at h3
      rw [apE_lt _ _ _ _ _ (opp_ltn hl)] at h4
      exact Or.inl ⟨h, hl, h2, h3, h4⟩
    · have : h = 4 * n ∨ h = 4 * n + 1 ∨ h = 4 * n + 2 ∨ h = 4 * n + 3 := by omega
      rcases this with rfl | rfl | rfl | rfl
      · rw [o4.1, apE_2] at h4
        rw [apE_0] at h3
        exact Or.inr (Or.inl ⟨h3.symm, h4.symm⟩)
      · rw [cn.2.1] at h2
        rw [o4.2.1, apE_3] at h4
        rw [apE_1] at h3
        cases p with
        | true => cases h2
        | false => exact Or.inr (Or.inr ⟨h3.symm, h4.symm⟩)
      · rw [cn.2.2.1] at h2
        cases h2
      · rw [cn.2.2.2] at h2
        rw [o4.2.2.2, apE_1] at h4
        rw [apE_3] at h3
        cases p with
        | false => cases h2
        | true => exact Or.inr (Or.inr ⟨h3.symm, h4.symm⟩)
  · rintro (⟨h, h1, h2, h3, h4⟩ | ⟨rfl, rfl⟩ | ⟨rfl, rfl⟩)
    · exact ⟨h, by omega, by rw [cin_up p h1]; exact h2, by rw [apE_lt _ _ _ _ _ h1]; exact h3, by rw [apE_lt _ _ _ _ _ (opp_ltn h1)]; exact h4⟩
    · exact ⟨4 * n, by omega, cn.1, apE_0 .., by rw [o4.1, apE_2]⟩
    · cases p with
      | true => exact ⟨4 * n + 3, by omega, cn.2.2.2, apE_3 .., by rw [o4.2.2.2, apE_1]; rfl⟩
      | false => exact ⟨4 * n + 1, by omega, cn.2.1, apE_1 .., by rw [o4.2.1, apE_3]; rfl⟩
theorem inj2_ap {f g : Nat → Int32} {n : Nat} {a b c d : Int32} {p : Bool} (h : inj2 f g n) (h1 : ¬ ∃ y, pas f g n a y) (h2 : ¬ ∃ y, pas f g n (if p = true then d else b) y) (h3 : a ≠ if p = true then d else b) (k1 : ¬ ∃ x, pas f g n x c) (k2 : ¬ ∃ x, pas f g n x (if p = true then b else d)) (k3 : c ≠ if p = true then b else d) : inj2 (apE f n a b c d) (upd g n (sgn p)) (n + 1) := by
  have cn := cin_new g n p
  have hA : ∀ i, i < 4 * n → cin g i = true → f i ≠ a ∧ f i ≠ if p = true then d else b := fun i hi hc => ⟨fun q => h1 ⟨_, pas_in' q hi hc⟩, fun q => h2 ⟨_, pas_in' q hi hc⟩⟩
  have hB : ∀ i, i < 4 * n → cin g i = false → f i ≠ c ∧ f i ≠ if p = true then b else d := fun i hi hc => ⟨fun q => k1 ⟨_, pas_out' q hi hc⟩, fun q => k2 ⟨_, pas_out' q hi hc⟩⟩
  -- one of the old against one of the new
  have mix : ∀ i j, i < 4 * n → 4 * n ≤ j → j < 4 * (n + 1) → cin g i = cin (upd g n (sgn p)) j → f i ≠ apE f n a b c d j := by
    intro i j hi hj1 hj2 hc
    have : j = 4 * n ∨ j = 4 * n + 1 ∨ j = 4 * n + 2 ∨ j = 4 * n + 3 := by omega
    rcases this with rfl | rfl | rfl | rfl
    · rw [apE_0]; exact (hA i hi (by rw [hc, cn.1])).1
    · rw [apE_1]
      rw [cn.2.1] at hc
      cases p with
      | true => exact (hB i hi hc).2
      | false => exact (hA i hi hc).2
    · rw [apE_2]; exact (hB i hi (by rw [hc, cn.2.2.1])).1
    · rw [apE_3]
      rw [cn.2.2.2] at hc
      cases p with
      | true => exact (hA i hi hc).2
      | false => exact (hB i hi hc).2
  intro i j hi hj hc hf
  by_cases li : i < 4 * n <;> by_cases lj : j < 4 * n
  · rw [cin_up p li, cin_up p lj] at hc
    rw [apE_lt _ _ _ _ _ li, apE_lt _ _ _ _ _ lj] at hf
    exact h i j li lj hc hf
  · rw [cin_up p li] at hc
    rw [apE_lt _ _ _ _ _ li] at hf
    exact absurd hf (mix i j li (by omega) hj hc)
  · rw [cin_up p lj] at hc
    rw [apE_lt _ _ _ _ _ lj] at hf
    exact absurd hf.symm (mix j i lj (by omega) hi hc.symm)
  · have nI1 : ∀ i, 4 * n ≤ i → i < 4 * (n + 1) → cin (upd g n (sgn p)) i = true → (i = 4 * n ∧ apE f n a b c d i = a) ∨ (i = (if p = true then 4 * n + 3 else 4 * n + 1) ∧ apE f n a b c d i = if p = true then d else b) := by
      intro i h1 h2 h3
      have : i = 4 * n ∨ i = 4 * n + 1 ∨ i = 4 * n + 2 ∨ i = 4 * n + 3 := by omega
      rcases this with rfl | rfl | rfl | rfl
      · exact Or.inl ⟨rfl, apE_0 ..⟩
      · rw [cn.2.1] at h3
        cases p with
        | true => cases h3
        | false => exact Or.inr ⟨rfl, apE_1 ..⟩
      · rw [cn.2.2.1] at h3
        cases h3
      · rw [cn.2.2.2] at h3
        cases p with
        | true => exact Or.inr ⟨rfl, apE_3 ..⟩
        | false => cases h3
    have nO1 : ∀ i, 4 * n ≤ i → i < 4 * (n + 1) → cin (upd g n (sgn p)) i = false → (i = 4 * n + 2 ∧ apE f n a b c d i = c) ∨ (i = (if p = true then 4 * n + 1 else 4 * n + 3) ∧ apE f n a b c d i = if p = true then b else d) := by
      intro i h1 h2 h3
      have : i = 4 * n ∨ i = 4 * n + 1 ∨ i = 4 * n + 2 ∨ i = 4 * n + 3 := by omega
      rcases this with rfl | rfl | rfl | rfl
      · rw [cn.1] at h3
        cases h3
      · rw [cn.2.1] at h3
        cases p with
        | true => exact Or.inr ⟨rfl, apE_1 ..⟩
        | false => cases h3
      · exact Or.inl ⟨rfl, apE_2 ..⟩
      · rw [cn.2.2.2] at h3
        cases p with
        | true => cases h3
        | false => exact Or.inr ⟨rfl, apE_3 ..⟩
    cases hcj : cin (upd g n (sgn p)) j with
    | true =>
      rcases nI1 i (by omega) hi (hc.trans hcj) with ⟨a1, a2⟩ | ⟨a1, a2⟩ <;> rcases nI1 j (by omega) hj hcj with ⟨b1, b2⟩ | ⟨b1, b2⟩
      · rw [a1, b1]
      · exact absurd (a2.symm.trans (hf.trans b2)) h3
      · exact absurd (b2.symm.trans (hf.symm.trans a2)) h3
      · rw [a1, b1]
    | false =>
      rcases nO1 i (by omega) hi (hc.trans hcj) with ⟨a1, a2⟩ | ⟨a1, a2⟩ <;> rcases nO1 j (by omega) hj hcj with ⟨b1, b2⟩ | ⟨b1, b2⟩
      · rw [a1, b1]
      · exact absurd (a2.symm.trans (hf.trans b2)) k3
      · exact absurd (b2.symm.trans (hf.symm.trans a2)) k3
      · rw [a1, b1]
-- an edge brought in
theorem eOn_s {f g : Nat → Int32} {x : Int32} {b : Bool} : ∀ k i j, eOn f g x b i k = some j → (i ≤ j ∧ j < i + k) ∧ f j = x ∧ cin g j = b := by
  intro k
  induction k with
  | zero => intro i j h; cases h
  | succ k ih =>
    intro i j h
    rw [eOn] at h
    by_cases hc : f i = x ∧ cin g i = b
    · rw [if_pos hc] at h
      cases h
      exact ⟨by omega, hc⟩
    · rw [if_neg hc] at h
      have := ih (i + 1) j h
      exact ⟨by omega, this.2⟩
theorem eOn_n {f g : Nat → Int32} {x : Int32} {b : Bool} : ∀ k i, eOn f g x b i k = none → ∀ j, i ≤ j → j < i + k → ¬ (f j = x ∧ cin g j = b) := by
  intro k
  induction k with
  | zero => intro i h j h1 h2; omega
  | succ k ih =>
    intro i h j h1 h2
    rw [eOn] at h
    by_cases hc : f i = x ∧ cin g i = b
    · rw [if_pos hc] at h
      cases h
    · rw [if_neg hc] at h
      by_cases e : j = i
      · rw [e]; exact hc
      · exact ih (i + 1) h j (by omega) (by omega)
theorem brA_some {f g : Nat → Int32} {n : Nat} {q : Int32} (hq : ∃ c, pas f g n q c) : ∃ i, i < 4 * n ∧ f i = q ∧ cin g i = true ∧ ∀ p, brA f g n p q = upd f i p := by
  obtain ⟨c, h, h1, h2, h3, h4⟩ := hq
  cases he : eOn f g q true 0 (4 * n) with
  | none => exact absurd ⟨h3, h2⟩ (eOn_n (4 * n) 0 he h (by omega) (by omega))
  | some i =>
    have := eOn_s (4 * n) 0 i he
    refine ⟨i, by omega, this.2.1, this.2.2, fun p => ?_⟩
    unfold brA
    rw [he]
theorem brA_none {f g : Nat → Int32} {n : Nat} {q : Int32} (hq : ¬ ∃ c, pas f g n q c) (p : Int32) : brA f g n p q = f := by
  unfold brA
  cases he : eOn f g q true 0 (4 * n) with
  | none => rfl
  | some i =>
    have := eOn_s (4 * n) 0 i he
    exact absurd ⟨_, pas_in' this.2.1 (by omega) this.2.2⟩ hq
theorem pas_br {f g : Nat → Int32} {n : Nat} {q : Int32} (h : inj2 f g n) (hq : ∃ c, pas f g n q c) (p x y : Int32) : pas (brA f g n p q) g n x y ↔ (pas f g n x y ∧ x ≠ q) ∨ (x = p ∧ pas f g n q y) := by
  obtain ⟨i, i1, i2, i3, i4⟩ := brA_some hq
  rw [i4 p]
  have ho : ∀ t, cin g t = true → opp t ≠ i := fun t ht e => by
    rw [← e, cin_opp, ht] at i3
    cases i3
  constructor
  · rintro ⟨t, h1, h2, h3, h4⟩
    rw [upd_ne _ _ (ho t h2)] at h4
    by_cases e : t = i
    · rw [e, upd_self] at h3
      exact Or.inr ⟨h3.symm, t, h1, h2, by rw [e]; exact i2, h4⟩
    · rw [upd_ne _ _ e] at h3
      exact Or.inl ⟨⟨t, h1, h2, h3, h4⟩, fun z => e (h t i h1 i1 (by rw [h2, i3]) (by rw [h3, i2, z]))⟩
  · rintro (⟨⟨t, h1, h2, h3, h4⟩, hx⟩ | ⟨rfl, t, h1, h2, h3, h4⟩)
    · exact ⟨t, h1, h2, by rw [upd_ne _ _ (fun e => hx (by rw [← h3, e, i2]))]; exact h3, by rw [upd_ne _ _ (ho t h2)]; exact h4⟩
    · have e : t = i := h t i h1 i1 (by rw [h2, i3]) (by rw [h3, i2])
      exact ⟨t, h1, h2, by rw [e, upd_self], by rw [upd_ne _ _ (ho t h2)]; exact h4⟩
theorem inj2_br {f g : Nat → Int32} {n : Nat} {p q : Int32} (h : inj2 f g n) (hp : ¬ ∃ y, pas f g n p y) : inj2 (brA f g n p q) g n := by
  by_cases hq : ∃ c, pas f g n q c
  · obtain ⟨i, i1, i2, i3, i4⟩ := brA_some hq
    rw [i4 p]
    intro a b ha hb hc hf
    by_cases ea : a = i <;> by_cases eb : b = i
    · rw [ea, eb]
    · rw [ea, upd_self, upd_ne _ _ eb] at hf
      exact absurd ⟨_, pas_in' hf.symm hb (by rw [← hc, ea, i3])⟩ hp
    · rw [eb, upd_self, upd_ne _ _ ea] at hf
      exact absurd ⟨_, pas_in' hf ha (by rw [hc, eb, i3])⟩ hp
    · rw [upd_ne _ _ ea, upd_ne _ _ eb] at hf
      exact h a b ha hb hc hf
  · rw [brA_none hq]
    exact h
theorem edg_br {f g : Nat → Int32} {n : Nat} {p q : Int32} (h : edg (4 * n) f) (hp : ∃ x, 1 ≤ x ∧ x ≤ 32 ∧ p = nI x) : edg (4 * n) (brA f g n p q) := by
  by_cases hq : ∃ c, pas f g n q c
  · obtain ⟨i, i1, i2, i3, i4⟩ := brA_some hq
    rw [i4 p]
    intro e he
    by_cases z : e = i
    · rw [z, upd_self]; exact hp
    · rw [upd_ne _ _ z]; exact h e he
  · rw [brA_none hq]
    exact h
-- a crossing less
theorem rmE_at (f : Nat → Int32) {n x i : Nat} (hx : x < n) (hi : i < 4 * (n - 1)) : rmE f n x i = f (if i < 4 * x then i else i + 4) := by
  unfold rmE va_cpy
  by_cases h : i < 4 * x
  · rw [if_neg (by omega), if_pos h]
  · rw [if_pos (by omega), if_neg h]
    congr 1
    omega
theorem rmS_at (g : Nat → Int32) {n x y : Nat} (hx : x < n) (hy : y < n - 1) : rmS g n x y = g (if y < x then y else y + 1) := by
  unfold rmS va_cpy
  by_cases h : y < x
  · rw [if_neg (by omega), if_pos h]
  · rw [if_pos (by omega), if_neg h]
    congr 1
    omega
theorem cin_rm (g : Nat → Int32) {n x i : Nat} (hx : x < n) (hi : i < 4 * (n - 1)) : cin (rmS g n x) i = cin g (if i < 4 * x then i else i + 4) := by
  refine (cin_congr ?_ ?_).symm
  · split <;> omega
  · rw [rmS_at g hx (by omega)]
    congr 1
    by_cases h : i < 4 * x
    · rw [if_pos h, if_pos (by omega)]
    · rw [if_neg h, if_neg (by omega)]; omega
theorem pas_rm {f g : Nat → Int32} {n x : Nat} (hx : x < n) (a b : Int32) : pas (rmE f n x) (rmS g n x) (n - 1) a b ↔ ∃ h, h < 4 * n ∧ h / 4 ≠ x ∧ cin g h = true ∧ f h = a ∧ f (opp h) = b := by
  have ho : ∀ i, opp (if i < 4 * x then i else i + 4) = if opp i < 4 * x then opp i else opp i + 4 := fun i => by
    unfold opp
    by_cases h : i < 4 * x
    · rw [if_pos h, if_pos (by omega)]
    · rw [if_neg h, if_neg (by omega)]; omega
  constructor
  · rintro ⟨i, h1, h2, h3, h4⟩
    rw [cin_rm g hx h1] at h2
    rw [rmE_at f hx h1] at h3
    rw [rmE_at f hx (opp_ltn h1), ← ho i] at h4
    exact ⟨_, by split <;> omega, by split <;> omega, h2, h3, h4⟩
  · rintro ⟨h, h1, h2, h3, h4, h5⟩
    have e : (if (if h < 4 * x then h else h - 4) < 4 * x then (if h < 4 * x then h else h - 4) else (if h < 4 * x then h else h - 4) + 4) = h := by
      by_cases q : h < 4 * x
      · rw [if_pos q, if_pos q]
      · rw [if_neg q, if_neg (by omega)]; omega
    have hl : (if h < 4 * x then h else h - 4) < 4 * (n - 1) := by split <;> omega
    refine ⟨if h < 4 * x then h else h - 4, hl, ?_, ?_, ?_⟩
    · rw [cin_rm g hx hl, e]; exact h3
    · rw [rmE_at f hx hl, e]; exact h4
    · rw [rmE_at f hx (opp_ltn hl), ← ho, e]; exact h5
theorem inj2_rm {f g : Nat → Int32} {n x : Nat} (hx : x < n) (h : inj2 f g n) : inj2 (rmE f n x) (rmS g n x) (n - 1) := by
  intro i j hi hj hc hf
  rw [cin_rm g hx hi, cin_rm g hx hj] at hc
  rw [rmE_at f hx hi, rmE_at f hx hj] at hf
  have := h _ _ (by split <;> omega) (by split <;> omega) hc hf
  by_cases a : i < 4 * x <;> by_cases b : j < 4 * x
  · rw [if_pos a, if_pos b] at this; exact this
  · rw [if_pos a, if_neg b] at this; omega
  · rw [if_neg a, if_pos b] at this; omega
  · rw [if_neg a, if_neg b] at this; omega
theorem edg_rm {f : Nat → Int32} {n x : Nat} (hx : x < n) (h : edg (4 * n) f) : edg (4 * (n - 1)) (rmE f n x) := by
  intro i hi
  rw [rmE_at f hx hi]
  exact h _ (by split <;> omega)
theorem sgOK_rm {g : Nat → Int32} {n x : Nat} (hx : x < n) (h : sgOK n g) : sgOK (n - 1) (rmS g n x) := by
  intro y hy
  rw [rmS_at g hx hy]
  exact h _ (by split <;> omega)
