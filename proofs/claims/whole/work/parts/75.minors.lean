def sumN (φ : Nat → Int64) : Nat → Int64
  | 0 => 0
  | k + 1 => sumN φ k + φ k
theorem sumN_congr {φ ψ : Nat → Int64} : ∀ k, (∀ c, c < k → φ c = ψ c) → sumN φ k = sumN ψ k := by
  intro k
  induction k with
  | zero => intro _; rfl
  | succ k ih => intro h; rw [sumN, sumN, ih (fun c hc => h c (by omega)), h k (by omega)]
theorem sumN_one {φ ψ : Nat → Int64} {x : Int64} {c0 : Nat} : ∀ k, c0 < k → (∀ c, c < k → c ≠ c0 → ψ c = φ c) → ψ c0 = φ c0 + x → sumN ψ k = sumN φ k + x := by
  intro k
  induction k with
  | zero => intro h; omega
  | succ k ih =>
    intro h h1 h2
    rw [sumN, sumN]
    by_cases e : c0 = k
    · subst e
      rw [sumN_congr c0 (fun c hc => h1 c (by omega) (by omega)), h2, Int64.add_assoc]
    · rw [ih (by omega) (fun c hc hn => h1 c (by omega) hn) h2, h1 k (by omega) (by omega)]
      exact i64_b _ _ _
theorem bx1 : ∀ c, c < 8 → ∀ s, s < 256 → s / 2 ^ c % 2 = 1 → s ^^^ 2 ^ c = s - 2 ^ c ∧ 2 ^ c ≤ s ∧ pc8 (s - 2 ^ c) + 1 = pc8 s ∧ (s - 2 ^ c) / 2 ^ c % 2 = 0 := by decide +kernel
theorem bx2 : ∀ c, c < 8 → ∀ s, s < 256 → s / 2 ^ c % 2 = 0 → s ||| 2 ^ c = s + 2 ^ c ∧ (s + 2 ^ c) / 2 ^ c % 2 = 1 ∧ onN s 0 8 0 = pc8 s ∧ pc8 (s + 2 ^ c) = pc8 s + 1 ∧ bhN s (c + 1) (7 - c) 0 = pc8 ((s + 2 ^ c) / 2 ^ (c + 1)) := by decide +kernel
theorem bx3 : ∀ o, o < 9 → ∀ c, c < o → ∀ s, s < 2 ^ o → s / 2 ^ c % 2 = 0 → s + 2 ^ c < 2 ^ o := by decide +kernel
theorem pw_pos (c : Nat) : 1 ≤ 2 ^ c := Nat.one_le_two_pow
theorem apS_it {cst lin : Int64} {to fr : Nat} : ∀ k i (m : Nat → Int64) t, fr + i + k ≤ to → itN (apS cst lin to fr) i k m t = if to + i ≤ t ∧ t ≤ to + i + k then m t + (if t < to + i + k then cst * m (fr + (t - to)) else 0) + (if to + i < t then lin * m (fr + (t - to - 1)) else 0) else m t := by
  intro k
  induction k with
  | zero =>
    intro i m t h
    rw [itN_0]
    by_cases c : to + i ≤ t ∧ t ≤ to + i + 0
    · rw [if_pos c, if_neg (by omega), if_neg (by omega), Int64.add_zero, Int64.add_zero]
    · rw [if_neg c]
  | succ k ih =>
    intro i m t h
    rw [itN_s, ih (i + 1) _ t (by omega)]
    have a0 : ∀ x, x < to → apS cst lin to fr i m x = m x := fun x hx => by
      unfold apS
      rw [vp_updL, if_neg (by omega), vp_updL, if_neg (by omega)]
    have a1 : apS cst lin to fr i m (to + i) = m (to + i) + cst * m (fr + i) := by
      unfold apS
      rw [vp_updL, if_neg (by omega), vp_updL, if_pos rfl]
    have a2 : apS cst lin to fr i m (to + i + 1) = m (to + i + 1) + lin * m (fr + i) := by
      unfold apS
      rw [vp_updL, if_pos rfl, vp_updL, if_neg (by omega), vp_updL, if_neg (by omega)]
    have a3 : ∀ x, x ≠ to + i → x ≠ to + i + 1 → apS cst lin to fr i m x = m x := fun x h1 h2 => by
      unfold apS
      rw [vp_updL, if_neg h2, vp_updL, if_neg h1]
    generalize apS cst lin to fr i m = m1 at a0 a1 a2 a3
    by_cases c1 : t = to + i
    · subst c1
      rw [if_neg (by omega), if_pos (by omega), a1, if_pos (by omega), if_neg (by omega), Int64.add_zero, show to + i - to = i by omega]
    · by_cases c2 : to + i + 1 ≤ t ∧ t ≤ to + i + 1 + k
      · rw [if_pos (show to + (i + 1) ≤ t ∧ t ≤ to + (i + 1) + k by omega), if_pos (show to + i ≤ t ∧ t ≤ to + i + (k + 1) by omega), if_pos (show to + i < t by omega)]
        have e1 : (if t < to + (i + 1) + k then cst * m1 (fr + (t - to)) else 0) = if t < to + i + (k + 1) then cst * m (fr + (t - to)) else 0 := by
          by_cases q : t < to + i + (k + 1)
          · rw [if_pos q, if_pos (by omega), a0 _ (by omega)]
          · rw [if_neg q, if_neg (by omega)]
        rw [e1]
        by_cases c3 : t = to + i + 1
        · rw [if_neg (show ¬ to + (i + 1) < t by omega), Int64.add_zero, c3, a2, show to + i + 1 - to - 1 = i by omega]
          exact i64_b _ _ _
        · rw [if_pos (show to + (i + 1) < t by omega), a3 t c1 c3, a0 _ (by omega)]
      · rw [if_neg (by omega), if_neg (by omega), a3 t c1 (by omega)]
theorem i64_sg (a b c : Int64) : a * b * c = a * c * b := by grind
theorem xpS_it {sg c l : Int64} {s to : Nat} : ∀ k i (m : Nat → Int64), 10 * s + i + k ≤ to → itN (xpS sg c l s to) i k m = itN (apS (sg * c) (sg * l) to (10 * s)) i k m := by
  intro k
  induction k with
  | zero => intro i m _; rw [itN_0, itN_0]
  | succ k ih =>
    intro i m h
    rw [itN_s, itN_s]
    have e : xpS sg c l s to i m = apS (sg * c) (sg * l) to (10 * s) i m := by
      unfold xpS apS
      rw [i64_sg sg (m (10 * s + i)) c, i64_sg sg (m (10 * s + i)) l]
      congr 2
      rw [vp_updL, if_neg (by omega)]
    rw [e]
    exact ih (i + 1) _ (by omega)
/-- what one column adds to the minor of T -/
def tmC (P : Nat → Nat → Int64) (cs ls : Nat → Nat → Int64) (T col i : Nat) : Int64 := cs T col * P (T - 2 ^ col) i + ls T col * (if i = 0 then 0 else P (T - 2 ^ col) (i - 1))
def csC (c : Nat → Int32) (T col : Nat) : Int64 := (sgI T col * c ((pc8 T - 1) * 8 + col)).toInt64
/-- the class's minors: those below s are done -/
def Ex (c ln : Nat → Int32) (order s : Nat) (m : Nat → Int64) : Prop :=
  (∀ i, i ≤ 8 → m (0 * 9 + i) = if i = 0 then 1 else 0) ∧
  (∀ T, 1 ≤ T → T < s → ∀ i, i ≤ 8 → m (T * 9 + i) = sumN (fun col => if T / 2 ^ col % 2 = 1 then tmC (fun T i => m (T * 9 + i)) (csC c) (csC ln) T col i else 0) order) ∧
  (∀ T, T < s → ∀ i, i ≤ 8 → pc8 T < i → m (T * 9 + i) = 0) ∧
  ∀ T, s ≤ T → T < 256 → ∀ i, i ≤ 8 → m (T * 9 + i) = 0
theorem i64_z (a : Int64) : a * 0 = 0 := by grind
theorem exI_it {c ln : Nat → Int32} {order s : Nat} {m : Nat → Int64} (ho : order ≤ 8) (h1 : 1 ≤ s) (hs : s < 256) (hz : ∀ T, T < s → ∀ i, i ≤ 8 → pc8 T < i → m (T * 9 + i) = 0) : ∀ k j (m' : Nat → Int64), j + k = order → (∀ x, (x < s * 9 ∨ s * 9 + 9 ≤ x) → m' x = m x) → (∀ i, i ≤ 8 → m' (s * 9 + i) = sumN (fun col => if s / 2 ^ col % 2 = 1 then tmC (fun T i => m (T * 9 + i)) (csC c) (csC ln) s col i else 0) j) → (∀ x, (x < s * 9 ∨ s * 9 + 9 ≤ x) → itN (exI c ln s) j k m' x = m x) ∧ ∀ i, i ≤ 8 → itN (exI c ln s) j k m' (s * 9 + i) = sumN (fun col => if s / 2 ^ col % 2 = 1 then tmC (fun T i => m (T * 9 + i)) (csC c) (csC ln) s col i else 0) order := by
  intro k
  induction k with
  | zero =>
    intro j m' hj a1 a2
    rw [itN_0]
    rw [show j = order by omega] at a2
    exact ⟨a1, a2⟩
  | succ k ih =>
    intro j m' hj a1 a2
    rw [itN_s]
    by_cases hb : s / 2 ^ j % 2 = 1
    · obtain ⟨b1, b2, b3, b4⟩ := bx1 j (by omega) s hs hb
      have hpw := pw_pos j
      have hp8 := pc8_le s
      have hE : ∀ t, exI c ln s j m' t = if s * 9 + 0 ≤ t ∧ t ≤ s * 9 + 0 + (pc8 s - 1 + 1) then m' t + (if t < s * 9 + 0 + (pc8 s - 1 + 1) then csC c s j * m' ((s - 2 ^ j) * 9 + (t - s * 9)) else 0) + (if s * 9 + 0 < t then csC ln s j * m' ((s - 2 ^ j) * 9 + (t - s * 9 - 1)) else 0) else m' t := fun t => by
        unfold exI apM
        rw [if_pos hb, b1]
        exact apS_it _ 0 m' t (by omega)
      refine ih (j + 1) _ (by omega) (fun x hx => ?_) (fun i hi => ?_)
      · rw [hE, if_neg (by omega)]
        exact a1 x hx
      · rw [hE, sumN, if_pos hb, a2 i hi]
        generalize sumN (fun col => if s / 2 ^ col % 2 = 1 then tmC (fun T i => m (T * 9 + i)) (csC c) (csC ln) s col i else 0) j = A
        unfold tmC
        simp only []
        have r1 : ∀ y, y ≤ 8 → m' ((s - 2 ^ j) * 9 + y) = m ((s - 2 ^ j) * 9 + y) := fun y hy => a1 _ (Or.inl (by omega))
        have r2 : ∀ y, y ≤ 8 → pc8 s - 1 < y → m ((s - 2 ^ j) * 9 + y) = 0 := fun y hy hy2 => hz _ (by omega) y hy (by omega)
        rw [show s * 9 + i - s * 9 = i by omega]
        by_cases q1 : s * 9 + 0 ≤ s * 9 + i ∧ s * 9 + i ≤ s * 9 + 0 + (pc8 s - 1 + 1)
        · rw [if_pos q1]
          have e1 : (if s * 9 + i < s * 9 + 0 + (pc8 s - 1 + 1) then csC c s j * m' ((s - 2 ^ j) * 9 + i) else 0) = csC c s j * m ((s - 2 ^ j) * 9 + i) := by
            by_cases q2 : s * 9 + i < s * 9 + 0 + (pc8 s - 1 + 1)
            · rw [if_pos q2, r1 i hi]
            · rw [if_neg q2, r2 i hi (by omega), i64_z]
          have e2 : (if s * 9 + 0 < s * 9 + i then csC ln s j * m' ((s - 2 ^ j) * 9 + (i - 1)) else 0) = csC ln s j * (if i = 0 then 0 else m ((s - 2 ^ j) * 9 + (i - 1))) := by
            by_cases q2 : i = 0
            · rw [if_pos q2, if_neg (by omega), i64_z]
            · rw [if_neg q2, if_pos (by omega), r1 _ (by omega)]
          rw [e1, e2, Int64.add_assoc]
        · rw [if_neg q1, r2 i hi (by omega), if_neg (by omega), r2 (i - 1) (by omega) (by omega), i64_z, i64_z, Int64.add_zero, Int64.add_zero]
    · have hE : exI c ln s j m' = m' := by unfold exI; rw [if_neg hb]
      rw [hE]
      refine ih (j + 1) m' (by omega) a1 (fun i hi => ?_)
      rw [sumN, if_neg hb, Int64.add_zero]
      exact a2 i hi
theorem Ex.step {c ln : Nat → Int32} {order s : Nat} {m : Nat → Int64} (ho : order ≤ 8) (h1 : 1 ≤ s) (hs : s < 2 ^ order) (h : Ex c ln order s m) : Ex c ln order (s + 1) (exS c ln order s m) := by
  obtain ⟨x1, x2, x3, x4⟩ := h
  have h256 := pow_256 ho
  obtain ⟨y1, y2⟩ := exI_it (c := c) (ln := ln) ho h1 (by omega) x3 order 0 m (by omega) (fun _ _ => rfl) (fun i hi => by rw [x4 s (Nat.le_refl _) (by omega) i hi]; rfl)
  have e : itN (exI c ln s) 0 order m = exS c ln order s m := rfl
  rw [e] at y1 y2
  have low : ∀ T, T < s → ∀ i, i ≤ 8 → exS c ln order s m (T * 9 + i) = m (T * 9 + i) := fun T hT i hi => y1 _ (Or.inl (by omega))
  have tm : ∀ T, 1 ≤ T → T ≤ s → ∀ i col, i ≤ 8 → tmC (fun T i => exS c ln order s m (T * 9 + i)) (csC c) (csC ln) T col i = tmC (fun T i => m (T * 9 + i)) (csC c) (csC ln) T col i := fun T hT0 hT i col hi => by
    have := pw_pos col
    unfold tmC
    simp only []
    rw [low (T - 2 ^ col) (by omega) i hi]
    by_cases q : i = 0
    · rw [if_pos q, if_pos q]
    · rw [if_neg q, if_neg q, low (T - 2 ^ col) (by omega) (i - 1) (by omega)]
  refine ⟨fun i hi => ?_, fun T t1 t2 i hi => ?_, fun T t2 i hi hp => ?_, fun T t1 t2 i hi => ?_⟩
  · rw [low 0 (by omega) i hi]; exact x1 i hi
  · by_cases q : T = s
    · subst q
      rw [y2 i hi]
      refine sumN_congr order (fun col hc => ?_)
      by_cases b : T / 2 ^ col % 2 = 1
      · rw [if_pos b, if_pos b, tm T t1 (by omega) i col hi]
      · rw [if_neg b, if_neg b]
    · rw [low T (by omega) i hi, x2 T t1 (by omega) i hi]
      refine sumN_congr order (fun col hc => ?_)
      by_cases b : T / 2 ^ col % 2 = 1
      · rw [if_pos b, if_pos b, tm T t1 (by omega) i col hi]
      · rw [if_neg b, if_neg b]
  · by_cases q : T = s
    · subst q
      rw [y2 i hi]
      have z : ∀ k, k ≤ order → sumN (fun col => if T / 2 ^ col % 2 = 1 then tmC (fun T i => m (T * 9 + i)) (csC c) (csC ln) T col i else 0) k = 0 := by
        intro k
        induction k with
        | zero => intro _; rfl
        | succ k ih =>
          intro hk
          rw [sumN, ih (by omega)]
          by_cases b : T / 2 ^ k % 2 = 1
          · obtain ⟨b1, b2, b3, b4⟩ := bx1 k (by omega) T (by omega) b
            have := pw_pos k
            rw [if_pos b]
            unfold tmC
            simp only []
            rw [x3 (T - 2 ^ k) (by omega) i hi (by omega), if_neg (by omega), x3 (T - 2 ^ k) (by omega) (i - 1) (by omega) (by omega), i64_z, i64_z]
            decide
          · rw [if_neg b]
            decide
      exact z order (Nat.le_refl _)
    · rw [low T (by omega) i hi]
      exact x3 T (by omega) i hi hp
  · rw [y1 _ (Or.inr (by omega))]
    exact x4 T (by omega) t2 i hi
theorem Ex.all {c ln : Nat → Int32} {order : Nat} (ho : order ≤ 8) : ∀ k s (m : Nat → Int64), 1 ≤ s → s + k = 2 ^ order → Ex c ln order s m → Ex c ln order (2 ^ order) (itN (exS c ln order) s k m) := by
  intro k
  induction k with
  | zero =>
    intro s m _ hs h
    rw [itN_0, ← show s = 2 ^ order by omega]
    exact h
  | succ k ih =>
    intro s m h1 hs h
    rw [itN_s]
    exact ih (s + 1) _ (by omega) (by omega) (h.step ho h1 (by omega))
theorem exM_spec {c ln : Nat → Int32} {order : Nat} (ho : order ≤ 8) (mi : Nat → Int64) : Ex c ln order (2 ^ order) (exM c ln order mi) := by
  have hp := pw_pos order
  refine Ex.all ho (2 ^ order - 1) 1 _ (Nat.le_refl _) (by omega) ⟨fun i hi => ?_, fun T t1 t2 => by omega, fun T t1 i hi hp => ?_, fun T t1 t2 i hi => ?_⟩
  · rw [vp_updL, fl0L]
    by_cases q : i = 0
    · rw [if_pos q, if_pos (by omega)]
    · rw [if_neg q, if_neg (by omega), if_pos (by omega)]
  · rw [vp_updL, fl0L, if_neg (by omega), if_pos (by omega)]
  · rw [vp_updL, fl0L, if_neg (by omega), if_pos (by omega)]
