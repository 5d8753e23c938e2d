/-- a table of minors that keeps the rule -/
def Pfx (P : Nat → Nat → Int64) (cs ls : Nat → Nat → Int64) (order : Nat) : Prop := (∀ i, i ≤ 9 → P 0 i = if i = 0 then 1 else 0) ∧ (∀ T, 1 ≤ T → T < 2 ^ order → ∀ i, i ≤ 9 → P T i = sumN (fun col => if T / 2 ^ col % 2 = 1 then tmC P cs ls T col i else 0) order) ∧ ∀ T, T < 2 ^ order → P T 9 = 0
def pEx (m : Nat → Int64) (T i : Nat) : Int64 := if i ≤ 8 then m (T * 9 + i) else 0
theorem Ex.pfx {c ln : Nat → Int32} {order : Nat} {m : Nat → Int64} (ho : order ≤ 8) (h : Ex c ln order (2 ^ order) m) : Pfx (pEx m) (csC c) (csC ln) order := by
  obtain ⟨x1, x2, x3, x4⟩ := h
  have h256 := pow_256 ho
  refine ⟨fun i hi => ?_, fun T t1 t2 i hi => ?_, fun T _ => rfl⟩
  · unfold pEx
    by_cases q : i ≤ 8
    · rw [if_pos q]; exact x1 i q
    · rw [if_neg q, if_neg (by omega)]
  · by_cases q : i ≤ 8
    · have : pEx m T i = m (T * 9 + i) := by unfold pEx; rw [if_pos q]
      rw [this, x2 T t1 t2 i q]
      refine sumN_congr order (fun col hc => ?_)
      by_cases b : T / 2 ^ col % 2 = 1
      · rw [if_pos b, if_pos b]
        unfold tmC pEx
        simp only []
        rw [if_pos q]
        by_cases z : i = 0
        · rw [if_pos z, if_pos z]
        · rw [if_neg z, if_neg z, if_pos (by omega)]
      · rw [if_neg b, if_neg b]
    · have i9 : i = 9 := by omega
      subst i9
      have z : ∀ k, k ≤ order → sumN (fun col => if T / 2 ^ col % 2 = 1 then tmC (pEx m) (csC c) (csC ln) T col 9 else 0) k = 0 := by
        intro k
        induction k with
        | zero => intro _; rfl
        | succ k ih =>
          intro hk
          rw [sumN, ih (by omega)]
          by_cases b : T / 2 ^ k % 2 = 1
          · obtain ⟨b1, b2, b3, b4⟩ := bx1 k (by omega) T (by omega) b
            have := pw_pos k
            have := pc8_le T
            rw [if_pos b]
            unfold tmC pEx
            rw [if_neg (by omega), if_neg (by omega), if_pos (by omega), x3 (T - 2 ^ k) (by omega) (9 - 1) (by omega) (by omega), i64_z, i64_z]
            decide
          · rw [if_neg b]
            decide
      rw [z order (Nat.le_refl _)]
      rfl
/-- the reference's minors: what comes from below s is added, and from s by the columns below j -/
def Mx (P : Nat → Nat → Int64) (cs ls : Nat → Nat → Int64) (order s j : Nat) (m : Nat → Int64) : Prop :=
  ∀ T, T < 2 ^ order → ∀ i, i ≤ 9 → m (10 * T + i) = if T = 0 then (if i = 0 then 1 else 0) else sumN (fun col => if T / 2 ^ col % 2 = 1 ∧ (T - 2 ^ col < s ∨ (T - 2 ^ col = s ∧ col < j)) then tmC P cs ls T col i else 0) order
theorem Mx.src {P : Nat → Nat → Int64} {cs ls : Nat → Nat → Int64} {order s j : Nat} {m : Nat → Int64} (hP : Pfx P cs ls order) (ho : order ≤ 8) (hs : s < 2 ^ order) (h : Mx P cs ls order s j m) : ∀ i, i ≤ 9 → m (10 * s + i) = P s i := fun i hi => by
  have h256 := pow_256 ho
  rw [h s hs i hi]
  by_cases z : s = 0
  · subst z
    rw [if_pos rfl, hP.1 i hi]
  · rw [if_neg z, hP.2.1 s (by omega) hs i hi]
    refine sumN_congr order (fun col hc => ?_)
    by_cases b : s / 2 ^ col % 2 = 1
    · have := bx1 col (by omega) s (by omega) b
      have := pw_pos col
      rw [if_pos b, if_pos ⟨b, Or.inl (by omega)⟩]
    · rw [if_neg b, if_neg (fun y => b y.1)]
theorem Mx.col {P : Nat → Nat → Int64} {cs ls : Nat → Nat → Int64} {order s j : Nat} {m : Nat → Int64} {mk mn : Nat → Int32} (hP : Pfx P cs ls order) (ho : order ≤ 8) (hs : s < 2 ^ order) (hj : j < order) (hc : s / 2 ^ j % 2 = 0 → sgM s j * (mk (8 * (pc8 s) + j)).toInt64 = cs (s + 2 ^ j) j ∧ sgM s j * (mn (8 * (pc8 s) + j)).toInt64 = ls (s + 2 ^ j) j) (h : Mx P cs ls order s j m) : Mx P cs ls order s (j + 1) (sxI mk mn s j m) := by
  have h256 := pow_256 ho
  have hpw := pw_pos j
  have hsrc := h.src hP ho hs
  by_cases hb : s / 2 ^ j % 2 = 0
  · obtain ⟨b1, b2, b3, b4, b5⟩ := bx2 j (by omega) s (by omega) hb
    have hT0 := bx3 order (by omega) j hj s hs hb
    have hE : ∀ t, sxI mk mn s j m t = if 10 * (s + 2 ^ j) + 0 ≤ t ∧ t ≤ 10 * (s + 2 ^ j) + 0 + 9 then m t + (if t < 10 * (s + 2 ^ j) + 0 + 9 then cs (s + 2 ^ j) j * m (10 * s + (t - 10 * (s + 2 ^ j))) else 0) + (if 10 * (s + 2 ^ j) + 0 < t then ls (s + 2 ^ j) j * m (10 * s + (t - 10 * (s + 2 ^ j) - 1)) else 0) else m t := fun t => by
      unfold sxI xpM
      rw [if_pos hb, b1, b3, xpS_it 9 0 m (by omega), (hc hb).1, (hc hb).2]
      exact apS_it 9 0 m t (by omega)
    intro T hT i hi
    rw [hE]
    by_cases e : T = s + 2 ^ j
    · subst e
      have hh := h _ hT i hi
      rw [if_neg (show ¬ s + 2 ^ j = 0 by omega)] at hh
      rw [if_pos (show 10 * (s + 2 ^ j) + 0 ≤ 10 * (s + 2 ^ j) + i ∧ 10 * (s + 2 ^ j) + i ≤ 10 * (s + 2 ^ j) + 0 + 9 by omega), if_neg (show ¬ s + 2 ^ j = 0 by omega), show 10 * (s + 2 ^ j) + i - 10 * (s + 2 ^ j) = i by omega, hh]
      have e1 : (if 10 * (s + 2 ^ j) + i < 10 * (s + 2 ^ j) + 0 + 9 then cs (s + 2 ^ j) j * m (10 * s + i) else 0) = cs (s + 2 ^ j) j * P s i := by
        by_cases q : i < 9
        · rw [if_pos (by omega), hsrc i hi]
        · rw [if_neg (by omega), show i = 9 by omega, hP.2.2 s hs, i64_z]
      have e2 : (if 10 * (s + 2 ^ j) + 0 < 10 * (s + 2 ^ j) + i then ls (s + 2 ^ j) j * m (10 * s + (i - 1)) else 0) = ls (s + 2 ^ j) j * (if i = 0 then 0 else P s (i - 1)) := by
        by_cases q : i = 0
        · rw [if_pos q, if_neg (by omega), i64_z]
        · rw [if_neg q, if_pos (by omega), hsrc _ (by omega)]
      rw [e1, e2, Int64.add_assoc]
      refine (sumN_one (c0 := j) order hj (fun col hcol hne => ?_) ?_).symm
      · by_cases q : (s + 2 ^ j) / 2 ^ col % 2 = 1 ∧ (s + 2 ^ j - 2 ^ col < s ∨ (s + 2 ^ j - 2 ^ col = s ∧ col < j))
        · rw [if_pos q, if_pos ⟨q.1, by omega⟩]
        · rw [if_neg q, if_neg (fun z => q ⟨z.1, by omega⟩)]
      · rw [if_pos ⟨b2, by omega⟩, if_neg (by omega)]
        unfold tmC
        rw [show s + 2 ^ j - 2 ^ j = s by omega, Int64.zero_add]
    · rw [if_neg (by omega), h T hT i hi]
      by_cases z : T = 0
      · rw [if_pos z, if_pos z]
      · rw [if_neg z, if_neg z]
        refine sumN_congr order (fun col hcol => ?_)
        by_cases q : T / 2 ^ col % 2 = 1 ∧ (T - 2 ^ col < s ∨ (T - 2 ^ col = s ∧ col < j))
        · rw [if_pos q, if_pos ⟨q.1, by omega⟩]
        · rw [if_neg q, if_neg (fun y => q ⟨y.1, by
            rcases y.2 with w | w
            · exact Or.inl w
            · by_cases x : col = j
              · subst x
                have := (bx1 col (by omega) T (by omega) y.1).2.1
                omega
              · exact Or.inr ⟨w.1, by omega⟩⟩)]
  · have hE : sxI mk mn s j m = m := by unfold sxI; rw [if_neg hb]
    rw [hE]
    intro T hT i hi
    rw [h T hT i hi]
    by_cases z : T = 0
    · rw [if_pos z, if_pos z]
    · rw [if_neg z, if_neg z]
      refine sumN_congr order (fun col hcol => ?_)
      by_cases q : T / 2 ^ col % 2 = 1 ∧ (T - 2 ^ col < s ∨ (T - 2 ^ col = s ∧ col < j))
      · rw [if_pos q, if_pos ⟨q.1, by omega⟩]
      · rw [if_neg q, if_neg (fun y => q ⟨y.1, by
          rcases y.2 with w | w
          · exact Or.inl w
          · by_cases x : col = j
            · subst x
              have := (bx1 col (by omega) T (by omega) y.1).2.2.2
              rw [w.1] at this
              exact absurd this hb
            · exact Or.inr ⟨w.1, by omega⟩⟩)]
theorem Mx.cols {P : Nat → Nat → Int64} {cs ls : Nat → Nat → Int64} {order s : Nat} {mk mn : Nat → Int32} (hP : Pfx P cs ls order) (ho : order ≤ 8) (hs : s < 2 ^ order) (hc : ∀ j, j < order → s / 2 ^ j % 2 = 0 → sgM s j * (mk (8 * (pc8 s) + j)).toInt64 = cs (s + 2 ^ j) j ∧ sgM s j * (mn (8 * (pc8 s) + j)).toInt64 = ls (s + 2 ^ j) j) : ∀ k j m, j + k = order → Mx P cs ls order s j m → Mx P cs ls order s order (itN (sxI mk mn s) j k m) := by
  intro k
  induction k with
  | zero =>
    intro j m hj h
    rw [itN_0]
    rw [show j = order by omega] at h
    exact h
  | succ k ih =>
    intro j m hj h
    rw [itN_s]
    exact ih (j + 1) _ (by omega) (h.col hP ho hs (by omega) (hc j (by omega)))
theorem Mx.all {P : Nat → Nat → Int64} {cs ls : Nat → Nat → Int64} {order : Nat} {mk mn : Nat → Int32} (hP : Pfx P cs ls order) (ho : order ≤ 8) (hc : ∀ s, s < 2 ^ order → ∀ j, j < order → s / 2 ^ j % 2 = 0 → sgM s j * (mk (8 * (pc8 s) + j)).toInt64 = cs (s + 2 ^ j) j ∧ sgM s j * (mn (8 * (pc8 s) + j)).toInt64 = ls (s + 2 ^ j) j) : ∀ k s m, s + k = 2 ^ order - 1 → Mx P cs ls order s 0 m → Mx P cs ls order (2 ^ order - 1) 0 (itN (sxS mk mn order) s k m) := by
  intro k
  induction k with
  | zero =>
    intro s m hs h
    rw [itN_0]
    rw [show s = 2 ^ order - 1 by omega] at h
    exact h
  | succ k ih =>
    intro s m hs h
    rw [itN_s]
    refine ih (s + 1) _ (by omega) ?_
    have h2 : Mx P cs ls order s order (sxS mk mn order s m) := Mx.cols hP ho (by omega) (hc s (by omega)) order 0 m (by omega) h
    intro T hT i hi
    rw [h2 T hT i hi]
    by_cases z : T = 0
    · rw [if_pos z, if_pos z]
    · rw [if_neg z, if_neg z]
      refine sumN_congr order (fun col hcol => ?_)
      by_cases q : T / 2 ^ col % 2 = 1 ∧ (T - 2 ^ col < s ∨ (T - 2 ^ col = s ∧ col < order))
      · rw [if_pos q, if_pos ⟨q.1, by omega⟩]
      · rw [if_neg q, if_neg (fun y => q ⟨y.1, by omega⟩)]
theorem sxM_spec {P : Nat → Nat → Int64} {cs ls : Nat → Nat → Int64} {order : Nat} {mk mn : Nat → Int32} (hP : Pfx P cs ls order) (ho : order ≤ 8) (hc : ∀ s, s < 2 ^ order → ∀ j, j < order → s / 2 ^ j % 2 = 0 → sgM s j * (mk (8 * (pc8 s) + j)).toInt64 = cs (s + 2 ^ j) j ∧ sgM s j * (mn (8 * (pc8 s) + j)).toInt64 = ls (s + 2 ^ j) j) (mr : Nat → Int64) : ∀ i, i ≤ 9 → sxM mk mn order mr (10 * (2 ^ order - 1) + i) = P (2 ^ order - 1) i := by
  have h256 := pow_256 ho
  have hp := pw_pos order
  have h := Mx.all (mk := mk) (mn := mn) hP ho hc (2 ^ order - 1) 0 (vp_updL (fun t => if t < 2560 then 0 else mr t) 0 1) (by omega) (fun T hT i hi => by
    rw [vp_updL]
    by_cases z : T = 0
    · subst z
      rw [if_pos rfl]
      by_cases y : i = 0
      · rw [if_pos y, if_pos (by omega)]
      · rw [if_neg y, if_neg (by omega)]
        show (if 10 * 0 + i < 2560 then 0 else mr (10 * 0 + i)) = 0
        rw [if_pos (by omega)]
    · rw [if_neg z, if_neg (by omega)]
      show (if 10 * T + i < 2560 then 0 else mr (10 * T + i)) = _
      rw [if_pos (by omega)]
      have zz : ∀ k, k ≤ order → sumN (fun col => if T / 2 ^ col % 2 = 1 ∧ (T - 2 ^ col < 0 ∨ (T - 2 ^ col = 0 ∧ col < 0)) then tmC P cs ls T col i else 0) k = 0 := by
        intro k
        induction k with
        | zero => intro _; rfl
        | succ k ih =>
          intro hk
          rw [sumN, ih (by omega), if_neg (by omega)]
          decide
      exact (zz order (Nat.le_refl _)).symm)
  exact h.src hP ho (by omega)
-- reading a coefficient
theorem lwF_spec {m : Nat → Int64} {at_ : Nat} : ∀ k i, i ≤ lwF m at_ i k ∧ lwF m at_ i k ≤ i + k ∧ (∀ j, i ≤ j → j < lwF m at_ i k → m (at_ + j) = 0) ∧ (lwF m at_ i k < i + k → m (at_ + lwF m at_ i k) ≠ 0) := by
  intro k
  induction k with
  | zero => intro i; rw [lwF]; exact ⟨by omega, by omega, fun j a b => by omega, fun h => by omega⟩
  | succ k ih =>
    intro i
    rw [lwF]
    by_cases c : m (at_ + i) = 0
    · rw [if_pos c]
      obtain ⟨a1, a2, a3, a4⟩ := ih (i + 1)
      refine ⟨by omega, by omega, fun j b1 b2 => ?_, fun h => a4 (by omega)⟩
      by_cases e : j = i
      · rw [e]; exact c
      · exact a3 j (by omega) b2
    · rw [if_neg c]
      exact ⟨by omega, by omega, fun j a b => by omega, fun _ => c⟩
theorem hgF_spec {m : Nat → Int64} {at_ : Nat} : ∀ h, hgF m at_ h ≤ h ∧ (∀ j, hgF m at_ h < j → j ≤ h → m (at_ + j) = 0) ∧ (1 ≤ hgF m at_ h → m (at_ + hgF m at_ h) ≠ 0) := by
  intro h
  induction h with
  | zero => rw [hgF]; exact ⟨by omega, fun j a b => by omega, fun h => by omega⟩
  | succ h ih =>
    rw [hgF]
    by_cases c : m (at_ + (h + 1)) = 0
    · rw [if_pos c]
      obtain ⟨a1, a2, a3⟩ := ih
      refine ⟨by omega, fun j b1 b2 => ?_, a3⟩
      by_cases e : j = h + 1
      · rw [e]; exact c
      · exact a2 j b1 (by omega)
    · rw [if_neg c]
      exact ⟨by omega, fun j a b => by omega, fun _ => c⟩
theorem lmM_spec {m : Nat → Int64} {base : Nat} : ∀ i le mo, (∀ x, mo = some x → (lmM m base i le mo).2 = some x) ∧ (mo = none → ((lmM m base i le mo).2 = none ∧ ∀ j, j < i → m (base + j) = 0) ∨ ∃ h, h < i ∧ (lmM m base i le mo).2 = some h ∧ m (base + h) ≠ 0 ∧ ∀ j, h < j → j < i → m (base + j) = 0) ∧ (((lmM m base i le mo).1 = le ∧ ∀ j, j < i → m (base + j) = 0) ∨ ((lmM m base i le mo).1 < i ∧ m (base + (lmM m base i le mo).1) ≠ 0 ∧ ∀ j, j < (lmM m base i le mo).1 → m (base + j) = 0)) := by
  intro i
  induction i with
  | zero => intro le mo; rw [lmM]; exact ⟨fun x h => h, fun h => Or.inl ⟨h, fun j a => by omega⟩, Or.inl ⟨rfl, fun j a => by omega⟩⟩
  | succ i ih =>
    intro le mo
    rw [lmM]
    by_cases c : m (base + i) = 0
    · rw [if_pos c, if_neg (fun z => z.2 c)]
      obtain ⟨a1, a2, a3⟩ := ih le mo
      have st : ∀ k, (∀ j, k < j → j < i → m (base + j) = 0) → ∀ j, k < j → j < i + 1 → m (base + j) = 0 := fun k h j b1 b2 => by
        by_cases e : j = i
        · rw [e]; exact c
        · exact h j b1 (by omega)
      have st0 : (∀ j, j < i → m (base + j) = 0) → ∀ j, j < i + 1 → m (base + j) = 0 := fun h j b2 => by
        by_cases e : j = i
        · rw [e]; exact c
        · exact h j (by omega)
      refine ⟨a1, fun h => ?_, ?_⟩
      · rcases a2 h with b | ⟨k, b1, b2, b3, b4⟩
        · exact Or.inl ⟨b.1, st0 b.2⟩
        · exact Or.inr ⟨k, by omega, b2, b3, st k b4⟩
      · rcases a3 with b | b
        · exact Or.inl ⟨b.1, st0 b.2⟩
        · exact Or.inr ⟨by omega, b.2⟩
    · rw [if_neg c]
      refine ⟨fun x h => ?_, fun h => ?_, ?_⟩
      · rw [if_neg (fun z => by rw [h] at z; cases z.1)]
        exact (ih i mo).1 x h
      · rw [if_pos ⟨h, c⟩]
        exact Or.inr ⟨i, by omega, (ih i (some i)).1 i rfl, c, fun j a b => by omega⟩
      · generalize (if mo = none ∧ ¬ m (base + i) = 0 then some i else mo) = mo'
        rcases (ih i mo').2.2 with b | b
        · rw [b.1]
          exact Or.inr ⟨by omega, c, b.2⟩
        · exact Or.inr ⟨by omega, b.2⟩
theorem i64_n0 : -(0 : Int64) = 0 := by decide
theorem read_eq {A m : Nat → Int64} {at_ base p : Nat} (h : ∀ i, i ≤ 8 → m (base + i) = A (at_ + i)) (h9 : m (base + 9) = 0) : seR m base p = if p ≤ 8 then nrC A at_ p else 0 := by
  obtain ⟨w1, w2, w3, w4⟩ := lwF_spec (m := A) (at_ := at_) 8 0
  obtain ⟨g1, g2, g3⟩ := hgF_spec (m := A) (at_ := at_) 8
  obtain ⟨_, l2, l3⟩ := lmM_spec (m := m) (base := base) 10 0 none
  unfold seR nrC
  generalize lwF A at_ 0 8 = lw at w1 w2 w3 w4 ⊢
  generalize hgF A at_ 8 = hg at g1 g2 g3 ⊢
  generalize lmM m base 10 0 none = R at l2 l3 ⊢
  rcases l2 rfl with ⟨a, b⟩ | ⟨k, k1, k2, k3, k4⟩
  · rw [a]
    have z : ∀ i, i ≤ 8 → A (at_ + i) = 0 := fun i hi => by rw [← h i hi]; exact b i (by omega)
    have e1 : lw = 8 := by
      rcases Nat.lt_or_ge lw 8 with q | q
      · exact absurd (z lw (by omega)) (w4 (by omega))
      · omega
    have e2 : hg = 0 := by
      rcases Nat.eq_zero_or_pos hg with q | q
      · exact q
      · exact absurd (z hg (by omega)) (g3 q)
    rw [if_neg (show ¬ lw + p ≤ hg by omega)]
    show (0 : Int64) = if p ≤ 8 then 0 else 0
    by_cases q : p ≤ 8
    · rw [if_pos q]
    · rw [if_neg q]
  · have k8 : k ≤ 8 := by
      rcases Nat.lt_or_ge k 9 with q | q
      · omega
      · exact absurd (by rw [show k = 9 by omega]; exact h9) k3
    rw [k2]
    have hl : R.1 < 10 ∧ m (base + R.1) ≠ 0 ∧ ∀ j, j < R.1 → m (base + j) = 0 := by
      rcases l3 with q | q
      · exact absurd (q.2 k k1) k3
      · exact q
    generalize R.1 = le at hl ⊢
    have lek : le ≤ k := by
      rcases Nat.lt_or_ge k le with q | q
      · exact absurd (hl.2.2 k q) k3
      · exact q
    have e1 : lw = le := by
      rcases Nat.lt_trichotomy lw le with q | q | q
      · exact absurd (by rw [← h lw (by omega)]; exact hl.2.2 lw q) (w4 (by omega))
      · exact q
      · exact absurd (by rw [h le (by omega)]; exact w3 le (by omega) q) hl.2.1
    have e2 : hg = k := by
      rcases Nat.lt_trichotomy hg k with q | q | q
      · exact absurd (by rw [h k k8]; exact g2 k q k8) k3
      · exact q
      · exact absurd (by rw [← h hg (by omega)]; exact k4 hg q (by omega)) (g3 (by omega))
    subst e1 e2
    simp only []
    by_cases c1 : lw + p ≤ hg
    · rw [if_pos (show lw + p ≤ 9 by omega), if_pos (show p ≤ 8 by omega), if_pos c1, h hg k8, Nat.add_assoc base, h (lw + p) (by omega), Nat.add_assoc at_]
    · have e0 : (if p ≤ 8 then (if lw + p ≤ hg then (if A (at_ + hg) < 0 then -A (at_ + lw + p) else A (at_ + lw + p)) else 0) else 0) = (0 : Int64) := by
        rw [if_neg c1]
        split <;> rfl
      rw [e0]
      by_cases c2 : lw + p ≤ 9
      · rw [if_pos c2, Nat.add_assoc base, k4 (lw + p) (by omega) (by omega)]
        split <;> decide
      · rw [if_neg c2]
