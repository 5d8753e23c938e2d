theorem Reps.same {G : Nat → Nat → Prop} {D : Nat → Prop} {L L' : List Nat} (h : Reps (Gen G) D L) (h' : Reps (Gen G) D L') : L.length = L'.length :=
  Nat.le_antisymm (Reps.le h h' (fun a b => a = b) (fun a ha => ⟨a, ha, rfl⟩) (fun a a' b b' _ _ e e' k => by rw [e, e']; exact k)) (Reps.le h' h (fun a b => a = b) (fun a ha => ⟨a, ha, rfl⟩) (fun a a' b b' _ _ e e' k => by rw [e, e']; exact k))
/-- at most K kinds below N -/
def UB (G : Nat → Nat → Prop) (N K : Nat) : Prop := ∀ L : List Nat, (∀ a, a ∈ L → a < N) → L.Pairwise (fun a b => ¬ Gen G a b) → L.length ≤ K
/-- one pair more joins at most two kinds -/
theorem UB.pair {G G' : Nat → Nat → Prop} {N K a b : Nat} (h : UB G' N K) (hG : ∀ u v, G' u v → G u v ∨ (u = a ∧ v = b)) : UB G N (K + 1) := by
  classical
  intro L h1 h2
  have ch : ∀ u v, Gen G' u v → Gen G u v ∨ ((Gen G u a ∨ Gen G u b) ∧ (Gen G v a ∨ Gen G v b)) := fun u v k => by
    refine k (fun u v => Gen G u v ∨ ((Gen G u a ∨ Gen G u b) ∧ (Gen G v a ∨ Gen G v b))) (fun u => Or.inl (Gen.rf u)) (fun u v e => ?_) (fun u v w e e' => ?_) (fun u v e => ?_)
    · rcases e with e | e
      · exact Or.inl e.sm
      · exact Or.inr ⟨e.2, e.1⟩
    · rcases e with e | e <;> rcases e' with e' | e'
      · exact Or.inl (e.tr e')
      · refine Or.inr ⟨?_, e'.2⟩
        rcases e'.1 with q | q
        · exact Or.inl (e.tr q)
        · exact Or.inr (e.tr q)
      · refine Or.inr ⟨e.1, ?_⟩
        rcases e.2 with q | q
        · exact Or.inl (e'.sm.tr q)
        · exact Or.inr (e'.sm.tr q)
      · exact Or.inr ⟨e.1, e'.2⟩
    · rcases hG u v e with q | ⟨rfl, rfl⟩
      · exact Or.inl (Gen.one q)
      · exact Or.inr ⟨Or.inl (Gen.rf _), Or.inr (Gen.rf _)⟩
  have h3 := h (L.filter (fun u => decide (¬ Gen G u b))) (fun u hu => h1 u (List.mem_filter.mp hu).1) (by
    refine List.Pairwise.imp_of_mem (R := fun a b => ¬ Gen G a b) ?_ (List.Pairwise.filter _ h2)
    intro u v hu hv hn k
    have u1 := of_decide_eq_true (List.mem_filter.mp hu).2
    have v1 := of_decide_eq_true (List.mem_filter.mp hv).2
    rcases ch u v k with q | ⟨q1, q2⟩
    · exact hn q
    · exact hn ((q1.resolve_right u1).tr (q2.resolve_right v1).sm))
  have h4 : ∀ L : List Nat, L.Pairwise (fun a b => ¬ Gen G a b) → L.length ≤ (L.filter (fun u => decide (¬ Gen G u b))).length + 1 := by
    intro L
    induction L with
    | nil => intro _; exact Nat.zero_le _
    | cons u t ih =>
      intro hp
      have hp' := List.pairwise_cons.mp hp
      rw [List.filter_cons]
      by_cases c : Gen G u b
      · rw [if_neg (by simp [c])]
        have : t.filter (fun u => decide (¬ Gen G u b)) = t := List.filter_eq_self.mpr (fun v hv => by
          have : ¬ Gen G v b := fun k => hp'.1 v hv (c.tr k.sm)
          simp [this])
        rw [this]
        simp
      · rw [if_pos (by simp [c])]
        have := ih hp'.2
        simp only [List.length_cons]
        omega
  have := h4 L h2
  omega
/-- the curves' steps, with j of the crossings made one -/
def stJ (o τ : Nat → Nat) (N j a b : Nat) : Prop := step2 o τ N a b ∨ ∃ x, x < j ∧ a = 4 * x ∧ b = 4 * x + 2
theorem UB.down {o τ : Nat → Nat} {N K : Nat} : ∀ j, UB (stJ o τ N j) N K → UB (step2 o τ N) N (K + j) := by
  intro j
  induction j generalizing K with
  | zero =>
    intro h L h1 h2
    refine h L h1 (h2.imp (fun hn k => hn (Gen.mono (fun a b e => ?_) k)))
    rcases e with e | ⟨x, hx, _⟩
    · exact Gen.one e
    · omega
  | succ j ih =>
    intro h
    have := UB.pair (a := 4 * j) (b := 4 * j + 2) (G := stJ o τ N j) h (fun u v e => by
      rcases e with e | ⟨x, hx, h1, h2⟩
      · exact Or.inl (Or.inl e)
      · by_cases q : x = j
        · subst q; exact Or.inr ⟨h1, h2⟩
        · exact Or.inl (Or.inr ⟨x, by omega, h1, h2⟩))
    have := ih this
    rw [show K + (j + 1) = K + 1 + j by omega]
    exact this
/-- τ goes, at each crossing, one way or the other -/
def Smo (τ : Nat → Nat) (n : Nat) : Prop := ∀ x, x < n → (τ (4 * x) = 4 * x + 1 ∧ τ (4 * x + 1) = 4 * x ∧ τ (4 * x + 2) = 4 * x + 3 ∧ τ (4 * x + 3) = 4 * x + 2) ∨ (τ (4 * x) = 4 * x + 3 ∧ τ (4 * x + 1) = 4 * x + 2 ∧ τ (4 * x + 2) = 4 * x + 1 ∧ τ (4 * x + 3) = 4 * x)
theorem Smo.par {τ : Nat → Nat} {n : Nat} (h : Smo τ n) : Par τ (4 * n) := fun a ha => by
  have hx := h (a / 4) (by omega)
  have h4 : a = 4 * (a / 4) ∨ a = 4 * (a / 4) + 1 ∨ a = 4 * (a / 4) + 2 ∨ a = 4 * (a / 4) + 3 := by omega
  have hb : a / 4 < n := by omega
  generalize a / 4 = x at *
  rcases hx with ⟨a0, a1, a2, a3⟩ | ⟨a0, a1, a2, a3⟩ <;> rcases h4 with rfl | rfl | rfl | rfl
  · rw [a0]; exact ⟨by omega, by omega, a1⟩
  · rw [a1]; exact ⟨by omega, by omega, a0⟩
  · rw [a2]; exact ⟨by omega, by omega, a3⟩
  · rw [a3]; exact ⟨by omega, by omega, a2⟩
  · rw [a0]; exact ⟨by omega, by omega, a3⟩
  · rw [a1]; exact ⟨by omega, by omega, a2⟩
  · rw [a2]; exact ⟨by omega, by omega, a1⟩
  · rw [a3]; exact ⟨by omega, by omega, a0⟩
theorem stJ_opp {o τ : Nat → Nat} {n a : Nat} (h : Smo τ n) (ha : a < 4 * n) : Gen (stJ o τ (4 * n) n) a (opp a) := by
  have hx := h (a / 4) (by omega)
  have h4 : a = 4 * (a / 4) ∨ a = 4 * (a / 4) + 1 ∨ a = 4 * (a / 4) + 2 ∨ a = 4 * (a / 4) + 3 := by omega
  have hb : a / 4 < n := by omega
  have ho := opp_4 (a / 4)
  generalize a / 4 = x at *
  have g02 : Gen (stJ o τ (4 * n) n) (4 * x) (4 * x + 2) := Gen.one (Or.inr ⟨x, hb, rfl, rfl⟩)
  have gt : ∀ b, b < 4 * n → Gen (stJ o τ (4 * n) n) b (τ b) := fun b hb => Gen.one (Or.inl ⟨hb, Or.inr rfl⟩)
  have g13 : Gen (stJ o τ (4 * n) n) (4 * x + 1) (4 * x + 3) := by
    rcases hx with ⟨a0, a1, a2, a3⟩ | ⟨a0, a1, a2, a3⟩
    · have k1 := gt (4 * x + 1) (by omega)
      have k2 := gt (4 * x + 2) (by omega)
      rw [a1] at k1
      rw [a2] at k2
      exact (k1.tr g02).tr k2
    · have k1 := gt (4 * x + 1) (by omega)
      have k2 := gt (4 * x) (by omega)
      rw [a1] at k1
      rw [a0] at k2
      exact (k1.tr g02.sm).tr k2
  rcases h4 with e | e | e | e
  · rw [e, ho.1]; exact g02
  · rw [e, ho.2.1]; exact g13
  · rw [e, ho.2.2.1]; exact g02.sm
  · rw [e, ho.2.2.2]; exact g13.sm
/-- no more pieces than marked edges -/
theorem UB.bas {f g : Nat → Int32} {n cc : Nat} {τ : Nat → Nat} (h : Dia f g n cc) (ht : Smo τ n) : ∃ K, UB (stJ (oth f n) τ (4 * n) n) (4 * n) K ∧ K + cc ≤ 20 := by
  have ho := h.ot
  obtain ⟨hn, he, _, _, hb, _, B, rk, h1, h2⟩ := h
  refine ⟨cB B, fun L l1 l2 => ?_, h2⟩
  -- from an end where a strand comes in, to a marked edge
  have key : ∀ r t, t < 4 * n → cin g t = true → rk (f t) ≤ r → ∃ z, z < 4 * n ∧ B (f z) = true ∧ Gen (stJ (oth f n) τ (4 * n) n) t z := by
    intro r
    induction r with
    | zero =>
      intro t t1 t2 t3
      rcases h1 _ _ (pas_in (f := f) t1 t2) with q | q
      · exact ⟨t, t1, q, Gen.rf t⟩
      · omega
    | succ r ih =>
      intro t t1 t2 t3
      rcases h1 _ _ (pas_in (f := f) t1 t2) with q | q
      · exact ⟨t, t1, q, Gen.rf t⟩
      · have o1 := ho (opp t) (opp_ltn t1)
        obtain ⟨z, z1, z2, z3⟩ := ih (oth f n (opp t)) o1.1 (by rw [o1.2.2.2.1, cin_opp, t2]; rfl) (by rw [o1.2.2.1]; omega)
        exact ⟨z, z1, z2, ((stJ_opp ht t1).tr (Gen.one (Or.inl ⟨opp_ltn t1, Or.inl rfl⟩))).tr z3⟩
  have all : ∀ t, t < 4 * n → ∃ z, z < 4 * n ∧ B (f z) = true ∧ Gen (stJ (oth f n) τ (4 * n) n) t z := fun t t1 => by
    cases hc : cin g t with
    | true => exact key _ t t1 hc (Nat.le_refl _)
    | false =>
      obtain ⟨z, z1, z2, z3⟩ := key _ (opp t) (opp_ltn t1) (by rw [cin_opp, hc]; rfl) (Nat.le_refl _)
      exact ⟨z, z1, z2, (stJ_opp ht t1).tr z3⟩
  unfold cB
  refine pigR (r := fun t k => ∃ z, z < 4 * n ∧ f z = nI k ∧ Gen (stJ (oth f n) τ (4 * n) n) t z) ?_ (fun t ht => ?_)
  · refine List.Pairwise.imp_of_mem (R := fun a b => ¬ Gen (stJ (oth f n) τ (4 * n) n) a b) ?_ l2
    rintro a a' _ _ hn k ⟨z, z1, z2, z3⟩ ⟨z', z1', z2', z3'⟩
    rcases (ho z z1).2.2.2.2 z' z1' (by rw [z2, z2']) with q | q
    · rw [q] at z3'; exact hn (z3.tr z3'.sm)
    · rw [q] at z3'; exact hn ((z3.tr (Gen.one (Or.inl ⟨z1, Or.inl rfl⟩))).tr z3'.sm)
  · obtain ⟨z, z1, z2, z3⟩ := all t (l1 t ht)
    obtain ⟨x, _, x2, x3⟩ := he z z1
    exact ⟨x, List.mem_filter.mpr ⟨List.mem_range.mpr (by omega), by rw [← x3]; exact z2⟩, z, z1, x3, z3⟩
/-- the number of the curves of a state -/
def nCv (o τ : Nat → Nat) (n : Nat) : Nat := (gS o τ 0 (4 * n) (fun _ => false) 0).1
theorem nCv_le {f g : Nat → Int32} {n cc : Nat} {τ : Nat → Nat} (h : Dia f g n cc) (ht : Smo τ n) : nCv (oth f n) τ n + cc ≤ 28 ∧ 1 ≤ nCv (oth f n) τ n + cc := by
  obtain ⟨L, l1, l2⟩ := gS_all (N := 4 * n) (by have := h.1; omega) h.ot.par ht.par
  obtain ⟨K, k1, k2⟩ := UB.bas h ht
  have := UB.down n k1 L l2.1 l2.2.1
  have e : nCv (oth f n) τ n = L.length := l1
  have hn := h.1
  refine ⟨by omega, ?_⟩
  rcases h.2.2.2.2.2.1 with q | q
  · obtain ⟨a, ha, _⟩ := l2.2.2 0 (by omega)
    have := List.length_pos_of_mem ha
    omega
  · omega
