theorem Gen.map {G K : Nat → Nat → Prop} (φ : Nat → Nat) (hG : ∀ a b, G a b → Gen K (φ a) (φ b)) {u v : Nat} (h : Gen G u v) : Gen K (φ u) (φ v) :=
  h (fun a b => Gen K (φ a) (φ b)) (fun _ => Gen.rf _) (fun _ _ h => h.sm) (fun _ _ _ h k => h.tr k) hG
/-- marks an end and its other end, goes on through the crossing -/
def gW (o τ : Nat → Nat) : Nat → (Nat → Bool) → Nat → Nat → Bool
  | 0, M, _ => M
  | k + 1, M, e => if M e = true then M else gW o τ k (fun t => M t || decide (t = e) || decide (t = o e)) (τ (o e))
def gS (o τ : Nat → Nat) : Nat → Nat → (Nat → Bool) → Nat → Nat × (Nat → Bool)
  | _, 0, M, c => (c, M)
  | i, k + 1, M, c => if M i = true then gS o τ (i + 1) k M c else gS o τ (i + 1) k (gW o τ 32 M i) (c + 1)
/-- o pairs off what lies below N -/
def Par (o : Nat → Nat) (N : Nat) : Prop := ∀ a, a < N → o a < N ∧ o a ≠ a ∧ o (o a) = a
def step2 (o τ : Nat → Nat) (N a b : Nat) : Prop := a < N ∧ (b = o a ∨ b = τ a)
def um (M : Nat → Bool) (N : Nat) : Nat := ((List.range N).filter (fun t => !M t)).length
theorem um_lt {M M' : Nat → Bool} {N e : Nat} (he : e < N) (h1 : M e = false) (h2 : M' e = true) (h3 : ∀ t, M t = true → M' t = true) : um M' N + 1 ≤ um M N := by
  unfold um
  have hn : (e :: (List.range N).filter (fun t => !M' t)).Nodup := by
    refine List.nodup_cons.mpr ⟨fun hm => ?_, List.Pairwise.filter _ List.nodup_range⟩
    have := (List.mem_filter.mp hm).2
    rw [h2] at this
    cases this
  have := pig (l' := (List.range N).filter (fun t => !M t)) hn (fun a ha => by
    rcases List.mem_cons.mp ha with rfl | q
    · exact List.mem_filter.mpr ⟨List.mem_range.mpr he, by rw [h1]; rfl⟩
    · have q' := List.mem_filter.mp q
      refine List.mem_filter.mpr ⟨q'.1, ?_⟩
      cases hM : M a with
      | false => rfl
      | true => have := q'.2; rw [h3 a hM] at this; cases this)
  rw [List.length_cons] at this
  exact this
theorem um_0 {M : Nat → Bool} {N e : Nat} (he : e < N) (h : um M N = 0) : M e = true := by
  cases hM : M e with
  | true => rfl
  | false =>
    have hm : e ∈ (List.range N).filter (fun t => !M t) := List.mem_filter.mpr ⟨List.mem_range.mpr he, by rw [hM]; rfl⟩
    have := List.length_pos_of_mem hm
    unfold um at h
    omega
theorem um_le (M : Nat → Bool) (N : Nat) : um M N ≤ N := by
  unfold um
  have := List.length_filter_le (fun t => !M t) (List.range N)
  rw [List.length_range] at this
  exact this
section GW
variable {o τ : Nat → Nat} {N : Nat}
theorem gW_in (ho : Par o N) (ht : Par τ N) {old : Nat → Bool} {e0 : Nat} (he0 : e0 < N) : ∀ k (M : Nat → Bool) z, z < N → z ≠ e0 → M e0 = true → M z = true → (∀ t, t < N → M (o t) = M t) → (∀ y, y < N → M y = true → y ≠ e0 → y ≠ z → M (τ y) = true ∧ τ y ≠ e0 ∧ τ y ≠ z) → (∀ t, t < N → M t = true → old t = true ∨ Gen (step2 o τ N) e0 t) → (∀ t, old t = true → M t = true) → Gen (step2 o τ N) e0 z → um M N ≤ k → ∀ t, t < N → (gW o τ k M (τ z) t = true ↔ old t = true ∨ Gen (step2 o τ N) e0 t) := by
  intro k
  have fin : ∀ (M : Nat → Bool) z, z < N → z ≠ e0 → M e0 = true → M z = true → (∀ t, t < N → M (o t) = M t) → (∀ y, y < N → M y = true → y ≠ e0 → y ≠ z → M (τ y) = true ∧ τ y ≠ e0 ∧ τ y ≠ z) → (∀ t, t < N → M t = true → old t = true ∨ Gen (step2 o τ N) e0 t) → (∀ t, old t = true → M t = true) → M (τ z) = true → ∀ t, t < N → (M t = true ↔ old t = true ∨ Gen (step2 o τ N) e0 t) := by
    intro M z hz hze h0 hMz j2 j3 j4 j5 hMe
    have e1 : τ z = e0 := Classical.byContradiction fun hne => (j3 (τ z) (ht z hz).1 hMe hne (ht z hz).2.1).2.2 (ht z hz).2.2
    have cl : ∀ y, y < N → M y = true → M (τ y) = true := fun y hy hM => by
      by_cases a : y = e0
      · rw [a, ← e1, (ht z hz).2.2]; exact hMz
      · by_cases b : y = z
        · rw [b, e1]; exact h0
        · exact (j3 y hy hM a b).1
    intro t htN
    refine ⟨j4 t htN, fun h => ?_⟩
    rcases h with h | h
    · exact j5 t h
    · refine (Gen.kept (P := fun x => M x = true) ?_ h).mp h0
      rintro a b ⟨ha, rfl | rfl⟩
      · rw [j2 a ha]
      · exact ⟨cl a ha, fun q => by have := cl (τ a) (ht a ha).1 q; rw [(ht a ha).2.2] at this; exact this⟩
  induction k with
  | zero =>
    intro M z hz hze h0 hMz j2 j3 j4 j5 j6 hu
    rw [gW]
    exact fin M z hz hze h0 hMz j2 j3 j4 j5 (um_0 (ht z hz).1 (by omega))
  | succ k ih =>
    intro M z hz hze h0 hMz j2 j3 j4 j5 j6 hu
    rw [gW]
    by_cases hMe : M (τ z) = true
    · rw [if_pos hMe]
      exact fin M z hz hze h0 hMz j2 j3 j4 j5 hMe
    · rw [if_neg hMe]
      have hf : M (τ z) = false := by cases h : M (τ z) with | false => rfl | true => exact absurd h hMe
      have heN := (ht z hz).1
      have ho1 := ho (τ z) heN
      have hf2 : M (o (τ z)) = false := by rw [j2 _ heN]; exact hf
      have mono : ∀ t, M t = true → (M t || decide (t = τ z) || decide (t = o (τ z))) = true := fun t h => by rw [h]; rfl
      refine ih _ (o (τ z)) ho1.1 (fun q => by rw [q, h0] at hf2; cases hf2) (mono _ h0) (by simp) (fun t htN => ?_) (fun y hy hM a b => ?_) (fun t htN hM => ?_) (fun t h => mono t (j5 t h)) (j6.tr ((Gen.one ⟨hz, Or.inr rfl⟩).tr (Gen.one ⟨heN, Or.inl rfl⟩))) ?_
      · have o1 := ho t htN
        have a1 : (o t = τ z) = (t = o (τ z)) := propext ⟨fun q => by rw [← q, o1.2.2], fun q => by rw [q, ho1.2.2]⟩
        have a2 : (o t = o (τ z)) = (t = τ z) := propext ⟨fun q => by rw [← o1.2.2, q, ho1.2.2], fun q => by rw [q]⟩
        simp only [j2 t htN, a1, a2]
        cases M t <;> cases decide (t = τ z) <;> cases decide (t = o (τ z)) <;> rfl
      · by_cases b1 : y = z
        · rw [b1]
          exact ⟨by simp, fun q => (by rw [q, h0] at hf; cases hf), fun q => ho1.2.1 q.symm⟩
        · by_cases b2 : y = τ z
          · rw [b2, (ht z hz).2.2]
            exact ⟨mono z hMz, hze, fun q => by rw [← q, hMz] at hf2; cases hf2⟩
          · have hMy : M y = true := by
              simp only [Bool.or_eq_true, decide_eq_true_eq] at hM
              rcases hM with (q | q) | q
              · exact q
              · exact absurd q b2
              · exact absurd q b
            have k3 := j3 y hy hMy a b1
            exact ⟨mono _ k3.1, k3.2.1, fun q => by rw [← q, k3.1] at hf2; cases hf2⟩
      · simp only [Bool.or_eq_true, decide_eq_true_eq] at hM
        have g1 : Gen (step2 o τ N) e0 (τ z) := j6.tr (Gen.one ⟨hz, Or.inr rfl⟩)
        rcases hM with (q | q) | q
        · exact j4 t htN q
        · rw [q]; exact Or.inr g1
        · rw [q]; exact Or.inr (g1.tr (Gen.one ⟨heN, Or.inl rfl⟩))
      · have := um_lt (M := M) (M' := fun t => M t || decide (t = τ z) || decide (t = o (τ z))) heN hf (by simp) mono
        omega
theorem gW_spec (hN : N ≤ 32) (ho : Par o N) (ht : Par τ N) {old : Nat → Bool} {e0 : Nat} (he0 : e0 < N) (h0 : old e0 = false) (c1 : ∀ t, t < N → old (o t) = old t) (c2 : ∀ t, t < N → old (τ t) = old t) : ∀ t, t < N → (gW o τ 32 old e0 t = true ↔ old t = true ∨ Gen (step2 o τ N) e0 t) := by
  rw [gW, if_neg (by rw [h0]; decide)]
  have o0 := ho e0 he0
  have hz : old (o e0) = false := by rw [c1 e0 he0]; exact h0
  have mono : ∀ t, old t = true → (old t || decide (t = e0) || decide (t = o e0)) = true := fun t h => by rw [h]; rfl
  refine gW_in ho ht he0 31 _ (o e0) o0.1 o0.2.1 (by simp) (by simp) (fun t htN => ?_) (fun y hy hM a b => ?_) (fun t htN hM => ?_) mono (Gen.one ⟨he0, Or.inl rfl⟩) ?_
  · have o1 := ho t htN
    have a1 : (o t = e0) = (t = o e0) := propext ⟨fun q => by rw [← q, o1.2.2], fun q => by rw [q, o0.2.2]⟩
    have a2 : (o t = o e0) = (t = e0) := propext ⟨fun q => by rw [← o1.2.2, q, o0.2.2], fun q => by rw [q]⟩
    simp only [c1 t htN, a1, a2]
    cases old t <;> cases decide (t = e0) <;> cases decide (t = o e0) <;> rfl
  · have hMy : old y = true := by
      simp only [Bool.or_eq_true, decide_eq_true_eq] at hM
      rcases hM with (q | q) | q
      · exact q
      · exact absurd q a
      · exact absurd q b
    have h2 : old (τ y) = true := by rw [c2 y hy]; exact hMy
    exact ⟨mono _ h2, fun q => (by rw [q, h0] at h2; cases h2), fun q => (by rw [q, hz] at h2; cases h2)⟩
  · simp only [Bool.or_eq_true, decide_eq_true_eq] at hM
    rcases hM with (q | q) | q
    · exact Or.inl q
    · rw [q]; exact Or.inr (Gen.rf _)
    · rw [q]; exact Or.inr (Gen.one ⟨he0, Or.inl rfl⟩)
  · have := um_lt (M := old) (M' := fun t => old t || decide (t = e0) || decide (t = o e0)) he0 h0 (by simp) mono
    have := um_le old N
    omega
theorem gS_reps (hN : N ≤ 32) (ho : Par o N) (ht : Par τ N) : ∀ (k i : Nat) (M : Nat → Bool) (L : List Nat), i + k = N → (∀ a, a ∈ L → a < N) → L.Pairwise (fun a b => ¬ Gen (step2 o τ N) a b) → (∀ j, j < i → ∃ a, a ∈ L ∧ Gen (step2 o τ N) a j) → (∀ t, t < N → (M t = true ↔ ∃ a, a ∈ L ∧ Gen (step2 o τ N) a t)) → ∃ L', (gS o τ i k M L.length).1 = L'.length ∧ Reps (Gen (step2 o τ N)) (fun t => t < N) L' := by
  intro k
  induction k with
  | zero =>
    intro i M L hi p1 p2 p3 p4
    rw [gS]
    exact ⟨L, rfl, p1, p2, fun j hj => p3 j (by omega)⟩
  | succ k ih =>
    intro i M L hi p1 p2 p3 p4
    rw [gS]
    have cl : ∀ a b, a < N → b < N → Gen (step2 o τ N) a b → M b = M a := fun a b ha hb hg => by
      have q : M b = true ↔ M a = true := by
        rw [p4 a ha, p4 b hb]
        exact ⟨fun ⟨c, h1, h2⟩ => ⟨c, h1, h2.tr hg.sm⟩, fun ⟨c, h1, h2⟩ => ⟨c, h1, h2.tr hg⟩⟩
      cases h1 : M b <;> cases h2 : M a <;> simp_all
    by_cases hc : M i = true
    · rw [if_pos hc]
      refine ih (i + 1) M L (by omega) p1 p2 (fun j hj => ?_) p4
      by_cases e : j = i
      · rw [e]; exact (p4 i (by omega)).mp hc
      · exact p3 j (by omega)
    · rw [if_neg hc]
      have hf : M i = false := by cases h : M i with | false => rfl | true => exact absurd h hc
      have key := gW_spec hN ho ht (old := M) (e0 := i) (by omega) hf (fun t htN => cl t _ htN (ho t htN).1 (Gen.one ⟨htN, Or.inl rfl⟩)) (fun t htN => cl t _ htN (ht t htN).1 (Gen.one ⟨htN, Or.inr rfl⟩))
      have hno : ∀ b, b ∈ L → ¬ Gen (step2 o τ N) b i := fun b hb hg => hc ((p4 i (by omega)).mpr ⟨b, hb, hg⟩)
      rw [show L.length + 1 = (L ++ [i]).length by rw [List.length_append]; rfl]
      refine ih (i + 1) _ (L ++ [i]) (by omega) (fun a ha => ?_) (Reps.snoc p2 hno) (fun j hj => ?_) (fun t htN => ?_)
      · rcases List.mem_append.mp ha with q | q
        · exact p1 a q
        · rw [List.mem_singleton.mp q]; omega
      · by_cases e : j = i
        · exact ⟨i, List.mem_append_right _ List.mem_cons_self, by rw [e]; exact Gen.rf i⟩
        · obtain ⟨a, h5, h6⟩ := p3 j (by omega)
          exact ⟨a, List.mem_append_left _ h5, h6⟩
      · rw [key t htN, p4 t htN]
        constructor
        · rintro (⟨a, h5, h6⟩ | h6)
          · exact ⟨a, List.mem_append_left _ h5, h6⟩
          · exact ⟨i, List.mem_append_right _ List.mem_cons_self, h6⟩
        · rintro ⟨a, h5, h6⟩
          rcases List.mem_append.mp h5 with q | q
          · exact Or.inl ⟨a, q, h6⟩
          · rw [List.mem_singleton.mp q] at h6
            exact Or.inr h6
theorem gS_all (hN : N ≤ 32) (ho : Par o N) (ht : Par τ N) : ∃ L', (gS o τ 0 N (fun _ => false) 0).1 = L'.length ∧ Reps (Gen (step2 o τ N)) (fun t => t < N) L' :=
  gS_reps hN ho ht N 0 (fun _ => false) [] (by omega) (fun a ha => by cases ha) List.Pairwise.nil (fun j hj => by omega) (fun t _ => ⟨fun h => (by cases h), fun ⟨a, ha, _⟩ => (by cases ha)⟩)
end GW
/-- the reference's rounds -/
theorem rdW_g {o : Nat → Nat} {way : Int32} {N : Nat} (ho : Par o N) (ht : ∀ a, a < N → thM way a < N) : ∀ k mt e, e < N → um (fun t => decide (¬ mt t = 0)) N ≤ k → ∃ mt', rdW o way (k + 1) mt e = some mt' ∧ (fun t => decide (¬ mt' t = 0)) = gW o (thM way) k (fun t => decide (¬ mt t = 0)) e := by
  intro k
  induction k with
  | zero =>
    intro mt e he hu
    have h := um_0 he (Nat.le_zero.mp hu)
    rw [rdW, if_neg (of_decide_eq_true h)]
    exact ⟨mt, rfl, rfl⟩
  | succ k ih =>
    intro mt e he hu
    rw [rdW, gW]
    by_cases h : mt e = 0
    · rw [if_pos h, if_neg (by simp [h])]
      have hmk : (fun t => decide (¬ upd (upd mt e 1) (o e) 1 t = 0)) = fun t => decide (¬ mt t = 0) || decide (t = e) || decide (t = o e) := by
        funext t
        by_cases a : t = o e
        · rw [a, upd_self]; simp
        · rw [upd_ne _ _ a]
          by_cases b : t = e
          · rw [b, upd_self]; simp
          · rw [upd_ne _ _ b]; simp [a, b]
      have := um_lt (M := fun t => decide (¬ mt t = 0)) (M' := fun t => decide (¬ mt t = 0) || decide (t = e) || decide (t = o e)) he (by simp [h]) (by simp) (fun t ht => by simp only [Bool.or_eq_true]; exact Or.inl (Or.inl ht))
      obtain ⟨mt', h1, h2⟩ := ih (upd (upd mt e 1) (o e) 1) (thM way (o e)) (ht _ (ho e he).1) (by rw [hmk]; omega)
      exact ⟨mt', h1, by rw [h2, hmk]⟩
    · rw [if_neg h, if_pos (by simp [h])]
      exact ⟨mt, rfl, rfl⟩
theorem rds_g {o : Nat → Nat} {way : Int32} {N : Nat} (hN : N ≤ 32) (ho : Par o N) (ht : ∀ a, a < N → thM way a < N) : ∀ k h mt c, h + k = N → ∃ R, rds o way 33 h k mt c = some R ∧ R.1 = (gS o (thM way) h k (fun t => decide (¬ mt t = 0)) c).1 := by
  intro k
  induction k with
  | zero => intro h mt c _; exact ⟨(c, mt), rfl, rfl⟩
  | succ k ih =>
    intro h mt c hh
    rw [rds, gS]
    by_cases e : mt h = 0
    · rw [if_pos e, if_neg (by simp [e])]
      obtain ⟨mt', h1, h2⟩ := rdW_g ho ht 32 mt h (by omega) (Nat.le_trans (um_le _ _) hN)
      rw [h1]
      obtain ⟨R, k1, k2⟩ := ih (h + 1) mt' (c + 1) (by omega)
      exact ⟨R, k1, by rw [k2, h2]⟩
    · rw [if_neg e, if_pos (by simp [e])]
      exact ih (h + 1) mt c (by omega)
