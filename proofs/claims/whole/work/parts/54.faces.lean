section FCS
variable {nx : Nat → Nat} {D : Nat → Prop} {N : Nat}
theorem itf_ne (h : Prm nx D N) {a m : Nat} (ha : D a) (hm : ∀ j, 1 ≤ j → j < m → itf nx j a ≠ a) {i j : Nat} (hij : i < j) (hj : j < m) : itf nx j a ≠ itf nx i a := by
  intro e
  rw [show j = i + (j - i) by omega, itf_add] at e
  exact hm (j - i) (by omega) (by omega) (h.itI (h.itD ha _) ha i e)
theorem mkF_spec (h : Prm nx D N) {s : Nat → Int32} {a m : Nat} (ha : D a) (h1 : 1 ≤ m) (hb : itf nx m a = a) (hm : ∀ j, 1 ≤ j → j < m → itf nx j a ≠ a) (hs : ∀ j, s (itf nx j a) = 0) : ∀ k j s', j ≤ m → m ≤ j + k → (∀ i, i < j → s' (itf nx i a) = 1) → (∀ t, (∀ i, i < j → t ≠ itf nx i a) → s' t = s t) → (∀ i, i < m → mkF nx k s' (itf nx j a) (itf nx i a) = 1) ∧ ∀ t, (∀ i, i < m → t ≠ itf nx i a) → mkF nx k s' (itf nx j a) t = s t := by
  intro k
  induction k with
  | zero =>
    intro j s' hj hk p1 p2
    rw [mkF]
    exact ⟨fun i hi => p1 i (by omega), fun t ht => p2 t (fun i hi => ht i (by omega))⟩
  | succ k ih =>
    intro j s' hj hk p1 p2
    rw [mkF]
    by_cases hjm : j = m
    · rw [if_neg (by rw [hjm, hb, ← itf_0 nx a, p1 0 (by omega)]; decide)]
      exact ⟨fun i hi => p1 i (by omega), fun t ht => p2 t (fun i hi => ht i (by omega))⟩
    · rw [if_pos (by rw [p2 _ (fun i hi => itf_ne h ha hm hi (by omega))]; exact hs j), ← itf_s nx]
      refine ih (j + 1) _ (by omega) (by omega) (fun i hi => ?_) (fun t ht => ?_)
      · by_cases e : i = j
        · rw [e, upd_self]
        · rw [upd_ne _ _ (fun q => itf_ne h ha hm (show i < j by omega) (by omega) q.symm)]
          exact p1 i (by omega)
      · rw [upd_ne _ _ (ht j (by omega))]
        exact p2 t (fun i hi => ht i (by omega))
theorem fcs_reps {p : Nat → Bool} (hN : N ≤ 32) (h : Prm nx (fun t => t < N ∧ p t = true) N) : ∀ (k i : Nat) (s : Nat → Int32) (L : List Nat), i + k = N → (∀ a, a ∈ L → a < N ∧ p a = true) → L.Pairwise (fun a b => ¬ Gen (step nx (fun t => t < N ∧ p t = true)) a b) → (∀ j, j < i → p j = true → ∃ a, a ∈ L ∧ Gen (step nx (fun t => t < N ∧ p t = true)) a j) → (∀ t, t < N → p t = true → (s t ≠ 0 ↔ ∃ a, a ∈ L ∧ Gen (step nx (fun t => t < N ∧ p t = true)) a t)) → ∃ L', (fcs p nx i k s (nI L.length)).1 = nI L'.length ∧ Reps (Gen (step nx (fun t => t < N ∧ p t = true))) (fun t => t < N ∧ p t = true) L' := by
  intro k
  induction k with
  | zero =>
    intro i s L hi p1 p2 p3 p4
    rw [fcs]
    exact ⟨L, rfl, p1, p2, fun j hj => p3 j (by omega) hj.2⟩
  | succ k ih =>
    intro i s L hi p1 p2 p3 p4
    rw [fcs]
    by_cases hc : p i = true ∧ s i = 0
    · rw [if_pos hc]
      have hiD : i < N ∧ p i = true := ⟨by omega, hc.1⟩
      obtain ⟨m, h1, h2, h3, h4⟩ := h.back hiD
      have hno : ∀ b, b ∈ L → ¬ Gen (step nx (fun t => t < N ∧ p t = true)) b i := fun b hb hg => absurd hc.2 ((p4 i (by omega) hc.1).mpr ⟨b, hb, hg⟩)
      have hs : ∀ j, s (itf nx j i) = 0 := fun j => by
        refine Classical.byContradiction fun hne => ?_
        have hd := h.itD hiD j
        obtain ⟨b, hb, hg⟩ := (p4 _ hd.1 hd.2).mp hne
        exact hno b hb (hg.tr (Gen.it h hiD j).sm)
      have key := mkF_spec h hiD h1 h3 h4 hs 32 0 s (by omega) (by omega) (fun i hi => by omega) (fun t _ => rfl)
      rw [itf_0] at key
      have e1 : nI L.length + 1 = nI (L ++ [i]).length := by rw [nI_1, List.length_append]; rfl
      rw [e1]
      refine ih (i + 1) _ (L ++ [i]) (by omega) (fun a ha => ?_) (Reps.snoc p2 hno) (fun j hj hp => ?_) (fun t ht hp => ?_)
      · rcases List.mem_append.mp ha with q | q
        · exact p1 a q
        · rw [List.mem_singleton.mp q]; exact hiD
      · by_cases e : j = i
        · exact ⟨i, List.mem_append_right _ List.mem_cons_self, by rw [e]; exact Gen.rf i⟩
        · obtain ⟨a, h5, h6⟩ := p3 j (by omega) hp
          exact ⟨a, List.mem_append_left _ h5, h6⟩
      · by_cases hg : Gen (step nx (fun t => t < N ∧ p t = true)) i t
        · obtain ⟨j, hj, rfl⟩ := h.cyc hiD h1 h3 hg
          rw [key.1 j hj]
          exact ⟨fun _ => ⟨i, List.mem_append_right _ List.mem_cons_self, hg⟩, fun _ => by decide⟩
        · rw [key.2 t (fun j hj e => hg (by rw [e]; exact Gen.it h hiD j)), p4 t ht hp]
          constructor
          · rintro ⟨a, h5, h6⟩
            exact ⟨a, List.mem_append_left _ h5, h6⟩
          · rintro ⟨a, h5, h6⟩
            rcases List.mem_append.mp h5 with q | q
            · exact ⟨a, q, h6⟩
            · rw [List.mem_singleton.mp q] at h6
              exact absurd h6 hg
    · rw [if_neg hc]
      refine ih (i + 1) s L (by omega) p1 p2 (fun j hj hp => ?_) p4
      by_cases e : j = i
      · rw [e] at hp ⊢
        exact (p4 i (by omega) hp).mp (fun q => hc ⟨hp, q⟩)
      · exact p3 j (by omega) hp
theorem fcs_all {p : Nat → Bool} (hN : N ≤ 32) (h : Prm nx (fun t => t < N ∧ p t = true) N) (s : Nat → Int32) : ∃ L', (fcs p nx 0 N (fl0 s 32) 0).1 = nI L'.length ∧ Reps (Gen (step nx (fun t => t < N ∧ p t = true))) (fun t => t < N ∧ p t = true) L' := by
  refine fcs_reps hN h N 0 (fl0 s 32) [] (by omega) (fun a ha => by cases ha) List.Pairwise.nil (fun j hj => by omega) (fun t ht hp => ?_)
  unfold fl0
  rw [if_pos (by omega)]
  exact ⟨fun q => absurd rfl q, fun ⟨a, ha, _⟩ => by cases ha⟩
-- the reference's face
theorem rch_of {h m : Nat} (hb : itf nx m h = h) : ∀ k j, j ≤ m → m ≤ j + k → rch nx h k (itf nx j h) := by
  intro k
  induction k with
  | zero => intro j h1 h2; rw [show j = m by omega, hb]; exact rfl
  | succ k ih =>
    intro j h1 h2
    by_cases e : j = m
    · rw [e, hb]; exact Or.inl rfl
    · refine Or.inr ?_
      rw [← itf_s nx]
      exact ih (j + 1) (by omega) (by omega)
theorem fcB_spec {h m : Nat} (hb : itf nx m h = h) (hm : ∀ j, 1 ≤ j → j < m → itf nx j h ≠ h) : ∀ k j b, 1 ≤ j → j ≤ m → m ≤ j + k → fcB nx h k (itf nx j h) b ≤ b ∧ (∀ i, j ≤ i → i < m → fcB nx h k (itf nx j h) b ≤ itf nx i h) ∧ (fcB nx h k (itf nx j h) b = b ∨ ∃ i, i < m ∧ fcB nx h k (itf nx j h) b = itf nx i h) := by
  intro k
  induction k with
  | zero =>
    intro j b h0 h1 h2
    rw [fcB]
    exact ⟨Nat.le_refl _, fun i a c => by omega, Or.inl rfl⟩
  | succ k ih =>
    intro j b h0 h1 h2
    rw [fcB]
    by_cases e : j = m
    · rw [if_pos (by rw [e, hb])]
      exact ⟨Nat.le_refl _, fun i a c => by omega, Or.inl rfl⟩
    · rw [if_neg (hm j h0 (by omega)), ← itf_s nx]
      have k1 := ih (j + 1) (if itf nx j h < b then itf nx j h else b) (by omega) (by omega) (by omega)
      have hle : (if itf nx j h < b then itf nx j h else b) ≤ b := by split <;> omega
      have hle2 : (if itf nx j h < b then itf nx j h else b) ≤ itf nx j h := by split <;> omega
      refine ⟨Nat.le_trans k1.1 hle, fun i a c => ?_, ?_⟩
      · by_cases e2 : i = j
        · rw [e2]; exact Nat.le_trans k1.1 hle2
        · exact k1.2.1 i (by omega) c
      · rcases k1.2.2 with q | q
        · rw [q]
          by_cases hlt : itf nx j h < b
          · rw [if_pos hlt]; exact Or.inr ⟨j, by omega, rfl⟩
          · rw [if_neg hlt]; exact Or.inl rfl
        · exact Or.inr q
theorem fc_spec (h : Prm nx D N) (hN : N ≤ 64) {a : Nat} (ha : D a) : (∀ b, Gen (step nx D) a b → fcB nx a 64 (nx a) a ≤ b) ∧ Gen (step nx D) a (fcB nx a 64 (nx a) a) ∧ rch nx a 64 (nx a) := by
  obtain ⟨m, h1, h2, h3, h4⟩ := h.back ha
  have e : nx a = itf nx 1 a := rfl
  have k := fcB_spec h3 h4 64 1 a (by omega) h1 (by omega)
  rw [e]
  refine ⟨fun b hb => ?_, ?_, rch_of h3 64 1 h1 (by omega)⟩
  · obtain ⟨t, ht, rfl⟩ := h.cyc ha h1 h3 hb
    cases t with
    | zero => exact k.1
    | succ t => exact k.2.1 (t + 1) (by omega) ht
  · rcases k.2.2 with q | ⟨i, hi, q⟩
    · rw [q]; exact Gen.rf a
    · rw [q]; exact Gen.it h ha i
theorem fcN_eq {fc : Nat → Nat} : ∀ k h c, fcN fc h k c = c + ((List.range' h k).filter (fun t => decide (fc t = t))).length := by
  intro k
  induction k with
  | zero => intro h c; rfl
  | succ k ih =>
    intro h c
    rw [fcN, ih, List.range'_succ, List.filter_cons]
    by_cases e : fc h = h
    · simp only [e, if_true, decide_true, List.length_cons]
      omega
    · simp only [e, if_false, decide_false, Bool.false_eq_true]
theorem fcN_reps {v k : Nat} (h : Prm nx (fun t => v ≤ t ∧ t < v + k) N) (hN : N ≤ 64) : ∃ L, fcN (fun a => fcB nx a 64 (nx a) a) v k 0 = L.length ∧ Reps (Gen (step nx (fun t => v ≤ t ∧ t < v + k))) (fun t => v ≤ t ∧ t < v + k) L := by
  refine ⟨_, by rw [fcN_eq, Nat.zero_add], fun a ha => ?_, ?_, fun j hj => ?_⟩
  · have := List.mem_range'_1.mp (List.mem_filter.mp ha).1
    exact this
  · refine List.Pairwise.imp_of_mem ?_ ((List.pairwise_lt_range' (s := v) (n := k) (step := 1)).filter (fun t => decide (fcB nx t 64 (nx t) t = t)))
    intro a b ha hb hab hg
    have h1 := (fc_spec h hN (List.mem_range'_1.mp (List.mem_filter.mp hb).1)).1 a hg.sm
    have h2 : fcB nx b 64 (nx b) b = b := of_decide_eq_true (List.mem_filter.mp hb).2
    omega
  · have k1 := fc_spec h hN hj
    have hD := h.inD hj k1.2.1
    refine ⟨fcB nx j 64 (nx j) j, List.mem_filter.mpr ⟨List.mem_range'_1.mpr hD, decide_eq_true ?_⟩, k1.2.1.sm⟩
    have k2 := fc_spec h hN hD
    have a1 := k2.1 _ (Gen.rf _)
    have a2 := k1.1 _ (k1.2.1.tr k2.2.1)
    omega
end FCS
