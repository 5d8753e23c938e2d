theorem renA_at (a b : Int32) (t : Nat) : ∀ k i (q : Nat → Int32), a ≠ b → renA a b q i k t = if (i ≤ t ∧ t < i + k) ∧ q t = a then b else q t := by
  intro k
  induction k with
  | zero => intro i q _; rw [renA, if_neg (by omega)]
  | succ k ih =>
    intro i q hab
    rw [renA, ih (i + 1) _ hab]
    by_cases e : t = i
    · subst e
      rw [if_neg (by omega)]
      by_cases h : q t = a
      · rw [if_pos h, upd_self, if_pos ⟨by omega, h⟩]
      · rw [if_neg h, if_neg (fun z => h z.2)]
    · have e1 : (if q i = a then upd q i b else q) t = q t := by
        split
        · rw [upd_ne _ _ e]
        · rfl
      rw [e1]
      by_cases h : (i + 1 ≤ t ∧ t < i + 1 + k) ∧ q t = a
      · rw [if_pos h, if_pos ⟨by omega, h.2⟩]
      · rw [if_neg h, if_neg (fun z => h ⟨by omega, z.2⟩)]
theorem piI_at (t : Nat) : ∀ k i (q : Nat → Int32), piI q i k t = if i ≤ t ∧ t < i + k then nI t else q t := by
  intro k
  induction k with
  | zero => intro i q; rw [piI, if_neg (by omega)]
  | succ k ih =>
    intro i q
    rw [piI, ih (i + 1) _]
    by_cases e : t = i
    · subst e
      rw [if_neg (by omega), if_pos (by omega), upd_self]
    · rw [upd_ne _ _ e]
      by_cases h : i + 1 ≤ t ∧ t < i + 1 + k
      · rw [if_pos h, if_pos (by omega)]
      · rw [if_neg h, if_neg (by omega)]
/-- two crossings with an edge between them -/
def gX (o : Nat → Nat) (N a b : Nat) : Prop := ∃ i, i < N ∧ a = i / 4 ∧ b = o i / 4
theorem pcs_reps {o : Nat → Nat} {n : Nat} (hn : n ≤ 8) (ho : ∀ e, e < 4 * n → o e < 4 * n) : ∀ (k i : Nat) (q : Nat → Int32) (L : List Nat), i + k = 4 * n → L.Nodup → (∀ x, x < n → (x ∈ L ↔ q x = nI x)) → (∀ x, x ∈ L → x < n) → (∀ x, x < n → ∃ y, y < n ∧ q x = nI y ∧ q y = nI y) → (∀ x y, x < n → y < n → q x = q y → Gen (gX o (4 * n)) x y) → (∀ j, j < i → q (j / 4) = q (o j / 4)) → ∃ L', (pcs o i k q (nI L.length)).1 = nI L'.length ∧ Reps (Gen (gX o (4 * n))) (fun x => x < n) L' := by
  intro k
  induction k with
  | zero =>
    intro i q L hi p0 p1 p1' p2 p3 p4
    rw [pcs]
    refine ⟨L, rfl, p1', ?_, fun j hj => ?_⟩
    · refine List.Pairwise.imp_of_mem ?_ p0
      intro a b ha hb hab hg
      have h1 := (Gen.kept (P := fun x => q x = q a) (fun x y ⟨z, hz, e1, e2⟩ => by rw [e1, e2, p4 z (by omega)]) hg).mp rfl
      rw [(p1 b (p1' b hb)).mp hb, (p1 a (p1' a ha)).mp ha] at h1
      exact hab ((nI_eq (by have := p1' a ha; omega) (by have := p1' b hb; omega)).mp h1.symm)
    · obtain ⟨y, h1, h2, h3⟩ := p2 j hj
      exact ⟨y, (p1 y h1).mpr h3, p3 y j h1 hj (by rw [h2, h3])⟩
  | succ k ih =>
    intro i q L hi p0 p1 p1' p2 p3 p4
    rw [pcs]
    have hoi := ho i (by omega)
    by_cases hc : q (i / 4) = q (o i / 4)
    · rw [if_pos hc]
      refine ih (i + 1) q L (by omega) p0 p1 p1' p2 p3 (fun j hj => ?_)
      by_cases e : j = i
      · rw [e]; exact hc
      · exact p4 j (by omega)
    · rw [if_neg hc]
      obtain ⟨y1, a1, a2, a3⟩ := p2 (i / 4) (by omega)
      obtain ⟨y2, b1, b2, b3⟩ := p2 (o i / 4) (by omega)
      have hne : q (o i / 4) ≠ q (i / 4) := fun e => hc e.symm
      have hy : y2 ≠ y1 := fun e => hne (by rw [a2, b2, e])
      have hq : ∀ x, x < n → renA (q (o i / 4)) (q (i / 4)) q 0 8 x = if q x = nI y2 then nI y1 else q x := fun x hx => by
        rw [renA_at _ _ x 8 0 q hne, a2, b2]
        by_cases e : q x = nI y2
        · rw [if_pos ⟨by omega, e⟩, if_pos e]
        · rw [if_neg (fun z => e z.2), if_neg e]
      have hmem : y2 ∈ L := (p1 y2 b1).mpr b3
      have hg : Gen (gX o (4 * n)) (i / 4) (o i / 4) := Gen.one ⟨i, by omega, rfl, rfl⟩
      have hpos := List.length_pos_of_mem hmem
      have e1 : nI L.length + (-1) = nI (L.erase y2).length := by
        rw [List.length_erase_of_mem hmem, ← Int32.sub_eq_add_neg]
        rw [show L.length = (L.length - 1) + 1 by omega, ← nI_1, Int32.add_sub_cancel]
        rfl
      rw [e1]
      have hn12 : nI y1 ≠ nI y2 := fun e => hy ((nI_eq (by omega) (by omega)).mp e).symm
      refine ih (i + 1) _ (L.erase y2) (by omega) (p0.erase y2) (fun x hx => ?_) (fun x hx => p1' x (List.mem_of_mem_erase hx)) (fun x hx => ?_) (fun x y hx hy' he => ?_) (fun j hj => ?_)
      · rw [List.Nodup.mem_erase_iff p0, p1 x hx, hq x hx]
        by_cases e : q x = nI y2
        · rw [if_pos e]
          constructor
          · rintro ⟨h1, h2⟩
            exact absurd ((nI_eq (by omega) (by omega)).mp (h2.symm.trans e)) h1
          · intro h
            have hx1 : y1 = x := (nI_eq (by omega) (by omega)).mp h
            rw [← hx1, a3] at e
            exact absurd e hn12
        · rw [if_neg e]
          refine ⟨fun h => h.2, fun h => ⟨fun hx2 => e (by rw [hx2, b3]), h⟩⟩
      · obtain ⟨y, c1, c2, c3⟩ := p2 x hx
        rw [hq x hx]
        by_cases e : q x = nI y2
        · rw [if_pos e]
          refine ⟨y1, a1, rfl, ?_⟩
          rw [hq y1 a1, a3, if_neg hn12]
        · rw [if_neg e]
          refine ⟨y, c1, c2, ?_⟩
          rw [hq y c1, c3, if_neg (by rw [← c2]; exact e)]
      · rw [hq x hx, hq y hy'] at he
        by_cases ex : q x = nI y2 <;> by_cases ey : q y = nI y2
        · exact p3 x y hx hy' (by rw [ex, ey])
        · rw [if_pos ex, if_neg ey] at he
          exact (p3 x (o i / 4) hx (by omega) (by rw [ex, b2])).tr (hg.sm.tr (p3 (i / 4) y (by omega) hy' (by rw [a2, he])))
        · rw [if_neg ex, if_pos ey] at he
          exact (p3 x (i / 4) hx (by omega) (by rw [a2, he])).tr (hg.tr (p3 (o i / 4) y (by omega) hy' (by rw [b2, ey])))
        · rw [if_neg ex, if_neg ey] at he
          exact p3 x y hx hy' he
      · have hoj := ho j (by omega)
        rw [hq (j / 4) (by omega), hq (o j / 4) (by omega)]
        by_cases e : j = i
        · rw [e, b2, if_pos rfl, a2, if_neg hn12]
        · rw [p4 j (by omega)]
theorem pcs_all {o : Nat → Nat} {n : Nat} (hn : n ≤ 8) (ho : ∀ e, e < 4 * n → o e < 4 * n) (q : Nat → Int32) : ∃ L', (pcs o 0 (4 * n) (piI q 0 n) (nI n)).1 = nI L'.length ∧ Reps (Gen (gX o (4 * n))) (fun x => x < n) L' := by
  have hp : ∀ x, x < n → piI q 0 n x = nI x := fun x hx => by rw [piI_at, if_pos (by omega)]
  have := pcs_reps hn ho (4 * n) 0 (piI q 0 n) (List.range n) (by omega) List.nodup_range (fun x hx => ⟨fun _ => hp x hx, fun _ => List.mem_range.mpr hx⟩) (fun x hx => List.mem_range.mp hx) (fun x hx => ⟨x, hx, hp x hx, hp x hx⟩) (fun x y hx hy e => by
    rw [hp x hx, hp y hy] at e
    rw [(nI_eq (by omega) (by omega)).mp e]
    exact Gen.rf y) (fun j hj => by omega)
  rw [List.length_range] at this
  exact this
-- the reference's pieces
/-- two ends of an edge, or of a crossing -/
def gE (o : Nat → Nat) (v N a b : Nat) : Prop := (v ≤ a ∧ a < v + N) ∧ (b = o a ∨ b / 4 = a / 4)
theorem rea_iff {o : Nat → Nat} {mt : Nat → Int32} {h : Nat} : rea o mt h = true ↔ (∃ j, j / 4 = h / 4 ∧ ¬ mt j = 0) ∨ ¬ mt (o h) = 0 := by
  unfold rea
  simp only [Bool.or_eq_true, decide_eq_true_eq]
  constructor
  · rintro ((((q | q) | q) | q) | q)
    · exact Or.inl ⟨_, by omega, q⟩
    · exact Or.inl ⟨_, by omega, q⟩
    · exact Or.inl ⟨_, by omega, q⟩
    · exact Or.inl ⟨_, by omega, q⟩
    · exact Or.inr q
  · rintro (⟨j, e, q⟩ | q)
    · have : j = h / 4 * 4 ∨ j = h / 4 * 4 + 1 ∨ j = h / 4 * 4 + 2 ∨ j = h / 4 * 4 + 3 := by omega
      rcases this with r | r | r | r <;> rw [r] at q
      · exact Or.inl (Or.inl (Or.inl (Or.inl q)))
      · exact Or.inl (Or.inl (Or.inl (Or.inr q)))
      · exact Or.inl (Or.inl (Or.inr q))
      · exact Or.inl (Or.inr q)
    · exact Or.inr q
theorem sp_pass {o : Nat → Nat} {v N : Nat} {P : Nat → Prop} (hP : ∀ h, v ≤ h → h < v + N → ((∃ j, j / 4 = h / 4 ∧ P j) ∨ P (o h)) → P h) : ∀ k h mt b, v ≤ h → h + k ≤ v + N → (∀ t, ¬ mt t = 0 → P t) →
    (∀ t, ¬ mt t = 0 → ¬ (itN (spS o) h k (mt, b)).1 t = 0) ∧ (∀ t, ¬ (itN (spS o) h k (mt, b)).1 t = 0 → P t) ∧ (b = true → (itN (spS o) h k (mt, b)).2 = true) ∧ ((itN (spS o) h k (mt, b)).2 = false → (itN (spS o) h k (mt, b)).1 = mt ∧ ∀ t, h ≤ t → t < h + k → ¬ (rea o mt t = true ∧ mt t = 0)) ∧ ((itN (spS o) h k (mt, b)).2 = true → b = true ∨ ∃ t, t < v + N ∧ mt t = 0 ∧ ¬ (itN (spS o) h k (mt, b)).1 t = 0) := by
  intro k
  induction k with
  | zero =>
    intro h mt b hv hk hm
    rw [itN_0]
    exact ⟨fun t q => q, hm, fun q => q, fun _ => ⟨rfl, fun t a c => by omega⟩, fun q => Or.inl q⟩
  | succ k ih =>
    intro h mt b hv hk hm
    rw [itN_s]
    unfold spS
    by_cases hc : rea o mt h = true ∧ mt h = 0
    · rw [if_pos hc]
      have hPh : P h := hP h hv (by omega) (by
        rcases rea_iff.mp hc.1 with ⟨j, e, q⟩ | q
        · exact Or.inl ⟨j, e, hm j q⟩
        · exact Or.inr (hm _ q))
      have k1 := ih (h + 1) (upd mt h 1) true (by omega) (by omega) (fun t q => by
        by_cases e : t = h
        · rw [e]; exact hPh
        · rw [upd_ne _ _ e] at q; exact hm t q)
      unfold spS at k1
      have hh := k1.1 h (by rw [upd_self]; decide)
      refine ⟨fun t q => ?_, k1.2.1, fun _ => k1.2.2.1 rfl, fun q => ?_, fun _ => Or.inr ⟨h, by omega, hc.2, hh⟩⟩
      · by_cases e : t = h
        · rw [e]; exact hh
        · exact k1.1 t (by rw [upd_ne _ _ e]; exact q)
      · rw [k1.2.2.1 rfl] at q
        cases q
    · rw [if_neg hc]
      have k1 := ih (h + 1) mt b (by omega) (by omega) hm
      unfold spS at k1
      refine ⟨k1.1, k1.2.1, k1.2.2.1, fun q => ⟨(k1.2.2.2.1 q).1, fun t a c => ?_⟩, k1.2.2.2.2⟩
      by_cases e : t = h
      · rw [e]; exact hc
      · exact (k1.2.2.2.1 q).2 t (by omega) (by omega)
theorem spO_spec {o : Nat → Nat} {v y : Nat} {P : Nat → Prop} (hv : v + 4 * y ≤ 64) (hP : ∀ h, v ≤ h → h < v + 4 * y → ((∃ j, j / 4 = h / 4 ∧ P j) ∨ P (o h)) → P h) : ∀ k mt, um (fun t => decide (¬ mt t = 0)) 64 ≤ k → (∀ t, ¬ mt t = 0 → P t) → ∃ mt', spO o v y (k + 1) mt = some mt' ∧ (∀ t, ¬ mt t = 0 → ¬ mt' t = 0) ∧ (∀ t, ¬ mt' t = 0 → P t) ∧ ∀ t, v ≤ t → t < v + 4 * y → rea o mt' t = true → ¬ mt' t = 0 := by
  intro k
  induction k with
  | zero =>
    intro mt hu hm
    have ps := sp_pass hP (4 * y) v mt false (by omega) (by omega) hm
    rw [spO]
    by_cases hc : (itN (spS o) v (4 * y) (mt, false)).2 = true
    · rcases ps.2.2.2.2 hc with q | ⟨t, t1, t2, t3⟩
      · cases q
      · have := um_0 (M := fun t => decide (¬ mt t = 0)) (N := 64) (e := t) (by omega) (by omega)
        rw [t2] at this
        simp at this
    · rw [if_neg hc]
      have hf : (itN (spS o) v (4 * y) (mt, false)).2 = false := by cases h : (itN (spS o) v (4 * y) (mt, false)).2 with | false => rfl | true => exact absurd h hc
      have p4 := ps.2.2.2.1 hf
      refine ⟨_, rfl, ps.1, ps.2.1, fun t a c d => ?_⟩
      rw [p4.1] at d ⊢
      exact fun q => p4.2 t a c ⟨d, q⟩
  | succ k ih =>
    intro mt hu hm
    have ps := sp_pass hP (4 * y) v mt false (by omega) (by omega) hm
    rw [spO]
    by_cases hc : (itN (spS o) v (4 * y) (mt, false)).2 = true
    · rw [if_pos hc]
      rcases ps.2.2.2.2 hc with q | ⟨t, t1, t2, t3⟩
      · cases q
      · have := um_lt (M := fun t => decide (¬ mt t = 0)) (M' := fun t => decide (¬ (itN (spS o) v (4 * y) (mt, false)).1 t = 0)) (N := 64) (e := t) (by omega) (by simp [t2]) (by simp [t3]) (fun t ht => decide_eq_true (ps.1 t (of_decide_eq_true ht)))
        obtain ⟨mt', h1, h2, h3, h4⟩ := ih _ (by omega) ps.2.1
        exact ⟨mt', h1, fun t q => h2 t (ps.1 t q), h3, h4⟩
    · rw [if_neg hc]
      have hf : (itN (spS o) v (4 * y) (mt, false)).2 = false := by cases h : (itN (spS o) v (4 * y) (mt, false)).2 with | false => rfl | true => exact absurd h hc
      have p4 := ps.2.2.2.1 hf
      refine ⟨_, rfl, ps.1, ps.2.1, fun t a c d => ?_⟩
      rw [p4.1] at d ⊢
      exact fun q => p4.2 t a c ⟨d, q⟩
theorem pcM_reps {o : Nat → Nat} {v y : Nat} (hv : v + 4 * y ≤ 64) (h4 : v % 4 = 0) (ho : ∀ e, v ≤ e → e < v + 4 * y → v ≤ o e ∧ o e < v + 4 * y ∧ o (o e) = e) : ∀ (k x : Nat) (mt : Nat → Int32) (L : List Nat), x + k = v / 4 + y → v / 4 ≤ x → (∀ a, a ∈ L → v ≤ a ∧ a < v + 4 * y) → L.Pairwise (fun a b => ¬ Gen (gE o v (4 * y)) a b) → (∀ j, v ≤ j → j < 4 * x → ∃ a, a ∈ L ∧ Gen (gE o v (4 * y)) a j) → (∀ t, t < 64 → (¬ mt t = 0 ↔ ∃ a, a ∈ L ∧ Gen (gE o v (4 * y)) a t)) → ∃ R L', pcM o v y 65 x k mt L.length = some R ∧ R.1 = L'.length ∧ Reps (Gen (gE o v (4 * y))) (fun t => v ≤ t ∧ t < v + 4 * y) L' := by
  have hin : ∀ a t, v ≤ a → a < v + 4 * y → Gen (gE o v (4 * y)) a t → v ≤ t ∧ t < v + 4 * y := fun a t h1 h2 hg => by
    refine (Gen.kept (P := fun x => v ≤ x ∧ x < v + 4 * y) ?_ hg).mp ⟨h1, h2⟩
    rintro c d ⟨hc, rfl | e⟩
    · exact ⟨fun _ => ⟨(ho c hc.1 hc.2).1, (ho c hc.1 hc.2).2.1⟩, fun _ => hc⟩
    · exact ⟨fun _ => by omega, fun _ => hc⟩
  intro k
  induction k with
  | zero =>
    intro x mt L hx h1 p1 p2 p3 p4
    rw [pcM]
    exact ⟨_, L, rfl, rfl, p1, p2, fun j hj => p3 j hj.1 (by omega)⟩
  | succ k ih =>
    intro x mt L hx h1 p1 p2 p3 p4
    rw [pcM]
    have same : ∀ j, 4 * x ≤ j → j < 4 * x + 4 → Gen (gE o v (4 * y)) (4 * x) j := fun j a b => Gen.one ⟨by omega, Or.inr (by omega)⟩
    by_cases hc : mt (4 * x) = 0
    · rw [if_pos hc]
      have hno : ∀ b, b ∈ L → ¬ Gen (gE o v (4 * y)) b (4 * x) := fun b hb hg => (p4 (4 * x) (by omega)).mpr ⟨b, hb, hg⟩ hc
      obtain ⟨mt', s1, s2, s3, s4⟩ := spO_spec (o := o) (P := fun t => t < 64 → ∃ a, a ∈ L ++ [4 * x] ∧ Gen (gE o v (4 * y)) a t) hv (fun h a b hh _ => by
        rcases hh with ⟨j, e, hj⟩ | hj
        · obtain ⟨c, hc1, hc2⟩ := hj (by omega)
          exact ⟨c, hc1, hc2.tr (Gen.one ⟨⟨a, b⟩, Or.inr e⟩ : Gen (gE o v (4 * y)) h j).sm⟩
        · obtain ⟨c, hc1, hc2⟩ := hj (by have := ho h a b; omega)
          exact ⟨c, hc1, hc2.tr (Gen.one ⟨⟨a, b⟩, Or.inl rfl⟩ : Gen (gE o v (4 * y)) h (o h)).sm⟩) 64 (upd mt (4 * x) 1) (um_le _ _) (fun t q ht64 => by
        by_cases e : t = 4 * x
        · exact ⟨4 * x, List.mem_append_right _ List.mem_cons_self, by rw [e]; exact Gen.rf _⟩
        · rw [upd_ne _ _ e] at q
          obtain ⟨a, h5, h6⟩ := (p4 t ht64).mp q
          exact ⟨a, List.mem_append_left _ h5, h6⟩)
      rw [s1]
      show ∃ R L', pcM o v y 65 (x + 1) k mt' (L.length + 1) = some R ∧ _
      rw [show L.length + 1 = (L ++ [4 * x]).length by rw [List.length_append]; rfl]
      have cl : ∀ a b, gE o v (4 * y) a b → (¬ mt' a = 0 ↔ ¬ mt' b = 0) := by
        rintro a b ⟨ha, rfl | e⟩
        · have hb := ho a ha.1 ha.2
          refine ⟨fun q => ?_, fun q => s4 a ha.1 ha.2 (rea_iff.mpr (Or.inr q))⟩
          exact s4 (o a) hb.1 hb.2.1 (rea_iff.mpr (Or.inr (by rw [hb.2.2]; exact q)))
        · exact ⟨fun q => s4 b (by omega) (by omega) (rea_iff.mpr (Or.inl ⟨a, by omega, q⟩)), fun q => s4 a ha.1 ha.2 (rea_iff.mpr (Or.inl ⟨b, by omega, q⟩))⟩
      refine ih (x + 1) mt' (L ++ [4 * x]) (by omega) (by omega) (fun a ha => ?_) (Reps.snoc p2 hno) (fun j a b => ?_) (fun t ht64 => ⟨fun q => s3 t q ht64, fun ⟨a, h5, h6⟩ => ?_⟩)
      · rcases List.mem_append.mp ha with q | q
        · exact p1 a q
        · rw [List.mem_singleton.mp q]; omega
      · by_cases e : j < 4 * x
        · obtain ⟨c, h5, h6⟩ := p3 j a e
          exact ⟨c, List.mem_append_left _ h5, h6⟩
        · exact ⟨4 * x, List.mem_append_right _ List.mem_cons_self, same j (by omega) (by omega)⟩
      · refine (Gen.kept cl h6).mp ?_
        rcases List.mem_append.mp h5 with q | q
        · exact s2 a (by
            have := (p4 a (by have := p1 a q; omega)).mpr ⟨a, q, Gen.rf a⟩
            by_cases e : a = 4 * x
            · rw [e, upd_self]; decide
            · rw [upd_ne _ _ e]; exact this)
        · rw [List.mem_singleton.mp q]
          exact s2 _ (by rw [upd_self]; decide)
    · rw [if_neg hc]
      refine ih (x + 1) mt L (by omega) (by omega) p1 p2 (fun j a b => ?_) p4
      by_cases e : j < 4 * x
      · exact p3 j a e
      · obtain ⟨c, h5, h6⟩ := (p4 (4 * x) (by omega)).mp hc
        exact ⟨c, h5, h6.tr (same j (by omega) (by omega))⟩
theorem pcM_all {o : Nat → Nat} {v y : Nat} (hv : v + 4 * y ≤ 64) (h4 : v % 4 = 0) (ho : ∀ e, v ≤ e → e < v + 4 * y → v ≤ o e ∧ o e < v + 4 * y ∧ o (o e) = e) (mt : Nat → Int32) : ∃ R L', pcM o v y 65 (v / 4) y (clM mt) 0 = some R ∧ R.1 = L'.length ∧ Reps (Gen (gE o v (4 * y))) (fun t => v ≤ t ∧ t < v + 4 * y) L' := by
  refine pcM_reps hv h4 ho y (v / 4) (clM mt) [] rfl (Nat.le_refl _) (fun a ha => by cases ha) List.Pairwise.nil (fun j a b => by omega) (fun t ht => ?_)
  unfold clM
  rw [if_pos ht]
  exact ⟨fun q => absurd rfl q, fun ⟨a, ha, _⟩ => by cases ha⟩
theorem pieces_eq {o : Nat → Nat} {v n : Nat} (h4 : v % 4 = 0) (ho : ∀ e, e < 4 * n → o e < 4 * n) {L L' : List Nat} (h : Reps (Gen (gX o (4 * n))) (fun x => x < n) L) (h' : Reps (Gen (gE (shf v o) v (4 * n))) (fun t => v ≤ t ∧ t < v + 4 * n) L') : L.length = L'.length := by
  apply Nat.le_antisymm
  · refine h.le h' (fun a b => b = v + 4 * a) (fun a ha => ⟨v + 4 * a, by omega, rfl⟩) ?_
    rintro a a' b b' ha ha' rfl rfl hg
    have := Gen.map (K := gX o (4 * n)) (fun t => (t - v) / 4) (fun x y hxy => ?_) hg
    · simp only [show (v + 4 * a - v) / 4 = a by omega, show (v + 4 * a' - v) / 4 = a' by omega] at this
      exact this
    · obtain ⟨hx, rfl | e⟩ := hxy
      · refine Gen.one ⟨x - v, by omega, rfl, ?_⟩
        unfold shf
        show (v + o (x - v) - v) / 4 = o (x - v) / 4
        rw [show v + o (x - v) - v = o (x - v) by omega]
      · show Gen (gX o (4 * n)) ((x - v) / 4) ((y - v) / 4)
        rw [show (y - v) / 4 = (x - v) / 4 by omega]
        exact Gen.rf _
  · refine h'.le h (fun b a => a = (b - v) / 4) (fun b hb => ⟨(b - v) / 4, by omega, rfl⟩) ?_
    rintro b b' a a' hb hb' rfl rfl hg
    have s : ∀ t, v ≤ t ∧ t < v + 4 * n → Gen (gE (shf v o) v (4 * n)) t (v + 4 * ((t - v) / 4)) := fun t ht => Gen.one ⟨ht, Or.inr (by omega)⟩
    have m := Gen.map (K := gE (shf v o) v (4 * n)) (fun x => v + 4 * x) (fun x y hxy => ?_) hg
    · exact (s b hb).tr (m.tr (s b' hb').sm)
    · obtain ⟨i, hi, rfl, rfl⟩ := hxy
      have hoi := ho i hi
      have s1 := s (v + i) (by omega)
      have s2 := s (v + o i) (by omega)
      rw [show v + i - v = i by omega] at s1
      rw [show v + o i - v = o i by omega] at s2
      exact s1.sm.tr ((Gen.one ⟨by omega, Or.inl (by unfold shf; rw [show v + i - v = i by omega])⟩ : Gen (gE (shf v o) v (4 * n)) (v + i) (v + o i)).tr s2)
