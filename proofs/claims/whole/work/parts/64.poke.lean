theorem ap2 {F g : Nat → Int32} {n : Nat} {a b c d a' b' c' d' X Y X' Y' : Int32} {p p' : Bool} (hX : X = if p = true then d else b) (hY : Y = if p = true then b else d) (hX' : X' = if p' = true then d' else b') (hY' : Y' = if p' = true then b' else d') (h : inj2 F g n) (hi : ∀ v, v = a ∨ v = X ∨ v = a' ∨ v = X' → ¬ ∃ y, pas F g n v y) (ho : ∀ v, v = c ∨ v = Y ∨ v = c' ∨ v = Y' → ¬ ∃ x, pas F g n x v) (i1 : a ≠ X) (i2 : a' ≠ a) (i3 : a' ≠ X) (i4 : X' ≠ a) (i5 : X' ≠ X) (i6 : a' ≠ X') (o1 : c ≠ Y) (o2 : c' ≠ c) (o3 : c' ≠ Y) (o4 : Y' ≠ c) (o5 : Y' ≠ Y) (o6 : c' ≠ Y') : inj2 (apE (apE F n a b c d) (n + 1) a' b' c' d') (upd (upd g n (sgn p)) (n + 1) (sgn p')) (n + 2) ∧ ∀ u v, pas (apE (apE F n a b c d) (n + 1) a' b' c' d') (upd (upd g n (sgn p)) (n + 1) (sgn p')) (n + 2) u v ↔ (pas F g n u v ∨ (u = a ∧ v = c) ∨ (u = X ∧ v = Y)) ∨ (u = a' ∧ v = c') ∨ (u = X' ∧ v = Y') := by
  have P1 : ∀ u v, pas (apE F n a b c d) (upd g n (sgn p)) (n + 1) u v ↔ pas F g n u v ∨ (u = a ∧ v = c) ∨ (u = X ∧ v = Y) := fun u v => by rw [pas_ap, ← hX, ← hY]
  have I1 : inj2 (apE F n a b c d) (upd g n (sgn p)) (n + 1) := by
    refine inj2_ap h (hi a (Or.inl rfl)) ?_ ?_ (ho c (Or.inl rfl)) ?_ ?_
    · rw [← hX]; exact hi X (Or.inr (Or.inl rfl))
    · rw [← hX]; exact i1
    · rw [← hY]; exact ho Y (Or.inr (Or.inl rfl))
    · rw [← hY]; exact o1
  refine ⟨?_, fun u v => by rw [pas_ap, P1, ← hX', ← hY']⟩
  refine inj2_ap I1 ?_ ?_ ?_ ?_ ?_ ?_
  · rintro ⟨y, hy⟩
    rcases (P1 a' y).mp hy with z | z | z
    · exact hi a' (Or.inr (Or.inr (Or.inl rfl))) ⟨y, z⟩
    · exact i2 z.1
    · exact i3 z.1
  · rw [← hX']
    rintro ⟨y, hy⟩
    rcases (P1 X' y).mp hy with z | z | z
    · exact hi X' (Or.inr (Or.inr (Or.inr rfl))) ⟨y, z⟩
    · exact i4 z.1
    · exact i5 z.1
  · rw [← hX']; exact i6
  · rintro ⟨x, hx⟩
    rcases (P1 x c').mp hx with z | z | z
    · exact ho c' (Or.inr (Or.inr (Or.inl rfl))) ⟨x, z⟩
    · exact o2 z.2
    · exact o3 z.2
  · rw [← hY']
    rintro ⟨x, hx⟩
    rcases (P1 x Y').mp hx with z | z | z
    · exact ho Y' (Or.inr (Or.inr (Or.inr rfl))) ⟨x, z⟩
    · exact o4 z.2
    · exact o5 z.2
  · rw [← hY']; exact o6
theorem poke_Dia {f g : Nat → Int32} {n cc : Nat} {e y : Int32} (hD : Dia f g n cc) (hn : n ≤ 6) (hey : e ≠ y) (he : ∃ z, pas f g n e z) (hy : ∃ z, pas f g n y z) (b1 b2 : Bool) : Dia (pkE b1 b2 (pkF f g n e y) n e y (frI f n 0) (frI f n 1) (frI f n 2) (frI f n 3)) (upd (upd g n (sgn (pkB b1 b2))) (n + 1) (sgn (!(pkB b1 b2)))) (n + 2) cc := by
  obtain ⟨h1, h2, h3, h4, h5, h6, h7⟩ := hD
  have f0 := free_1 (f := f) (n := n) (by omega) (b := 0) (by omega)
  have f1 := free_1 (f := f) (n := n) (by omega) (b := 1) (by omega)
  have f2 := free_1 (f := f) (n := n) (by omega) (b := 2) (by omega)
  have f3 := free_1 (f := f) (n := n) (by omega) (b := 3) (by omega)
  have d01 := free_2 (f := f) (n := n) (by omega) (b := 0) (c := 1) (by omega) (by omega)
  have d02 := free_2 (f := f) (n := n) (by omega) (b := 0) (c := 2) (by omega) (by omega)
  have d03 := free_2 (f := f) (n := n) (by omega) (b := 0) (c := 3) (by omega) (by omega)
  have d12 := free_2 (f := f) (n := n) (by omega) (b := 1) (c := 2) (by omega) (by omega)
  have d13 := free_2 (f := f) (n := n) (by omega) (b := 1) (c := 3) (by omega) (by omega)
  have d23 := free_2 (f := f) (n := n) (by omega) (b := 2) (c := 3) (by omega) (by omega)
  have hE : ∃ x, 1 ≤ x ∧ x ≤ 32 ∧ e = nI x := by
    obtain ⟨z, t, t1, t2, t3, t4⟩ := he
    rw [← t3]; exact h2 t t1
  have hY : ∃ x, 1 ≤ x ∧ x ≤ 32 ∧ y = nI x := by
    obtain ⟨z, t, t1, t2, t3, t4⟩ := hy
    rw [← t3]; exact h2 t t1
  unfold pkF
  generalize frI f n 0 = e1 at *
  generalize frI f n 1 = e2 at *
  generalize frI f n 2 = y1 at *
  generalize frI f n 3 = y2 at *
  have n0 := pas_none (g := g) f0.2
  have n1 := pas_none (g := g) f1.2
  have n2 := pas_none (g := g) f2.2
  have n3 := pas_none (g := g) f3.2
  have o0 := pas_nf h5 n0
  have o1 := pas_nf h5 n1
  have o2 := pas_nf h5 n2
  have o3 := pas_nf h5 n3
  have ne : ∀ v, (¬ ∃ z, pas f g n v z) → e ≠ v ∧ y ≠ v := fun v hv => ⟨fun q => hv (q ▸ he), fun q => hv (q ▸ hy)⟩
  have ee1 := (ne e1 n0).1
  have ee2 := (ne e2 n1).1
  have ey1 := (ne y1 n2).1
  have ey2 := (ne y2 n3).1
  have ye1 := (ne e1 n0).2
  have ye2 := (ne e2 n1).2
  have yy1 := (ne y1 n2).2
  have yy2 := (ne y2 n3).2
  -- the two edges brought in
  have ij := inj2_br (q := e) h4 n1
  have pb := pas_br h4 he e2
  have hy' : ∃ z, pas (brA f g n e2 e) g n y z := by
    obtain ⟨z, hz⟩ := hy
    exact ⟨z, (pb y z).mpr (Or.inl ⟨hz, hey.symm⟩)⟩
  have n3' : ¬ ∃ z, pas (brA f g n e2 e) g n y2 z := fun ⟨z, hz⟩ => by
    rcases (pb y2 z).mp hz with q | q
    · exact n3 ⟨z, q.1⟩
    · exact d13 q.1.symm
  have ij2 := inj2_br (q := y) ij n3'
  have pb2 := pas_br ij hy' y2
  have ed2 := edg_br (g := g) (q := y) (edg_br (g := g) (q := e) h2 f1.1) f3.1
  generalize brA (brA f g n e2 e) g n y2 y = F at *
  have full : ∀ u v, pas F g n u v ↔ (pas f g n u v ∧ u ≠ e ∧ u ≠ y) ∨ (u = e2 ∧ pas f g n e v) ∨ (u = y2 ∧ pas f g n y v) := by
    intro u v
    rw [pb2 u v, pb u v, pb y v]
    constructor
    · rintro (⟨⟨q1, q2⟩ | ⟨q1, q2⟩, q3⟩ | ⟨q1, ⟨q2, q3⟩ | ⟨q2, q3⟩⟩)
      · exact Or.inl ⟨q1, q2, q3⟩
      · exact Or.inr (Or.inl ⟨q1, q2⟩)
      · exact Or.inr (Or.inr ⟨q1, q2⟩)
      · exact absurd q2 ye2
    · rintro (⟨q1, q2, q3⟩ | ⟨q1, q2⟩ | ⟨q1, q2⟩)
      · exact Or.inl ⟨Or.inl ⟨q1, q2⟩, q3⟩
      · exact Or.inl ⟨Or.inr ⟨q1, q2⟩, fun z => ye2 (z.symm.trans q1)⟩
      · exact Or.inr ⟨q1, Or.inl ⟨q2, hey.symm⟩⟩
  have inN : ∀ v, v = e ∨ v = y ∨ v = e1 ∨ v = y1 → ¬ ∃ z, pas F g n v z := by
    rintro v hv ⟨z, hz⟩
    rcases (full v z).mp hz with ⟨q1, q2, q3⟩ | ⟨q1, q2⟩ | ⟨q1, q2⟩
    · rcases hv with r | r | r | r
      · exact q2 r
      · exact q3 r
      · exact n0 ⟨z, r ▸ q1⟩
      · exact n2 ⟨z, r ▸ q1⟩
    · rcases hv with r | r | r | r
      · exact ee2 (r.symm.trans q1)
      · exact ye2 (r.symm.trans q1)
      · exact d01 (r.symm.trans q1)
      · exact d12 (q1.symm.trans r)
    · rcases hv with r | r | r | r
      · exact ey2 (r.symm.trans q1)
      · exact yy2 (r.symm.trans q1)
      · exact d03 (r.symm.trans q1)
      · exact d23 (r.symm.trans q1)
  have ouN : ∀ v, v = e1 ∨ v = e2 ∨ v = y1 ∨ v = y2 → ¬ ∃ x, pas F g n x v := by
    rintro v hv ⟨x, hx⟩
    have : ∃ x, pas f g n x v := by
      rcases (full x v).mp hx with ⟨q1, q2, q3⟩ | ⟨q1, q2⟩ | ⟨q1, q2⟩
      · exact ⟨x, q1⟩
      · exact ⟨e, q2⟩
      · exact ⟨y, q2⟩
    rcases hv with r | r | r | r <;> rw [r] at this
    · exact o0 this
    · exact o1 this
    · exact o2 this
    · exact o3 this
  -- what the strands are then
  have T1 := bas_ins h7 h5 (inj2_fn h4) he n0 n1 d01
  have T2 := bal_ins (a := e1) (b := e2) h5 he
  have T3 := fnS_ins h5 (inj2_fn h4) he n0 n1 d01
  have ty : ∃ z, insS (pas f g n) e e1 e2 y z := by
    obtain ⟨z, hz⟩ := hy
    exact ⟨z, Or.inl ⟨hz, hey.symm⟩⟩
  have tn : ∀ v, (v = y1 ∨ v = y2) → ¬ ∃ z, insS (pas f g n) e e1 e2 v z := by
    rintro v hv ⟨z, q | q | q | q⟩
    · rcases hv with r | r
      · exact n2 ⟨z, r ▸ q.1⟩
      · exact n3 ⟨z, r ▸ q.1⟩
    · rcases hv with r | r
      · exact d12 (q.1.symm.trans r)
      · exact d13 (q.1.symm.trans r)
    · rcases hv with r | r
      · exact ey1 (q.1.symm.trans r)
      · exact ey2 (q.1.symm.trans r)
    · rcases hv with r | r
      · exact d02 (q.1.symm.trans r)
      · exact d03 (q.1.symm.trans r)
  have U1 := bas_ins T1 T2 T3 ty (tn y1 (Or.inl rfl)) (tn y2 (Or.inr rfl)) d23
  have U2 := bal_ins (a := y1) (b := y2) T2 ty
  have key : ∀ (F' g' : Nat → Int32), edg (4 * (n + 2)) F' → sgOK (n + 2) g' → inj2 F' g' (n + 2) → (∀ u v, pas F' g' (n + 2) u v ↔ pas F g n u v ∨ (u = e ∧ v = e1) ∨ (u = e1 ∧ v = e2) ∨ (u = y ∧ v = y1) ∨ (u = y1 ∧ v = y2)) → Dia F' g' (n + 2) cc := by
    intro F' g' k1 k2 k3 k4
    have hs : ∀ u v, pas F' g' (n + 2) u v ↔ insS (insS (pas f g n) e e1 e2) y y1 y2 u v := by
      intro u v
      rw [k4 u v, full u v]
      unfold insS
      constructor
      · rintro ((⟨q1, q2, q3⟩ | ⟨q1, q2⟩ | ⟨q1, q2⟩) | ⟨q1, q2⟩ | ⟨q1, q2⟩ | ⟨q1, q2⟩ | ⟨q1, q2⟩)
        · exact Or.inl ⟨Or.inl ⟨q1, q2⟩, q3⟩
        · exact Or.inl ⟨Or.inr (Or.inl ⟨q1, q2⟩), fun z => ye2 (z.symm.trans q1)⟩
        · exact Or.inr (Or.inl ⟨q1, Or.inl ⟨q2, hey.symm⟩⟩)
        · exact Or.inl ⟨Or.inr (Or.inr (Or.inl ⟨q1, q2⟩)), fun z => hey (q1.symm.trans z)⟩
        · exact Or.inl ⟨Or.inr (Or.inr (Or.inr ⟨q1, q2⟩)), fun z => ye1 (z.symm.trans q1)⟩
        · exact Or.inr (Or.inr (Or.inl ⟨q1, q2⟩))
        · exact Or.inr (Or.inr (Or.inr ⟨q1, q2⟩))
      · rintro (⟨⟨q1, q2⟩ | ⟨q1, q2⟩ | ⟨q1, q2⟩ | ⟨q1, q2⟩, q3⟩ | ⟨q1, ⟨q2, q3⟩ | ⟨q2, q3⟩ | ⟨q2, q3⟩ | ⟨q2, q3⟩⟩ | ⟨q1, q2⟩ | ⟨q1, q2⟩)
        · exact Or.inl (Or.inl ⟨q1, q2, q3⟩)
        · exact Or.inl (Or.inr (Or.inl ⟨q1, q2⟩))
        · exact Or.inr (Or.inl ⟨q1, q2⟩)
        · exact Or.inr (Or.inr (Or.inl ⟨q1, q2⟩))
        · exact Or.inl (Or.inr (Or.inr ⟨q1, q2⟩))
        · exact absurd q2 ye2
        · exact absurd q2 hey.symm
        · exact absurd q2 ye1
        · exact Or.inr (Or.inr (Or.inr (Or.inl ⟨q1, q2⟩)))
        · exact Or.inr (Or.inr (Or.inr (Or.inr ⟨q1, q2⟩)))
    refine ⟨by omega, k1, k2, k3, ?_, Or.inl (by omega), ?_⟩
    · rw [bal_congr hs]; exact U2
    · rw [bal_congr hs]; exact U1
  have ed4 : ∀ (a b c d a' b' c' d' : Int32), (∀ v, (v = a ∨ v = b ∨ v = c ∨ v = d ∨ v = a' ∨ v = b' ∨ v = c' ∨ v = d') → v = e ∨ v = y ∨ v = e1 ∨ v = e2 ∨ v = y1 ∨ v = y2) → edg (4 * (n + 2)) (apE (apE F n a b c d) (n + 1) a' b' c' d') := by
    intro a b c d a' b' c' d' hv
    have lv : ∀ v, (v = a ∨ v = b ∨ v = c ∨ v = d ∨ v = a' ∨ v = b' ∨ v = c' ∨ v = d') → ∃ k, 1 ≤ k ∧ k ≤ 32 ∧ v = nI k := by
      intro v h
      rcases hv v h with rfl | rfl | rfl | rfl | rfl | rfl
      · exact hE
      · exact hY
      · exact f0.1
      · exact f1.1
      · exact f2.1
      · exact f3.1
    refine apE_all (P := fun _ v => ∃ x, 1 ≤ x ∧ x ≤ 32 ∧ v = nI x) (apE_all (P := fun _ v => ∃ x, 1 ≤ x ∧ x ≤ 32 ∧ v = nI x) ed2 ?_ ?_ ?_ ?_) ?_ ?_ ?_ ?_ <;> apply lv <;> simp
  have sg := fun p p' => sgOK_up p' (sgOK_up p h3)
  have inT : ∀ v, v = y1 ∨ v = e ∨ v = y ∨ v = e1 → ¬ ∃ z, pas F g n v z := fun v hv => inN v (by rcases hv with r | r | r | r <;> simp [r])
  have ouT : ∀ v, v = y2 ∨ v = e1 ∨ v = y1 ∨ v = e2 → ¬ ∃ x, pas F g n x v := fun v hv => ouN v (by rcases hv with r | r | r | r <;> simp [r])
  have inU : ∀ v, v = y ∨ v = e ∨ v = y1 ∨ v = e1 → ¬ ∃ z, pas F g n v z := fun v hv => inN v (by rcases hv with r | r | r | r <;> simp [r])
  have ouU : ∀ v, v = y1 ∨ v = e1 ∨ v = y2 ∨ v = e2 → ¬ ∃ x, pas F g n x v := fun v hv => ouN v (by rcases hv with r | r | r | r <;> simp [r])
  have swA : ∀ u v, (pas F g n u v ∨ (u = y1 ∧ v = y2) ∨ (u = e ∧ v = e1)) ∨ (u = y ∧ v = y1) ∨ (u = e1 ∧ v = e2) ↔ pas F g n u v ∨ (u = e ∧ v = e1) ∨ (u = e1 ∧ v = e2) ∨ (u = y ∧ v = y1) ∨ (u = y1 ∧ v = y2) := fun u v => by
    constructor
    · rintro ((q | q | q) | q | q) <;> simp [q]
    · rintro (q | q | q | q | q) <;> simp [q]
  have swB : ∀ u v, (pas F g n u v ∨ (u = y ∧ v = y1) ∨ (u = e ∧ v = e1)) ∨ (u = y1 ∧ v = y2) ∨ (u = e1 ∧ v = e2) ↔ pas F g n u v ∨ (u = e ∧ v = e1) ∨ (u = e1 ∧ v = e2) ∨ (u = y ∧ v = y1) ∨ (u = y1 ∧ v = y2) := fun u v => by
    constructor
    · rintro ((q | q | q) | q | q) <;> simp [q]
    · rintro (q | q | q | q | q) <;> simp [q]
  match b1, b2 with
  | true, true =>
    have A := ap2 (F := F) (g := g) (n := n) (a := y1) (b := e) (c := y2) (d := e1) (a' := y) (b' := e2) (c' := y1) (d' := e1) (p := false) (p' := true) (X := e) (Y := e1) (X' := e1) (Y' := e2) rfl rfl rfl rfl ij2 inT ouT ey1.symm yy1 hey.symm d02 ee1.symm ye1 d03.symm d23 d02.symm d13 d01.symm d12.symm
    exact key _ _ (ed4 _ _ _ _ _ _ _ _ (by intro v hv; rcases hv with r | r | r | r | r | r | r | r <;> simp [r])) (sg false true) A.1 (fun u v => (A.2 u v).trans (swA u v))
  | true, false =>
    have A := ap2 (F := F) (g := g) (n := n) (a := y) (b := e1) (c := y1) (d := e) (a' := y1) (b' := e1) (c' := y2) (d' := e2) (p := true) (p' := false) (X := e) (Y := e1) (X' := e1) (Y' := e2) rfl rfl rfl rfl ij2 inU ouU hey.symm yy1.symm ey1.symm ye1.symm ee1.symm d02.symm d02.symm d23.symm d03.symm d12 d01.symm d13.symm
    exact key _ _ (ed4 _ _ _ _ _ _ _ _ (by intro v hv; rcases hv with r | r | r | r | r | r | r | r <;> simp [r])) (sg true false) A.1 (fun u v => (A.2 u v).trans (swB u v))
  | false, true =>
    have A := ap2 (F := F) (g := g) (n := n) (a := y) (b := e) (c := y1) (d := e1) (a' := y1) (b' := e2) (c' := y2) (d' := e1) (p := false) (p' := true) (X := e) (Y := e1) (X' := e1) (Y' := e2) rfl rfl rfl rfl ij2 inU ouU hey.symm yy1.symm ey1.symm ye1.symm ee1.symm d02.symm d02.symm d23.symm d03.symm d12 d01.symm d13.symm
    exact key _ _ (ed4 _ _ _ _ _ _ _ _ (by intro v hv; rcases hv with r | r | r | r | r | r | r | r <;> simp [r])) (sg false true) A.1 (fun u v => (A.2 u v).trans (swB u v))
  | false, false =>
    have A := ap2 (F := F) (g := g) (n := n) (a := y1) (b := e1) (c := y2) (d := e) (a' := y) (b' := e1) (c' := y1) (d' := e2) (p := true) (p' := false) (X := e) (Y := e1) (X' := e1) (Y' := e2) rfl rfl rfl rfl ij2 inT ouT ey1.symm yy1 hey.symm d02 ee1.symm ye1 d03.symm d23 d02.symm d13 d01.symm d12.symm
    exact key _ _ (ed4 _ _ _ _ _ _ _ _ (by intro v hv; rcases hv with r | r | r | r | r | r | r | r <;> simp [r])) (sg true false) A.1 (fun u v => (A.2 u v).trans (swA u v))
theorem eOn_ex {f g : Nat → Int32} {n : Nat} {e : Int32} (hb : bal (pas f g n)) (he : ∃ y, pas f g n e y) (b : Bool) : ∃ a, a < 4 * n ∧ eOn f g e b 0 (4 * n) = some a := by
  cases h : eOn f g e b 0 (4 * n) with
  | some a => exact ⟨a, by have := eOn_s (4 * n) 0 a h; omega, rfl⟩
  | none =>
    have hn := eOn_n (4 * n) 0 h
    cases b with
    | true =>
      obtain ⟨y, t, t1, t2, t3, t4⟩ := he
      exact absurd ⟨t3, t2⟩ (hn t (by omega) (by omega))
    | false =>
      obtain ⟨x, t, t1, t2, t3, t4⟩ := (hb e).mp he
      exact absurd ⟨t4, by rw [cin_opp, t2]; rfl⟩ (hn (opp t) (by omega) (by have := opp_ltn t1; omega))
theorem mkF_iff {nx : Nat → Nat} {N : Nat} (hN : N ≤ 32) (h : Prm nx (fun t => t < N ∧ (fun _ : Nat => true) t = true) N) {a b : Nat} (ha : a < N) (hb : b < N) (s : Nat → Int32) : mkF nx 32 (fl0 s 32) a b = 1 ↔ Gen (step nx (fun t => t < N ∧ (fun _ : Nat => true) t = true)) a b := by
  obtain ⟨m, h1, h2, h3, h4⟩ := h.back ⟨ha, rfl⟩
  have z : ∀ t, t < 32 → fl0 s 32 t = 0 := fun t ht => by unfold fl0; rw [if_pos ht]
  have key := mkF_spec h ⟨ha, rfl⟩ h1 h3 h4 (s := fl0 s 32) (fun j => z _ (by have := (h.itD ⟨ha, rfl⟩ j).1; omega)) 32 0 (fl0 s 32) (by omega) (by omega) (fun i hi => by omega) (fun t _ => rfl)
  rw [itf_0] at key
  constructor
  · intro hm
    refine Classical.byContradiction fun hg => ?_
    rw [key.2 b (fun i hi e => hg (by rw [e]; exact Gen.it h ⟨ha, rfl⟩ i)), z b (by omega)] at hm
    exact absurd hm (by decide)
  · intro hg
    obtain ⟨t, ht, rfl⟩ := h.cyc ⟨ha, rfl⟩ h1 h3 hg
    exact key.1 t ht
theorem face_same {f g : Nat → Int32} {n a b : Nat} (hn : n ≤ 8) (ho : Ot f g n (oth f n)) (ha : a < 4 * n) (hb : b < 4 * n) (s : Nat → Int32) : mkF (fol f n) 32 (fl0 s 32) a b = 1 ↔ faM (oth f n) a = faM (oth f n) b := by
  have hp := ho.pfol
  rw [mkF_iff (by omega) hp ha hb]
  have e : fM (oth f n) = fol f n := by funext t; exact fM_fol
  unfold faM
  rw [e]
  have k1 := fc_spec hp (by omega) (a := a) ⟨ha, rfl⟩
  have k2 := fc_spec hp (by omega) (a := b) ⟨hb, rfl⟩
  constructor
  · intro hg
    have l1 := k1.1 _ (hg.tr k2.2.1)
    have l2 := k2.1 _ (hg.sm.tr k1.2.1)
    omega
  · intro he
    have := k1.2.1
    rw [he] at this
    exact this.tr k2.2.1.sm
theorem pkE_ag {f me : Nat → Int32} {n : Nat} (b1 b2 : Bool) (e y e1 e2 f1 f2 : Int32) (h : agE (4 * n) f me) : agE (4 * (n + 2)) (pkE b1 b2 f n e y e1 e2 f1 f2) (pkM b1 b2 me n e y e1 e2 f1 f2) := by
  unfold pkE pkM
  cases b1 <;> cases b2 <;> exact agE_ap _ _ _ _ (agE_ap _ _ _ _ h)
theorem pkM_far {me : Nat → Int32} {n t : Nat} (b1 b2 : Bool) (e y e1 e2 f1 f2 : Int32) (ht : 4 * (n + 2) ≤ t) : pkM b1 b2 me n e y e1 e2 f1 f2 t = me t := by
  unfold pkM
  cases b1 <;> cases b2 <;> (show apE (apE me n _ _ _ _) (n + 1) _ _ _ _ t = me t; rw [apE_far _ _ _ _ (by omega), apE_far _ _ _ _ (by omega)])
theorem st_poke : ∀ w, Inv w → ∀ (a : Int32) (b : Bool) (c : Int32) (d : Bool), zOpI M_A_poke M_M_poke [.int a, .int (zb b), .int c, .int (zb d)] Inv w := by
  rintro w ⟨nd, fd, gd, n, f, g, nf, ff, gf, s, q, oe, t, m, l, u, c0, ln, mi, wd, pl, lt, cc, me, mp, mw, mv, my, mt, ms, mq, mh, ma, mz, mk, mn, mr, mx, rfl, hd, hg, hw, hu⟩ e b1 y b2
  have hn := hg.1.1
  have ho := hg.1.ot
  have hbal := hg.1.2.2.2.2.1
  have hwin := win_0 ho hg.2.1
  have nE : ∀ v, eOM me mp v true 0 (4 * n) = none ↔ ¬ occ f v 0 (4 * n) = true := fun v => by
    rw [eOM_ag hg.2.1 hg.2.2 v true (4 * n) 0 (by omega)]
    constructor
    · intro h hc
      obtain ⟨a, _, ha⟩ := eOn_ex hbal (occ_pas hbal hc) true
      rw [h] at ha
      cases ha
    · intro h
      cases hh : eOn f g v true 0 (4 * n) with
      | none => rfl
      | some a =>
        have := eOn_s (4 * n) 0 a hh
        exact absurd ((occ_iff (4 * n) 0).mpr ⟨a, this.1, this.2.1⟩) h
  by_cases h : n ≤ 6 ∧ ¬ e = y ∧ occ f e 0 (4 * n) = true ∧ occ f y 0 (4 * n) = true
  · obtain ⟨h1, h2, h3, h4⟩ := h
    have he := occ_pas hbal h3
    have hy := occ_pas hbal h4
    obtain ⟨a, la, ea⟩ := eOn_ex hbal he b1
    obtain ⟨b, lb, eb⟩ := eOn_ex hbal hy b2
    have n3 : ¬ eOM me mp e true 0 (4 * n) = none := fun z => (nE e).mp z h3
    have n4 : ¬ eOM me mp y true 0 (4 * n) = none := fun z => (nE y).mp z h4
    have ea' : eOM me mp e b1 0 (4 * n) = some a := by rw [eOM_ag hg.2.1 hg.2.2 e b1 (4 * n) 0 (by omega)]; exact ea
    have eb' : eOM me mp y b2 0 (4 * n) = some b := by rw [eOM_ag hg.2.1 hg.2.2 y b2 (4 * n) 0 (by omega)]; exact eb
    have hr := faces_rch (v := 0) hn ho rfl (by omega)
    rw [shf_0] at hr
    have fs := face_same hn ho la lb s
    by_cases hm : mkF (fol f n) 32 (fl0 s 32) a b = 1
    · refine opI (fun T => sp_A_poke h1 h2 h3 h4 ea eb hm) (fun X => sp_M_poke h1 h2 n3 n4 ea' eb' hwin hr (fs.mp hm)) (Inv.of (hd.keep (fun i _ => ?_) (fun x _ => ?_)) ⟨poke_Dia hg.1 h1 h2 he hy b1 b2, ?_, agP_up _ (agP_up _ hg.2.2)⟩ hw hu)
      · unfold pmF
        rw [pkM_far _ _ _ _ _ _ _ _ (by omega), inA_far _ _ (by omega), inA_far _ _ (by omega)]
      · rw [upd_ne _ _ (by omega), upd_ne _ _ (by omega)]
      · unfold pmF pkF
        rw [frI_ag hg.2.1, frI_ag hg.2.1, frI_ag hg.2.1, frI_ag hg.2.1]
        exact pkE_ag b1 b2 _ _ _ _ _ _ (inA_ag (inA_ag hg.2.1 hg.2.2 _ _) hg.2.2 _ _)
    · exact opI (fun T => sp_A_poke_face h1 h2 h3 h4 ea eb hm) (fun X => sp_M_poke_face h1 h2 n3 n4 ea' eb' hwin hr (fun z => hm (fs.mpr z))) (Inv.of hd hg hw hu)
  · refine opI (fun T => sp_A_poke_no hn h) (fun X => sp_M_poke_no hn (fun z => h ?_)) (Inv.of hd hg hw hu)
    obtain ⟨z1, z2, z3, z4⟩ := z
    exact ⟨z1, z2, Classical.byContradiction fun q => z3 ((nE e).mpr q), Classical.byContradiction fun q => z4 ((nE y).mpr q)⟩
