theorem occ_iff {f : Nat → Int32} {x : Int32} : ∀ k i, occ f x i k = true ↔ ∃ t, (i ≤ t ∧ t < i + k) ∧ f t = x := by
  intro k
  induction k with
  | zero => intro i; exact ⟨fun h => (by cases h), fun ⟨t, h, _⟩ => by omega⟩
  | succ k ih =>
    intro i
    rw [occ]
    by_cases h : f i = x
    · rw [if_pos h]
      exact ⟨fun _ => ⟨i, by omega, h⟩, fun _ => rfl⟩
    · rw [if_neg h, ih (i + 1)]
      constructor
      · rintro ⟨t, h1, h2⟩
        exact ⟨t, by omega, h2⟩
      · rintro ⟨t, h1, h2⟩
        have : t ≠ i := fun e => h (e ▸ h2)
        exact ⟨t, by omega, h2⟩
theorem occ_ag {f me : Nat → Int32} {N : Nat} (h : agE N f me) (x : Int32) : ∀ k i, i + k ≤ N → occ me x i k = occ f x i k := by
  intro k
  induction k with
  | zero => intro i _; rfl
  | succ k ih =>
    intro i hi
    rw [occ, occ, h i (by omega), ih (i + 1) (by omega)]
theorem frE_ag {f me : Nat → Int32} {n : Nat} (h : agE (4 * n) f me) : ∀ k i b, frE me n i k b = frE f n i k b := by
  intro k
  induction k with
  | zero => intro i b; rfl
  | succ k ih =>
    intro i b
    rw [frE, frE, occ_ag h _ (4 * n) 0 (by omega), ih, ih]
theorem frI_ag {f me : Nat → Int32} {n : Nat} (h : agE (4 * n) f me) (b : Nat) : frI me n b = frI f n b := by
  unfold frI
  rw [frE_ag h]
theorem eOM_ag {f g me mp : Nat → Int32} {n : Nat} (h1 : agE (4 * n) f me) (h2 : agP n g mp) (x : Int32) (b : Bool) : ∀ k i, i + k ≤ 4 * n → eOM me mp x b i k = eOn f g x b i k := by
  intro k
  induction k with
  | zero => intro i _; rfl
  | succ k ih =>
    intro i hi
    rw [eOM, eOn, h1 i (by omega), inM_cin (h2 (i / 4) (by omega)), ih (i + 1) (by omega)]
theorem inA_ag {f g me mp : Nat → Int32} {n : Nat} (h1 : agE (4 * n) f me) (h2 : agP n g mp) (p q : Int32) : agE (4 * n) (brA f g n p q) (inA me mp n p q) := by
  unfold brA inA
  rw [eOM_ag h1 h2 q true (4 * n) 0 (by omega)]
  cases eOn f g q true 0 (4 * n) with
  | none => exact h1
  | some i =>
    intro t ht
    show upd me i p t = upd f i p t
    by_cases e : t = i
    · rw [e, upd_self, upd_self]
    · rw [upd_ne _ _ e, upd_ne _ _ e]
      exact h1 t ht
/-- the free edges in their order -/
def frL (f : Nat → Int32) (n i k : Nat) : List Nat := (List.range' i k).filter (fun t => !occ f (nI t) 0 (4 * n))
theorem frE_L {f : Nat → Int32} {n : Nat} : ∀ k i b, frE f n i k b = (frL f n i k).getD b 0 := by
  intro k
  induction k with
  | zero => intro i b; rfl
  | succ k ih =>
    intro i b
    rw [frE]
    unfold frL
    rw [List.range'_succ, List.filter_cons]
    cases h : occ f (nI i) 0 (4 * n) with
    | true =>
      rw [if_pos rfl, if_neg (by decide)]
      exact ih (i + 1) b
    | false =>
      rw [if_neg (by decide)]
      show (if b = 0 then i else frE f n (i + 1) k (b - 1)) = (i :: frL f n (i + 1) k).getD b 0
      cases b with
      | zero => rfl
      | succ b =>
        rw [if_neg (by omega)]
        exact ih (i + 1) b
theorem frL_len {f : Nat → Int32} {n : Nat} : 32 ≤ (frL f n 1 32).length + 4 * n := by
  have := pigR (A := List.range' 1 32) (B := frL f n 1 32 ++ List.range' 100 (4 * n)) (r := fun t b => (b = t ∧ t < 100) ∨ (100 ≤ b ∧ f (b - 100) = nI t)) (by
    refine List.Pairwise.imp_of_mem ?_ (List.pairwise_lt_range' (s := 1) (n := 32) (step := 1))
    intro a a' ha ha' hlt b h h'
    have l1 := List.mem_range'_1.mp ha
    have l2 := List.mem_range'_1.mp ha'
    rcases h with ⟨h1, h2⟩ | ⟨h1, h2⟩ <;> rcases h' with ⟨k1, k2⟩ | ⟨k1, k2⟩
    · omega
    · omega
    · omega
    · have := (nI_eq (by omega) (by omega)).mp (h2.symm.trans k2)
      omega) (fun t ht => by
    have l1 := List.mem_range'_1.mp ht
    cases h : occ f (nI t) 0 (4 * n) with
    | false => exact ⟨t, List.mem_append_left _ (List.mem_filter.mpr ⟨ht, by rw [h]; rfl⟩), Or.inl ⟨rfl, by omega⟩⟩
    | true =>
      obtain ⟨j, h1, h2⟩ := (occ_iff (4 * n) 0).mp h
      exact ⟨100 + j, List.mem_append_right _ (List.mem_range'_1.mpr (by omega)), Or.inr ⟨by omega, by rw [show 100 + j - 100 = j by omega]; exact h2⟩⟩)
  rw [List.length_range', List.length_append, List.length_range'] at this
  exact this
theorem free_1 {f : Nat → Int32} {n : Nat} (hn : n ≤ 7) {b : Nat} (hb : b < 4) : (∃ k, 1 ≤ k ∧ k ≤ 32 ∧ frI f n b = nI k) ∧ ∀ t, t < 4 * n → f t ≠ frI f n b := by
  have hl := frL_len (f := f) (n := n)
  have hlt : b < (frL f n 1 32).length := by omega
  have e : frE f n 1 32 b = (frL f n 1 32)[b] := by rw [frE_L, List.getD_eq_getElem?_getD, List.getElem?_eq_getElem hlt]; rfl
  have hm := List.mem_filter.mp (List.getElem_mem hlt)
  have hr := List.mem_range'_1.mp hm.1
  unfold frI
  rw [e]
  refine ⟨⟨_, by omega, by omega, rfl⟩, fun t ht hf => ?_⟩
  have : occ f (nI (frL f n 1 32)[b]) 0 (4 * n) = true := (occ_iff (4 * n) 0).mpr ⟨t, by omega, hf⟩
  have h2 := hm.2
  rw [this] at h2
  cases h2
theorem free_2 {f : Nat → Int32} {n : Nat} (hn : n ≤ 7) {b c : Nat} (hc : c < 4) (hbc : b < c) : frI f n b ≠ frI f n c := by
  have hl := frL_len (f := f) (n := n)
  have l1 : b < (frL f n 1 32).length := by omega
  have l2 : c < (frL f n 1 32).length := by omega
  have e1 : frE f n 1 32 b = (frL f n 1 32)[b] := by rw [frE_L, List.getD_eq_getElem?_getD, List.getElem?_eq_getElem l1]; rfl
  have e2 : frE f n 1 32 c = (frL f n 1 32)[c] := by rw [frE_L, List.getD_eq_getElem?_getD, List.getElem?_eq_getElem l2]; rfl
  have hp : (frL f n 1 32).Pairwise (fun a b => a < b) := List.Pairwise.filter _ (List.pairwise_lt_range' (s := 1) (n := 32) (step := 1))
  have hlt := List.pairwise_iff_getElem.mp hp b c l1 l2 hbc
  have r1 := List.mem_range'_1.mp (List.mem_filter.mp (List.getElem_mem l1)).1
  have r2 := List.mem_range'_1.mp (List.mem_filter.mp (List.getElem_mem l2)).1
  unfold frI
  rw [e1, e2]
  intro h
  have := (nI_eq (by omega) (by omega)).mp h
  omega
-- twist
theorem pas_nf {f g : Nat → Int32} {n : Nat} {v : Int32} (hb : bal (pas f g n)) (h : ¬ ∃ y, pas f g n v y) : ¬ ∃ x, pas f g n x v := fun hx => h ((hb v).mpr hx)
theorem bal_congr {S T : Int32 → Int32 → Prop} (h : ∀ x y, S x y ↔ T x y) : S = T := by
  funext x y
  exact propext (h x y)
theorem kk_Dia {f g : Nat → Int32} {n cc k : Nat} {e : Int32} (hD : Dia f g n cc) (hn : n ≤ 7) (hk : k < 4) (he : ∃ y, pas f g n e y) : Dia (kkE k (brA f g n (frI f n 1) e) n e (frI f n 0) (frI f n 1)) (upd g n (sgn (kkB k))) (n + 1) cc := by
  obtain ⟨h1, h2, h3, h4, h5, h6, h7⟩ := hD
  have f0 := free_1 (f := f) hn (b := 0) (by omega)
  have f1 := free_1 (f := f) hn (b := 1) (by omega)
  have f01 := free_2 (f := f) hn (b := 0) (c := 1) (by omega) (by omega)
  have hE : ∃ x, 1 ≤ x ∧ x ≤ 32 ∧ e = nI x := by
    obtain ⟨y, t, t1, t2, t3, t4⟩ := he
    rw [← t3]; exact h2 t t1
  generalize frI f n 0 = a at *
  generalize frI f n 1 = b at *
  have na := pas_none (g := g) f0.2
  have nb := pas_none (g := g) f1.2
  have oa := pas_nf h5 na
  have ob := pas_nf h5 nb
  have ij := inj2_br (q := e) h4 nb
  have pb := pas_br h4 he b
  have hea : e ≠ a := fun q => na (q ▸ he)
  have heb : e ≠ b := fun q => nb (q ▸ he)
  have b1 : ¬ ∃ y, pas (brA f g n b e) g n e y := fun ⟨y, h⟩ => by
    rcases (pb e y).mp h with z | z
    · exact z.2 rfl
    · exact heb z.1
  have b2 : ¬ ∃ y, pas (brA f g n b e) g n a y := fun ⟨y, h⟩ => by
    rcases (pb a y).mp h with z | z
    · exact na ⟨y, z.1⟩
    · exact f01 z.1
  have b3 : ¬ ∃ x, pas (brA f g n b e) g n x a := fun ⟨x, h⟩ => by
    rcases (pb x a).mp h with z | z
    · exact oa ⟨x, z.1⟩
    · exact oa ⟨e, z.2⟩
  have b4 : ¬ ∃ x, pas (brA f g n b e) g n x b := fun ⟨x, h⟩ => by
    rcases (pb x b).mp h with z | z
    · exact ob ⟨x, z.1⟩
    · exact ob ⟨e, z.2⟩
  have he2 := edg_br (g := g) (q := e) h2 f1.1
  have key : ∀ (w x y z : Int32) (p : Bool), (w = e ∨ w = a ∨ w = b) → (x = e ∨ x = a ∨ x = b) → (y = e ∨ y = a ∨ y = b) → (z = e ∨ z = a ∨ z = b) → inj2 (apE (brA f g n b e) n w x y z) (upd g n (sgn p)) (n + 1) → (∀ u v, pas (apE (brA f g n b e) n w x y z) (upd g n (sgn p)) (n + 1) u v ↔ insS (pas f g n) e a b u v) → Dia (apE (brA f g n b e) n w x y z) (upd g n (sgn p)) (n + 1) cc := by
    intro w x y z p hw hx hy hz hi hs
    have hl : ∀ v, (v = e ∨ v = a ∨ v = b) → ∃ k, 1 ≤ k ∧ k ≤ 32 ∧ v = nI k := by
      rintro v (rfl | rfl | rfl)
      · exact hE
      · exact f0.1
      · exact f1.1
    refine ⟨by omega, apE_all (P := fun _ v => ∃ x, 1 ≤ x ∧ x ≤ 32 ∧ v = nI x) he2 (hl w hw) (hl x hx) (hl y hy) (hl z hz), sgOK_up p h3, hi, ?_, Or.inl (by omega), ?_⟩
    · rw [bal_congr hs]
      exact bal_ins h5 he
    · rw [bal_congr hs]
      exact bas_ins h7 h5 (inj2_fn h4) he na nb f01
  have sw : ∀ u v, ((pas f g n u v ∧ u ≠ e) ∨ (u = b ∧ pas f g n e v)) ∨ (u = e ∧ v = a) ∨ (u = a ∧ v = b) ↔ insS (pas f g n) e a b u v := fun u v => by
    unfold insS
    rw [or_assoc]
  have sw2 : ∀ u v, ((pas f g n u v ∧ u ≠ e) ∨ (u = b ∧ pas f g n e v)) ∨ (u = a ∧ v = b) ∨ (u = e ∧ v = a) ↔ insS (pas f g n) e a b u v := fun u v => by
    rw [← sw u v]
    exact or_congr Iff.rfl or_comm
  match k, hk with
  | 0, _ => exact key e b a a true (Or.inl rfl) (Or.inr (Or.inr rfl)) (Or.inr (Or.inl rfl)) (Or.inr (Or.inl rfl)) (inj2_ap ij b1 b2 hea b3 b4 f01) (fun u v => by rw [pas_ap, pb]; exact sw u v)
  | 1, _ => exact key e a a b false (Or.inl rfl) (Or.inr (Or.inl rfl)) (Or.inr (Or.inl rfl)) (Or.inr (Or.inr rfl)) (inj2_ap ij b1 b2 hea b3 b4 f01) (fun u v => by rw [pas_ap, pb]; exact sw u v)
  | 2, _ => exact key a a b e true (Or.inr (Or.inl rfl)) (Or.inr (Or.inl rfl)) (Or.inr (Or.inr rfl)) (Or.inl rfl) (inj2_ap ij b2 b1 hea.symm b4 b3 f01.symm) (fun u v => by rw [pas_ap, pb]; exact sw2 u v)
  | 3, _ => exact key a e b a false (Or.inr (Or.inl rfl)) (Or.inl rfl) (Or.inr (Or.inr rfl)) (Or.inr (Or.inl rfl)) (inj2_ap ij b2 b1 hea.symm b4 b3 f01.symm) (fun u v => by rw [pas_ap, pb]; exact sw2 u v)
theorem kk0_Dia {f g : Nat → Int32} {n cc k : Nat} (hD : Dia f g n (cc + 1)) (hn : n ≤ 7) (hk : k < 4) : Dia (kkE k f n (frI f n 0) (frI f n 1) (frI f n 0)) (upd g n (sgn (kkB k))) (n + 1) cc := by
  obtain ⟨h1, h2, h3, h4, h5, h6, h7⟩ := hD
  have f0 := free_1 (f := f) hn (b := 0) (by omega)
  have f1 := free_1 (f := f) hn (b := 1) (by omega)
  have f01 := free_2 (f := f) hn (b := 0) (c := 1) (by omega) (by omega)
  generalize frI f n 0 = a at *
  generalize frI f n 1 = b at *
  have na := pas_none (g := g) f0.2
  have nb := pas_none (g := g) f1.2
  have oa := pas_nf h5 na
  have ob := pas_nf h5 nb
  have key : ∀ (w x y z : Int32) (p : Bool), (w = a ∨ w = b) → (x = a ∨ x = b) → (y = a ∨ y = b) → (z = a ∨ z = b) → inj2 (apE f n w x y z) (upd g n (sgn p)) (n + 1) → (∀ u v, pas (apE f n w x y z) (upd g n (sgn p)) (n + 1) u v ↔ newS (pas f g n) a b u v) → Dia (apE f n w x y z) (upd g n (sgn p)) (n + 1) cc := by
    intro w x y z p hw hx hy hz hi hs
    have hl : ∀ v, (v = a ∨ v = b) → ∃ k, 1 ≤ k ∧ k ≤ 32 ∧ v = nI k := by
      rintro v (rfl | rfl)
      · exact f0.1
      · exact f1.1
    refine ⟨by omega, apE_all (P := fun _ v => ∃ x, 1 ≤ x ∧ x ≤ 32 ∧ v = nI x) h2 (hl w hw) (hl x hx) (hl y hy) (hl z hz), sgOK_up p h3, hi, ?_, Or.inl (by omega), ?_⟩
    · rw [bal_congr hs]
      exact bal_new h5
    · rw [bal_congr hs]
      exact bas_new h7 h5 na nb f01
  have sw2 : ∀ u v, pas f g n u v ∨ (u = b ∧ v = a) ∨ (u = a ∧ v = b) ↔ newS (pas f g n) a b u v := fun u v => or_congr Iff.rfl or_comm
  match k, hk with
  | 0, _ => exact key a a b b true (Or.inl rfl) (Or.inl rfl) (Or.inr rfl) (Or.inr rfl) (inj2_ap h4 na nb f01 ob oa f01.symm) (fun u v => by rw [pas_ap]; rfl)
  | 1, _ => exact key a b b a false (Or.inl rfl) (Or.inr rfl) (Or.inr rfl) (Or.inl rfl) (inj2_ap h4 na nb f01 ob oa f01.symm) (fun u v => by rw [pas_ap]; rfl)
  | 2, _ => exact key b b a a true (Or.inr rfl) (Or.inr rfl) (Or.inl rfl) (Or.inl rfl) (inj2_ap h4 nb na f01.symm oa ob f01) (fun u v => by rw [pas_ap]; exact sw2 u v)
  | 3, _ => exact key b a a b false (Or.inr rfl) (Or.inl rfl) (Or.inl rfl) (Or.inr rfl) (inj2_ap h4 nb na f01.symm oa ob f01) (fun u v => by rw [pas_ap]; exact sw2 u v)
theorem kkE_ag {f me : Nat → Int32} {n : Nat} (k : Nat) (a b c : Int32) (h : agE (4 * n) f me) : agE (4 * (n + 1)) (kkE k f n a b c) (kkE k me n a b c) := by
  unfold kkE
  match k with
  | 0 => exact agE_ap _ _ _ _ h
  | 1 => exact agE_ap _ _ _ _ h
  | 2 => exact agE_ap _ _ _ _ h
  | k + 3 => exact agE_ap _ _ _ _ h
