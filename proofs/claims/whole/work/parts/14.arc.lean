def ed (f : Nat → Int32) (e : Nat) : Nat := (f e).toNatClampNeg
def mgA (a b lo : Int32) : (Nat → Int32) → Nat → Nat → Nat → Int32
  | l, _, 0 => l
  | l, i, k + 1 => mgA a b lo (if l i = a ∨ l i = b then upd l i lo else l) (i + 1) k
def mnI (x y : Int32) : Int32 := if y < x then y else x
def mgL (l : Nat → Int32) (a b : Int32) : Nat → Int32 := mgA a b (mnI a b) l 1 32
def itN {α : Type} (g : Nat → α → α) : Nat → Nat → α → α
  | _, 0, x => x
  | i, k + 1, x => itN g (i + 1) k (g i x)
theorem itN_0 {α : Type} (g : Nat → α → α) (i : Nat) (x : α) : itN g i 0 x = x := by rw [itN]
theorem itN_s {α : Type} (g : Nat → α → α) (i k : Nat) (x : α) : itN g i (k + 1) x = itN g (i + 1) k (g i x) := by rw [itN]
def arS (f : Nat → Int32) (i : Nat) (l : Nat → Int32) : Nat → Int32 := mgL l (l (ed f (4 * i + 1))) (l (ed f (4 * i + 3)))
def arM (f l : Nat → Int32) (i k : Nat) : Nat → Int32 := itN (arS f) i k l
theorem arM_0 (f l : Nat → Int32) (i : Nat) : arM f l i 0 = l := itN_0 _ _ _
theorem arM_s (f l : Nat → Int32) (i k : Nat) : arM f l i (k + 1) = arM f (arS f i l) (i + 1) k := itN_s _ _ _ _
def nuA (f : Nat → Int32) (n : Nat) (l : Nat → Int32) : Nat → Nat → (Nat → Int32) → Nat → Nat × (Nat → Int32)
  | _, 0, u, a => (a, u)
  | i, k + 1, u, a => if l i = nI i ∧ occ f (nI i) 0 (4 * n) = true then nuA f n l (i + 1) k (upd u i (nI a)) (a + 1) else nuA f n l (i + 1) k u a
/-- all of the first N are small numbers -/
def sml (B : Nat) (N : Nat) (l : Nat → Int32) : Prop := ∀ d, d < N → ∃ x, x < B ∧ l d = nI x
/-- the edges of the first N ends -/
def edg (N : Nat) (f : Nat → Int32) : Prop := ∀ e, e < N → ∃ x, 1 ≤ x ∧ x ≤ 32 ∧ f e = nI x
theorem sml_upd {B N i : Nat} {l : Nat → Int32} {x : Int32} (h : sml B N l) (hx : ∃ y, y < B ∧ x = nI y) : sml B N (upd l i x) := by
  intro d hd
  by_cases h1 : d = i
  · rw [h1, pk_us]; exact hx
  · rw [pk_un h1]; exact h d hd
theorem edg_ed {N e : Nat} {f : Nat → Int32} (h : edg N f) (he : e < N) : f e = nI (ed f e) ∧ 1 ≤ ed f e ∧ ed f e ≤ 32 := by
  obtain ⟨x, h1, h2, h3⟩ := h e he
  have h4 : ed f e = x := by unfold ed; rw [h3, nI_clamp (by omega)]
  rw [h4]
  exact ⟨h3, h1, h2⟩
theorem sml_mgA {B N : Nat} {a b lo : Int32} (hlo : ∃ y, y < B ∧ lo = nI y) : ∀ k i l, sml B N l → sml B N (mgA a b lo l i k) := by
  intro k
  induction k with
  | zero => intro i l h; rw [mgA]; exact h
  | succ k ih =>
    intro i l h
    rw [mgA]
    apply ih
    split
    · exact sml_upd h hlo
    · exact h
theorem sml_arM {n : Nat} {f : Nat → Int32} (hf : edg (4 * n) f) : ∀ k i l, i + k = n → sml 33 33 l → sml 33 33 (arM f l i k) := by
  intro k
  induction k with
  | zero => intro i l _ h; rw [arM_0]; exact h
  | succ k ih =>
    intro i l hi h
    rw [arM_s]
    apply ih _ _ (by omega)
    unfold arS mgL
    apply sml_mgA _ _ _ _ h
    have h1 := h _ (by have := edg_ed hf (e := 4 * i + 1) (by omega); omega : ed f (4 * i + 1) < 33)
    have h2 := h _ (by have := edg_ed hf (e := 4 * i + 3) (by omega); omega : ed f (4 * i + 3) < 33)
    unfold mnI
    split
    · exact h2
    · exact h1
theorem sml_piI {B N : Nat} : ∀ k i q, i + k ≤ B → (∀ d, d < N → i + k ≤ d ∨ d < i → ∃ x, x < B ∧ q d = nI x) → sml B N (piI q i k) := by
  intro k
  induction k with
  | zero => intro i q hi h d hd; rw [piI]; exact h d hd (by omega)
  | succ k ih =>
    intro i q hi h
    rw [piI]
    refine ih (i + 1) _ (by omega) (fun d hd h3 => ?_)
    by_cases h1 : d = i
    · rw [h1, pk_us]; exact ⟨i, by omega, rfl⟩
    · rw [pk_un h1]; exact h d hd (by omega)
theorem sml_nuA {B N : Nat} {f : Nat → Int32} {n : Nat} {l : Nat → Int32} : ∀ k i u a, a + k ≤ B → sml B N u → sml B N (nuA f n l i k u a).2 ∧ (nuA f n l i k u a).1 ≤ a + k := by
  intro k
  induction k with
  | zero => intro i u a _ h; rw [nuA]; exact ⟨h, by omega⟩
  | succ k ih =>
    intro i u a ha h
    rw [nuA]
    split
    · obtain ⟨h1, h2⟩ := ih (i + 1) (upd u i (nI a)) (a + 1) (by omega) (sml_upd h ⟨a, by omega, rfl⟩)
      exact ⟨h1, by omega⟩
    · obtain ⟨h1, h2⟩ := ih (i + 1) u a (by omega) h
      exact ⟨h1, by omega⟩
abbrev oR (jl ju jc jn jM : Nat) : zE := .inr (0, [.ref jl, .ref ju, .ref jc, .ref jn, .ref jM])
abbrev zAr (w : zW) (jR jl ju jc jn jM : Nat) (l u c ln : Nat → Int32) (mi : Nat → Int64) : Prop := w[jR]? = some (oR jl ju jc jn jM) ∧ w[jl]? = some (aI 33 l) ∧ w[ju]? = some (aI 33 u) ∧ w[jc]? = some (aI 64 c) ∧ w[jn]? = some (aI 64 ln) ∧ w[jM]? = some (aL 2304 mi) ∧ jl ≠ ju ∧ jc ≠ jn
section Ar
variable {j je jg n jR jl ju jc jn jM : Nat} {f g l u c ln : Nat → Int32} {mi : Nat → Int64}
theorem zAr_set {w : zW} {i : Nat} {x : zE} (h : zAr w jR jl ju jc jn jM l u c ln mi) (h0 : i ≠ jR) : (i ≠ jl → (w.set i x)[jl]? = some (aI 33 l)) ∧ (i ≠ ju → (w.set i x)[ju]? = some (aI 33 u)) ∧ (i ≠ jc → (w.set i x)[jc]? = some (aI 64 c)) ∧ (i ≠ jn → (w.set i x)[jn]? = some (aI 64 ln)) ∧ (i ≠ jM → (w.set i x)[jM]? = some (aL 2304 mi)) :=
  ⟨fun q => zs_ne q h.2.1, fun q => zs_ne q h.2.2.1, fun q => zs_ne q h.2.2.2.1, fun q => zs_ne q h.2.2.2.2.1, fun q => zs_ne q h.2.2.2.2.2.1⟩
theorem zAr_l {w : zW} {l' : Nat → Int32} (h : zAr w jR jl ju jc jn jM l u c ln mi) : zAr (w.set jl (aI 33 l')) jR jl ju jc jn jM l' u c ln mi := by
  obtain ⟨h0, h1, h2, h3, h4, h5, h6, h7⟩ := h
  exact ⟨zs_ne (z_ne h1 h0 (by intro h; cases h)) h0, zs_self h1, zs_ne h6 h2, zs_ne (z_ne h1 h3 (by intro h; cases h)) h3, zs_ne (z_ne h1 h4 (by intro h; cases h)) h4, zs_ne (z_ne h1 h5 (by intro h; cases h)) h5, h6, h7⟩
theorem zAr_u {w : zW} {u' : Nat → Int32} (h : zAr w jR jl ju jc jn jM l u c ln mi) : zAr (w.set ju (aI 33 u')) jR jl ju jc jn jM l u' c ln mi := by
  obtain ⟨h0, h1, h2, h3, h4, h5, h6, h7⟩ := h
  exact ⟨zs_ne (z_ne h2 h0 (by intro h; cases h)) h0, zs_ne (Ne.symm h6) h1, zs_self h2, zs_ne (z_ne h2 h3 (by intro h; cases h)) h3, zs_ne (z_ne h2 h4 (by intro h; cases h)) h4, zs_ne (z_ne h2 h5 (by intro h; cases h)) h5, h6, h7⟩
theorem zAr_c {w : zW} {c' : Nat → Int32} (h : zAr w jR jl ju jc jn jM l u c ln mi) : zAr (w.set jc (aI 64 c')) jR jl ju jc jn jM l u c' ln mi := by
  obtain ⟨h0, h1, h2, h3, h4, h5, h6, h7⟩ := h
  exact ⟨zs_ne (z_ne h3 h0 (by intro h; cases h)) h0, zs_ne (z_ne h3 h1 (by intro h; cases h)) h1, zs_ne (z_ne h3 h2 (by intro h; cases h)) h2, zs_self h3, zs_ne h7 h4, zs_ne (z_ne h3 h5 (by intro h; cases h)) h5, h6, h7⟩
theorem zAr_n {w : zW} {n' : Nat → Int32} (h : zAr w jR jl ju jc jn jM l u c ln mi) : zAr (w.set jn (aI 64 n')) jR jl ju jc jn jM l u c n' mi := by
  obtain ⟨h0, h1, h2, h3, h4, h5, h6, h7⟩ := h
  exact ⟨zs_ne (z_ne h4 h0 (by intro h; cases h)) h0, zs_ne (z_ne h4 h1 (by intro h; cases h)) h1, zs_ne (z_ne h4 h2 (by intro h; cases h)) h2, zs_ne (Ne.symm h7) h3, zs_self h4, zs_ne (z_ne h4 h5 (by intro h; cases h)) h5, h6, h7⟩
theorem zAr_m {w : zW} {m' : Nat → Int64} (h : zAr w jR jl ju jc jn jM l u c ln mi) : zAr (w.set jM (aL 2304 m')) jR jl ju jc jn jM l u c ln m' := by
  obtain ⟨h0, h1, h2, h3, h4, h5, h6, h7⟩ := h
  exact ⟨zs_ne (z_ne h5 h0 (by intro h; cases h)) h0, zs_ne (z_ne h5 h1 (by intro h; cases h)) h1, zs_ne (z_ne h5 h2 (by intro h; cases h)) h2, zs_ne (z_ne h5 h3 (by intro h; cases h)) h3, zs_ne (z_ne h5 h4 (by intro h; cases h)) h4, zs_self h5, h6, h7⟩
theorem zCr_a33 {w : zW} {i : Nat} {x x' : Nat → Int32} (hC : zCr w j je jg n f g) (h : w[i]? = some (aI 33 x)) : zCr (w.set i (aI 33 x')) j je jg n f g :=
  zCr_set hC (z_ne h hC.1 (by intro h; cases h)) (z_ne h hC.2.1 (by intro h; cases h)) (z_ne h hC.2.2.1 (by intro h; cases h))
theorem zCr_a64 {w : zW} {i : Nat} {x x' : Nat → Int32} (hC : zCr w j je jg n f g) (h : w[i]? = some (aI 64 x)) : zCr (w.set i (aI 64 x')) j je jg n f g :=
  zCr_set hC (z_ne h hC.1 (by intro h; cases h)) (z_ne h hC.2.1 (by intro h; cases h)) (z_ne h hC.2.2.1 (by intro h; cases h))
theorem lp_R_mergeArcs (a b lo : Int32) : ∀ k i (w : zW) (l : Nat → Int32), i + k = 33 → zAr w jR jl ju jc jn jM l u c ln mi → Ev M_R_mergeArcs none none (w.set jl (aI 33 (mgA a b lo l i k))) 9 [(0, .ref jR), (1, .int a), (2, .int b), (3, .int lo), (4, .int (nI i))] [] w 0 0 := by
  intro k
  induction k with
  | zero =>
    intro i w l hi hA
    have e0 : mgA a b lo l i 0 = l := by rw [mgA]
    rw [e0, z_set_self hA.2.1]
    refine ev_iload d_R_mergeArcs_9 rfl ?_
    refine ev_bipush (v := 32) d_R_mergeArcs_11 (by decide) ?_
    refine ev_icmp_gt 52 d_R_mergeArcs_13 (by decide) (fun h => ?_) (fun h => ?_)
    · exact ev_ret d_R_mergeArcs_52 rfl (Nat.le_of_ble_eq_true rfl) (Nat.le_of_ble_eq_true rfl)
    · exact absurd (nI_lt (a := 32) (b := i) (by omega) (by omega)) h
  | succ k ih =>
    intro i w l hi hA
    have yes : (l i = a ∨ l i = b) → Ev M_R_mergeArcs none none (w.set jl (aI 33 (mgA a b lo l i (k + 1)))) 38 [(0, .ref jR), (1, .int a), (2, .int b), (3, .int lo), (4, .int (nI i))] [] w 0 0 := by
      intro h2
      have e0 : mgA a b lo l i (k + 1) = mgA a b lo (upd l i lo) (i + 1) k := by rw [mgA, if_pos h2]
      rw [e0]
      refine ev_aload_n 0 d_R_mergeArcs_38 rfl rfl ?_
      refine ev_get f_R_11 d_R_mergeArcs_39 hA.1 rfl ?_
      refine ev_iload d_R_mergeArcs_42 rfl ?_
      refine ev_iload_n 3 d_R_mergeArcs_44 rfl rfl ?_
      refine ev_iast d_R_mergeArcs_45 hA.2.1 (vp_in_nI (by omega) (by omega)) ?_
      refine ev_iinc (v := _ + 1) d_R_mergeArcs_46 rfl rfl (Nat.le_of_ble_eq_true rfl) rfl ?_
      rw [nI_clamp (by omega), nI_1]
      refine ev_goto 9 d_R_mergeArcs_49 (by decide) ?_
      have h4 := ih (i + 1) _ _ (by omega) (zAr_l (l' := upd l i lo) hA)
      rw [List.set_set] at h4
      exact h4
    refine ev_iload d_R_mergeArcs_9 rfl ?_
    refine ev_bipush (v := 32) d_R_mergeArcs_11 (by decide) ?_
    refine ev_icmp_gt 52 d_R_mergeArcs_13 (by decide) (fun h => ?_) (fun h => ?_)
    · exact absurd h (nI_nlt (a := 32) (b := i) (by omega) (by omega))
    · refine ev_aload_n 0 d_R_mergeArcs_16 rfl rfl ?_
      refine ev_get f_R_11 d_R_mergeArcs_17 hA.1 rfl ?_
      refine ev_iload d_R_mergeArcs_20 rfl ?_
      refine ev_iald d_R_mergeArcs_22 hA.2.1 (vp_in_nI (by omega) (by omega)) ?_
      rw [nI_clamp (by omega)]
      refine ev_iload_n 1 d_R_mergeArcs_23 rfl rfl ?_
      refine ev_icmp_eq 38 d_R_mergeArcs_24 (by decide) (fun h2 => ?_) (fun h2 => ?_)
      · exact yes (Or.inl h2)
      · refine ev_aload_n 0 d_R_mergeArcs_27 rfl rfl ?_
        refine ev_get f_R_11 d_R_mergeArcs_28 hA.1 rfl ?_
        refine ev_iload d_R_mergeArcs_31 rfl ?_
        refine ev_iald d_R_mergeArcs_33 hA.2.1 (vp_in_nI (by omega) (by omega)) ?_
        rw [nI_clamp (by omega)]
        refine ev_iload_n 2 d_R_mergeArcs_34 rfl rfl ?_
        refine ev_icmp_ne 46 d_R_mergeArcs_35 (by decide) (fun h3 => ?_) (fun h3 => ?_)
        · have e0 : mgA a b lo l i (k + 1) = mgA a b lo l (i + 1) k := by rw [mgA, if_neg (fun q => q.elim h2 h3)]
          rw [e0]
          refine ev_iinc (v := _ + 1) d_R_mergeArcs_46 rfl rfl (Nat.le_of_ble_eq_true rfl) rfl ?_
          rw [nI_1]
          refine ev_goto 9 d_R_mergeArcs_49 (by decide) ?_
          exact ih (i + 1) w l (by omega) hA
        · exact yes (Or.inr h3)
theorem sp_R_mergeArcs {w : zW} (hA : zAr w jR jl ju jc jn jM l u c ln mi) (a b : Int32) : Sp M_R_mergeArcs [.ref jR, .int a, .int b] w none (w.set jl (aI 33 (mgL l a b))) := by
  refine Sp.of (by decide) (Nat.le_of_ble_eq_true rfl) ?_
  refine ev_iload_n 1 d_R_mergeArcs_0 rfl rfl ?_
  refine ev_iload_n 2 d_R_mergeArcs_1 rfl rfl ?_
  refine ev_mmin c_R_62 wm_min_s wm_i wm_min_c d_R_mergeArcs_2 (by decide) (by decide) (by decide) (by decide) ?_
  refine ev_istore_n 3 d_R_mergeArcs_5 rfl (Nat.le_of_ble_eq_true rfl) rfl ?_
  refine ev_iconst (v := 1) d_R_mergeArcs_6 (by decide) ?_
  refine ev_istore d_R_mergeArcs_7 (Nat.le_of_ble_eq_true rfl) rfl ?_
  exact lp_R_mergeArcs a b (mnI a b) 32 1 w l (by omega) hA
end Ar
