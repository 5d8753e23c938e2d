def clN (f l u : Nat → Int32) (e : Nat) : Nat := (u (l (ed f e)).toNatClampNeg).toNatClampNeg
def adE (cl order e : Nat) (a : Int32) (c : Nat → Int32) : Nat → Int32 := if cl < order then upd c (e / 4 * 8 + cl) (c (e / 4 * 8 + cl) + a) else c
def rt (g : Nat → Int32) (i : Nat) : Nat := if 0 < g i then 4 * i else 4 * i + 2
def fmS (cl : Nat → Nat) (g : Nat → Int32) (order : Nat) (x y z : Int32) (i : Nat) (c : Nat → Int32) : Nat → Int32 := adE (cl (opp (rt g i))) order (opp (rt g i)) z (adE (cl (rt g i)) order (rt g i) y (adE (cl (4 * i + 1)) order (4 * i + 1) x c))
theorem sml_at {B N d : Nat} {u : Nat → Int32} (hB : B ≤ 2 ^ 31) (h : sml B N u) (hd : d < N) : u d = nI (u d).toNatClampNeg ∧ (u d).toNatClampNeg < B := by
  obtain ⟨x, h1, h2⟩ := h d hd
  rw [h2, nI_clamp (by omega)]
  exact ⟨rfl, h1⟩
theorem sml_arS {n : Nat} {f : Nat → Int32} (hf : edg (4 * n) f) {i : Nat} {l : Nat → Int32} (hi : i < n) (h : sml 33 33 l) : sml 33 33 (arS f i l) := by
  unfold arS mgL
  apply sml_mgA _ _ _ _ h
  have h1 := h _ (by have := edg_ed hf (e := 4 * i + 1) (by omega); omega : ed f (4 * i + 1) < 33)
  have h2 := h _ (by have := edg_ed hf (e := 4 * i + 3) (by omega); omega : ed f (4 * i + 3) < 33)
  unfold mnI
  split
  · exact h2
  · exact h1
theorem opp_div {e : Nat} : opp e / 4 = e / 4 := by unfold opp; omega
theorem opp_lt4 {e n : Nat} (h : e < 4 * n) : opp e < 4 * n := by unfold opp; omega
theorem rt_lt {g : Nat → Int32} {i n : Nat} (h : i < n) : rt g i < 4 * n := by unfold rt; split <;> omega
section Ar
variable {j je jg n jR jl ju jc jn jM : Nat} {f g l u c ln : Nat → Int32} {mi : Nat → Int64}
theorem lp_R_number3 (hf : edg (4 * n) f) : ∀ k i (w : zW) (u : Nat → Int32) (a : Nat), i + k = 33 → zCr w j je jg n f g → zAr w jR jl ju jc jn jM l u c ln mi → Ev M_R_numberArcs none (some (.int (nI (nuA f n l i k u a).1))) (w.set ju (aI 33 (nuA f n l i k u a).2)) 73 [(0, .ref jR), (1, .ref j), (2, .int (nI a)), (3, .int (nI i))] [] w 0 0 := by
  intro k
  induction k with
  | zero =>
    intro i w u a hi hC hA
    have e0 : nuA f n l i 0 u a = (a, u) := by rw [nuA]
    rw [e0, z_set_self hA.2.2.1]
    refine ev_iload_n 3 d_R_numberArcs_73 rfl rfl ?_
    refine ev_bipush (v := 32) d_R_numberArcs_74 (by decide) ?_
    refine ev_icmp_gt 113 d_R_numberArcs_76 (by decide) (fun h => ?_) (fun h => ?_)
    · refine ev_iload_n 2 d_R_numberArcs_113 rfl rfl ?_
      exact ev_iret d_R_numberArcs_114 rfl rfl (Nat.le_of_ble_eq_true rfl) (Nat.le_of_ble_eq_true rfl)
    · exact absurd (nI_lt (a := 32) (b := i) (by omega) (by omega)) h
  | succ k ih =>
    intro i w u a hi hC hA
    have hn := hC.2.2.2
    have no : ¬ (l i = nI i ∧ occ f (nI i) 0 (4 * n) = true) → Ev M_R_numberArcs none (some (.int (nI (nuA f n l i (k + 1) u a).1))) (w.set ju (aI 33 (nuA f n l i (k + 1) u a).2)) 107 [(0, .ref jR), (1, .ref j), (2, .int (nI a)), (3, .int (nI i))] [] w 0 0 := by
      intro h2
      have e0 : nuA f n l i (k + 1) u a = nuA f n l (i + 1) k u a := by rw [nuA, if_neg h2]
      rw [e0]
      refine ev_iinc (v := _ + 1) d_R_numberArcs_107 rfl rfl (Nat.le_of_ble_eq_true rfl) rfl ?_
      rw [nI_1]
      refine ev_goto 73 d_R_numberArcs_110 (by decide) ?_
      exact ih (i + 1) w u a (by omega) hC hA
    refine ev_iload_n 3 d_R_numberArcs_73 rfl rfl ?_
    refine ev_bipush (v := 32) d_R_numberArcs_74 (by decide) ?_
    refine ev_icmp_gt 113 d_R_numberArcs_76 (by decide) (fun h => ?_) (fun h => ?_)
    · exact absurd h (nI_nlt (a := 32) (b := i) (by omega) (by omega))
    · refine ev_aload_n 0 d_R_numberArcs_79 rfl rfl ?_
      refine ev_get f_R_11 d_R_numberArcs_80 hA.1 rfl ?_
      refine ev_iload_n 3 d_R_numberArcs_83 rfl rfl ?_
      refine ev_iald d_R_numberArcs_84 hA.2.1 (vp_in_nI (by omega) (by omega)) ?_
      rw [nI_clamp (by omega)]
      refine ev_iload_n 3 d_R_numberArcs_85 rfl rfl ?_
      refine ev_icmp_ne 107 d_R_numberArcs_86 (by decide) (fun h2 => ?_) (fun h2 => ?_)
      · exact no (fun q => h2 q.1)
      · refine ev_aload_n 1 d_R_numberArcs_89 rfl rfl ?_
        refine ev_iload_n 3 d_R_numberArcs_90 rfl rfl ?_
        refine ev_callV M_C_occurs [_] (sp_C_occurs hC.1 hC.2.1 hn (nI i)) c_R_58 d_R_numberArcs_91 hC.1 rfl (by decide) (Nat.le_of_ble_eq_true rfl) ⟨rfl, rfl⟩ rfl ?_
        refine ev_if_eq 107 d_R_numberArcs_94 (by decide) (fun h3 => ?_) (fun h3 => ?_)
        · exact no (fun q => by rw [(zb_0 _).mp h3] at q; exact absurd q.2 (by decide))
        · have e0 : nuA f n l i (k + 1) u a = nuA f n l (i + 1) k (upd u i (nI a)) (a + 1) := by rw [nuA, if_pos ⟨h2, (zb_n0 _).mp h3⟩]
          rw [e0]
          refine ev_aload_n 0 d_R_numberArcs_97 rfl rfl ?_
          refine ev_get f_R_15 d_R_numberArcs_98 hA.1 rfl ?_
          refine ev_iload_n 3 d_R_numberArcs_101 rfl rfl ?_
          refine ev_iload_n 2 d_R_numberArcs_102 rfl rfl ?_
          refine ev_iast d_R_numberArcs_103 hA.2.2.1 (vp_in_nI (by omega) (by omega)) ?_
          refine ev_iinc (v := _ + 1) d_R_numberArcs_104 rfl rfl (Nat.le_of_ble_eq_true rfl) rfl ?_
          refine ev_iinc (v := _ + 1) d_R_numberArcs_107 rfl rfl (Nat.le_of_ble_eq_true rfl) rfl ?_
          rw [nI_clamp (by omega), nI_1, nI_1]
          refine ev_goto 73 d_R_numberArcs_110 (by decide) ?_
          have h4 := ih (i + 1) _ _ (a + 1) (by omega) (zCr_a33 (x' := upd u i (nI a)) hC hA.2.2.1) (zAr_u hA)
          rw [List.set_set] at h4
          exact h4
theorem lp_R_number2 (hf : edg (4 * n) f) : ∀ k i (w : zW) (l : Nat → Int32), i + k = n → sml 33 33 l → zCr w j je jg n f g → zAr w jR jl ju jc jn jM l u c ln mi → Ev M_R_numberArcs none (some (.int (nI (nuA f n (arM f l i k) 1 32 u 0).1))) ((w.set jl (aI 33 (arM f l i k))).set ju (aI 33 (nuA f n (arM f l i k) 1 32 u 0).2)) 23 [(0, .ref jR), (1, .ref j), (2, .int (nI i))] [] w 0 0 := by
  intro k
  induction k with
  | zero =>
    intro i w l hi hs hC hA
    have hn := hC.2.2.2
    rw [arM_0, z_set_self hA.2.1]
    refine ev_iload_n 2 d_R_numberArcs_23 rfl rfl ?_
    refine ev_aload_n 1 d_R_numberArcs_24 rfl rfl ?_
    refine ev_callV M_C_size [] (sp_C_size hC.1) c_R_32 d_R_numberArcs_25 hC.1 rfl (by decide) (Nat.le_of_ble_eq_true rfl) ⟨rfl, rfl⟩ rfl ?_
    refine ev_icmp_ge 69 d_R_numberArcs_28 (by decide) (fun h => ?_) (fun h => ?_)
    · refine ev_iconst (v := 0) d_R_numberArcs_69 (by decide) ?_
      refine ev_istore_n 2 d_R_numberArcs_70 rfl (Nat.le_of_ble_eq_true rfl) rfl ?_
      refine ev_iconst (v := 1) d_R_numberArcs_71 (by decide) ?_
      refine ev_istore_n 3 d_R_numberArcs_72 rfl (Nat.le_of_ble_eq_true rfl) rfl ?_
      exact lp_R_number3 hf 32 1 w u 0 (by omega) hC hA
    · exact absurd (nI_le (by omega) (by omega)) h
  | succ k ih =>
    intro i w l hi hs hC hA
    have hn := hC.2.2.2
    have h1 := edg_ed hf (e := 4 * i + 1) (by omega)
    have h3 := edg_ed hf (e := 4 * i + 3) (by omega)
    rw [arM_s]
    refine ev_iload_n 2 d_R_numberArcs_23 rfl rfl ?_
    refine ev_aload_n 1 d_R_numberArcs_24 rfl rfl ?_
    refine ev_callV M_C_size [] (sp_C_size hC.1) c_R_32 d_R_numberArcs_25 hC.1 rfl (by decide) (Nat.le_of_ble_eq_true rfl) ⟨rfl, rfl⟩ rfl ?_
    refine ev_icmp_ge 69 d_R_numberArcs_28 (by decide) (fun h => ?_) (fun h => ?_)
    · exact absurd h (nI_ge (by omega) (by omega))
    · refine ev_aload_n 0 d_R_numberArcs_31 rfl rfl ?_
      refine ev_aload_n 0 d_R_numberArcs_32 rfl rfl ?_
      refine ev_get f_R_11 d_R_numberArcs_33 hA.1 rfl ?_
      refine ev_aload_n 1 d_R_numberArcs_36 rfl rfl ?_
      refine ev_iconst (v := 4) d_R_numberArcs_37 (by decide) ?_
      refine ev_iload_n 2 d_R_numberArcs_38 rfl rfl ?_
      refine ev_imul d_R_numberArcs_39 ?_
      rw [z_m4]
      refine ev_iconst (v := 1) d_R_numberArcs_40 (by decide) ?_
      refine ev_iadd d_R_numberArcs_41 ?_
      rw [nI_1]
      refine ev_callV M_C_edgeAt [_] (sp_C_edgeAt hC.1 hC.2.1 (by omega)) c_R_50 d_R_numberArcs_42 hC.1 rfl (by decide) (Nat.le_of_ble_eq_true rfl) ⟨rfl, rfl⟩ rfl ?_
      refine ev_iald d_R_numberArcs_45 hA.2.1 (by rw [h1.1]; exact vp_in_nI (by omega) (by omega)) ?_
      refine ev_aload_n 0 d_R_numberArcs_46 rfl rfl ?_
      refine ev_get f_R_11 d_R_numberArcs_47 hA.1 rfl ?_
      refine ev_aload_n 1 d_R_numberArcs_50 rfl rfl ?_
      refine ev_iconst (v := 4) d_R_numberArcs_51 (by decide) ?_
      refine ev_iload_n 2 d_R_numberArcs_52 rfl rfl ?_
      refine ev_imul d_R_numberArcs_53 ?_
      rw [z_m4]
      refine ev_iconst (v := 3) d_R_numberArcs_54 (by decide) ?_
      refine ev_iadd d_R_numberArcs_55 ?_
      rw [z_p3]
      refine ev_callV M_C_edgeAt [_] (sp_C_edgeAt hC.1 hC.2.1 (by omega)) c_R_50 d_R_numberArcs_56 hC.1 rfl (by decide) (Nat.le_of_ble_eq_true rfl) ⟨rfl, rfl⟩ rfl ?_
      refine ev_iald d_R_numberArcs_59 hA.2.1 (by rw [h3.1]; exact vp_in_nI (by omega) (by omega)) ?_
      refine ev_callV M_R_mergeArcs [_, _] (sp_R_mergeArcs hA _ _) c_R_54 d_R_numberArcs_60 hA.1 rfl (by decide) (Nat.le_of_ble_eq_true rfl) ⟨rfl, rfl⟩ (List.length_set) ?_
      refine ev_iinc (v := _ + 1) d_R_numberArcs_63 rfl rfl (Nat.le_of_ble_eq_true rfl) rfl ?_
      rw [nI_1]
      refine ev_goto 23 d_R_numberArcs_66 (by decide) ?_
      have hs' : sml 33 33 (arS f i l) := sml_arS hf (by omega) hs
      have h4 := ih (i + 1) _ (arS f i l) (by omega) hs' (zCr_a33 (x' := arS f i l) hC hA.2.1) (zAr_l hA)
      rw [List.set_set] at h4
      exact h4
theorem lp_R_number1 (hf : edg (4 * n) f) : ∀ k i (w : zW) (l : Nat → Int32), i + k = 33 → (∀ d, d < i → ∃ x, x < 33 ∧ l d = nI x) → zCr w j je jg n f g → zAr w jR jl ju jc jn jM l u c ln mi → Ev M_R_numberArcs none (some (.int (nI (nuA f n (arM f (piI l i k) 0 n) 1 32 u 0).1))) ((w.set jl (aI 33 (arM f (piI l i k) 0 n))).set ju (aI 33 (nuA f n (arM f (piI l i k) 0 n) 1 32 u 0).2)) 2 [(0, .ref jR), (1, .ref j), (2, .int (nI i))] [] w 0 0 := by
  intro k
  induction k with
  | zero =>
    intro i w l hi hs hC hA
    have e0 : piI l i 0 = l := by rw [piI]
    rw [e0]
    refine ev_iload_n 2 d_R_numberArcs_2 rfl rfl ?_
    refine ev_bipush (v := 32) d_R_numberArcs_3 (by decide) ?_
    refine ev_icmp_gt 21 d_R_numberArcs_5 (by decide) (fun h => ?_) (fun h => ?_)
    · refine ev_iconst (v := 0) d_R_numberArcs_21 (by decide) ?_
      refine ev_istore_n 2 d_R_numberArcs_22 rfl (Nat.le_of_ble_eq_true rfl) rfl ?_
      exact lp_R_number2 hf n 0 w l (by omega) (fun d hd => hs d (by omega)) hC hA
    · exact absurd (nI_lt (a := 32) (b := i) (by omega) (by omega)) h
  | succ k ih =>
    intro i w l hi hs hC hA
    have e0 : piI l i (k + 1) = piI (upd l i (nI i)) (i + 1) k := by rw [piI]
    rw [e0]
    refine ev_iload_n 2 d_R_numberArcs_2 rfl rfl ?_
    refine ev_bipush (v := 32) d_R_numberArcs_3 (by decide) ?_
    refine ev_icmp_gt 21 d_R_numberArcs_5 (by decide) (fun h => ?_) (fun h => ?_)
    · exact absurd h (nI_nlt (a := 32) (b := i) (by omega) (by omega))
    · refine ev_aload_n 0 d_R_numberArcs_8 rfl rfl ?_
      refine ev_get f_R_11 d_R_numberArcs_9 hA.1 rfl ?_
      refine ev_iload_n 2 d_R_numberArcs_12 rfl rfl ?_
      refine ev_iload_n 2 d_R_numberArcs_13 rfl rfl ?_
      refine ev_iast d_R_numberArcs_14 hA.2.1 (vp_in_nI (by omega) (by omega)) ?_
      refine ev_iinc (v := _ + 1) d_R_numberArcs_15 rfl rfl (Nat.le_of_ble_eq_true rfl) rfl ?_
      rw [nI_clamp (by omega), nI_1]
      refine ev_goto 2 d_R_numberArcs_18 (by decide) ?_
      have h4 := ih (i + 1) _ _ (by omega) (by
        intro d hd
        by_cases h5 : d = i
        · rw [h5, pk_us]; exact ⟨i, by omega, rfl⟩
        · rw [pk_un h5]; exact hs d (by omega)) (zCr_a33 (x' := upd l i (nI i)) hC hA.2.1) (zAr_l hA)
      rw [List.set_set] at h4
      exact h4
theorem sp_R_numberArcs {w : zW} (hf : edg (4 * n) f) (hC : zCr w j je jg n f g) (hA : zAr w jR jl ju jc jn jM l u c ln mi) : Sp M_R_numberArcs [.ref jR, .ref j] w (some (.int (nI (nuA f n (arM f (piI l 0 33) 0 n) 1 32 u 0).1))) ((w.set jl (aI 33 (arM f (piI l 0 33) 0 n))).set ju (aI 33 (nuA f n (arM f (piI l 0 33) 0 n) 1 32 u 0).2)) := by
  refine Sp.of (by decide) (Nat.le_of_ble_eq_true rfl) ?_
  refine ev_iconst (v := 0) d_R_numberArcs_0 (by decide) ?_
  refine ev_istore_n 2 d_R_numberArcs_1 rfl (Nat.le_of_ble_eq_true rfl) rfl ?_
  exact lp_R_number1 hf 33 0 w l (by omega) (fun d hd => absurd hd (by omega)) hC hA
theorem sp_R_addEntry {w : zW} (hf : edg (4 * n) f) (hl : sml 33 33 l) {B : Nat} (hB : B ≤ 1000) (hu : sml B 33 u) (hC : zCr w j je jg n f g) (hA : zAr w jR jl ju jc jn jM l u c ln mi) {order e : Nat} (ho : order ≤ 8) (he : e < 4 * n) (a b : Int32) : Sp M_R_addEntry [.ref jR, .ref j, .int (nI order), .int (nI e), .int a, .int b] w none ((w.set jc (aI 64 (adE (clN f l u e) order e a c))).set jn (aI 64 (adE (clN f l u e) order e b ln))) := by
  refine Sp.of (by decide) (Nat.le_of_ble_eq_true rfl) ?_
  have hn := hC.2.2.2
  have h1 := edg_ed hf he
  have h2 := sml_at (by omega) hl (d := ed f e) (by omega)
  have h3 := sml_at (by omega) hu (d := (l (ed f e)).toNatClampNeg) h2.2
  refine ev_aload_n 0 d_R_addEntry_0 rfl rfl ?_
  refine ev_get f_R_15 d_R_addEntry_1 hA.1 rfl ?_
  refine ev_aload_n 0 d_R_addEntry_4 rfl rfl ?_
  refine ev_get f_R_11 d_R_addEntry_5 hA.1 rfl ?_
  refine ev_aload_n 1 d_R_addEntry_8 rfl rfl ?_
  refine ev_iload_n 3 d_R_addEntry_9 rfl rfl ?_
  refine ev_callV M_C_edgeAt [_] (sp_C_edgeAt hC.1 hC.2.1 (by omega)) c_R_50 d_R_addEntry_10 hC.1 rfl (by decide) (Nat.le_of_ble_eq_true rfl) ⟨rfl, rfl⟩ rfl ?_
  refine ev_iald d_R_addEntry_13 hA.2.1 (by rw [h1.1]; exact vp_in_nI (by omega) (by omega)) ?_
  refine ev_iald d_R_addEntry_14 hA.2.2.1 (by rw [show l (f e).toNatClampNeg = l (ed f e) from rfl, h2.1]; exact vp_in_nI h2.2 (by omega)) ?_
  rw [show u (l (f e).toNatClampNeg).toNatClampNeg = nI (clN f l u e) from h3.1]
  have h4 : clN f l u e < B := h3.2
  refine ev_istore d_R_addEntry_15 (Nat.le_of_ble_eq_true rfl) rfl ?_
  refine ev_iload d_R_addEntry_17 rfl ?_
  refine ev_iload_n 2 d_R_addEntry_19 rfl rfl ?_
  refine ev_icmp_ge 59 d_R_addEntry_20 (by decide) (fun h => ?_) (fun h => ?_)
  · have h5 : ¬ clN f l u e < order := fun q => absurd h (nI_ge q (by omega))
    have e1 : ∀ (a : Int32) (c : Nat → Int32), adE (clN f l u e) order e a c = c := fun a c => by unfold adE; rw [if_neg h5]
    rw [e1, e1, z_set_self hA.2.2.2.1, z_set_self hA.2.2.2.2.1]
    exact ev_ret d_R_addEntry_59 rfl (Nat.le_of_ble_eq_true rfl) (Nat.le_of_ble_eq_true rfl)
  · have h5 : clN f l u e < order := Nat.not_le.mp (fun q => h (nI_le q (by omega)))
    have e1 : ∀ (a : Int32) (c : Nat → Int32), adE (clN f l u e) order e a c = upd c (e / 4 * 8 + clN f l u e) (c (e / 4 * 8 + clN f l u e) + a) := fun a c => by unfold adE; rw [if_pos h5]
    rw [e1, e1]
    generalize clN f l u e = cl at h4 h5 ⊢
    refine ev_iload_n 3 d_R_addEntry_23 rfl rfl ?_
    refine ev_callS M_A_crossingOf [_] (sp_A_crossingOf w (by omega)) c_R_84 d_R_addEntry_24 rfl (by decide) (Nat.le_of_ble_eq_true rfl) ⟨rfl, rfl⟩ rfl ?_
    refine ev_bipush (v := 8) d_R_addEntry_27 (by decide) ?_
    refine ev_imul d_R_addEntry_29 ?_
    rw [show nI (e / 4) * (8 : Int32) = nI (e / 4 * 8) from pk_mul _ 8]
    refine ev_iload d_R_addEntry_30 rfl ?_
    refine ev_iadd d_R_addEntry_32 ?_
    rw [nI_add]
    refine ev_istore d_R_addEntry_33 (Nat.le_of_ble_eq_true rfl) rfl ?_
    refine ev_aload_n 0 d_R_addEntry_35 rfl rfl ?_
    refine ev_get f_R_18 d_R_addEntry_36 hA.1 rfl ?_
    refine ev_iload d_R_addEntry_39 rfl ?_
    refine ev_dup2 d_R_addEntry_41 rfl rfl ?_
    refine ev_iald d_R_addEntry_42 hA.2.2.2.1 (vp_in_nI (by omega) (by omega)) ?_
    rw [nI_clamp (by omega)]
    refine ev_iload d_R_addEntry_43 rfl ?_
    refine ev_iadd d_R_addEntry_45 ?_
    refine ev_iast d_R_addEntry_46 hA.2.2.2.1 (vp_in_nI (by omega) (by omega)) ?_
    rw [nI_clamp (by omega)]
    refine ev_aload_n 0 d_R_addEntry_47 rfl rfl ?_
    refine ev_get f_R_21 d_R_addEntry_48 (zs_ne (by first | exact z_ne hA.2.2.2.1 hA.1 (by intro h; cases h) | exact z_ne hA.2.2.2.2.1 hA.1 (by intro h; cases h) | exact hA.2.2.2.2.2.2.2 | exact Ne.symm hA.2.2.2.2.2.2.2) hA.1) rfl ?_
    refine ev_iload d_R_addEntry_51 rfl ?_
    refine ev_dup2 d_R_addEntry_53 rfl rfl ?_
    refine ev_iald d_R_addEntry_54 (zs_ne (by first | exact z_ne hA.2.2.2.1 hA.1 (by intro h; cases h) | exact z_ne hA.2.2.2.2.1 hA.1 (by intro h; cases h) | exact hA.2.2.2.2.2.2.2 | exact Ne.symm hA.2.2.2.2.2.2.2) hA.2.2.2.2.1) (vp_in_nI (by omega) (by omega)) ?_
    rw [nI_clamp (by omega)]
    refine ev_iload d_R_addEntry_55 rfl ?_
    refine ev_iadd d_R_addEntry_57 ?_
    refine ev_iast d_R_addEntry_58 (zs_ne (by first | exact z_ne hA.2.2.2.1 hA.1 (by intro h; cases h) | exact z_ne hA.2.2.2.2.1 hA.1 (by intro h; cases h) | exact hA.2.2.2.2.2.2.2 | exact Ne.symm hA.2.2.2.2.2.2.2) hA.2.2.2.2.1) (vp_in_nI (by omega) (by omega)) ?_
    rw [nI_clamp (by omega)]
    exact ev_ret d_R_addEntry_59 rfl (Nat.le_of_ble_eq_true rfl) (Nat.le_of_ble_eq_true rfl)
theorem z_cn {w : zW} {x x' y y' : zE} (h : jc ≠ jn) : (((w.set jc x).set jn y).set jc x').set jn y' = (w.set jc x').set jn y' := by
  rw [List.set_comm _ _ (Ne.symm h), List.set_set, List.set_set]
theorem lp_R_fill (hf : edg (4 * n) f) (hl : sml 33 33 l) {B : Nat} (hB : B ≤ 1000) (hu : sml B 33 u) {order : Nat} (ho : order ≤ n) : ∀ k i (w : zW) (c ln : Nat → Int32), i + k = order → zCr w j je jg n f g → zAr w jR jl ju jc jn jM l u c ln mi → Ev M_R_fillMatrix none none ((w.set jc (aI 64 (itN (fmS (clN f l u) g order 1 0 (-1)) i k c))).set jn (aI 64 (itN (fmS (clN f l u) g order (-1) 1 0) i k ln))) 18 [(0, .ref jR), (1, .ref j), (2, .int (nI order)), (3, .int (nI i))] [] w 0 0 := by
  intro k
  induction k with
  | zero =>
    intro i w c ln hi hC hA
    have hn := hC.2.2.2
    rw [itN_0, itN_0, z_set_self hA.2.2.2.1, z_set_self hA.2.2.2.2.1]
    refine ev_iload_n 3 d_R_fillMatrix_18 rfl rfl ?_
    refine ev_iload_n 2 d_R_fillMatrix_19 rfl rfl ?_
    refine ev_icmp_ge 86 d_R_fillMatrix_20 (by decide) (fun h => ?_) (fun h => ?_)
    · exact ev_ret d_R_fillMatrix_86 rfl (Nat.le_of_ble_eq_true rfl) (Nat.le_of_ble_eq_true rfl)
    · exact absurd (nI_le (by omega) (by omega)) h
  | succ k ih =>
    intro i w c ln hi hC hA
    have hn := hC.2.2.2
    rw [itN_s, itN_s]
    have hr := rt_lt (g := g) (i := i) (n := n) (by omega)
    have key : Ev M_R_fillMatrix none none ((w.set jc (aI 64 (itN (fmS (clN f l u) g order 1 0 (-1)) (i + 1) k (fmS (clN f l u) g order 1 0 (-1) i c)))).set jn (aI 64 (itN (fmS (clN f l u) g order (-1) 1 0) (i + 1) k (fmS (clN f l u) g order (-1) 1 0 i ln)))) 42 [(0, .ref jR), (1, .ref j), (2, .int (nI order)), (3, .int (nI i))] [.int (nI (rt g i))] w 0 0 := by
      refine ev_istore d_R_fillMatrix_42 (Nat.le_of_ble_eq_true rfl) rfl ?_
      refine ev_aload_n 0 d_R_fillMatrix_44 rfl rfl ?_
      refine ev_aload_n 1 d_R_fillMatrix_45 rfl rfl ?_
      refine ev_iload_n 2 d_R_fillMatrix_46 rfl rfl ?_
      refine ev_iconst (v := 4) d_R_fillMatrix_47 (by decide) ?_
      refine ev_iload_n 3 d_R_fillMatrix_48 rfl rfl ?_
      refine ev_imul d_R_fillMatrix_49 ?_
      rw [z_m4]
      refine ev_iconst (v := 1) d_R_fillMatrix_50 (by decide) ?_
      refine ev_iadd d_R_fillMatrix_51 ?_
      rw [nI_1]
      refine ev_iconst (v := 1) d_R_fillMatrix_52 (by decide) ?_
      refine ev_iconst (v := -1) d_R_fillMatrix_53 (by decide) ?_
      have hC1 := zCr_a64 (x' := adE (clN f l u (4 * i + 1)) order (4 * i + 1) (-1) ln) (zCr_a64 (x' := adE (clN f l u (4 * i + 1)) order (4 * i + 1) 1 c) hC hA.2.2.2.1) (zAr_c hA).2.2.2.2.1
      have hA1 := zAr_n (n' := adE (clN f l u (4 * i + 1)) order (4 * i + 1) (-1) ln) (zAr_c (c' := adE (clN f l u (4 * i + 1)) order (4 * i + 1) 1 c) hA)
      refine ev_callV M_R_addEntry [_, _, _, _, _] (sp_R_addEntry hf hl hB hu hC hA (by omega) (by omega) 1 (-1)) c_R_77 d_R_fillMatrix_54 hA.1 rfl (by decide) (Nat.le_of_ble_eq_true rfl) ⟨rfl, rfl⟩ (by rw [List.length_set, List.length_set]) ?_
      refine ev_aload_n 0 d_R_fillMatrix_57 rfl rfl ?_
      refine ev_aload_n 1 d_R_fillMatrix_58 rfl rfl ?_
      refine ev_iload_n 2 d_R_fillMatrix_59 rfl rfl ?_
      refine ev_iload d_R_fillMatrix_60 rfl ?_
      refine ev_iconst (v := 0) d_R_fillMatrix_62 (by decide) ?_
      refine ev_iconst (v := 1) d_R_fillMatrix_63 (by decide) ?_
      have hC2 := zCr_a64 (x' := adE (clN f l u (rt g i)) order (rt g i) 1 (adE (clN f l u (4 * i + 1)) order (4 * i + 1) (-1) ln)) (zCr_a64 (x' := adE (clN f l u (rt g i)) order (rt g i) 0 (adE (clN f l u (4 * i + 1)) order (4 * i + 1) 1 c)) hC1 hA1.2.2.2.1) (zAr_c hA1).2.2.2.2.1
      have hA2 := zAr_n (n' := adE (clN f l u (rt g i)) order (rt g i) 1 (adE (clN f l u (4 * i + 1)) order (4 * i + 1) (-1) ln)) (zAr_c (c' := adE (clN f l u (rt g i)) order (rt g i) 0 (adE (clN f l u (4 * i + 1)) order (4 * i + 1) 1 c)) hA1)
      refine ev_callV M_R_addEntry [_, _, _, _, _] (sp_R_addEntry hf hl hB hu hC1 hA1 (by omega) hr 0 1) c_R_77 d_R_fillMatrix_64 hA1.1 rfl (by decide) (Nat.le_of_ble_eq_true rfl) ⟨rfl, rfl⟩ (by rw [List.length_set, List.length_set]) ?_
      rw [z_cn hA.2.2.2.2.2.2.2] at hC2 hA2 ⊢
      refine ev_aload_n 0 d_R_fillMatrix_67 rfl rfl ?_
      refine ev_aload_n 1 d_R_fillMatrix_68 rfl rfl ?_
      refine ev_iload_n 2 d_R_fillMatrix_69 rfl rfl ?_
      refine ev_iload d_R_fillMatrix_70 rfl ?_
      refine ev_callS M_A_opposite [_] (sp_A_opposite _ (e := rt g i) (by omega)) c_R_81 d_R_fillMatrix_72 rfl (by decide) (Nat.le_of_ble_eq_true rfl) ⟨rfl, rfl⟩ rfl ?_
      refine ev_iconst (v := -1) d_R_fillMatrix_75 (by decide) ?_
      refine ev_iconst (v := 0) d_R_fillMatrix_76 (by decide) ?_
      refine ev_callV M_R_addEntry [_, _, _, _, _] (sp_R_addEntry (e := opp (rt g i)) hf hl hB hu hC2 hA2 (by omega) (opp_lt4 hr) (-1) 0) c_R_77 d_R_fillMatrix_77 hA2.1 rfl (by decide) (Nat.le_of_ble_eq_true rfl) ⟨rfl, rfl⟩ (by rw [List.length_set, List.length_set]) ?_
      have hC3 := zCr_a64 (x' := fmS (clN f l u) g order (-1) 1 0 i ln) (zCr_a64 (x' := fmS (clN f l u) g order 1 0 (-1) i c) hC2 hA2.2.2.2.1) (zAr_c hA2).2.2.2.2.1
      have hA3 := zAr_n (n' := fmS (clN f l u) g order (-1) 1 0 i ln) (zAr_c (c' := fmS (clN f l u) g order 1 0 (-1) i c) hA2)
      rw [z_cn hA.2.2.2.2.2.2.2] at hC3 hA3 ⊢
      refine ev_iinc (v := _ + 1) d_R_fillMatrix_80 rfl rfl (Nat.le_of_ble_eq_true rfl) rfl ?_
      rw [nI_1]
      refine ev_goto 18 d_R_fillMatrix_83 (by decide) ?_
      have h4 := ih (i + 1) _ _ _ (by omega) hC3 hA3
      rw [z_cn hA.2.2.2.2.2.2.2] at h4
      exact ev_drop (lv' := [(0, .ref jR), (1, .ref j), (2, .int (nI order)), (3, .int (nI (i + 1)))]) (ext := [_]) h4
    refine ev_iload_n 3 d_R_fillMatrix_18 rfl rfl ?_
    refine ev_iload_n 2 d_R_fillMatrix_19 rfl rfl ?_
    refine ev_icmp_ge 86 d_R_fillMatrix_20 (by decide) (fun h => ?_) (fun h => ?_)
    · exact absurd h (nI_ge (by omega) (by omega))
    · refine ev_aload_n 1 d_R_fillMatrix_23 rfl rfl ?_
      refine ev_iload_n 3 d_R_fillMatrix_24 rfl rfl ?_
      refine ev_callV M_C_isPositive [_] (sp_C_isPositive hC.1 hC.2.2.1 (by omega)) c_R_74 d_R_fillMatrix_25 hC.1 rfl (by decide) (Nat.le_of_ble_eq_true rfl) ⟨rfl, rfl⟩ rfl ?_
      refine ev_if_eq 37 d_R_fillMatrix_28 (by decide) (fun h2 => ?_) (fun h2 => ?_)
      · have h3 : rt g i = 4 * i + 2 := by
          unfold rt
          rw [if_neg (by have := (zb_0 _).mp h2; simpa using this)]
        rw [h3] at key
        refine ev_iconst (v := 4) d_R_fillMatrix_37 (by decide) ?_
        refine ev_iload_n 3 d_R_fillMatrix_38 rfl rfl ?_
        refine ev_imul d_R_fillMatrix_39 ?_
        rw [z_m4]
        refine ev_iconst (v := 2) d_R_fillMatrix_40 (by decide) ?_
        refine ev_iadd d_R_fillMatrix_41 ?_
        rw [z_p2]
        exact key
      · have h3 : rt g i = 4 * i := by
          unfold rt
          rw [if_pos (by have := (zb_n0 _).mp h2; simpa using this)]
        rw [h3] at key
        refine ev_iconst (v := 4) d_R_fillMatrix_31 (by decide) ?_
        refine ev_iload_n 3 d_R_fillMatrix_32 rfl rfl ?_
        refine ev_imul d_R_fillMatrix_33 ?_
        rw [z_m4]
        refine ev_goto 42 d_R_fillMatrix_34 (by decide) ?_
        exact key
theorem sp_R_fillMatrix {w : zW} (hf : edg (4 * n) f) (hl : sml 33 33 l) {B : Nat} (hB : B ≤ 1000) (hu : sml B 33 u) {order : Nat} (ho : order ≤ n) (hC : zCr w j je jg n f g) (hA : zAr w jR jl ju jc jn jM l u c ln mi) : Sp M_R_fillMatrix [.ref jR, .ref j, .int (nI order)] w none ((w.set jc (aI 64 (itN (fmS (clN f l u) g order 1 0 (-1)) 0 order (fl0 c 64)))).set jn (aI 64 (itN (fmS (clN f l u) g order (-1) 1 0) 0 order (fl0 ln 64)))) := by
  refine Sp.of (by decide) (Nat.le_of_ble_eq_true rfl) ?_
  have hC1 := zCr_a64 (x' := fl0 c 64) hC hA.2.2.2.1
  have hA1 := zAr_c (c' := fl0 c 64) hA
  have hC2 := zCr_a64 (x' := fl0 ln 64) hC1 hA1.2.2.2.2.1
  have hA2 := zAr_n (n' := fl0 ln 64) hA1
  refine ev_aload_n 0 d_R_fillMatrix_0 rfl rfl ?_
  refine ev_get f_R_18 d_R_fillMatrix_1 hA.1 rfl ?_
  refine ev_iconst (v := 0) d_R_fillMatrix_4 (by decide) ?_
  refine ev_callS M_F_fillI [_, _] (sp_F_fillI (by omega) hA.2.2.2.1 0) c_R_68 d_R_fillMatrix_5 rfl (by decide) (Nat.le_of_ble_eq_true rfl) ⟨rfl, rfl⟩ (List.length_set) ?_
  refine ev_aload_n 0 d_R_fillMatrix_8 rfl rfl ?_
  refine ev_get f_R_21 d_R_fillMatrix_9 hA1.1 rfl ?_
  refine ev_iconst (v := 0) d_R_fillMatrix_12 (by decide) ?_
  refine ev_callS M_F_fillI [_, _] (sp_F_fillI (by omega) hA1.2.2.2.2.1 0) c_R_68 d_R_fillMatrix_13 rfl (by decide) (Nat.le_of_ble_eq_true rfl) ⟨rfl, rfl⟩ (List.length_set) ?_
  refine ev_iconst (v := 0) d_R_fillMatrix_16 (by decide) ?_
  refine ev_istore_n 3 d_R_fillMatrix_17 rfl (Nat.le_of_ble_eq_true rfl) rfl ?_
  have h4 := lp_R_fill hf hl hB hu ho order 0 _ _ _ (by omega) hC2 hA2
  rw [z_cn hA.2.2.2.2.2.2.2] at h4
  exact h4
end Ar
