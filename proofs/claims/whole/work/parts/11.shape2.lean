section Sh
variable {j je jg n jS js jp : Nat} {f g : Nat → Int32}
theorem lp_S_mergePieces (one two : Int32) {s : Nat → Int32} : ∀ k i (w : zW) (q : Nat → Int32), i + k = 8 → zSh w jS js jp s q → Ev M_S_mergePieces none none (w.set jp (aI 8 (renA two one q i k))) 2 [(0, .ref jS), (1, .int one), (2, .int two), (3, .int (nI i))] [] w 0 0 := by
  intro k
  induction k with
  | zero =>
    intro i w q hi hT
    have e0 : renA two one q i 0 = q := by rw [renA]
    rw [e0, z_set_self hT.2.2]
    refine ev_iload_n 3 d_S_mergePieces_2 rfl rfl ?_
    refine ev_bipush (v := 8) d_S_mergePieces_3 (by decide) ?_
    refine ev_icmp_ge 31 d_S_mergePieces_5 (by decide) (fun h => ?_) (fun h => ?_)
    · exact ev_ret d_S_mergePieces_31 rfl (Nat.le_of_ble_eq_true rfl) (Nat.le_of_ble_eq_true rfl)
    · exact absurd (nI_le (a := 8) (b := i) (by omega) (by omega)) h
  | succ k ih =>
    intro i w q hi hT
    refine ev_iload_n 3 d_S_mergePieces_2 rfl rfl ?_
    refine ev_bipush (v := 8) d_S_mergePieces_3 (by decide) ?_
    refine ev_icmp_ge 31 d_S_mergePieces_5 (by decide) (fun h => ?_) (fun h => ?_)
    · exact absurd h (nI_ge (b := 8) (by omega) (by omega))
    · refine ev_aload_n 0 d_S_mergePieces_8 rfl rfl ?_
      refine ev_get f_S_15 d_S_mergePieces_9 hT.1 rfl ?_
      refine ev_iload_n 3 d_S_mergePieces_12 rfl rfl ?_
      refine ev_iald d_S_mergePieces_13 hT.2.2 (vp_in_nI (by omega) (by omega)) ?_
      rw [nI_clamp (by omega)]
      refine ev_iload_n 2 d_S_mergePieces_14 rfl rfl ?_
      refine ev_icmp_ne 25 d_S_mergePieces_15 (by decide) (fun h2 => ?_) (fun h2 => ?_)
      · have e0 : renA two one q i (k + 1) = renA two one q (i + 1) k := by rw [renA, if_neg h2]
        rw [e0]
        refine ev_iinc (v := _ + 1) d_S_mergePieces_25 rfl rfl (Nat.le_of_ble_eq_true rfl) rfl ?_
        rw [nI_1]
        refine ev_goto 2 d_S_mergePieces_28 (by decide) ?_
        exact ih (i + 1) w q (by omega) hT
      · have e0 : renA two one q i (k + 1) = renA two one (upd q i one) (i + 1) k := by rw [renA, if_pos h2]
        rw [e0]
        refine ev_aload_n 0 d_S_mergePieces_18 rfl rfl ?_
        refine ev_get f_S_15 d_S_mergePieces_19 hT.1 rfl ?_
        refine ev_iload_n 3 d_S_mergePieces_22 rfl rfl ?_
        refine ev_iload_n 1 d_S_mergePieces_23 rfl rfl ?_
        refine ev_iast d_S_mergePieces_24 hT.2.2 (vp_in_nI (by omega) (by omega)) ?_
        refine ev_iinc (v := _ + 1) d_S_mergePieces_25 rfl rfl (Nat.le_of_ble_eq_true rfl) rfl ?_
        rw [nI_clamp (by omega), nI_1]
        refine ev_goto 2 d_S_mergePieces_28 (by decide) ?_
        have h4 := ih (i + 1) (w.set jp (aI 8 (upd q i one))) (upd q i one) (by omega) (zSh_pie hT)
        rw [List.set_set] at h4
        exact h4
theorem sp_S_mergePieces {w : zW} {s q : Nat → Int32} (hT : zSh w jS js jp s q) (one two : Int32) : Sp M_S_mergePieces [.ref jS, .int one, .int two] w none (w.set jp (aI 8 (renA two one q 0 8))) := by
  refine Sp.of (by decide) (Nat.le_of_ble_eq_true rfl) ?_
  refine ev_iconst (v := 0) d_S_mergePieces_0 (by decide) ?_
  refine ev_istore_n 3 d_S_mergePieces_1 rfl (Nat.le_of_ble_eq_true rfl) rfl ?_
  exact lp_S_mergePieces one two 8 0 w q (by omega) hT
theorem lp_S_pieces2 (hne : jp ≠ jg) {s : Nat → Int32} : ∀ k i (w : zW) (q : Nat → Int32) (c : Int32), i + k = 4 * n → zCr w j je jg n f g → zSh w jS js jp s q → Ev M_S_pieces none (some (.int (pcs (oth f n) i k q c).1)) (w.set jp (aI 8 (pcs (oth f n) i k q c).2)) 30 [(0, .ref jS), (1, .ref j), (2, .int c), (3, .int (nI i))] [] w 0 0 := by
  intro k
  induction k with
  | zero =>
    intro i w q c hi hC hT
    have hn := hC.2.2.2
    have e0 : pcs (oth f n) i 0 q c = (c, q) := by rw [pcs]
    rw [e0, z_set_self hT.2.2]
    refine ev_iload_n 3 d_S_pieces_30 rfl rfl ?_
    refine ev_aload_n 1 d_S_pieces_31 rfl rfl ?_
    refine ev_callV M_C_ends [] (sp_C_ends hC.1) c_S_18 d_S_pieces_32 hC.1 rfl (by decide) (Nat.le_of_ble_eq_true rfl) ⟨rfl, rfl⟩ rfl ?_
    refine ev_icmp_ge 88 d_S_pieces_35 (by decide) (fun h => ?_) (fun h => ?_)
    · refine ev_iload_n 2 d_S_pieces_88 rfl rfl ?_
      exact ev_iret d_S_pieces_89 rfl rfl (Nat.le_of_ble_eq_true rfl) (Nat.le_of_ble_eq_true rfl)
    · exact absurd (nI_le (by omega) (by omega)) h
  | succ k ih =>
    intro i w q c hi hC hT
    have hn := hC.2.2.2
    have ho := oth_lt (f := f) (n := n) (e := i) hn (by omega)
    refine ev_iload_n 3 d_S_pieces_30 rfl rfl ?_
    refine ev_aload_n 1 d_S_pieces_31 rfl rfl ?_
    refine ev_callV M_C_ends [] (sp_C_ends hC.1) c_S_18 d_S_pieces_32 hC.1 rfl (by decide) (Nat.le_of_ble_eq_true rfl) ⟨rfl, rfl⟩ rfl ?_
    refine ev_icmp_ge 88 d_S_pieces_35 (by decide) (fun h => ?_) (fun h => ?_)
    · exact absurd h (nI_ge (by omega) (by omega))
    · refine ev_aload_n 0 d_S_pieces_38 rfl rfl ?_
      refine ev_get f_S_15 d_S_pieces_39 hT.1 rfl ?_
      refine ev_iload_n 3 d_S_pieces_42 rfl rfl ?_
      refine ev_callS M_A_crossingOf [_] (sp_A_crossingOf w (by omega)) c_S_59 d_S_pieces_43 rfl (by decide) (Nat.le_of_ble_eq_true rfl) ⟨rfl, rfl⟩ rfl ?_
      refine ev_iald d_S_pieces_46 hT.2.2 (vp_in_nI (by omega) (by omega)) ?_
      rw [nI_clamp (by omega)]
      refine ev_istore d_S_pieces_47 (Nat.le_of_ble_eq_true rfl) rfl ?_
      refine ev_aload_n 0 d_S_pieces_49 rfl rfl ?_
      refine ev_get f_S_15 d_S_pieces_50 hT.1 rfl ?_
      refine ev_aload_n 1 d_S_pieces_53 rfl rfl ?_
      refine ev_iload_n 3 d_S_pieces_54 rfl rfl ?_
      refine ev_callV M_C_otherEnd [_] (sp_C_otherEnd hC.1 hC.2.1 hn (by omega)) c_S_62 d_S_pieces_55 hC.1 rfl (by decide) (Nat.le_of_ble_eq_true rfl) ⟨rfl, rfl⟩ rfl ?_
      refine ev_callS M_A_crossingOf [_] (sp_A_crossingOf w (e := oth f n i) (by omega)) c_S_59 d_S_pieces_58 rfl (by decide) (Nat.le_of_ble_eq_true rfl) ⟨rfl, rfl⟩ rfl ?_
      refine ev_iald d_S_pieces_61 hT.2.2 (vp_in_nI (n := oth f n i / 4) (by omega) (by omega)) ?_
      rw [nI_clamp (n := oth f n i / 4) (by omega)]
      refine ev_istore d_S_pieces_62 (Nat.le_of_ble_eq_true rfl) rfl ?_
      refine ev_iload d_S_pieces_64 rfl ?_
      refine ev_iload d_S_pieces_66 rfl ?_
      refine ev_icmp_eq 82 d_S_pieces_68 (by decide) (fun h2 => ?_) (fun h2 => ?_)
      · have e0 : pcs (oth f n) i (k + 1) q c = pcs (oth f n) (i + 1) k q c := by rw [pcs, if_pos h2]
        rw [e0]
        refine ev_iinc (v := _ + 1) d_S_pieces_82 rfl rfl (Nat.le_of_ble_eq_true rfl) rfl ?_
        rw [nI_1]
        refine ev_goto 30 d_S_pieces_85 (by decide) ?_
        refine ev_sub (lv' := [(0, .ref jS), (1, .ref j), (2, .int c), (3, .int (nI (i + 1)))]) ?_ (ih (i + 1) w q c (by omega) hC hT)
        intro x hx
        simp only [List.mem_cons, List.not_mem_nil, or_false] at hx
        rcases hx with rfl | rfl | rfl | rfl <;> simp [z_put, lv_args]
      · have e0 : pcs (oth f n) i (k + 1) q c = pcs (oth f n) (i + 1) k (renA (q (oth f n i / 4)) (q (i / 4)) q 0 8) (c + (-1)) := by rw [pcs, if_neg h2]
        rw [e0]
        refine ev_aload_n 0 d_S_pieces_71 rfl rfl ?_
        refine ev_iload d_S_pieces_72 rfl ?_
        refine ev_iload d_S_pieces_74 rfl ?_
        refine ev_callV M_S_mergePieces [_, _] (sp_S_mergePieces hT _ _) c_S_65 d_S_pieces_76 hT.1 rfl (by decide) (Nat.le_of_ble_eq_true rfl) ⟨rfl, rfl⟩ (List.length_set) ?_
        refine ev_iinc (v := _ + (-1)) d_S_pieces_79 rfl rfl (Nat.le_of_ble_eq_true rfl) rfl ?_
        refine ev_iinc (v := _ + 1) d_S_pieces_82 rfl rfl (Nat.le_of_ble_eq_true rfl) rfl ?_
        rw [nI_1]
        refine ev_goto 30 d_S_pieces_85 (by decide) ?_
        have h4 := ih (i + 1) _ (renA (q (oth f n i / 4)) (q (i / 4)) q 0 8) (c + (-1)) (by omega) (zCr_pie (q' := renA (q (oth f n i / 4)) (q (i / 4)) q 0 8) hC hT hne) (zSh_pie hT)
        rw [List.set_set] at h4
        refine ev_sub (lv' := [(0, .ref jS), (1, .ref j), (2, .int (c + (-1))), (3, .int (nI (i + 1)))]) ?_ h4
        intro x hx
        simp only [List.mem_cons, List.not_mem_nil, or_false] at hx
        rcases hx with rfl | rfl | rfl | rfl <;> simp [z_put, lv_args]
theorem lp_S_pieces0 (hne : jp ≠ jg) {s : Nat → Int32} : ∀ k i (w : zW) (q : Nat → Int32), i + k = n → zCr w j je jg n f g → zSh w jS js jp s q → Ev M_S_pieces none (some (.int (pcs (oth f n) 0 (4 * n) (piI q i k) (nI n)).1)) (w.set jp (aI 8 (pcs (oth f n) 0 (4 * n) (piI q i k) (nI n)).2)) 2 [(0, .ref jS), (1, .ref j), (2, .int (nI i))] [] w 0 0 := by
  intro k
  induction k with
  | zero =>
    intro i w q hi hC hT
    have hn := hC.2.2.2
    have e0 : piI q i 0 = q := by rw [piI]
    rw [e0]
    refine ev_iload_n 2 d_S_pieces_2 rfl rfl ?_
    refine ev_aload_n 1 d_S_pieces_3 rfl rfl ?_
    refine ev_callV M_C_size [] (sp_C_size hC.1) c_S_40 d_S_pieces_4 hC.1 rfl (by decide) (Nat.le_of_ble_eq_true rfl) ⟨rfl, rfl⟩ rfl ?_
    refine ev_icmp_ge 23 d_S_pieces_7 (by decide) (fun h => ?_) (fun h => ?_)
    · refine ev_aload_n 1 d_S_pieces_23 rfl rfl ?_
      refine ev_callV M_C_size [] (sp_C_size hC.1) c_S_40 d_S_pieces_24 hC.1 rfl (by decide) (Nat.le_of_ble_eq_true rfl) ⟨rfl, rfl⟩ rfl ?_
      refine ev_istore_n 2 d_S_pieces_27 rfl (Nat.le_of_ble_eq_true rfl) rfl ?_
      refine ev_iconst (v := 0) d_S_pieces_28 (by decide) ?_
      refine ev_istore_n 3 d_S_pieces_29 rfl (Nat.le_of_ble_eq_true rfl) rfl ?_
      exact lp_S_pieces2 hne (4 * n) 0 w q (nI n) (by omega) hC hT
    · exact absurd (nI_le (by omega) (by omega)) h
  | succ k ih =>
    intro i w q hi hC hT
    have hn := hC.2.2.2
    have e0 : piI q i (k + 1) = piI (upd q i (nI i)) (i + 1) k := by rw [piI]
    rw [e0]
    refine ev_iload_n 2 d_S_pieces_2 rfl rfl ?_
    refine ev_aload_n 1 d_S_pieces_3 rfl rfl ?_
    refine ev_callV M_C_size [] (sp_C_size hC.1) c_S_40 d_S_pieces_4 hC.1 rfl (by decide) (Nat.le_of_ble_eq_true rfl) ⟨rfl, rfl⟩ rfl ?_
    refine ev_icmp_ge 23 d_S_pieces_7 (by decide) (fun h => ?_) (fun h => ?_)
    · exact absurd h (nI_ge (by omega) (by omega))
    · refine ev_aload_n 0 d_S_pieces_10 rfl rfl ?_
      refine ev_get f_S_15 d_S_pieces_11 hT.1 rfl ?_
      refine ev_iload_n 2 d_S_pieces_14 rfl rfl ?_
      refine ev_iload_n 2 d_S_pieces_15 rfl rfl ?_
      refine ev_iast d_S_pieces_16 hT.2.2 (vp_in_nI (by omega) (by omega)) ?_
      refine ev_iinc (v := _ + 1) d_S_pieces_17 rfl rfl (Nat.le_of_ble_eq_true rfl) rfl ?_
      rw [nI_clamp (by omega), nI_1]
      refine ev_goto 2 d_S_pieces_20 (by decide) ?_
      have h4 := ih (i + 1) _ (upd q i (nI i)) (by omega) (zCr_pie (q' := upd q i (nI i)) hC hT hne) (zSh_pie hT)
      rw [List.set_set] at h4
      exact h4
theorem sp_S_pieces {w : zW} (hne : jp ≠ jg) {s q : Nat → Int32} (hC : zCr w j je jg n f g) (hT : zSh w jS js jp s q) : Sp M_S_pieces [.ref jS, .ref j] w (some (.int (pcs (oth f n) 0 (4 * n) (piI q 0 n) (nI n)).1)) (w.set jp (aI 8 (pcs (oth f n) 0 (4 * n) (piI q 0 n) (nI n)).2)) := by
  refine Sp.of (by decide) (Nat.le_of_ble_eq_true rfl) ?_
  refine ev_iconst (v := 0) d_S_pieces_0 (by decide) ?_
  refine ev_istore_n 2 d_S_pieces_1 rfl (Nat.le_of_ble_eq_true rfl) rfl ?_
  exact lp_S_pieces0 hne n 0 w q (by omega) hC hT
theorem sp_S_isFlat {w : zW} (hne : js ≠ je) (hne2 : jp ≠ jg) {s q : Nat → Int32} (hC : zCr w j je jg n f g) (hT : zSh w jS js jp s q) : Sp M_S_isFlat [.ref jS, .ref j] w (some (.int (zb (decide ((fcs (fun _ => true) (fol f n) 0 (4 * n) (fl0 s 32) 0).1 = nI n + 2 * (pcs (oth f n) 0 (4 * n) (piI q 0 n) (nI n)).1))))) ((w.set js (aI 32 (fcs (fun _ => true) (fol f n) 0 (4 * n) (fl0 s 32) 0).2)).set jp (aI 8 (pcs (oth f n) 0 (4 * n) (piI q 0 n) (nI n)).2)) := by
  refine Sp.of (by decide) (Nat.le_of_ble_eq_true rfl) ?_
  have hC1 := zCr_seen (s' := (fcs (fun _ => true) (fol f n) 0 (4 * n) (fl0 s 32) 0).2) hC hT hne
  have hT1 := zSh_seen (s' := (fcs (fun _ => true) (fol f n) 0 (4 * n) (fl0 s 32) 0).2) hT
  refine ev_aload_n 0 d_S_isFlat_0 rfl rfl ?_
  refine ev_aload_n 1 d_S_isFlat_1 rfl rfl ?_
  refine ev_callV M_S_faces [_] (sp_S_faces hne hC hT) c_S_36 d_S_isFlat_2 hT.1 rfl (by decide) (Nat.le_of_ble_eq_true rfl) ⟨rfl, rfl⟩ (List.length_set) ?_
  refine ev_aload_n 1 d_S_isFlat_5 rfl rfl ?_
  refine ev_callV M_C_size [] (sp_C_size hC1.1) c_S_40 d_S_isFlat_6 hC1.1 rfl (by decide) (Nat.le_of_ble_eq_true rfl) ⟨rfl, rfl⟩ rfl ?_
  refine ev_iconst (v := 2) d_S_isFlat_9 (by decide) ?_
  refine ev_aload_n 0 d_S_isFlat_10 rfl rfl ?_
  refine ev_aload_n 1 d_S_isFlat_11 rfl rfl ?_
  refine ev_callV M_S_pieces [_] (sp_S_pieces hne2 hC1 hT1) c_S_43 d_S_isFlat_12 hT1.1 rfl (by decide) (Nat.le_of_ble_eq_true rfl) ⟨rfl, rfl⟩ (List.length_set) ?_
  refine ev_imul d_S_isFlat_15 ?_
  refine ev_iadd d_S_isFlat_16 ?_
  refine ev_icmp_ne 24 d_S_isFlat_17 (by decide) (fun h => ?_) (fun h => ?_)
  · rw [decide_eq_false h]
    refine ev_iconst (v := 0) d_S_isFlat_24 (by decide) ?_
    exact ev_iret d_S_isFlat_25 rfl zr0 (Nat.le_of_ble_eq_true rfl) (Nat.le_of_ble_eq_true rfl)
  · rw [decide_eq_true h]
    refine ev_iconst (v := 1) d_S_isFlat_20 (by decide) ?_
    refine ev_goto 25 d_S_isFlat_21 (by decide) ?_
    exact ev_iret d_S_isFlat_25 rfl zr1 (Nat.le_of_ble_eq_true rfl) (Nat.le_of_ble_eq_true rfl)
theorem sp_S_sameFace_no {w : zW} {a b : Int32} (h : a = -1 ∨ b = -1) (jx jy : Nat) : Sp M_S_sameFace [.ref jx, .ref jy, .int a, .int b] w (some (.int (zb false))) w := by
  refine Sp.of (by decide) (Nat.le_of_ble_eq_true rfl) ?_
  refine ev_iload_n 2 d_S_sameFace_0 rfl rfl ?_
  refine ev_iconst (v := -1) d_S_sameFace_1 (by decide) ?_
  refine ev_icmp_eq 10 d_S_sameFace_2 (by decide) (fun h1 => ?_) (fun h1 => ?_)
  · refine ev_iconst (v := 0) d_S_sameFace_10 (by decide) ?_
    exact ev_iret d_S_sameFace_11 rfl zr0 (Nat.le_of_ble_eq_true rfl) (Nat.le_of_ble_eq_true rfl)
  · refine ev_iload_n 3 d_S_sameFace_5 rfl rfl ?_
    refine ev_iconst (v := -1) d_S_sameFace_6 (by decide) ?_
    refine ev_icmp_ne 12 d_S_sameFace_7 (by decide) (fun h2 => ?_) (fun h2 => ?_)
    · exact absurd (h.resolve_left h1) h2
    · refine ev_iconst (v := 0) d_S_sameFace_10 (by decide) ?_
      exact ev_iret d_S_sameFace_11 rfl zr0 (Nat.le_of_ble_eq_true rfl) (Nat.le_of_ble_eq_true rfl)
theorem sp_S_sameFace {w : zW} (hne : js ≠ je) {s q : Nat → Int32} (hC : zCr w j je jg n f g) (hT : zSh w jS js jp s q) {a b : Nat} (ha : a < 32) (hb : b < 32) : Sp M_S_sameFace [.ref jS, .ref j, .int (nI a), .int (nI b)] w (some (.int (zb (decide (mkF (fol f n) 32 (fl0 s 32) a b = 1))))) (w.set js (aI 32 (mkF (fol f n) 32 (fl0 s 32) a))) := by
  refine Sp.of (by decide) (Nat.le_of_ble_eq_true rfl) ?_
  have hC1 := zCr_seen (s' := fl0 s 32) hC hT hne
  have hT1 := zSh_seen (s' := fl0 s 32) hT
  have hT2 := zSh_seen (s' := mkF (fol f n) 32 (fl0 s 32) a) hT
  have go : Ev M_S_sameFace none (some (.int (zb (decide (mkF (fol f n) 32 (fl0 s 32) a b = 1))))) (w.set js (aI 32 (mkF (fol f n) 32 (fl0 s 32) a))) 12 [(0, .ref jS), (1, .ref j), (2, .int (nI a)), (3, .int (nI b))] [] w 0 0 := by
    refine ev_aload_n 0 d_S_sameFace_12 rfl rfl ?_
    refine ev_get f_S_9 d_S_sameFace_13 hT.1 rfl ?_
    refine ev_iconst (v := 0) d_S_sameFace_16 (by decide) ?_
    refine ev_callS M_F_fillI [_, _] (sp_F_fillI (by omega) hT.2.1 0) c_S_46 d_S_sameFace_17 rfl (by decide) (Nat.le_of_ble_eq_true rfl) ⟨rfl, rfl⟩ (List.length_set) ?_
    refine ev_aload_n 0 d_S_sameFace_20 rfl rfl ?_
    refine ev_aload_n 1 d_S_sameFace_21 rfl rfl ?_
    refine ev_iload_n 2 d_S_sameFace_22 rfl rfl ?_
    refine ev_callV M_S_markFace [_, _] (sp_S_markFace hne hC1 hT1 ha) c_S_52 d_S_sameFace_23 hT1.1 rfl (by decide) (Nat.le_of_ble_eq_true rfl) ⟨rfl, rfl⟩ (List.length_set) ?_
    rw [List.set_set]
    refine ev_aload_n 0 d_S_sameFace_26 rfl rfl ?_
    refine ev_get f_S_9 d_S_sameFace_27 hT2.1 rfl ?_
    refine ev_iload_n 3 d_S_sameFace_30 rfl rfl ?_
    refine ev_iald d_S_sameFace_31 hT2.2.1 (vp_in_nI (by omega) (by omega)) ?_
    rw [nI_clamp (by omega)]
    refine ev_iconst (v := 1) d_S_sameFace_32 (by decide) ?_
    refine ev_icmp_ne 40 d_S_sameFace_33 (by decide) (fun h => ?_) (fun h => ?_)
    · rw [decide_eq_false h]
      refine ev_iconst (v := 0) d_S_sameFace_40 (by decide) ?_
      exact ev_iret d_S_sameFace_41 rfl zr0 (Nat.le_of_ble_eq_true rfl) (Nat.le_of_ble_eq_true rfl)
    · rw [decide_eq_true h]
      refine ev_iconst (v := 1) d_S_sameFace_36 (by decide) ?_
      refine ev_goto 41 d_S_sameFace_37 (by decide) ?_
      exact ev_iret d_S_sameFace_41 rfl zr1 (Nat.le_of_ble_eq_true rfl) (Nat.le_of_ble_eq_true rfl)
  refine ev_iload_n 2 d_S_sameFace_0 rfl rfl ?_
  refine ev_iconst (v := -1) d_S_sameFace_1 (by decide) ?_
  refine ev_icmp_eq 10 d_S_sameFace_2 (by decide) (fun h1 => ?_) (fun h1 => ?_)
  · exact absurd h1 (nI_nm1 (by omega))
  · refine ev_iload_n 3 d_S_sameFace_5 rfl rfl ?_
    refine ev_iconst (v := -1) d_S_sameFace_6 (by decide) ?_
    refine ev_icmp_ne 12 d_S_sameFace_7 (by decide) (fun h2 => ?_) (fun h2 => ?_)
    · exact go
    · exact absurd h2 (nI_nm1 (by omega))
end Sh
