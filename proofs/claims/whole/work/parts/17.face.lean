def isE (x : Int32) : Bool := decide (1 ≤ x ∧ x ≤ 32)
def kC (nd : Nat) (fd gd : Nat → Int32) (n : Nat) (f g : Nat → Int32) (nf : Nat) (ff gf s q oe t : Nat → Int32) (m : Nat → Int64) (l u c ln : Nat → Int32) (mi : Nat → Int64) (wd pl : Nat → Int32) (lt cc : Nat) (T : zW) : zW :=
  (.inr (4, [.ref 1, .ref 4, .ref 7, .ref 10, .ref 13, .ref 17, .ref 23, .ref 24, .int (nI lt), .int (nI cc)])) :: oC 2 3 nd :: aI 32 fd :: aI 8 gd :: oC 5 6 n :: aI 32 f :: aI 8 g :: oC 8 9 nf :: aI 32 ff :: aI 8 gf :: oS 11 12 :: aI 32 s :: aI 8 q :: oB 14 15 16 :: aI 32 oe :: aI 261 t :: aL 125 m :: oR 18 19 20 21 22 :: aI 33 l :: aI 33 u :: aI 64 c :: aI 64 ln :: aL 2304 mi :: aI 8 wd :: aI 5 pl :: T
section Fa
variable {nd : Nat} {fd gd : Nat → Int32} {n : Nat} {f g : Nat → Int32} {nf : Nat} {ff gf s q oe t : Nat → Int32} {m : Nat → Int64} {l u c ln : Nat → Int32} {mi : Nat → Int64} {wd pl : Nat → Int32} {lt cc : Nat} {T : zW}
theorem sp_A_cross_no {a b x d : Int32} {p : Bool} (hn : nd ≤ 8) (h : ¬ (nd < 8 ∧ isE a = true ∧ isE b = true ∧ isE x = true ∧ isE d = true)) : Sp M_A_cross [.ref 0, .int a, .int b, .int x, .int d, .int (zb p)] (kC nd fd gd n f g nf ff gf s q oe t m l u c ln mi wd pl lt cc T) (some (.int (zb false))) (kC nd fd gd n f g nf ff gf s q oe t m l u c ln mi wd pl lt cc T) := by
  refine Sp.of (by decide) (Nat.le_of_ble_eq_true rfl) ?_
  refine ev_aload_n 0 d_A_cross_0 rfl rfl ?_
  refine ev_get f_A_10 d_A_cross_1 rfl rfl ?_
  refine ev_callV M_C_isFull [] (sp_C_isFull rfl hn) c_A_57 d_A_cross_4 rfl rfl (by decide) (Nat.le_of_ble_eq_true rfl) ⟨rfl, rfl⟩ rfl ?_
  refine ev_if_ne 39 d_A_cross_7 (by decide) (fun h1 => ?_) (fun h1 => ?_)
  · refine ev_iconst (v := 0) d_A_cross_39 (by decide) ?_
    exact ev_iret d_A_cross_40 rfl zr0 (Nat.le_of_ble_eq_true rfl) (Nat.le_of_ble_eq_true rfl)
  · refine ev_iload_n 1 d_A_cross_10 rfl rfl ?_
    refine ev_callS M_A_isEdge [_] (sp_A_isEdge _ a) c_A_61 d_A_cross_11 rfl (by decide) (Nat.le_of_ble_eq_true rfl) ⟨rfl, rfl⟩ rfl ?_
    refine ev_if_eq 39 d_A_cross_14 (by decide) (fun h2 => ?_) (fun h2 => ?_)
    · refine ev_iconst (v := 0) d_A_cross_39 (by decide) ?_
      exact ev_iret d_A_cross_40 rfl zr0 (Nat.le_of_ble_eq_true rfl) (Nat.le_of_ble_eq_true rfl)
    · refine ev_iload_n 2 d_A_cross_17 rfl rfl ?_
      refine ev_callS M_A_isEdge [_] (sp_A_isEdge _ b) c_A_61 d_A_cross_18 rfl (by decide) (Nat.le_of_ble_eq_true rfl) ⟨rfl, rfl⟩ rfl ?_
      refine ev_if_eq 39 d_A_cross_21 (by decide) (fun h3 => ?_) (fun h3 => ?_)
      · refine ev_iconst (v := 0) d_A_cross_39 (by decide) ?_
        exact ev_iret d_A_cross_40 rfl zr0 (Nat.le_of_ble_eq_true rfl) (Nat.le_of_ble_eq_true rfl)
      · refine ev_iload_n 3 d_A_cross_24 rfl rfl ?_
        refine ev_callS M_A_isEdge [_] (sp_A_isEdge _ x) c_A_61 d_A_cross_25 rfl (by decide) (Nat.le_of_ble_eq_true rfl) ⟨rfl, rfl⟩ rfl ?_
        refine ev_if_eq 39 d_A_cross_28 (by decide) (fun h4 => ?_) (fun h4 => ?_)
        · refine ev_iconst (v := 0) d_A_cross_39 (by decide) ?_
          exact ev_iret d_A_cross_40 rfl zr0 (Nat.le_of_ble_eq_true rfl) (Nat.le_of_ble_eq_true rfl)
        · refine ev_iload d_A_cross_31 rfl ?_
          refine ev_callS M_A_isEdge [_] (sp_A_isEdge _ d) c_A_61 d_A_cross_33 rfl (by decide) (Nat.le_of_ble_eq_true rfl) ⟨rfl, rfl⟩ rfl ?_
          refine ev_if_ne 41 d_A_cross_36 (by decide) (fun h5 => ?_) (fun h5 => ?_)
          · have h6 : nd < 8 := by
              have := (zb_0 _).mp h1
              simp only [decide_eq_false_iff_not] at this
              omega
            exact absurd ⟨h6, (zb_n0 _).mp h2, (zb_n0 _).mp h3, (zb_n0 _).mp h4, (zb_n0 _).mp h5⟩ h
          · refine ev_iconst (v := 0) d_A_cross_39 (by decide) ?_
            exact ev_iret d_A_cross_40 rfl zr0 (Nat.le_of_ble_eq_true rfl) (Nat.le_of_ble_eq_true rfl)
theorem sp_A_cross {a b x d : Int32} {p : Bool} (hn : nd < 8) (ha : isE a = true) (hb : isE b = true) (hx : isE x = true) (hd : isE d = true) : Sp M_A_cross [.ref 0, .int a, .int b, .int x, .int d, .int (zb p)] (kC nd fd gd n f g nf ff gf s q oe t m l u c ln mi wd pl lt cc T) (some (.int (zb true))) (kC (nd + 1) (apE fd nd a b x d) (upd gd nd (sgn p)) n f g nf ff gf s q oe t m l u c ln mi wd pl lt cc T) := by
  refine Sp.of (by decide) (Nat.le_of_ble_eq_true rfl) ?_
  refine ev_aload_n 0 d_A_cross_0 rfl rfl ?_
  refine ev_get f_A_10 d_A_cross_1 rfl rfl ?_
  refine ev_callV M_C_isFull [] (sp_C_isFull rfl (Nat.le_of_lt hn)) c_A_57 d_A_cross_4 rfl rfl (by decide) (Nat.le_of_ble_eq_true rfl) ⟨rfl, rfl⟩ rfl ?_
  rw [decide_eq_false (by omega)]
  refine ev_if_ne 39 d_A_cross_7 (by decide) (fun h1 => ?_) (fun h1 => ?_)
  · exact absurd rfl h1
  · refine ev_iload_n 1 d_A_cross_10 rfl rfl ?_
    refine ev_callS M_A_isEdge [_] (sp_A_isEdge _ a) c_A_61 d_A_cross_11 rfl (by decide) (Nat.le_of_ble_eq_true rfl) ⟨rfl, rfl⟩ rfl ?_
    refine ev_if_eq 39 d_A_cross_14 (by decide) (fun h2 => ?_) (fun h2 => ?_)
    · exact absurd ha (by unfold isE; rw [(zb_0 _).mp h2]; decide)
    · refine ev_iload_n 2 d_A_cross_17 rfl rfl ?_
      refine ev_callS M_A_isEdge [_] (sp_A_isEdge _ b) c_A_61 d_A_cross_18 rfl (by decide) (Nat.le_of_ble_eq_true rfl) ⟨rfl, rfl⟩ rfl ?_
      refine ev_if_eq 39 d_A_cross_21 (by decide) (fun h3 => ?_) (fun h3 => ?_)
      · exact absurd hb (by unfold isE; rw [(zb_0 _).mp h3]; decide)
      · refine ev_iload_n 3 d_A_cross_24 rfl rfl ?_
        refine ev_callS M_A_isEdge [_] (sp_A_isEdge _ x) c_A_61 d_A_cross_25 rfl (by decide) (Nat.le_of_ble_eq_true rfl) ⟨rfl, rfl⟩ rfl ?_
        refine ev_if_eq 39 d_A_cross_28 (by decide) (fun h4 => ?_) (fun h4 => ?_)
        · exact absurd hx (by unfold isE; rw [(zb_0 _).mp h4]; decide)
        · refine ev_iload d_A_cross_31 rfl ?_
          refine ev_callS M_A_isEdge [_] (sp_A_isEdge _ d) c_A_61 d_A_cross_33 rfl (by decide) (Nat.le_of_ble_eq_true rfl) ⟨rfl, rfl⟩ rfl ?_
          refine ev_if_ne 41 d_A_cross_36 (by decide) (fun h5 => ?_) (fun h5 => ?_)
          · refine ev_aload_n 0 d_A_cross_41 rfl rfl ?_
            refine ev_get f_A_10 d_A_cross_42 rfl rfl ?_
            refine ev_iload_n 1 d_A_cross_45 rfl rfl ?_
            refine ev_iload_n 2 d_A_cross_46 rfl rfl ?_
            refine ev_iload_n 3 d_A_cross_47 rfl rfl ?_
            refine ev_iload d_A_cross_48 rfl ?_
            refine ev_iload d_A_cross_50 rfl ?_
            refine ev_callV M_C_append [_, _, _, _, _] (sp_C_append rfl rfl rfl hn a b x d p) c_A_65 d_A_cross_52 rfl rfl (by decide) (Nat.le_of_ble_eq_true rfl) ⟨rfl, rfl⟩ rfl ?_
            refine ev_iconst (v := 1) d_A_cross_55 (by decide) ?_
            exact ev_iret d_A_cross_56 rfl zr1 (Nat.le_of_ble_eq_true rfl) (Nat.le_of_ble_eq_true rfl)
          · exact absurd hd (by unfold isE; rw [(zb_0 _).mp h5]; decide)
theorem sp_A_drop0 (h0 : nd = 0) : Sp M_A_drop [.ref 0] (kC nd fd gd n f g nf ff gf s q oe t m l u c ln mi wd pl lt cc T) (some (.int (nI 0))) (kC nd fd gd n f g nf ff gf s q oe t m l u c ln mi wd pl lt cc T) := by
  subst h0
  refine Sp.of (by decide) (Nat.le_of_ble_eq_true rfl) ?_
  refine ev_aload_n 0 d_A_drop_0 rfl rfl ?_
  refine ev_get f_A_10 d_A_drop_1 rfl rfl ?_
  refine ev_aload_n 0 d_A_drop_4 rfl rfl ?_
  refine ev_get f_A_10 d_A_drop_5 rfl rfl ?_
  refine ev_callV M_C_size [] (sp_C_size rfl) c_A_69 d_A_drop_8 rfl rfl (by decide) (Nat.le_of_ble_eq_true rfl) ⟨rfl, rfl⟩ rfl ?_
  refine ev_iconst (v := 1) d_A_drop_11 (by decide) ?_
  refine ev_isub d_A_drop_12 ?_
  refine ev_callV M_C_remove [_] (sp_C_remove_no (n := 0) rfl (by decide)) c_A_73 d_A_drop_13 rfl rfl (by decide) (Nat.le_of_ble_eq_true rfl) ⟨rfl, rfl⟩ rfl ?_
  refine ev_aload_n 0 d_A_drop_16 rfl rfl ?_
  refine ev_get f_A_10 d_A_drop_17 rfl rfl ?_
  refine ev_callV M_C_size [] (sp_C_size rfl) c_A_69 d_A_drop_20 rfl rfl (by decide) (Nat.le_of_ble_eq_true rfl) ⟨rfl, rfl⟩ rfl ?_
  exact ev_iret d_A_drop_23 rfl rfl (Nat.le_of_ble_eq_true rfl) (Nat.le_of_ble_eq_true rfl)
theorem sp_A_drop (hn : nd < 8) : Sp M_A_drop [.ref 0] (kC (nd + 1) fd gd n f g nf ff gf s q oe t m l u c ln mi wd pl lt cc T) (some (.int (nI nd))) (kC (nd) (rmE fd (nd + 1) nd) (rmS gd (nd + 1) nd) n f g nf ff gf s q oe t m l u c ln mi wd pl lt cc T) := by
  refine Sp.of (by decide) (Nat.le_of_ble_eq_true rfl) ?_
  refine ev_aload_n 0 d_A_drop_0 rfl rfl ?_
  refine ev_get f_A_10 d_A_drop_1 rfl rfl ?_
  refine ev_aload_n 0 d_A_drop_4 rfl rfl ?_
  refine ev_get f_A_10 d_A_drop_5 rfl rfl ?_
  refine ev_callV M_C_size [] (sp_C_size rfl) c_A_69 d_A_drop_8 rfl rfl (by decide) (Nat.le_of_ble_eq_true rfl) ⟨rfl, rfl⟩ rfl ?_
  refine ev_iconst (v := 1) d_A_drop_11 (by decide) ?_
  refine ev_isub d_A_drop_12 ?_
  rw [nI_pred]
  refine ev_callV M_C_remove [_] (sp_C_remove (n := nd + 1) rfl rfl rfl (by omega) (by omega)) c_A_73 d_A_drop_13 rfl rfl (by decide) (Nat.le_of_ble_eq_true rfl) ⟨rfl, rfl⟩ rfl ?_
  refine ev_aload_n 0 d_A_drop_16 rfl rfl ?_
  refine ev_get f_A_10 d_A_drop_17 rfl rfl ?_
  refine ev_callV M_C_size [] (sp_C_size (n := nd) rfl) c_A_69 d_A_drop_20 rfl rfl (by decide) (Nat.le_of_ble_eq_true rfl) ⟨rfl, rfl⟩ rfl ?_
  exact ev_iret d_A_drop_23 rfl rfl (Nat.le_of_ble_eq_true rfl) (Nat.le_of_ble_eq_true rfl)
theorem sp_A_letter_no {x : Int32} (hl : lt ≤ 8) (h : ¬ (¬ x = 0 ∧ ¬ x < -3 ∧ ¬ 3 < x ∧ lt < 8)) : Sp M_A_letter [.ref 0, .int x] (kC nd fd gd n f g nf ff gf s q oe t m l u c ln mi wd pl lt cc T) (some (.int (zb false))) (kC nd fd gd n f g nf ff gf s q oe t m l u c ln mi wd pl lt cc T) := by
  refine Sp.of (by decide) (Nat.le_of_ble_eq_true rfl) ?_
  have k0 : Ev M_A_letter none (some (.int (zb false))) (kC nd fd gd n f g nf ff gf s q oe t m l u c ln mi wd pl lt cc T) 20 [(0, .ref 0), (1, .int x)] [.int 0] (kC nd fd gd n f g nf ff gf s q oe t m l u c ln mi wd pl lt cc T) 0 0 := by
    refine ev_istore_n 2 d_A_letter_20 rfl (Nat.le_of_ble_eq_true rfl) rfl ?_
    refine ev_iload_n 2 d_A_letter_21 rfl rfl ?_
    refine ev_if_eq 34 d_A_letter_22 (by decide) (fun h1 => ?_) (fun h1 => ?_)
    · refine ev_iconst (v := 0) d_A_letter_34 (by decide) ?_
      exact ev_iret d_A_letter_35 rfl zr0 (Nat.le_of_ble_eq_true rfl) (Nat.le_of_ble_eq_true rfl)
    · exact absurd rfl h1
  refine ev_iload_n 1 d_A_letter_0 rfl rfl ?_
  refine ev_if_eq 19 d_A_letter_1 (by decide) (fun h1 => ?_) (fun h1 => ?_)
  · refine ev_iconst (v := 0) d_A_letter_19 (by decide) ?_
    exact k0
  · refine ev_iload_n 1 d_A_letter_4 rfl rfl ?_
    refine ev_bipush (v := -3) d_A_letter_5 (by decide) ?_
    refine ev_icmp_lt 19 d_A_letter_7 (by decide) (fun h2 => ?_) (fun h2 => ?_)
    · refine ev_iconst (v := 0) d_A_letter_19 (by decide) ?_
      exact k0
    · refine ev_iload_n 1 d_A_letter_10 rfl rfl ?_
      refine ev_iconst (v := 3) d_A_letter_11 (by decide) ?_
      refine ev_icmp_gt 19 d_A_letter_12 (by decide) (fun h3 => ?_) (fun h3 => ?_)
      · refine ev_iconst (v := 0) d_A_letter_19 (by decide) ?_
        exact k0
      · refine ev_iconst (v := 1) d_A_letter_15 (by decide) ?_
        refine ev_goto 20 d_A_letter_16 (by decide) ?_
        refine ev_istore_n 2 d_A_letter_20 rfl (Nat.le_of_ble_eq_true rfl) rfl ?_
        refine ev_iload_n 2 d_A_letter_21 rfl rfl ?_
        refine ev_if_eq 34 d_A_letter_22 (by decide) (fun h4 => ?_) (fun h4 => ?_)
        · refine ev_iconst (v := 0) d_A_letter_34 (by decide) ?_
          exact ev_iret d_A_letter_35 rfl zr0 (Nat.le_of_ble_eq_true rfl) (Nat.le_of_ble_eq_true rfl)
        · refine ev_aload_n 0 d_A_letter_25 rfl rfl ?_
          refine ev_get f_A_50 d_A_letter_26 rfl rfl ?_
          refine ev_bipush (v := 8) d_A_letter_29 (by decide) ?_
          refine ev_icmp_lt 36 d_A_letter_31 (by decide) (fun h5 => ?_) (fun h5 => ?_)
          · have h6 : lt < 8 := (nI_ltI (b := 8) (by omega) (by omega)).mp h5
            exact absurd ⟨h1, h2, h3, h6⟩ h
          · refine ev_iconst (v := 0) d_A_letter_34 (by decide) ?_
            exact ev_iret d_A_letter_35 rfl zr0 (Nat.le_of_ble_eq_true rfl) (Nat.le_of_ble_eq_true rfl)
theorem sp_A_letter {x : Int32} (hl : lt < 8) (h1 : ¬ x = 0) (h2 : ¬ x < -3) (h3 : ¬ 3 < x) : Sp M_A_letter [.ref 0, .int x] (kC nd fd gd n f g nf ff gf s q oe t m l u c ln mi wd pl lt cc T) (some (.int (zb true))) (kC nd fd gd n f g nf ff gf s q oe t m l u c ln mi (upd wd lt x) pl (lt + 1) cc T) := by
  refine Sp.of (by decide) (Nat.le_of_ble_eq_true rfl) ?_
  refine ev_iload_n 1 d_A_letter_0 rfl rfl ?_
  refine ev_if_eq 19 d_A_letter_1 (by decide) (fun q1 => ?_) (fun q1 => ?_)
  · exact absurd q1 h1
  · refine ev_iload_n 1 d_A_letter_4 rfl rfl ?_
    refine ev_bipush (v := -3) d_A_letter_5 (by decide) ?_
    refine ev_icmp_lt 19 d_A_letter_7 (by decide) (fun q2 => ?_) (fun q2 => ?_)
    · exact absurd q2 h2
    · refine ev_iload_n 1 d_A_letter_10 rfl rfl ?_
      refine ev_iconst (v := 3) d_A_letter_11 (by decide) ?_
      refine ev_icmp_gt 19 d_A_letter_12 (by decide) (fun q3 => ?_) (fun q3 => ?_)
      · exact absurd q3 h3
      · refine ev_iconst (v := 1) d_A_letter_15 (by decide) ?_
        refine ev_goto 20 d_A_letter_16 (by decide) ?_
        refine ev_istore_n 2 d_A_letter_20 rfl (Nat.le_of_ble_eq_true rfl) rfl ?_
        refine ev_iload_n 2 d_A_letter_21 rfl rfl ?_
        refine ev_if_eq 34 d_A_letter_22 (by decide) (fun q4 => ?_) (fun q4 => ?_)
        · exact absurd q4 (by decide)
        · refine ev_aload_n 0 d_A_letter_25 rfl rfl ?_
          refine ev_get f_A_50 d_A_letter_26 rfl rfl ?_
          refine ev_bipush (v := 8) d_A_letter_29 (by decide) ?_
          refine ev_icmp_lt 36 d_A_letter_31 (by decide) (fun q5 => ?_) (fun q5 => ?_)
          · refine ev_aload_n 0 d_A_letter_36 rfl rfl ?_
            refine ev_get f_A_43 d_A_letter_37 rfl rfl ?_
            refine ev_aload_n 0 d_A_letter_40 rfl rfl ?_
            refine ev_get f_A_50 d_A_letter_41 rfl rfl ?_
            refine ev_iload_n 1 d_A_letter_44 rfl rfl ?_
            refine ev_iast d_A_letter_45 rfl (vp_in_nI (by omega) (by omega)) ?_
            rw [nI_clamp (by omega)]
            refine ev_aload_n 0 d_A_letter_46 rfl rfl ?_
            refine ev_dup d_A_letter_47 rfl ?_
            refine ev_get f_A_50 d_A_letter_48 rfl rfl ?_
            refine ev_iconst (v := 1) d_A_letter_51 (by decide) ?_
            refine ev_iadd d_A_letter_52 ?_
            rw [nI_1]
            refine ev_put p_A_50 d_A_letter_53 rfl (fun _ _ => ⟨rfl, rfl⟩) (Nat.le_of_ble_eq_true rfl) ?_
            refine ev_iconst (v := 1) d_A_letter_56 (by decide) ?_
            exact ev_iret d_A_letter_57 rfl zr1 (Nat.le_of_ble_eq_true rfl) (Nat.le_of_ble_eq_true rfl)
          · exact absurd (nI_lt (b := 8) hl (by omega)) q5
end Fa
