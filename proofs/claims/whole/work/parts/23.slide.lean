section Mo
variable {nd : Nat} {fd gd : Nat → Int32} {n : Nat} {f g : Nat → Int32} {nf : Nat} {ff gf s q oe t : Nat → Int32} {m : Nat → Int64} {l u c ln : Nat → Int32} {mi : Nat → Int64} {wd pl : Nat → Int32} {lt cc : Nat} {T : zW}
theorem sp_A_isUpperEdge {e : Nat} (he : e < 32) (hn : n ≤ 8) : Sp M_A_isUpperEdge [.ref 0, .int (nI e)] (kC nd fd gd n f g nf ff gf s q oe t m l u c ln mi wd pl lt cc T) (some (.int (zb (upE f n e)))) (kC nd fd gd n f g nf ff gf s q oe t m l u c ln mi wd pl lt cc T) := by
  refine Sp.of (by decide) (Nat.le_of_ble_eq_true rfl) ?_
  have l3 := oth_lt (f := f) hn he
  refine ev_iload_n 1 d_A_isUpperEdge_0 rfl rfl ?_
  refine ev_callS M_A_isUpper [_] (sp_A_isUpper _ (by omega)) c_A_190 d_A_isUpperEdge_1 rfl (by decide) (Nat.le_of_ble_eq_true rfl) ⟨rfl, rfl⟩ rfl ?_
  refine ev_if_eq 25 d_A_isUpperEdge_4 (by decide) (fun h1 => ?_) (fun h1 => ?_)
  · have e1 : upE f n e = false := by unfold upE; rw [(zb_0 _).mp h1]; rfl
    rw [e1]
    refine ev_iconst (v := 0) d_A_isUpperEdge_25 (by decide) ?_
    exact ev_iret d_A_isUpperEdge_26 rfl zr0 (Nat.le_of_ble_eq_true rfl) (Nat.le_of_ble_eq_true rfl)
  · refine ev_aload_n 0 d_A_isUpperEdge_7 rfl rfl ?_
    refine ev_get f_A_16 d_A_isUpperEdge_8 rfl rfl ?_
    refine ev_iload_n 1 d_A_isUpperEdge_11 rfl rfl ?_
    refine ev_callV M_C_otherEnd [_] (sp_C_otherEnd (n := n) (f := f) rfl rfl hn he) c_A_193 d_A_isUpperEdge_12 rfl rfl (by decide) (Nat.le_of_ble_eq_true rfl) ⟨rfl, rfl⟩ rfl ?_
    refine ev_callS M_A_isUpper [_] (sp_A_isUpper _ (e := oth f n e) (by omega)) c_A_190 d_A_isUpperEdge_15 rfl (by decide) (Nat.le_of_ble_eq_true rfl) ⟨rfl, rfl⟩ rfl ?_
    refine ev_if_eq 25 d_A_isUpperEdge_18 (by decide) (fun h2 => ?_) (fun h2 => ?_)
    · have e1 : upE f n e = false := by unfold upE; rw [(zb_0 _).mp h2, Bool.and_false]
      rw [e1]
      refine ev_iconst (v := 0) d_A_isUpperEdge_25 (by decide) ?_
      exact ev_iret d_A_isUpperEdge_26 rfl zr0 (Nat.le_of_ble_eq_true rfl) (Nat.le_of_ble_eq_true rfl)
    · have e1 : upE f n e = true := by unfold upE; rw [(zb_n0 _).mp h1, (zb_n0 _).mp h2]; rfl
      rw [e1]
      refine ev_iconst (v := 1) d_A_isUpperEdge_21 (by decide) ?_
      refine ev_goto 26 d_A_isUpperEdge_22 (by decide) ?_
      exact ev_iret d_A_isUpperEdge_26 rfl zr1 (Nat.le_of_ble_eq_true rfl) (Nat.le_of_ble_eq_true rfl)
theorem sp_A_isSlidingFace {e y z : Nat} (he : e < 32) (hn : n ≤ 8) (hy : y < 100) (hz : z < 100) : Sp M_A_isSlidingFace [.ref 0, .int (nI e), .int (nI y), .int (nI z)] (kC nd fd gd n f g nf ff gf s q oe t m l u c ln mi wd pl lt cc T) (some (.int (zb (slB f n y z e)))) (kC nd fd gd n f g nf ff gf s q oe t m l u c ln mi wd pl lt cc T) := by
  refine Sp.of (by decide) (Nat.le_of_ble_eq_true rfl) ?_
  have l1 := fol_lt (f := f) hn he
  have l2 := fol_lt (f := f) hn l1
  have l3 := fol_lt (f := f) hn l2
  generalize hr : slB f n y z e = R
  unfold slB at hr
  generalize ha : fol f n e = a at *
  generalize hb : fol f n a = b at *
  -- the last stretch
  have k4 : Ev M_A_isSlidingFace none (some (.int (zb (upE f n e || upE f n a || upE f n b)))) (kC nd fd gd n f g nf ff gf s q oe t m l u c ln mi wd pl lt cc T) 98 [(0, .ref 0), (1, .int (nI e)), (2, .int (nI y)), (3, .int (nI z)), (4, .int (nI a)), (5, .int (nI b))] [] (kC nd fd gd n f g nf ff gf s q oe t m l u c ln mi wd pl lt cc T) 0 0 := by
    refine ev_aload_n 0 d_A_isSlidingFace_98 rfl rfl ?_
    refine ev_iload_n 1 d_A_isSlidingFace_99 rfl rfl ?_
    refine ev_callV M_A_isUpperEdge [_] (sp_A_isUpperEdge (n := n) (f := f) he hn) c_A_215 d_A_isSlidingFace_100 rfl rfl (by decide) (Nat.le_of_ble_eq_true rfl) ⟨rfl, rfl⟩ rfl ?_
    refine ev_if_ne 124 d_A_isSlidingFace_103 (by decide) (fun q1 => ?_) (fun q1 => ?_)
    · rw [(zb_n0 _).mp q1]
      refine ev_iconst (v := 1) d_A_isSlidingFace_124 (by decide) ?_
      refine ev_goto 129 d_A_isSlidingFace_125 (by decide) ?_
      exact ev_iret d_A_isSlidingFace_129 rfl zr1 (Nat.le_of_ble_eq_true rfl) (Nat.le_of_ble_eq_true rfl)
    · refine ev_aload_n 0 d_A_isSlidingFace_106 rfl rfl ?_
      refine ev_iload d_A_isSlidingFace_107 rfl ?_
      refine ev_callV M_A_isUpperEdge [_] (sp_A_isUpperEdge (n := n) (f := f) l1 hn) c_A_215 d_A_isSlidingFace_109 rfl rfl (by decide) (Nat.le_of_ble_eq_true rfl) ⟨rfl, rfl⟩ rfl ?_
      refine ev_if_ne 124 d_A_isSlidingFace_112 (by decide) (fun q2 => ?_) (fun q2 => ?_)
      · rw [(zb_n0 _).mp q2, Bool.or_true]
        refine ev_iconst (v := 1) d_A_isSlidingFace_124 (by decide) ?_
        refine ev_goto 129 d_A_isSlidingFace_125 (by decide) ?_
        exact ev_iret d_A_isSlidingFace_129 rfl zr1 (Nat.le_of_ble_eq_true rfl) (Nat.le_of_ble_eq_true rfl)
      · refine ev_aload_n 0 d_A_isSlidingFace_115 rfl rfl ?_
        refine ev_iload d_A_isSlidingFace_116 rfl ?_
        refine ev_callV M_A_isUpperEdge [_] (sp_A_isUpperEdge (n := n) (f := f) l2 hn) c_A_215 d_A_isSlidingFace_118 rfl rfl (by decide) (Nat.le_of_ble_eq_true rfl) ⟨rfl, rfl⟩ rfl ?_
        refine ev_if_eq 128 d_A_isSlidingFace_121 (by decide) (fun q3 => ?_) (fun q3 => ?_)
        · rw [(zb_0 _).mp q1, (zb_0 _).mp q2, (zb_0 _).mp q3]
          refine ev_iconst (v := 0) d_A_isSlidingFace_128 (by decide) ?_
          exact ev_iret d_A_isSlidingFace_129 rfl zr0 (Nat.le_of_ble_eq_true rfl) (Nat.le_of_ble_eq_true rfl)
        · rw [(zb_n0 _).mp q3, Bool.or_true]
          refine ev_iconst (v := 1) d_A_isSlidingFace_124 (by decide) ?_
          refine ev_goto 129 d_A_isSlidingFace_125 (by decide) ?_
          exact ev_iret d_A_isSlidingFace_129 rfl zr1 (Nat.le_of_ble_eq_true rfl) (Nat.le_of_ble_eq_true rfl)
  have k3 : ∀ A B : Bool, Ev M_A_isSlidingFace none (some (.int (zb ((A || B) && (upE f n e || upE f n a || upE f n b))))) (kC nd fd gd n f g nf ff gf s q oe t m l u c ln mi wd pl lt cc T) 86 [(0, .ref 0), (1, .int (nI e)), (2, .int (nI y)), (3, .int (nI z)), (4, .int (nI a)), (5, .int (nI b)), (6, .int (zb A)), (7, .int (zb B))] [] (kC nd fd gd n f g nf ff gf s q oe t m l u c ln mi wd pl lt cc T) 0 0 := by
    intro A B
    refine ev_iload d_A_isSlidingFace_86 rfl ?_
    refine ev_if_ne 98 d_A_isSlidingFace_88 (by decide) (fun q1 => ?_) (fun q1 => ?_)
    · rw [(zb_n0 _).mp q1, Bool.true_or, Bool.true_and]
      exact ev_drop (lv' := [(0, .ref 0), (1, .int (nI e)), (2, .int (nI y)), (3, .int (nI z)), (4, .int (nI a)), (5, .int (nI b))]) (ext := [_, _]) k4
    · refine ev_iload d_A_isSlidingFace_91 rfl ?_
      refine ev_if_ne 98 d_A_isSlidingFace_93 (by decide) (fun q2 => ?_) (fun q2 => ?_)
      · rw [(zb_n0 _).mp q2, Bool.or_true, Bool.true_and]
        exact ev_drop (lv' := [(0, .ref 0), (1, .int (nI e)), (2, .int (nI y)), (3, .int (nI z)), (4, .int (nI a)), (5, .int (nI b))]) (ext := [_, _]) k4
      · rw [(zb_0 _).mp q1, (zb_0 _).mp q2, Bool.or_false, Bool.false_and]
        refine ev_iconst (v := 0) d_A_isSlidingFace_96 (by decide) ?_
        exact ev_iret d_A_isSlidingFace_97 rfl zr0 (Nat.le_of_ble_eq_true rfl) (Nat.le_of_ble_eq_true rfl)
  have k2 : ∀ A : Bool, Ev M_A_isSlidingFace none (some (.int (zb ((A || (decide (a / 4 = z) && decide (b / 4 = y))) && (upE f n e || upE f n a || upE f n b))))) (kC nd fd gd n f g nf ff gf s q oe t m l u c ln mi wd pl lt cc T) 61 [(0, .ref 0), (1, .int (nI e)), (2, .int (nI y)), (3, .int (nI z)), (4, .int (nI a)), (5, .int (nI b)), (6, .int (zb A))] [] (kC nd fd gd n f g nf ff gf s q oe t m l u c ln mi wd pl lt cc T) 0 0 := by
    intro A
    refine ev_iload d_A_isSlidingFace_61 rfl ?_
    refine ev_callS M_A_crossingOf [_] (sp_A_crossingOf _ (e := a) (by omega)) c_A_187 d_A_isSlidingFace_63 rfl (by decide) (Nat.le_of_ble_eq_true rfl) ⟨rfl, rfl⟩ rfl ?_
    refine ev_iload_n 3 d_A_isSlidingFace_66 rfl rfl ?_
    refine ev_icmp_ne 83 d_A_isSlidingFace_67 (by decide) (fun q1 => ?_) (fun q1 => ?_)
    · rw [decide_eq_false (fun w => q1 (by rw [w])), Bool.false_and]
      refine ev_iconst (v := 0) d_A_isSlidingFace_83 (by decide) ?_
      refine ev_istore d_A_isSlidingFace_84 (Nat.le_of_ble_eq_true rfl) rfl ?_
      exact k3 A false
    · rw [decide_eq_true ((nI_eq (by omega) (by omega)).mp q1), Bool.true_and]
      refine ev_iload d_A_isSlidingFace_70 rfl ?_
      refine ev_callS M_A_crossingOf [_] (sp_A_crossingOf _ (e := b) (by omega)) c_A_187 d_A_isSlidingFace_72 rfl (by decide) (Nat.le_of_ble_eq_true rfl) ⟨rfl, rfl⟩ rfl ?_
      refine ev_iload_n 2 d_A_isSlidingFace_75 rfl rfl ?_
      refine ev_icmp_ne 83 d_A_isSlidingFace_76 (by decide) (fun q2 => ?_) (fun q2 => ?_)
      · rw [decide_eq_false (fun w => q2 (by rw [w]))]
        refine ev_iconst (v := 0) d_A_isSlidingFace_83 (by decide) ?_
        refine ev_istore d_A_isSlidingFace_84 (Nat.le_of_ble_eq_true rfl) rfl ?_
        exact k3 A false
      · rw [decide_eq_true ((nI_eq (by omega) (by omega)).mp q2)]
        refine ev_iconst (v := 1) d_A_isSlidingFace_79 (by decide) ?_
        refine ev_goto 84 d_A_isSlidingFace_80 (by decide) ?_
        refine ev_istore d_A_isSlidingFace_84 (Nat.le_of_ble_eq_true rfl) rfl ?_
        exact k3 A true
  refine ev_aload_n 0 d_A_isSlidingFace_0 rfl rfl ?_
  refine ev_get f_A_16 d_A_isSlidingFace_1 rfl rfl ?_
  refine ev_iload_n 1 d_A_isSlidingFace_4 rfl rfl ?_
  refine ev_callV M_C_follow [_] (sp_C_follow (n := n) (f := f) rfl rfl hn he) c_A_181 d_A_isSlidingFace_5 rfl rfl (by decide) (Nat.le_of_ble_eq_true rfl) ⟨rfl, rfl⟩ rfl ?_
  rw [ha]
  refine ev_istore d_A_isSlidingFace_8 (Nat.le_of_ble_eq_true rfl) rfl ?_
  refine ev_aload_n 0 d_A_isSlidingFace_10 rfl rfl ?_
  refine ev_get f_A_16 d_A_isSlidingFace_11 rfl rfl ?_
  refine ev_iload d_A_isSlidingFace_14 rfl ?_
  refine ev_callV M_C_follow [_] (sp_C_follow (n := n) (f := f) rfl rfl hn l1) c_A_181 d_A_isSlidingFace_16 rfl rfl (by decide) (Nat.le_of_ble_eq_true rfl) ⟨rfl, rfl⟩ rfl ?_
  rw [hb]
  refine ev_istore d_A_isSlidingFace_19 (Nat.le_of_ble_eq_true rfl) rfl ?_
  refine ev_aload_n 0 d_A_isSlidingFace_21 rfl rfl ?_
  refine ev_get f_A_16 d_A_isSlidingFace_22 rfl rfl ?_
  refine ev_iload d_A_isSlidingFace_25 rfl ?_
  refine ev_callV M_C_follow [_] (sp_C_follow (n := n) (f := f) rfl rfl hn l2) c_A_181 d_A_isSlidingFace_27 rfl rfl (by decide) (Nat.le_of_ble_eq_true rfl) ⟨rfl, rfl⟩ rfl ?_
  refine ev_iload_n 1 d_A_isSlidingFace_30 rfl rfl ?_
  refine ev_icmp_eq 36 d_A_isSlidingFace_31 (by decide) (fun q1 => ?_) (fun q1 => ?_)
  · have q1' := (nI_eq (by omega) (by omega)).mp q1
    rw [decide_eq_true q1', Bool.true_and] at hr
    rw [← hr]
    refine ev_iload d_A_isSlidingFace_36 rfl ?_
    refine ev_callS M_A_crossingOf [_] (sp_A_crossingOf _ (e := a) (by omega)) c_A_187 d_A_isSlidingFace_38 rfl (by decide) (Nat.le_of_ble_eq_true rfl) ⟨rfl, rfl⟩ rfl ?_
    refine ev_iload_n 2 d_A_isSlidingFace_41 rfl rfl ?_
    refine ev_icmp_ne 58 d_A_isSlidingFace_42 (by decide) (fun q2 => ?_) (fun q2 => ?_)
    · rw [decide_eq_false (p := a / 4 = y) (fun w => q2 (by rw [w])), Bool.false_and]
      refine ev_iconst (v := 0) d_A_isSlidingFace_58 (by decide) ?_
      refine ev_istore d_A_isSlidingFace_59 (Nat.le_of_ble_eq_true rfl) rfl ?_
      exact k2 false
    · rw [decide_eq_true (p := a / 4 = y) ((nI_eq (by omega) (by omega)).mp q2), Bool.true_and]
      refine ev_iload d_A_isSlidingFace_45 rfl ?_
      refine ev_callS M_A_crossingOf [_] (sp_A_crossingOf _ (e := b) (by omega)) c_A_187 d_A_isSlidingFace_47 rfl (by decide) (Nat.le_of_ble_eq_true rfl) ⟨rfl, rfl⟩ rfl ?_
      refine ev_iload_n 3 d_A_isSlidingFace_50 rfl rfl ?_
      refine ev_icmp_ne 58 d_A_isSlidingFace_51 (by decide) (fun q3 => ?_) (fun q3 => ?_)
      · rw [decide_eq_false (p := b / 4 = z) (fun w => q3 (by rw [w]))]
        refine ev_iconst (v := 0) d_A_isSlidingFace_58 (by decide) ?_
        refine ev_istore d_A_isSlidingFace_59 (Nat.le_of_ble_eq_true rfl) rfl ?_
        exact k2 false
      · rw [decide_eq_true (p := b / 4 = z) ((nI_eq (by omega) (by omega)).mp q3)]
        refine ev_iconst (v := 1) d_A_isSlidingFace_54 (by decide) ?_
        refine ev_goto 59 d_A_isSlidingFace_55 (by decide) ?_
        refine ev_istore d_A_isSlidingFace_59 (Nat.le_of_ble_eq_true rfl) rfl ?_
        exact k2 true
  · rw [decide_eq_false (p := fol f n b = e) (fun w => q1 (by rw [w])), Bool.false_and, Bool.false_and] at hr
    rw [← hr]
    refine ev_iconst (v := 0) d_A_isSlidingFace_34 (by decide) ?_
    exact ev_iret d_A_isSlidingFace_35 rfl zr0 (Nat.le_of_ble_eq_true rfl) (Nat.le_of_ble_eq_true rfl)
theorem sp_A_slideEdge {e : Nat} (he : e < 32) (hn : nf ≤ 8) : Sp M_A_slideEdge [.ref 0, .int (nI e)] (kC nd fd gd n f g nf ff gf s q oe t m l u c ln mi wd pl lt cc T) none (kC nd fd gd n (slS ff gf nf e f) g nf ff gf s q oe t m l u c ln mi wd pl lt cc T) := by
  refine Sp.of (by decide) (Nat.le_of_ble_eq_true rfl) ?_
  have lo := outg_lt (f := ff) (g := gf) hn he
  have li := inc_lt (f := ff) (g := gf) hn he
  refine ev_aload_n 0 d_A_slideEdge_0 rfl rfl ?_
  refine ev_get f_A_19 d_A_slideEdge_1 rfl rfl ?_
  refine ev_iload_n 1 d_A_slideEdge_4 rfl rfl ?_
  refine ev_callV M_C_edgeAt [_] (sp_C_edgeAt (n := nf) (f := ff) rfl rfl he) c_A_129 d_A_slideEdge_5 rfl rfl (by decide) (Nat.le_of_ble_eq_true rfl) ⟨rfl, rfl⟩ rfl ?_
  refine ev_istore_n 2 d_A_slideEdge_8 rfl (Nat.le_of_ble_eq_true rfl) rfl ?_
  refine ev_aload_n 0 d_A_slideEdge_9 rfl rfl ?_
  refine ev_get f_A_19 d_A_slideEdge_10 rfl rfl ?_
  refine ev_iload_n 1 d_A_slideEdge_13 rfl rfl ?_
  refine ev_callV M_C_edgeBefore [_] (sp_C_edgeBefore (n := nf) (f := ff) (g := gf) rfl rfl rfl hn he) c_A_196 d_A_slideEdge_14 rfl rfl (by decide) (Nat.le_of_ble_eq_true rfl) ⟨rfl, rfl⟩ rfl ?_
  refine ev_istore_n 3 d_A_slideEdge_17 rfl (Nat.le_of_ble_eq_true rfl) rfl ?_
  refine ev_aload_n 0 d_A_slideEdge_18 rfl rfl ?_
  refine ev_get f_A_19 d_A_slideEdge_19 rfl rfl ?_
  refine ev_iload_n 1 d_A_slideEdge_22 rfl rfl ?_
  refine ev_callV M_C_edgeBehind [_] (sp_C_edgeBehind (n := nf) (f := ff) (g := gf) rfl rfl rfl hn he) c_A_199 d_A_slideEdge_23 rfl rfl (by decide) (Nat.le_of_ble_eq_true rfl) ⟨rfl, rfl⟩ rfl ?_
  refine ev_istore d_A_slideEdge_26 (Nat.le_of_ble_eq_true rfl) rfl ?_
  refine ev_aload_n 0 d_A_slideEdge_28 rfl rfl ?_
  refine ev_get f_A_19 d_A_slideEdge_29 rfl rfl ?_
  refine ev_iload_n 1 d_A_slideEdge_32 rfl rfl ?_
  refine ev_callV M_C_outgoing [_] (sp_C_outgoing (n := nf) (f := ff) (g := gf) rfl rfl rfl hn he) c_A_221 d_A_slideEdge_33 rfl rfl (by decide) (Nat.le_of_ble_eq_true rfl) ⟨rfl, rfl⟩ rfl ?_
  refine ev_istore d_A_slideEdge_36 (Nat.le_of_ble_eq_true rfl) rfl ?_
  refine ev_aload_n 0 d_A_slideEdge_38 rfl rfl ?_
  refine ev_get f_A_19 d_A_slideEdge_39 rfl rfl ?_
  refine ev_iload_n 1 d_A_slideEdge_42 rfl rfl ?_
  refine ev_callV M_C_incoming [_] (sp_C_incoming (n := nf) (f := ff) (g := gf) rfl rfl rfl hn he) c_A_224 d_A_slideEdge_43 rfl rfl (by decide) (Nat.le_of_ble_eq_true rfl) ⟨rfl, rfl⟩ rfl ?_
  refine ev_istore d_A_slideEdge_46 (Nat.le_of_ble_eq_true rfl) rfl ?_
  refine ev_aload_n 0 d_A_slideEdge_48 rfl rfl ?_
  refine ev_get f_A_16 d_A_slideEdge_49 rfl rfl ?_
  refine ev_iload d_A_slideEdge_52 rfl ?_
  refine ev_callS M_A_opposite [_] (sp_A_opposite _ lo) c_A_227 d_A_slideEdge_54 rfl (by decide) (Nat.le_of_ble_eq_true rfl) ⟨rfl, rfl⟩ rfl ?_
  refine ev_iload_n 2 d_A_slideEdge_57 rfl rfl ?_
  refine ev_callV M_C_setEdge [_, _] (sp_C_setEdge (n := n) (e := opp (outg ff gf nf e)) rfl rfl (opp_lt lo) _) c_A_230 d_A_slideEdge_58 rfl rfl (by decide) (Nat.le_of_ble_eq_true rfl) ⟨rfl, rfl⟩ rfl ?_
  refine ev_aload_n 0 d_A_slideEdge_61 rfl rfl ?_
  refine ev_get f_A_16 d_A_slideEdge_62 rfl rfl ?_
  refine ev_iload d_A_slideEdge_65 rfl ?_
  refine ev_iload d_A_slideEdge_67 rfl ?_
  refine ev_callV M_C_setEdge [_, _] (sp_C_setEdge (n := n) (e := outg ff gf nf e) rfl rfl lo _) c_A_230 d_A_slideEdge_69 rfl rfl (by decide) (Nat.le_of_ble_eq_true rfl) ⟨rfl, rfl⟩ rfl ?_
  refine ev_aload_n 0 d_A_slideEdge_72 rfl rfl ?_
  refine ev_get f_A_16 d_A_slideEdge_73 rfl rfl ?_
  refine ev_iload d_A_slideEdge_76 rfl ?_
  refine ev_iload_n 3 d_A_slideEdge_78 rfl rfl ?_
  refine ev_callV M_C_setEdge [_, _] (sp_C_setEdge (n := n) (e := inc ff gf nf e) rfl rfl li _) c_A_230 d_A_slideEdge_79 rfl rfl (by decide) (Nat.le_of_ble_eq_true rfl) ⟨rfl, rfl⟩ rfl ?_
  refine ev_aload_n 0 d_A_slideEdge_82 rfl rfl ?_
  refine ev_get f_A_16 d_A_slideEdge_83 rfl rfl ?_
  refine ev_iload d_A_slideEdge_86 rfl ?_
  refine ev_callS M_A_opposite [_] (sp_A_opposite _ li) c_A_227 d_A_slideEdge_88 rfl (by decide) (Nat.le_of_ble_eq_true rfl) ⟨rfl, rfl⟩ rfl ?_
  refine ev_iload_n 2 d_A_slideEdge_91 rfl rfl ?_
  refine ev_callV M_C_setEdge [_, _] (sp_C_setEdge (n := n) (e := opp (inc ff gf nf e)) rfl rfl (opp_lt li) _) c_A_230 d_A_slideEdge_92 rfl rfl (by decide) (Nat.le_of_ble_eq_true rfl) ⟨rfl, rfl⟩ rfl ?_
  exact ev_ret d_A_slideEdge_95 rfl (Nat.le_of_ble_eq_true rfl) (Nat.le_of_ble_eq_true rfl)
theorem sp_A_slideFace {e : Nat} (he : e < 32) (hn : n ≤ 8) : Sp M_A_slideFace [.ref 0, .int (nI e)] (kC nd fd gd n f g nf ff gf s q oe t m l u c ln mi wd pl lt cc T) none (kC nd fd gd n (slF f g ff gf n e) g (n) (va_cpy f ff 0 0 32) (va_cpy g gf 0 0 8) s q oe t m l u c ln mi wd pl lt cc T) := by
  refine Sp.of (by decide) (Nat.le_of_ble_eq_true rfl) ?_
  have l1 := fol_lt (f := va_cpy f ff 0 0 32) hn he
  have l2 := fol_lt (f := va_cpy f ff 0 0 32) hn l1
  refine ev_aload_n 0 d_A_slideFace_0 rfl rfl ?_
  refine ev_get f_A_19 d_A_slideFace_1 rfl rfl ?_
  refine ev_aload_n 0 d_A_slideFace_4 rfl rfl ?_
  refine ev_get f_A_16 d_A_slideFace_5 rfl rfl ?_
  refine ev_callV M_C_copyFrom [_] (sp_C_copyFrom (n := nf) (m := n) (f := ff) (g := gf) (f2 := f) (g2 := g) rfl rfl rfl rfl rfl rfl) c_A_84 d_A_slideFace_8 rfl rfl (by decide) (Nat.le_of_ble_eq_true rfl) ⟨rfl, rfl⟩ rfl ?_
  refine ev_aload_n 0 d_A_slideFace_11 rfl rfl ?_
  refine ev_get f_A_19 d_A_slideFace_12 rfl rfl ?_
  refine ev_iload_n 1 d_A_slideFace_15 rfl rfl ?_
  refine ev_callV M_C_follow [_] (sp_C_follow (n := n) (f := va_cpy f ff 0 0 32) rfl rfl hn he) c_A_181 d_A_slideFace_16 rfl rfl (by decide) (Nat.le_of_ble_eq_true rfl) ⟨rfl, rfl⟩ rfl ?_
  refine ev_istore_n 2 d_A_slideFace_19 rfl (Nat.le_of_ble_eq_true rfl) rfl ?_
  refine ev_aload_n 0 d_A_slideFace_20 rfl rfl ?_
  refine ev_iload_n 1 d_A_slideFace_21 rfl rfl ?_
  refine ev_callV M_A_slideEdge [_] (sp_A_slideEdge (nf := n) (ff := va_cpy f ff 0 0 32) (gf := va_cpy g gf 0 0 8) (f := f) he hn) c_A_218 d_A_slideFace_22 rfl rfl (by decide) (Nat.le_of_ble_eq_true rfl) ⟨rfl, rfl⟩ rfl ?_
  refine ev_aload_n 0 d_A_slideFace_25 rfl rfl ?_
  refine ev_iload_n 2 d_A_slideFace_26 rfl rfl ?_
  refine ev_callV M_A_slideEdge [_] (sp_A_slideEdge (nf := n) (ff := va_cpy f ff 0 0 32) (gf := va_cpy g gf 0 0 8) l1 hn) c_A_218 d_A_slideFace_27 rfl rfl (by decide) (Nat.le_of_ble_eq_true rfl) ⟨rfl, rfl⟩ rfl ?_
  refine ev_aload_n 0 d_A_slideFace_30 rfl rfl ?_
  refine ev_aload_n 0 d_A_slideFace_31 rfl rfl ?_
  refine ev_get f_A_19 d_A_slideFace_32 rfl rfl ?_
  refine ev_iload_n 2 d_A_slideFace_35 rfl rfl ?_
  refine ev_callV M_C_follow [_] (sp_C_follow (n := n) (f := va_cpy f ff 0 0 32) rfl rfl hn l1) c_A_181 d_A_slideFace_36 rfl rfl (by decide) (Nat.le_of_ble_eq_true rfl) ⟨rfl, rfl⟩ rfl ?_
  refine ev_callV M_A_slideEdge [_] (sp_A_slideEdge (nf := n) (ff := va_cpy f ff 0 0 32) (gf := va_cpy g gf 0 0 8) l2 hn) c_A_218 d_A_slideFace_39 rfl rfl (by decide) (Nat.le_of_ble_eq_true rfl) ⟨rfl, rfl⟩ rfl ?_
  exact ev_ret d_A_slideFace_42 rfl (Nat.le_of_ble_eq_true rfl) (Nat.le_of_ble_eq_true rfl)
theorem lp_A_slide {x y z : Nat} (hx : x < n) (hy : y < n) (hz : z < n) (hn : n ≤ 8) {r : Option Value} {wf : zW} (kn : fiF (slB f n y z) (4 * x) 4 = none → Ev M_A_slide none r wf 92 [(0, .ref 0), (1, .int (nI x)), (2, .int (nI y)), (3, .int (nI z)), (4, .int (nI (4 * x + 4)))] [] (kC nd fd gd n f g nf ff gf s q oe t m l u c ln mi wd pl lt cc T) 0 0) (ky : ∀ e, fiF (slB f n y z) (4 * x) 4 = some e → Ev M_A_slide none r wf 78 [(0, .ref 0), (1, .int (nI x)), (2, .int (nI y)), (3, .int (nI z)), (4, .int (nI e))] [] (kC nd fd gd n f g nf ff gf s q oe t m l u c ln mi wd pl lt cc T) 0 0) : ∀ k e, e + k = 4 * x + 4 → 4 * x ≤ e → fiF (slB f n y z) (4 * x) 4 = fiF (slB f n y z) e k → Ev M_A_slide none r wf 57 [(0, .ref 0), (1, .int (nI x)), (2, .int (nI y)), (3, .int (nI z)), (4, .int (nI e))] [] (kC nd fd gd n f g nf ff gf s q oe t m l u c ln mi wd pl lt cc T) 0 0 := by
  intro k
  induction k with
  | zero =>
    intro e he h4 hf
    refine ev_iload d_A_slide_57 rfl ?_
    refine ev_iconst (v := 4) d_A_slide_59 (by decide) ?_
    refine ev_iload_n 1 d_A_slide_60 rfl rfl ?_
    refine ev_imul d_A_slide_61 ?_
    rw [z_m4]
    refine ev_iconst (v := 4) d_A_slide_62 (by decide) ?_
    refine ev_iadd d_A_slide_63 ?_
    rw [z_p4]
    refine ev_icmp_ge 92 d_A_slide_64 (by decide) (fun h => ?_) (fun h => ?_)
    · rw [show e = 4 * x + 4 by omega]
      exact kn (by rw [hf, fiF])
    · exact absurd (nI_le (by omega) (by omega)) h
  | succ k ih =>
    intro e he h4 hf
    refine ev_iload d_A_slide_57 rfl ?_
    refine ev_iconst (v := 4) d_A_slide_59 (by decide) ?_
    refine ev_iload_n 1 d_A_slide_60 rfl rfl ?_
    refine ev_imul d_A_slide_61 ?_
    rw [z_m4]
    refine ev_iconst (v := 4) d_A_slide_62 (by decide) ?_
    refine ev_iadd d_A_slide_63 ?_
    rw [z_p4]
    refine ev_icmp_ge 92 d_A_slide_64 (by decide) (fun h => ?_) (fun h => ?_)
    · exact absurd h (nI_ge (by omega) (by omega))
    · refine ev_aload_n 0 d_A_slide_67 rfl rfl ?_
      refine ev_iload d_A_slide_68 rfl ?_
      refine ev_iload_n 2 d_A_slide_70 rfl rfl ?_
      refine ev_iload_n 3 d_A_slide_71 rfl rfl ?_
      refine ev_callV M_A_isSlidingFace [_, _, _] (sp_A_isSlidingFace (n := n) (f := f) (by omega) hn (by omega) (by omega)) c_A_208 d_A_slide_72 rfl rfl (by decide) (Nat.le_of_ble_eq_true rfl) ⟨rfl, rfl⟩ rfl ?_
      refine ev_if_eq 86 d_A_slide_75 (by decide) (fun h2 => ?_) (fun h2 => ?_)
      · refine ev_iinc (v := _ + 1) d_A_slide_86 rfl rfl (Nat.le_of_ble_eq_true rfl) rfl ?_
        rw [nI_1]
        refine ev_goto 57 d_A_slide_89 (by decide) ?_
        refine ih (e + 1) (by omega) (by omega) ?_
        rw [hf, fiF, if_neg (by rw [(zb_0 _).mp h2]; decide)]
      · exact ky e (by rw [hf, fiF, if_pos ((zb_n0 _).mp h2)])
theorem ev_A_slide {x y z : Nat} (hx : x < n) (hy : y < n) (hz : z < n) (h1 : x ≠ y) (h2 : y ≠ z) (h3 : x ≠ z) (hn : n ≤ 8) {r : Option Value} {wf : zW} (kn : fiF (slB f n y z) (4 * x) 4 = none → Ev M_A_slide none r wf 92 [(0, .ref 0), (1, .int (nI x)), (2, .int (nI y)), (3, .int (nI z)), (4, .int (nI (4 * x + 4)))] [] (kC nd fd gd n f g nf ff gf s q oe t m l u c ln mi wd pl lt cc T) 0 0) (ky : ∀ e, fiF (slB f n y z) (4 * x) 4 = some e → Ev M_A_slide none r wf 78 [(0, .ref 0), (1, .int (nI x)), (2, .int (nI y)), (3, .int (nI z)), (4, .int (nI e))] [] (kC nd fd gd n f g nf ff gf s q oe t m l u c ln mi wd pl lt cc T) 0 0) : Ev M_A_slide none r wf 0 (lv_args 0 [.ref 0, .int (nI x), .int (nI y), .int (nI z)]) [] (kC nd fd gd n f g nf ff gf s q oe t m l u c ln mi wd pl lt cc T) 0 0 := by
  refine ev_iload_n 1 d_A_slide_0 rfl rfl ?_
  refine ev_iload_n 2 d_A_slide_1 rfl rfl ?_
  refine ev_icmp_eq 15 d_A_slide_2 (by decide) (fun q1 => ?_) (fun q1 => ?_)
  · exact absurd ((nI_eq (by omega) (by omega)).mp q1) h1
  · refine ev_iload_n 2 d_A_slide_5 rfl rfl ?_
    refine ev_iload_n 3 d_A_slide_6 rfl rfl ?_
    refine ev_icmp_eq 15 d_A_slide_7 (by decide) (fun q2 => ?_) (fun q2 => ?_)
    · exact absurd ((nI_eq (by omega) (by omega)).mp q2) h2
    · refine ev_iload_n 1 d_A_slide_10 rfl rfl ?_
      refine ev_iload_n 3 d_A_slide_11 rfl rfl ?_
      refine ev_icmp_ne 17 d_A_slide_12 (by decide) (fun q3 => ?_) (fun q3 => ?_)
      · refine ev_aload_n 0 d_A_slide_17 rfl rfl ?_
        refine ev_get f_A_16 d_A_slide_18 rfl rfl ?_
        refine ev_iload_n 1 d_A_slide_21 rfl rfl ?_
        refine ev_callV M_C_has [_] (sp_C_has (n := n) rfl (nI x)) c_A_123 d_A_slide_22 rfl rfl (by decide) (Nat.le_of_ble_eq_true rfl) ⟨rfl, rfl⟩ rfl ?_
        rw [decide_eq_true ⟨nI_pos (by omega), nI_lt hx (by omega)⟩]
        refine ev_if_eq 50 d_A_slide_25 (by decide) (fun q4 => ?_) (fun q4 => ?_)
        · exact absurd q4 (by decide)
        · refine ev_aload_n 0 d_A_slide_28 rfl rfl ?_
          refine ev_get f_A_16 d_A_slide_29 rfl rfl ?_
          refine ev_iload_n 2 d_A_slide_32 rfl rfl ?_
          refine ev_callV M_C_has [_] (sp_C_has (n := n) rfl (nI y)) c_A_123 d_A_slide_33 rfl rfl (by decide) (Nat.le_of_ble_eq_true rfl) ⟨rfl, rfl⟩ rfl ?_
          rw [decide_eq_true ⟨nI_pos (by omega), nI_lt hy (by omega)⟩]
          refine ev_if_eq 50 d_A_slide_36 (by decide) (fun q5 => ?_) (fun q5 => ?_)
          · exact absurd q5 (by decide)
          · refine ev_aload_n 0 d_A_slide_39 rfl rfl ?_
            refine ev_get f_A_16 d_A_slide_40 rfl rfl ?_
            refine ev_iload_n 3 d_A_slide_43 rfl rfl ?_
            refine ev_callV M_C_has [_] (sp_C_has (n := n) rfl (nI z)) c_A_123 d_A_slide_44 rfl rfl (by decide) (Nat.le_of_ble_eq_true rfl) ⟨rfl, rfl⟩ rfl ?_
            rw [decide_eq_true ⟨nI_pos (by omega), nI_lt hz (by omega)⟩]
            refine ev_if_ne 52 d_A_slide_47 (by decide) (fun q6 => ?_) (fun q6 => ?_)
            · refine ev_iconst (v := 4) d_A_slide_52 (by decide) ?_
              refine ev_iload_n 1 d_A_slide_53 rfl rfl ?_
              refine ev_imul d_A_slide_54 ?_
              rw [z_m4]
              refine ev_istore d_A_slide_55 (Nat.le_of_ble_eq_true rfl) rfl ?_
              exact lp_A_slide hx hy hz hn kn ky 4 (4 * x) (by omega) (by omega) rfl
            · exact absurd q6 (by decide)
      · exact absurd ((nI_eq (by omega) (by omega)).mp q3) h3
theorem sp_A_slide_no {x y z : Int32} (h : ¬ (¬ x = y ∧ ¬ y = z ∧ ¬ x = z ∧ (¬ x < 0 ∧ x < nI n) ∧ (¬ y < 0 ∧ y < nI n) ∧ (¬ z < 0 ∧ z < nI n))) : Sp M_A_slide [.ref 0, .int x, .int y, .int z] (kC nd fd gd n f g nf ff gf s q oe t m l u c ln mi wd pl lt cc T) (some (.int (zb false))) (kC nd fd gd n f g nf ff gf s q oe t m l u c ln mi wd pl lt cc T) := by
  refine Sp.of (by decide) (Nat.le_of_ble_eq_true rfl) ?_
  refine ev_iload_n 1 d_A_slide_0 rfl rfl ?_
  refine ev_iload_n 2 d_A_slide_1 rfl rfl ?_
  refine ev_icmp_eq 15 d_A_slide_2 (by decide) (fun q1 => ?_) (fun q1 => ?_)
  · refine ev_iconst (v := 0) d_A_slide_15 (by decide) ?_
    exact ev_iret d_A_slide_16 rfl zr0 (Nat.le_of_ble_eq_true rfl) (Nat.le_of_ble_eq_true rfl)
  · refine ev_iload_n 2 d_A_slide_5 rfl rfl ?_
    refine ev_iload_n 3 d_A_slide_6 rfl rfl ?_
    refine ev_icmp_eq 15 d_A_slide_7 (by decide) (fun q2 => ?_) (fun q2 => ?_)
    · refine ev_iconst (v := 0) d_A_slide_15 (by decide) ?_
      exact ev_iret d_A_slide_16 rfl zr0 (Nat.le_of_ble_eq_true rfl) (Nat.le_of_ble_eq_true rfl)
    · refine ev_iload_n 1 d_A_slide_10 rfl rfl ?_
      refine ev_iload_n 3 d_A_slide_11 rfl rfl ?_
      refine ev_icmp_ne 17 d_A_slide_12 (by decide) (fun q3 => ?_) (fun q3 => ?_)
      · refine ev_aload_n 0 d_A_slide_17 rfl rfl ?_
        refine ev_get f_A_16 d_A_slide_18 rfl rfl ?_
        refine ev_iload_n 1 d_A_slide_21 rfl rfl ?_
        refine ev_callV M_C_has [_] (sp_C_has (n := n) rfl x) c_A_123 d_A_slide_22 rfl rfl (by decide) (Nat.le_of_ble_eq_true rfl) ⟨rfl, rfl⟩ rfl ?_
        refine ev_if_eq 50 d_A_slide_25 (by decide) (fun q4 => ?_) (fun q4 => ?_)
        · refine ev_iconst (v := 0) d_A_slide_50 (by decide) ?_
          exact ev_iret d_A_slide_51 rfl zr0 (Nat.le_of_ble_eq_true rfl) (Nat.le_of_ble_eq_true rfl)
        · refine ev_aload_n 0 d_A_slide_28 rfl rfl ?_
          refine ev_get f_A_16 d_A_slide_29 rfl rfl ?_
          refine ev_iload_n 2 d_A_slide_32 rfl rfl ?_
          refine ev_callV M_C_has [_] (sp_C_has (n := n) rfl y) c_A_123 d_A_slide_33 rfl rfl (by decide) (Nat.le_of_ble_eq_true rfl) ⟨rfl, rfl⟩ rfl ?_
          refine ev_if_eq 50 d_A_slide_36 (by decide) (fun q5 => ?_) (fun q5 => ?_)
          · refine ev_iconst (v := 0) d_A_slide_50 (by decide) ?_
            exact ev_iret d_A_slide_51 rfl zr0 (Nat.le_of_ble_eq_true rfl) (Nat.le_of_ble_eq_true rfl)
          · refine ev_aload_n 0 d_A_slide_39 rfl rfl ?_
            refine ev_get f_A_16 d_A_slide_40 rfl rfl ?_
            refine ev_iload_n 3 d_A_slide_43 rfl rfl ?_
            refine ev_callV M_C_has [_] (sp_C_has (n := n) rfl z) c_A_123 d_A_slide_44 rfl rfl (by decide) (Nat.le_of_ble_eq_true rfl) ⟨rfl, rfl⟩ rfl ?_
            refine ev_if_ne 52 d_A_slide_47 (by decide) (fun q6 => ?_) (fun q6 => ?_)
            · exact absurd ⟨q1, q2, q3, of_decide_eq_true ((zb_n0 _).mp q4), of_decide_eq_true ((zb_n0 _).mp q5), of_decide_eq_true ((zb_n0 _).mp q6)⟩ h
            · refine ev_iconst (v := 0) d_A_slide_50 (by decide) ?_
              exact ev_iret d_A_slide_51 rfl zr0 (Nat.le_of_ble_eq_true rfl) (Nat.le_of_ble_eq_true rfl)
      · refine ev_iconst (v := 0) d_A_slide_15 (by decide) ?_
        exact ev_iret d_A_slide_16 rfl zr0 (Nat.le_of_ble_eq_true rfl) (Nat.le_of_ble_eq_true rfl)
theorem sp_A_slide_none {x y z : Nat} (hx : x < n) (hy : y < n) (hz : z < n) (h1 : x ≠ y) (h2 : y ≠ z) (h3 : x ≠ z) (hn : n ≤ 8) (hf : fiF (slB f n y z) (4 * x) 4 = none) : Sp M_A_slide [.ref 0, .int (nI x), .int (nI y), .int (nI z)] (kC nd fd gd n f g nf ff gf s q oe t m l u c ln mi wd pl lt cc T) (some (.int (zb false))) (kC nd fd gd n f g nf ff gf s q oe t m l u c ln mi wd pl lt cc T) := by
  refine Sp.of (by decide) (Nat.le_of_ble_eq_true rfl) (ev_A_slide hx hy hz h1 h2 h3 hn (fun _ => ?_) (fun e he => by rw [hf] at he; cases he))
  refine ev_iconst (v := 0) d_A_slide_92 (by decide) ?_
  exact ev_iret d_A_slide_93 rfl zr0 (Nat.le_of_ble_eq_true rfl) (Nat.le_of_ble_eq_true rfl)
theorem sp_A_slide {x y z e : Nat} (hx : x < n) (hy : y < n) (hz : z < n) (h1 : x ≠ y) (h2 : y ≠ z) (h3 : x ≠ z) (hn : n ≤ 8) (hf : fiF (slB f n y z) (4 * x) 4 = some e) : Sp M_A_slide [.ref 0, .int (nI x), .int (nI y), .int (nI z)] (kC nd fd gd n f g nf ff gf s q oe t m l u c ln mi wd pl lt cc T) (some (.int (zb true))) (kC nd fd gd n (slF f g ff gf n e) g (n) (va_cpy f ff 0 0 32) (va_cpy g gf 0 0 8) s q oe t m l u c ln mi wd pl lt cc T) := by
  refine Sp.of (by decide) (Nat.le_of_ble_eq_true rfl) (ev_A_slide hx hy hz h1 h2 h3 hn (fun h => by rw [hf] at h; cases h) (fun e' he => ?_))
  rw [hf] at he
  cases he
  have h4 := fiF_lt _ _ _ hf
  refine ev_aload_n 0 d_A_slide_78 rfl rfl ?_
  refine ev_iload d_A_slide_79 rfl ?_
  refine ev_callV M_A_slideFace [_] (sp_A_slideFace (n := n) (f := f) (g := g) (ff := ff) (gf := gf) (nf := nf) (e := e) (by omega) hn) c_A_212 d_A_slide_81 rfl rfl (by decide) (Nat.le_of_ble_eq_true rfl) ⟨rfl, rfl⟩ rfl ?_
  refine ev_iconst (v := 1) d_A_slide_84 (by decide) ?_
  exact ev_iret d_A_slide_85 rfl zr1 (Nat.le_of_ble_eq_true rfl) (Nat.le_of_ble_eq_true rfl)
end Mo
