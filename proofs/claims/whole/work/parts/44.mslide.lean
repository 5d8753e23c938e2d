/-- what slide leaves in next, and so in edge -/
def slX (me mp mx : Nat → Int32) (o : Nat → Nat) (a : Nat) : Nat → Int32 := slM me mp o (fM o (fM o a)) (slM me mp o (fM o a) (slM me mp o a (itN (cpS me) 0 32 mx)))
section Md
variable {X : Nat → zE} {me mp : Nat → Int32} {mc md mo : Nat} {mw : Nat → Int32} {ml mv my : Nat} {mt : Nat → Int32} {ms mq mh : Nat → Int64} {ma : Nat → Int32} {mz : Nat} {mk mn : Nat → Int32} {mr : Nat → Int64} {mx : Nat → Int32}
theorem lp_M_slideB {lv : List (Nat × Value)} {x y z a b c t : Int32} (hlv : lv = [(0, .ref 25), (1, .int x), (2, .int y), (3, .int z), (4, .int a), (5, .int b), (6, .int c), (7, .int t)]) : ∀ k h (me : Nat → Int32), h + k = 32 → Ev M_M_slide none (some (.int (zb true))) (kM X (itN (cpS mx) h k me) mp mc md mo mw ml mv my mt ms mq mh ma mz mk mn mr mx) 213 (lv ++ [(8, .int (nI h))]) [] (kM X me mp mc md mo mw ml mv my mt ms mq mh ma mz mk mn mr mx) 0 0 := by
  subst hlv
  intro k
  induction k with
  | zero =>
    intro h me hh
    rw [itN_0]
    refine ev_iload d_M_slide_213 rfl ?_
    refine ev_bipush (v := 32) d_M_slide_215 (by decide) ?_
    refine ev_icmp_ge 240 d_M_slide_217 (by decide) (fun q0 => ?_) (fun q0 => ?_)
    · refine ev_iconst (v := 1) d_M_slide_240 (by decide) ?_
      exact ev_iret d_M_slide_241 rfl zr1 (Nat.le_of_ble_eq_true rfl) (Nat.le_of_ble_eq_true rfl)
    · exact absurd (nI_le (a := 32) (b := h) (by omega) (by omega)) q0
  | succ k ih =>
    intro h me hh
    rw [itN_s]
    refine ev_iload d_M_slide_213 rfl ?_
    refine ev_bipush (v := 32) d_M_slide_215 (by decide) ?_
    refine ev_icmp_ge 240 d_M_slide_217 (by decide) (fun q0 => ?_) (fun q0 => ?_)
    · exact absurd q0 (nI_ge (b := 32) (by omega) (by omega))
    · refine ev_aload_n 0 d_M_slide_220 rfl rfl ?_
      refine ev_get f_M_7 d_M_slide_221 rfl rfl ?_
      refine ev_iload d_M_slide_224 rfl ?_
      refine ev_aload_n 0 d_M_slide_226 rfl rfl ?_
      refine ev_get f_M_49 d_M_slide_227 rfl rfl ?_
      refine ev_iload d_M_slide_230 rfl ?_
      refine ev_iald d_M_slide_232 rfl (vp_in_nI (by omega) (by omega)) ?_
      rw [nI_clamp (by omega)]
      refine ev_iast d_M_slide_233 rfl (vp_in_nI (by omega) (by omega)) ?_
      refine ev_iinc (v := _ + 1) d_M_slide_234 rfl rfl (Nat.le_of_ble_eq_true rfl) rfl ?_
      rw [nI_clamp (by omega), nI_1]
      refine ev_goto 213 d_M_slide_237 (by decide) ?_
      exact ih (h + 1) (cpS mx h me) (by omega)
theorem lp_M_slideA {x y z a b c t : Int32} {r : Option Value} {wf : zW} : ∀ k h (mx : Nat → Int32), h + k = 32 → Ev M_M_slide none r wf 192 [(0, .ref 25), (1, .int x), (2, .int y), (3, .int z), (4, .int a), (5, .int b), (6, .int c), (7, .int t), (8, .int (nI 32))] [] (kM X me mp mc md mo mw ml mv my mt ms mq mh ma mz mk mn mr (itN (cpS me) h k mx)) 0 0 → Ev M_M_slide none r wf 165 [(0, .ref 25), (1, .int x), (2, .int y), (3, .int z), (4, .int a), (5, .int b), (6, .int c), (7, .int t), (8, .int (nI h))] [] (kM X me mp mc md mo mw ml mv my mt ms mq mh ma mz mk mn mr mx) 0 0 := by
  intro k
  induction k with
  | zero =>
    intro h mx hh kk
    rw [itN_0] at kk
    refine ev_iload d_M_slide_165 rfl ?_
    refine ev_bipush (v := 32) d_M_slide_167 (by decide) ?_
    refine ev_icmp_ge 192 d_M_slide_169 (by decide) (fun q0 => ?_) (fun q0 => ?_)
    · rw [show h = 32 by omega]
      exact kk
    · exact absurd (nI_le (a := 32) (b := h) (by omega) (by omega)) q0
  | succ k ih =>
    intro h mx hh kk
    rw [itN_s] at kk
    refine ev_iload d_M_slide_165 rfl ?_
    refine ev_bipush (v := 32) d_M_slide_167 (by decide) ?_
    refine ev_icmp_ge 192 d_M_slide_169 (by decide) (fun q0 => ?_) (fun q0 => ?_)
    · exact absurd q0 (nI_ge (b := 32) (by omega) (by omega))
    · refine ev_aload_n 0 d_M_slide_172 rfl rfl ?_
      refine ev_get f_M_49 d_M_slide_173 rfl rfl ?_
      refine ev_iload d_M_slide_176 rfl ?_
      refine ev_aload_n 0 d_M_slide_178 rfl rfl ?_
      refine ev_get f_M_7 d_M_slide_179 rfl rfl ?_
      refine ev_iload d_M_slide_182 rfl ?_
      refine ev_iald d_M_slide_184 rfl (vp_in_nI (by omega) (by omega)) ?_
      rw [nI_clamp (by omega)]
      refine ev_iast d_M_slide_185 rfl (vp_in_nI (by omega) (by omega)) ?_
      refine ev_iinc (v := _ + 1) d_M_slide_186 rfl rfl (Nat.le_of_ble_eq_true rfl) rfl ?_
      rw [nI_clamp (by omega), nI_1]
      refine ev_goto 165 d_M_slide_189 (by decide) ?_
      exact ih (h + 1) (cpS me h mx) (by omega) kk
theorem lp_M_slide (hn : mc ≤ 8) {o : Nat → Nat} (hw : win me 0 mc o) {x y z : Nat} (hx : x < mc) (hy : y < mc) (hz : z < mc) {r : Option Value} {wf : zW} (kn : fiF (sbB o y z) (4 * x) 4 = none → ∀ ex : List (Nat × Value), Ev M_M_slide none r wf 248 ([(0, .ref 25), (1, .int (nI x)), (2, .int (nI y)), (3, .int (nI z)), (4, .int (nI (4 * x + 4)))] ++ ex) [] (kM X me mp mc md mo mw ml (0) (mc) mt ms mq mh ma mz mk mn mr mx) 0 0) (ky : ∀ a, fiF (sbB o y z) (4 * x) 4 = some a → Ev M_M_slide none r wf 162 [(0, .ref 25), (1, .int (nI x)), (2, .int (nI y)), (3, .int (nI z)), (4, .int (nI a)), (5, .int (nI (fM o a))), (6, .int (nI (fM o (fM o a)))), (7, .int (zb true))] [] (kM X me mp mc md mo mw ml (0) (mc) mt ms mq mh ma mz mk mn mr mx) 0 0) : ∀ k a (ex : List (Nat × Value)), (ex = [] ∨ ∃ v5 v6 v7 : Int32, ex = [(5, .int v5), (6, .int v6), (7, .int v7)]) → a + k = 4 * x + 4 → 4 * x ≤ a → fiF (sbB o y z) (4 * x) 4 = fiF (sbB o y z) a k → Ev M_M_slide none r wf 51 ([(0, .ref 25), (1, .int (nI x)), (2, .int (nI y)), (3, .int (nI z)), (4, .int (nI a))] ++ ex) [] (kM X me mp mc md mo mw ml (0) (mc) mt ms mq mh ma mz mk mn mr mx) 0 0 := by
  intro k
  induction k with
  | zero =>
    intro a ex hex ha h4 hf
    have k1 := kn (by rw [hf, fiF]) []
    refine ev_drop (lv' := [(0, .ref 25), (1, .int (nI x)), (2, .int (nI y)), (3, .int (nI z)), (4, .int (nI a))]) ?_
    refine ev_iload d_M_slide_51 rfl ?_
    refine ev_iconst (v := 4) d_M_slide_53 (by decide) ?_
    refine ev_iload_n 1 d_M_slide_54 rfl rfl ?_
    refine ev_imul d_M_slide_55 ?_
    rw [z_m4]
    refine ev_iconst (v := 4) d_M_slide_56 (by decide) ?_
    refine ev_iadd d_M_slide_57 ?_
    rw [z_p4]
    refine ev_icmp_ge 248 d_M_slide_58 (by decide) (fun h => ?_) (fun h => ?_)
    · rw [show a = 4 * x + 4 by omega]
      exact k1
    · exact absurd (nI_le (by omega) (by omega)) h
  | succ k ih =>
    intro a ex hex ha h4 hf
    refine ev_drop (lv' := [(0, .ref 25), (1, .int (nI x)), (2, .int (nI y)), (3, .int (nI z)), (4, .int (nI a))]) ?_
    have l1 := fM_win (v := 0) (by decide) hw (h := a) (by omega) (by omega)
    have l2 := fM_win (v := 0) (by decide) hw l1.1 l1.2
    have l3 := fM_win (v := 0) (by decide) hw l2.1 l2.2
    generalize hb : fM o a = b at *
    generalize hc : fM o b = c at *
    have no : sbB o y z a = false → ∀ t : Bool, Ev M_M_slide none r wf 242 [(0, .ref 25), (1, .int (nI x)), (2, .int (nI y)), (3, .int (nI z)), (4, .int (nI a)), (5, .int (nI b)), (6, .int (nI c)), (7, .int (zb t))] [] (kM X me mp mc md mo mw ml (0) (mc) mt ms mq mh ma mz mk mn mr mx) 0 0 := by
      intro hu t
      refine ev_iinc (v := _ + 1) d_M_slide_242 rfl rfl (Nat.le_of_ble_eq_true rfl) rfl ?_
      rw [nI_1]
      refine ev_goto 51 d_M_slide_245 (by decide) ?_
      exact ih (a + 1) [(5, .int (nI b)), (6, .int (nI c)), (7, .int (zb t))] (Or.inr ⟨_, _, _, rfl⟩) (by omega) (by omega) (by rw [hf, fiF, if_neg (by rw [hu]; decide)])
    have yes : sbB o y z a = true → Ev M_M_slide none r wf 162 [(0, .ref 25), (1, .int (nI x)), (2, .int (nI y)), (3, .int (nI z)), (4, .int (nI a)), (5, .int (nI b)), (6, .int (nI c)), (7, .int (zb true))] [] (kM X me mp mc md mo mw ml (0) (mc) mt ms mq mh ma mz mk mn mr mx) 0 0 := by
      intro hu
      rw [← hc, ← hb]
      exact ky a (by rw [hf, fiF, if_pos hu])
    have eu : sbB o y z a = ((decide (fM o c = a) && ((decide (b / 4 = y) && decide (c / 4 = z)) || (decide (b / 4 = z) && decide (c / 4 = y)))) && (lvM o a true || lvM o b true || lvM o c true)) := by unfold sbB; rw [hb, hc]
    have k2 : ∀ t : Bool, t = (decide (fM o c = a) && ((decide (b / 4 = y) && decide (c / 4 = z)) || (decide (b / 4 = z) && decide (c / 4 = y)))) → Ev M_M_slide none r wf 125 [(0, .ref 25), (1, .int (nI x)), (2, .int (nI y)), (3, .int (nI z)), (4, .int (nI a)), (5, .int (nI b)), (6, .int (nI c))] [.int (zb t)] (kM X me mp mc md mo mw ml (0) (mc) mt ms mq mh ma mz mk mn mr mx) 0 0 := by
      intro t ht
      rw [← ht] at eu
      refine ev_istore d_M_slide_125 (Nat.le_of_ble_eq_true rfl) rfl ?_
      refine ev_iload d_M_slide_127 rfl ?_
      refine ev_if_eq 242 d_M_slide_129 (by decide) (fun q1 => ?_) (fun q1 => ?_)
      · have t0 := (zb_0 _).mp q1
        subst t0
        exact no (by rw [eu, Bool.false_and]) false
      · have t1 := (zb_n0 _).mp q1
        subst t1
        rw [Bool.true_and] at eu
        refine ev_aload_n 0 d_M_slide_132 rfl rfl ?_
        refine ev_iload d_M_slide_133 rfl ?_
        refine ev_iconst (v := 1) d_M_slide_135 (by decide) ?_
        refine ev_callV M_M_level [_, _] (sp_M_level (mv := 0) (my := mc) (by omega) hw (h := a) (by omega) (by omega) true) c_M_180 d_M_slide_136 rfl rfl (by decide) (Nat.le_of_ble_eq_true rfl) ⟨rfl, rfl⟩ rfl ?_
        refine ev_if_ne 162 d_M_slide_139 (by decide) (fun q2 => ?_) (fun q2 => ?_)
        · exact yes (by rw [eu, (zb_n0 _).mp q2]; rfl)
        · refine ev_aload_n 0 d_M_slide_142 rfl rfl ?_
          refine ev_iload d_M_slide_143 rfl ?_
          refine ev_iconst (v := 1) d_M_slide_145 (by decide) ?_
          refine ev_callV M_M_level [_, _] (sp_M_level (mv := 0) (my := mc) (by omega) hw (h := b) (by omega) (by omega) true) c_M_180 d_M_slide_146 rfl rfl (by decide) (Nat.le_of_ble_eq_true rfl) ⟨rfl, rfl⟩ rfl ?_
          refine ev_if_ne 162 d_M_slide_149 (by decide) (fun q3 => ?_) (fun q3 => ?_)
          · exact yes (by rw [eu, (zb_n0 _).mp q3, Bool.or_true]; rfl)
          · refine ev_aload_n 0 d_M_slide_152 rfl rfl ?_
            refine ev_iload d_M_slide_153 rfl ?_
            refine ev_iconst (v := 1) d_M_slide_155 (by decide) ?_
            refine ev_callV M_M_level [_, _] (sp_M_level (mv := 0) (my := mc) (by omega) hw (h := c) (by omega) (by omega) true) c_M_180 d_M_slide_156 rfl rfl (by decide) (Nat.le_of_ble_eq_true rfl) ⟨rfl, rfl⟩ rfl ?_
            refine ev_if_eq 242 d_M_slide_159 (by decide) (fun q4 => ?_) (fun q4 => ?_)
            · exact no (by rw [eu, (zb_0 _).mp q2, (zb_0 _).mp q3, (zb_0 _).mp q4]; rfl) true
            · exact yes (by rw [eu, (zb_n0 _).mp q4, Bool.or_true])
    have f0 : (decide (fM o c = a) && ((decide (b / 4 = y) && decide (c / 4 = z)) || (decide (b / 4 = z) && decide (c / 4 = y)))) = false → Ev M_M_slide none r wf 124 [(0, .ref 25), (1, .int (nI x)), (2, .int (nI y)), (3, .int (nI z)), (4, .int (nI a)), (5, .int (nI b)), (6, .int (nI c))] [] (kM X me mp mc md mo mw ml (0) (mc) mt ms mq mh ma mz mk mn mr mx) 0 0 := by
      intro hq
      refine ev_iconst (v := 0) d_M_slide_124 (by decide) ?_
      exact k2 false hq.symm
    have f1 : (decide (fM o c = a) && ((decide (b / 4 = y) && decide (c / 4 = z)) || (decide (b / 4 = z) && decide (c / 4 = y)))) = true → Ev M_M_slide none r wf 120 [(0, .ref 25), (1, .int (nI x)), (2, .int (nI y)), (3, .int (nI z)), (4, .int (nI a)), (5, .int (nI b)), (6, .int (nI c))] [] (kM X me mp mc md mo mw ml (0) (mc) mt ms mq mh ma mz mk mn mr mx) 0 0 := by
      intro hq
      refine ev_iconst (v := 1) d_M_slide_120 (by decide) ?_
      refine ev_goto 125 d_M_slide_121 (by decide) ?_
      exact k2 true hq.symm
    refine ev_iload d_M_slide_51 rfl ?_
    refine ev_iconst (v := 4) d_M_slide_53 (by decide) ?_
    refine ev_iload_n 1 d_M_slide_54 rfl rfl ?_
    refine ev_imul d_M_slide_55 ?_
    rw [z_m4]
    refine ev_iconst (v := 4) d_M_slide_56 (by decide) ?_
    refine ev_iadd d_M_slide_57 ?_
    rw [z_p4]
    refine ev_icmp_ge 248 d_M_slide_58 (by decide) (fun h => ?_) (fun h => ?_)
    · exact absurd h (nI_ge (by omega) (by omega))
    · refine ev_aload_n 0 d_M_slide_61 rfl rfl ?_
      refine ev_iload d_M_slide_62 rfl ?_
      refine ev_callV M_M_follow [_] (sp_M_follow (mv := 0) (my := mc) (by omega) hw (h := a) (by omega) (by omega)) c_M_79 d_M_slide_64 rfl rfl (by decide) (Nat.le_of_ble_eq_true rfl) ⟨rfl, rfl⟩ rfl ?_
      rw [hb]
      refine ev_istore d_M_slide_67 (Nat.le_of_ble_eq_true rfl) rfl ?_
      refine ev_aload_n 0 d_M_slide_69 rfl rfl ?_
      refine ev_iload d_M_slide_70 rfl ?_
      refine ev_callV M_M_follow [_] (sp_M_follow (mv := 0) (my := mc) (by omega) hw (h := b) (by omega) (by omega)) c_M_79 d_M_slide_72 rfl rfl (by decide) (Nat.le_of_ble_eq_true rfl) ⟨rfl, rfl⟩ rfl ?_
      rw [hc]
      refine ev_istore d_M_slide_75 (Nat.le_of_ble_eq_true rfl) rfl ?_
      refine ev_aload_n 0 d_M_slide_77 rfl rfl ?_
      refine ev_iload d_M_slide_78 rfl ?_
      refine ev_callV M_M_follow [_] (sp_M_follow (mv := 0) (my := mc) (by omega) hw (h := c) (by omega) (by omega)) c_M_79 d_M_slide_80 rfl rfl (by decide) (Nat.le_of_ble_eq_true rfl) ⟨rfl, rfl⟩ rfl ?_
      refine ev_iload d_M_slide_83 rfl ?_
      refine ev_icmp_ne 124 d_M_slide_85 (by decide) (fun q1 => ?_) (fun q1 => ?_)
      · exact f0 (by rw [decide_eq_false (p := fM o c = a) (fun w => q1 (by rw [w])), Bool.false_and])
      · rw [decide_eq_true (p := fM o c = a) ((nI_eq (by omega) (by omega)).mp q1), Bool.true_and] at f0 f1
        -- the second pairing
        have g2 : (decide (b / 4 = y) && decide (c / 4 = z)) = false → Ev M_M_slide none r wf 104 [(0, .ref 25), (1, .int (nI x)), (2, .int (nI y)), (3, .int (nI z)), (4, .int (nI a)), (5, .int (nI b)), (6, .int (nI c))] [] (kM X me mp mc md mo mw ml (0) (mc) mt ms mq mh ma mz mk mn mr mx) 0 0 := by
          intro hq
          rw [hq, Bool.false_or] at f0 f1
          refine ev_iload d_M_slide_104 rfl ?_
          refine ev_iconst (v := 4) d_M_slide_106 (by decide) ?_
          refine ev_idiv d_M_slide_107 (by decide) ?_
          rw [z_div4 (by omega)]
          refine ev_iload_n 3 d_M_slide_108 rfl rfl ?_
          refine ev_icmp_ne 124 d_M_slide_109 (by decide) (fun q2 => ?_) (fun q2 => ?_)
          · exact f0 (by rw [decide_eq_false (p := b / 4 = z) (fun w => q2 (by rw [w])), Bool.false_and])
          · rw [decide_eq_true (p := b / 4 = z) ((nI_eq (by omega) (by omega)).mp q2), Bool.true_and] at f0 f1
            refine ev_iload d_M_slide_112 rfl ?_
            refine ev_iconst (v := 4) d_M_slide_114 (by decide) ?_
            refine ev_idiv d_M_slide_115 (by decide) ?_
            rw [z_div4 (by omega)]
            refine ev_iload_n 2 d_M_slide_116 rfl rfl ?_
            refine ev_icmp_ne 124 d_M_slide_117 (by decide) (fun q3 => ?_) (fun q3 => ?_)
            · exact f0 (decide_eq_false (fun w => q3 (by rw [w])))
            · exact f1 (decide_eq_true ((nI_eq (by omega) (by omega)).mp q3))
        refine ev_iload d_M_slide_88 rfl ?_
        refine ev_iconst (v := 4) d_M_slide_90 (by decide) ?_
        refine ev_idiv d_M_slide_91 (by decide) ?_
        rw [z_div4 (by omega)]
        refine ev_iload_n 2 d_M_slide_92 rfl rfl ?_
        refine ev_icmp_ne 104 d_M_slide_93 (by decide) (fun q2 => ?_) (fun q2 => ?_)
        · exact g2 (by rw [decide_eq_false (p := b / 4 = y) (fun w => q2 (by rw [w])), Bool.false_and])
        · refine ev_iload d_M_slide_96 rfl ?_
          refine ev_iconst (v := 4) d_M_slide_98 (by decide) ?_
          refine ev_idiv d_M_slide_99 (by decide) ?_
          rw [z_div4 (by omega)]
          refine ev_iload_n 3 d_M_slide_100 rfl rfl ?_
          refine ev_icmp_eq 120 d_M_slide_101 (by decide) (fun q3 => ?_) (fun q3 => ?_)
          · exact f1 (by rw [decide_eq_true (p := b / 4 = y) ((nI_eq (by omega) (by omega)).mp q2), decide_eq_true (p := c / 4 = z) ((nI_eq (by omega) (by omega)).mp q3)]; rfl)
          · exact g2 (by rw [decide_eq_false (p := c / 4 = z) (fun w => q3 (by rw [w])), Bool.and_false])
theorem sp_M_slide_no {x y z : Int32} (h : ¬ (¬ x = y ∧ ¬ y = z ∧ ¬ x = z ∧ (¬ x < 0 ∧ x < nI mc) ∧ (¬ y < 0 ∧ y < nI mc) ∧ (¬ z < 0 ∧ z < nI mc))) : Sp M_M_slide [.ref 25, .int x, .int y, .int z] (kM X me mp mc md mo mw ml mv my mt ms mq mh ma mz mk mn mr mx) (some (.int (zb false))) (kM X me mp mc md mo mw ml mv my mt ms mq mh ma mz mk mn mr mx) := by
  refine Sp.of (by decide) (Nat.le_of_ble_eq_true rfl) ?_
  refine ev_iload_n 1 d_M_slide_0 rfl rfl ?_
  refine ev_iload_n 2 d_M_slide_1 rfl rfl ?_
  refine ev_icmp_eq 39 d_M_slide_2 (by decide) (fun q1 => ?_) (fun q1 => ?_)
  · refine ev_iconst (v := 0) d_M_slide_39 (by decide) ?_
    exact ev_iret d_M_slide_40 rfl zr0 (Nat.le_of_ble_eq_true rfl) (Nat.le_of_ble_eq_true rfl)
  · refine ev_iload_n 2 d_M_slide_5 rfl rfl ?_
    refine ev_iload_n 3 d_M_slide_6 rfl rfl ?_
    refine ev_icmp_eq 39 d_M_slide_7 (by decide) (fun q2 => ?_) (fun q2 => ?_)
    · refine ev_iconst (v := 0) d_M_slide_39 (by decide) ?_
      exact ev_iret d_M_slide_40 rfl zr0 (Nat.le_of_ble_eq_true rfl) (Nat.le_of_ble_eq_true rfl)
    · refine ev_iload_n 1 d_M_slide_10 rfl rfl ?_
      refine ev_iload_n 3 d_M_slide_11 rfl rfl ?_
      refine ev_icmp_eq 39 d_M_slide_12 (by decide) (fun q3 => ?_) (fun q3 => ?_)
      · refine ev_iconst (v := 0) d_M_slide_39 (by decide) ?_
        exact ev_iret d_M_slide_40 rfl zr0 (Nat.le_of_ble_eq_true rfl) (Nat.le_of_ble_eq_true rfl)
      · refine ev_aload_n 0 d_M_slide_15 rfl rfl ?_
        refine ev_iload_n 1 d_M_slide_16 rfl rfl ?_
        refine ev_callV M_M_isCrossing [_] (sp_M_isCrossing x) c_M_168 d_M_slide_17 rfl rfl (by decide) (Nat.le_of_ble_eq_true rfl) ⟨rfl, rfl⟩ rfl ?_
        refine ev_if_eq 39 d_M_slide_20 (by decide) (fun q4 => ?_) (fun q4 => ?_)
        · refine ev_iconst (v := 0) d_M_slide_39 (by decide) ?_
          exact ev_iret d_M_slide_40 rfl zr0 (Nat.le_of_ble_eq_true rfl) (Nat.le_of_ble_eq_true rfl)
        · refine ev_aload_n 0 d_M_slide_23 rfl rfl ?_
          refine ev_iload_n 2 d_M_slide_24 rfl rfl ?_
          refine ev_callV M_M_isCrossing [_] (sp_M_isCrossing y) c_M_168 d_M_slide_25 rfl rfl (by decide) (Nat.le_of_ble_eq_true rfl) ⟨rfl, rfl⟩ rfl ?_
          refine ev_if_eq 39 d_M_slide_28 (by decide) (fun q5 => ?_) (fun q5 => ?_)
          · refine ev_iconst (v := 0) d_M_slide_39 (by decide) ?_
            exact ev_iret d_M_slide_40 rfl zr0 (Nat.le_of_ble_eq_true rfl) (Nat.le_of_ble_eq_true rfl)
          · refine ev_aload_n 0 d_M_slide_31 rfl rfl ?_
            refine ev_iload_n 3 d_M_slide_32 rfl rfl ?_
            refine ev_callV M_M_isCrossing [_] (sp_M_isCrossing z) c_M_168 d_M_slide_33 rfl rfl (by decide) (Nat.le_of_ble_eq_true rfl) ⟨rfl, rfl⟩ rfl ?_
            refine ev_if_ne 41 d_M_slide_36 (by decide) (fun q6 => ?_) (fun q6 => ?_)
            · exact absurd ⟨q1, q2, q3, of_decide_eq_true ((zb_n0 _).mp q4), of_decide_eq_true ((zb_n0 _).mp q5), of_decide_eq_true ((zb_n0 _).mp q6)⟩ h
            · refine ev_iconst (v := 0) d_M_slide_39 (by decide) ?_
              exact ev_iret d_M_slide_40 rfl zr0 (Nat.le_of_ble_eq_true rfl) (Nat.le_of_ble_eq_true rfl)
theorem ev_M_slide (hn : mc ≤ 8) {o : Nat → Nat} (hw : win me 0 mc o) {x y z : Nat} (hx : x < mc) (hy : y < mc) (hz : z < mc) (h1 : x ≠ y) (h2 : y ≠ z) (h3 : x ≠ z) {r : Option Value} {wf : zW} (kn : fiF (sbB o y z) (4 * x) 4 = none → ∀ ex : List (Nat × Value), Ev M_M_slide none r wf 248 ([(0, .ref 25), (1, .int (nI x)), (2, .int (nI y)), (3, .int (nI z)), (4, .int (nI (4 * x + 4)))] ++ ex) [] (kM X me mp mc md mo mw ml (0) (mc) mt ms mq mh ma mz mk mn mr mx) 0 0) (ky : ∀ a, fiF (sbB o y z) (4 * x) 4 = some a → Ev M_M_slide none r wf 162 [(0, .ref 25), (1, .int (nI x)), (2, .int (nI y)), (3, .int (nI z)), (4, .int (nI a)), (5, .int (nI (fM o a))), (6, .int (nI (fM o (fM o a)))), (7, .int (zb true))] [] (kM X me mp mc md mo mw ml (0) (mc) mt ms mq mh ma mz mk mn mr mx) 0 0) : Ev M_M_slide none r wf 0 (lv_args 0 [.ref 25, .int (nI x), .int (nI y), .int (nI z)]) [] (kM X me mp mc md mo mw ml mv my mt ms mq mh ma mz mk mn mr mx) 0 0 := by
  refine ev_iload_n 1 d_M_slide_0 rfl rfl ?_
  refine ev_iload_n 2 d_M_slide_1 rfl rfl ?_
  refine ev_icmp_eq 39 d_M_slide_2 (by decide) (fun q1 => ?_) (fun q1 => ?_)
  · exact absurd ((nI_eq (by omega) (by omega)).mp q1) h1
  · refine ev_iload_n 2 d_M_slide_5 rfl rfl ?_
    refine ev_iload_n 3 d_M_slide_6 rfl rfl ?_
    refine ev_icmp_eq 39 d_M_slide_7 (by decide) (fun q2 => ?_) (fun q2 => ?_)
    · exact absurd ((nI_eq (by omega) (by omega)).mp q2) h2
    · refine ev_iload_n 1 d_M_slide_10 rfl rfl ?_
      refine ev_iload_n 3 d_M_slide_11 rfl rfl ?_
      refine ev_icmp_eq 39 d_M_slide_12 (by decide) (fun q3 => ?_) (fun q3 => ?_)
      · exact absurd ((nI_eq (by omega) (by omega)).mp q3) h3
      · refine ev_aload_n 0 d_M_slide_15 rfl rfl ?_
        refine ev_iload_n 1 d_M_slide_16 rfl rfl ?_
        refine ev_callV M_M_isCrossing [_] (sp_M_isCrossing (nI x)) c_M_168 d_M_slide_17 rfl rfl (by decide) (Nat.le_of_ble_eq_true rfl) ⟨rfl, rfl⟩ rfl ?_
        rw [decide_eq_true ⟨nI_pos (by omega), nI_lt hx (by omega)⟩]
        refine ev_if_eq 39 d_M_slide_20 (by decide) (fun q4 => ?_) (fun q4 => ?_)
        · exact absurd q4 (by decide)
        · refine ev_aload_n 0 d_M_slide_23 rfl rfl ?_
          refine ev_iload_n 2 d_M_slide_24 rfl rfl ?_
          refine ev_callV M_M_isCrossing [_] (sp_M_isCrossing (nI y)) c_M_168 d_M_slide_25 rfl rfl (by decide) (Nat.le_of_ble_eq_true rfl) ⟨rfl, rfl⟩ rfl ?_
          rw [decide_eq_true ⟨nI_pos (by omega), nI_lt hy (by omega)⟩]
          refine ev_if_eq 39 d_M_slide_28 (by decide) (fun q5 => ?_) (fun q5 => ?_)
          · exact absurd q5 (by decide)
          · refine ev_aload_n 0 d_M_slide_31 rfl rfl ?_
            refine ev_iload_n 3 d_M_slide_32 rfl rfl ?_
            refine ev_callV M_M_isCrossing [_] (sp_M_isCrossing (nI z)) c_M_168 d_M_slide_33 rfl rfl (by decide) (Nat.le_of_ble_eq_true rfl) ⟨rfl, rfl⟩ rfl ?_
            rw [decide_eq_true ⟨nI_pos (by omega), nI_lt hz (by omega)⟩]
            refine ev_if_ne 41 d_M_slide_36 (by decide) (fun q6 => ?_) (fun q6 => ?_)
            · refine ev_aload_n 0 d_M_slide_41 rfl rfl ?_
              refine ev_iconst (v := 0) d_M_slide_42 (by decide) ?_
              refine ev_callV M_M_look [_] (sp_M_look false) c_M_92 d_M_slide_43 rfl rfl (by decide) (Nat.le_of_ble_eq_true rfl) ⟨rfl, rfl⟩ rfl ?_
              refine ev_iconst (v := 4) d_M_slide_46 (by decide) ?_
              refine ev_iload_n 1 d_M_slide_47 rfl rfl ?_
              refine ev_imul d_M_slide_48 ?_
              rw [z_m4]
              refine ev_istore d_M_slide_49 (Nat.le_of_ble_eq_true rfl) rfl ?_
              exact lp_M_slide hn hw hx hy hz kn ky 4 (4 * x) [] (Or.inl rfl) (by omega) (by omega) rfl
            · exact absurd q6 (by decide)
theorem sp_M_slide_none (hn : mc ≤ 8) {o : Nat → Nat} (hw : win me 0 mc o) {x y z : Nat} (hx : x < mc) (hy : y < mc) (hz : z < mc) (h1 : x ≠ y) (h2 : y ≠ z) (h3 : x ≠ z) (hf : fiF (sbB o y z) (4 * x) 4 = none) : Sp M_M_slide [.ref 25, .int (nI x), .int (nI y), .int (nI z)] (kM X me mp mc md mo mw ml mv my mt ms mq mh ma mz mk mn mr mx) (some (.int (zb false))) (kM X me mp mc md mo mw ml (0) (mc) mt ms mq mh ma mz mk mn mr mx) := by
  refine Sp.of (by decide) (Nat.le_of_ble_eq_true rfl) (ev_M_slide hn hw hx hy hz h1 h2 h3 (fun _ ex => ?_) (fun a ha => by rw [hf] at ha; cases ha))
  refine ev_drop (lv' := [(0, .ref 25), (1, .int (nI x)), (2, .int (nI y)), (3, .int (nI z)), (4, .int (nI (4 * x + 4)))]) ?_
  refine ev_iconst (v := 0) d_M_slide_248 (by decide) ?_
  exact ev_iret d_M_slide_249 rfl zr0 (Nat.le_of_ble_eq_true rfl) (Nat.le_of_ble_eq_true rfl)
theorem ev_M_slideC (hn : mc ≤ 8) {o : Nat → Nat} (hw : win me 0 mc o) {x y z : Int32} {a b c : Nat} (ha : a < 4 * mc) (hb : b < 4 * mc) (hc : c < 4 * mc) {m1 m2 m3 m4 : Nat → Int32} (e1 : slM me mp o a mx = m1) (e2 : slM me mp o b m1 = m2) (e3 : slM me mp o c m2 = m3) (e4 : itN (cpS m3) 0 32 me = m4) : Ev M_M_slide none (some (.int (zb true))) (kM X (m4) mp mc md mo mw ml (0) (mc) mt ms mq mh ma mz mk mn mr (m3)) 192 [(0, .ref 25), (1, .int x), (2, .int y), (3, .int z), (4, .int (nI a)), (5, .int (nI b)), (6, .int (nI c)), (7, .int (zb true)), (8, .int (nI 32))] [] (kM X me mp mc md mo mw ml (0) (mc) mt ms mq mh ma mz mk mn mr mx) 0 0 := by
  have s1 := sp_M_slideEdge (X := X) (mp := mp) (md := md) (mo := mo) (mw := mw) (ml := ml) (mt := mt) (ms := ms) (mq := mq) (mh := mh) (ma := ma) (mz := mz) (mk := mk) (mn := mn) (mr := mr) (mx := mx) hn hw (h := a) ha
  have s2 := sp_M_slideEdge (X := X) (mp := mp) (md := md) (mo := mo) (mw := mw) (ml := ml) (mt := mt) (ms := ms) (mq := mq) (mh := mh) (ma := ma) (mz := mz) (mk := mk) (mn := mn) (mr := mr) (mx := m1) hn hw (h := b) hb
  have s3 := sp_M_slideEdge (X := X) (mp := mp) (md := md) (mo := mo) (mw := mw) (ml := ml) (mt := mt) (ms := ms) (mq := mq) (mh := mh) (ma := ma) (mz := mz) (mk := mk) (mn := mn) (mr := mr) (mx := m2) hn hw (h := c) hc
  rw [e1] at s1
  rw [e2] at s2
  rw [e3] at s3
  refine ev_aload_n 0 d_M_slide_192 rfl rfl ?_
  refine ev_iload d_M_slide_193 rfl ?_
  refine ev_callV M_M_slideEdge [_] s1 c_M_190 d_M_slide_195 rfl rfl (by decide) (Nat.le_of_ble_eq_true rfl) ⟨rfl, rfl⟩ (by rw [kM_len, kM_len]) ?_
  refine ev_aload_n 0 d_M_slide_198 rfl rfl ?_
  refine ev_iload d_M_slide_199 rfl ?_
  refine ev_callV M_M_slideEdge [_] s2 c_M_190 d_M_slide_201 rfl rfl (by decide) (Nat.le_of_ble_eq_true rfl) ⟨rfl, rfl⟩ (by rw [kM_len, kM_len]) ?_
  refine ev_aload_n 0 d_M_slide_204 rfl rfl ?_
  refine ev_iload d_M_slide_205 rfl ?_
  refine ev_callV M_M_slideEdge [_] s3 c_M_190 d_M_slide_207 rfl rfl (by decide) (Nat.le_of_ble_eq_true rfl) ⟨rfl, rfl⟩ (by rw [kM_len, kM_len]) ?_
  refine ev_iconst (v := 0) d_M_slide_210 (by decide) ?_
  refine ev_istore d_M_slide_211 (Nat.le_of_ble_eq_true rfl) rfl ?_
  rw [← e4]
  exact lp_M_slideB rfl 32 0 me rfl
theorem sp_M_slide (hn : mc ≤ 8) {o : Nat → Nat} (hw : win me 0 mc o) {x y z a : Nat} (hx : x < mc) (hy : y < mc) (hz : z < mc) (h1 : x ≠ y) (h2 : y ≠ z) (h3 : x ≠ z) (hf : fiF (sbB o y z) (4 * x) 4 = some a) : Sp M_M_slide [.ref 25, .int (nI x), .int (nI y), .int (nI z)] (kM X me mp mc md mo mw ml mv my mt ms mq mh ma mz mk mn mr mx) (some (.int (zb true))) (kM X (itN (cpS (slX me mp mx o a)) 0 32 me) mp mc md mo mw ml (0) (mc) mt ms mq mh ma mz mk mn mr (slX me mp mx o a)) := by
  refine Sp.of (by decide) (Nat.le_of_ble_eq_true rfl) (ev_M_slide hn hw hx hy hz h1 h2 h3 (fun h => by rw [hf] at h; cases h) (fun a' ha => ?_))
  rw [hf] at ha
  cases ha
  have hl := fiF_lt _ _ _ hf
  have l1 := fM_win (v := 0) (by decide) hw (h := a) (by omega) (by omega)
  have l2 := fM_win (v := 0) (by decide) hw l1.1 l1.2
  refine ev_iconst (v := 0) d_M_slide_162 (by decide) ?_
  refine ev_istore d_M_slide_163 (Nat.le_of_ble_eq_true rfl) rfl ?_
  refine lp_M_slideA 32 0 mx (by omega) ?_
  exact ev_M_slideC hn hw (by omega) (by omega) (by omega) rfl rfl rfl rfl
end Md
