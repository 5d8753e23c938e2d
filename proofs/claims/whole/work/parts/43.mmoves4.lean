section Md
variable {X : Nat → zE} {me mp : Nat → Int32} {mc md mo : Nat} {mw : Nat → Int32} {ml mv my : Nat} {mt : Nat → Int32} {ms mq mh : Nat → Int64} {ma : Nat → Int32} {mz : Nat} {mk mn : Nat → Int32} {mr : Nat → Int64} {mx : Nat → Int32}
theorem lp_M_unpoke (hn : mc ≤ 8) {o : Nat → Nat} (hw : win me 0 mc o) {x y : Nat} (hx : x < mc) (hy : y < mc) {r : Option Value} {wf : zW} (kn : fiF (upM o y) (4 * x) 4 = none → ∀ ex : List (Nat × Value), Ev M_M_unpoke none r wf 160 ([(0, .ref 25), (1, .int (nI x)), (2, .int (nI y)), (3, .int (nI (4 * x + 4)))] ++ ex) [] (kM X me mp mc md mo mw ml (0) (mc) mt ms mq mh ma mz mk mn mr mx) 0 0) (ky : ∀ a, fiF (upM o y) (4 * x) 4 = some a → Ev M_M_unpoke none r wf 116 [(0, .ref 25), (1, .int (nI x)), (2, .int (nI y)), (3, .int (nI a)), (4, .int (nI (fM o a))), (5, .int (zb true))] [] (kM X me mp mc md mo mw ml (0) (mc) mt ms mq mh ma mz mk mn mr mx) 0 0) : ∀ k a (ex : List (Nat × Value)), (ex = [] ∨ ∃ v w : Int32, ex = [(4, .int v), (5, .int w)]) → a + k = 4 * x + 4 → 4 * x ≤ a → fiF (upM o y) (4 * x) 4 = fiF (upM o y) a k → Ev M_M_unpoke none r wf 32 ([(0, .ref 25), (1, .int (nI x)), (2, .int (nI y)), (3, .int (nI a))] ++ ex) [] (kM X me mp mc md mo mw ml (0) (mc) mt ms mq mh ma mz mk mn mr mx) 0 0 := by
  intro k
  induction k with
  | zero =>
    intro a ex hex ha h4 hf
    have k1 := kn (by rw [hf, fiF]) []
    refine ev_drop (lv' := [(0, .ref 25), (1, .int (nI x)), (2, .int (nI y)), (3, .int (nI a))]) ?_
    refine ev_iload_n 3 d_M_unpoke_32 rfl rfl ?_
    refine ev_iconst (v := 4) d_M_unpoke_33 (by decide) ?_
    refine ev_iload_n 1 d_M_unpoke_34 rfl rfl ?_
    refine ev_imul d_M_unpoke_35 ?_
    rw [z_m4]
    refine ev_iconst (v := 4) d_M_unpoke_36 (by decide) ?_
    refine ev_iadd d_M_unpoke_37 ?_
    rw [z_p4]
    refine ev_icmp_ge 160 d_M_unpoke_38 (by decide) (fun h => ?_) (fun h => ?_)
    · rw [show a = 4 * x + 4 by omega]
      exact k1
    · exact absurd (nI_le (by omega) (by omega)) h
  | succ k ih =>
    intro a ex hex ha h4 hf
    refine ev_drop (lv' := [(0, .ref 25), (1, .int (nI x)), (2, .int (nI y)), (3, .int (nI a))]) ?_
    have l1 := fM_win (v := 0) (by decide) hw (h := a) (by omega) (by omega)
    have l2 := fM_win (v := 0) (by decide) hw l1.1 l1.2
    generalize hb : fM o a = b at *
    have no : upM o y a = false → ∀ t : Bool, Ev M_M_unpoke none r wf 154 [(0, .ref 25), (1, .int (nI x)), (2, .int (nI y)), (3, .int (nI a)), (4, .int (nI b)), (5, .int (zb t))] [] (kM X me mp mc md mo mw ml (0) (mc) mt ms mq mh ma mz mk mn mr mx) 0 0 := by
      intro hu t
      refine ev_iinc (v := _ + 1) d_M_unpoke_154 rfl rfl (Nat.le_of_ble_eq_true rfl) rfl ?_
      rw [nI_1]
      refine ev_goto 32 d_M_unpoke_157 (by decide) ?_
      exact ih (a + 1) [(4, .int (nI b)), (5, .int (zb t))] (Or.inr ⟨_, _, rfl⟩) (by omega) (by omega) (by rw [hf, fiF, if_neg (by rw [hu]; decide)])
    have yes : upM o y a = true → Ev M_M_unpoke none r wf 116 [(0, .ref 25), (1, .int (nI x)), (2, .int (nI y)), (3, .int (nI a)), (4, .int (nI b)), (5, .int (zb true))] [] (kM X me mp mc md mo mw ml (0) (mc) mt ms mq mh ma mz mk mn mr mx) 0 0 := by
      intro hu
      rw [← hb]
      exact ky a (by rw [hf, fiF, if_pos hu])
    have eu : upM o y a = ((decide (b / 4 = y) && decide (fM o b = a)) && ((lvM o a true && lvM o b false) || (lvM o a false && lvM o b true))) := by unfold upM; rw [hb]
    -- with 'two' known
    have k2 : ∀ t : Bool, t = (decide (b / 4 = y) && decide (fM o b = a)) → Ev M_M_unpoke none r wf 71 [(0, .ref 25), (1, .int (nI x)), (2, .int (nI y)), (3, .int (nI a)), (4, .int (nI b))] [.int (zb t)] (kM X me mp mc md mo mw ml (0) (mc) mt ms mq mh ma mz mk mn mr mx) 0 0 := by
      intro t ht
      rw [← ht] at eu
      refine ev_istore d_M_unpoke_71 (Nat.le_of_ble_eq_true rfl) rfl ?_
      refine ev_iload d_M_unpoke_73 rfl ?_
      refine ev_if_eq 154 d_M_unpoke_75 (by decide) (fun q1 => ?_) (fun q1 => ?_)
      · have t0 := (zb_0 _).mp q1
        subst t0
        exact no (by rw [eu, Bool.false_and]) false
      · have t1 := (zb_n0 _).mp q1
        subst t1
        rw [Bool.true_and] at eu
        have second : (lvM o a true && lvM o b false) = false → Ev M_M_unpoke none r wf 97 [(0, .ref 25), (1, .int (nI x)), (2, .int (nI y)), (3, .int (nI a)), (4, .int (nI b)), (5, .int (zb true))] [] (kM X me mp mc md mo mw ml (0) (mc) mt ms mq mh ma mz mk mn mr mx) 0 0 := by
          intro hs
          rw [hs, Bool.false_or] at eu
          refine ev_aload_n 0 d_M_unpoke_97 rfl rfl ?_
          refine ev_iload_n 3 d_M_unpoke_98 rfl rfl ?_
          refine ev_iconst (v := 0) d_M_unpoke_99 (by decide) ?_
          refine ev_callV M_M_level [_, _] (sp_M_level (mv := 0) (my := mc) (by omega) hw (h := a) (by omega) (by omega) false) c_M_180 d_M_unpoke_100 rfl rfl (by decide) (Nat.le_of_ble_eq_true rfl) ⟨rfl, rfl⟩ rfl ?_
          refine ev_if_eq 154 d_M_unpoke_103 (by decide) (fun q2 => ?_) (fun q2 => ?_)
          · exact no (by rw [eu, (zb_0 _).mp q2, Bool.false_and]) true
          · refine ev_aload_n 0 d_M_unpoke_106 rfl rfl ?_
            refine ev_iload d_M_unpoke_107 rfl ?_
            refine ev_iconst (v := 1) d_M_unpoke_109 (by decide) ?_
            refine ev_callV M_M_level [_, _] (sp_M_level (mv := 0) (my := mc) (by omega) hw (h := b) (by omega) (by omega) true) c_M_180 d_M_unpoke_110 rfl rfl (by decide) (Nat.le_of_ble_eq_true rfl) ⟨rfl, rfl⟩ rfl ?_
            refine ev_if_eq 154 d_M_unpoke_113 (by decide) (fun q3 => ?_) (fun q3 => ?_)
            · exact no (by rw [eu, (zb_0 _).mp q3, Bool.and_false]) true
            · exact yes (by rw [eu, (zb_n0 _).mp q2, (zb_n0 _).mp q3]; rfl)
        refine ev_aload_n 0 d_M_unpoke_78 rfl rfl ?_
        refine ev_iload_n 3 d_M_unpoke_79 rfl rfl ?_
        refine ev_iconst (v := 1) d_M_unpoke_80 (by decide) ?_
        refine ev_callV M_M_level [_, _] (sp_M_level (mv := 0) (my := mc) (by omega) hw (h := a) (by omega) (by omega) true) c_M_180 d_M_unpoke_81 rfl rfl (by decide) (Nat.le_of_ble_eq_true rfl) ⟨rfl, rfl⟩ rfl ?_
        refine ev_if_eq 97 d_M_unpoke_84 (by decide) (fun q2 => ?_) (fun q2 => ?_)
        · exact second (by rw [(zb_0 _).mp q2, Bool.false_and])
        · refine ev_aload_n 0 d_M_unpoke_87 rfl rfl ?_
          refine ev_iload d_M_unpoke_88 rfl ?_
          refine ev_iconst (v := 0) d_M_unpoke_90 (by decide) ?_
          refine ev_callV M_M_level [_, _] (sp_M_level (mv := 0) (my := mc) (by omega) hw (h := b) (by omega) (by omega) false) c_M_180 d_M_unpoke_91 rfl rfl (by decide) (Nat.le_of_ble_eq_true rfl) ⟨rfl, rfl⟩ rfl ?_
          refine ev_if_ne 116 d_M_unpoke_94 (by decide) (fun q3 => ?_) (fun q3 => ?_)
          · exact yes (by rw [eu, (zb_n0 _).mp q2, (zb_n0 _).mp q3]; rfl)
          · exact second (by rw [(zb_0 _).mp q3, Bool.and_false])
    refine ev_iload_n 3 d_M_unpoke_32 rfl rfl ?_
    refine ev_iconst (v := 4) d_M_unpoke_33 (by decide) ?_
    refine ev_iload_n 1 d_M_unpoke_34 rfl rfl ?_
    refine ev_imul d_M_unpoke_35 ?_
    rw [z_m4]
    refine ev_iconst (v := 4) d_M_unpoke_36 (by decide) ?_
    refine ev_iadd d_M_unpoke_37 ?_
    rw [z_p4]
    refine ev_icmp_ge 160 d_M_unpoke_38 (by decide) (fun h => ?_) (fun h => ?_)
    · exact absurd h (nI_ge (by omega) (by omega))
    · refine ev_aload_n 0 d_M_unpoke_41 rfl rfl ?_
      refine ev_iload_n 3 d_M_unpoke_42 rfl rfl ?_
      refine ev_callV M_M_follow [_] (sp_M_follow (mv := 0) (my := mc) (by omega) hw (h := a) (by omega) (by omega)) c_M_79 d_M_unpoke_43 rfl rfl (by decide) (Nat.le_of_ble_eq_true rfl) ⟨rfl, rfl⟩ rfl ?_
      rw [hb]
      refine ev_istore d_M_unpoke_46 (Nat.le_of_ble_eq_true rfl) rfl ?_
      refine ev_iload d_M_unpoke_48 rfl ?_
      refine ev_iconst (v := 4) d_M_unpoke_50 (by decide) ?_
      refine ev_idiv d_M_unpoke_51 (by decide) ?_
      rw [z_div4 (by omega)]
      refine ev_iload_n 2 d_M_unpoke_52 rfl rfl ?_
      refine ev_icmp_ne 70 d_M_unpoke_53 (by decide) (fun q1 => ?_) (fun q1 => ?_)
      · refine ev_iconst (v := 0) d_M_unpoke_70 (by decide) ?_
        exact k2 false (by rw [decide_eq_false (fun w => q1 (by rw [w])), Bool.false_and])
      · rw [decide_eq_true ((nI_eq (by omega) (by omega)).mp q1), Bool.true_and] at k2
        refine ev_aload_n 0 d_M_unpoke_56 rfl rfl ?_
        refine ev_iload d_M_unpoke_57 rfl ?_
        refine ev_callV M_M_follow [_] (sp_M_follow (mv := 0) (my := mc) (by omega) hw (h := b) (by omega) (by omega)) c_M_79 d_M_unpoke_59 rfl rfl (by decide) (Nat.le_of_ble_eq_true rfl) ⟨rfl, rfl⟩ rfl ?_
        refine ev_iload_n 3 d_M_unpoke_62 rfl rfl ?_
        refine ev_icmp_ne 70 d_M_unpoke_63 (by decide) (fun q2 => ?_) (fun q2 => ?_)
        · refine ev_iconst (v := 0) d_M_unpoke_70 (by decide) ?_
          exact k2 false (by rw [decide_eq_false (fun w => q2 (by rw [w]))])
        · refine ev_iconst (v := 1) d_M_unpoke_66 (by decide) ?_
          refine ev_goto 71 d_M_unpoke_67 (by decide) ?_
          exact k2 true (by rw [decide_eq_true ((nI_eq (by omega) (by omega)).mp q2)])
theorem sp_M_unpoke_no {x y : Int32} (h : ¬ (¬ x = y ∧ (¬ x < 0 ∧ x < nI mc) ∧ (¬ y < 0 ∧ y < nI mc))) : Sp M_M_unpoke [.ref 25, .int x, .int y] (kM X me mp mc md mo mw ml mv my mt ms mq mh ma mz mk mn mr mx) (some (.int (zb false))) (kM X me mp mc md mo mw ml mv my mt ms mq mh ma mz mk mn mr mx) := by
  refine Sp.of (by decide) (Nat.le_of_ble_eq_true rfl) ?_
  refine ev_iload_n 1 d_M_unpoke_0 rfl rfl ?_
  refine ev_iload_n 2 d_M_unpoke_1 rfl rfl ?_
  refine ev_icmp_eq 21 d_M_unpoke_2 (by decide) (fun q1 => ?_) (fun q1 => ?_)
  · refine ev_iconst (v := 0) d_M_unpoke_21 (by decide) ?_
    exact ev_iret d_M_unpoke_22 rfl zr0 (Nat.le_of_ble_eq_true rfl) (Nat.le_of_ble_eq_true rfl)
  · refine ev_aload_n 0 d_M_unpoke_5 rfl rfl ?_
    refine ev_iload_n 1 d_M_unpoke_6 rfl rfl ?_
    refine ev_callV M_M_isCrossing [_] (sp_M_isCrossing x) c_M_168 d_M_unpoke_7 rfl rfl (by decide) (Nat.le_of_ble_eq_true rfl) ⟨rfl, rfl⟩ rfl ?_
    refine ev_if_eq 21 d_M_unpoke_10 (by decide) (fun q2 => ?_) (fun q2 => ?_)
    · refine ev_iconst (v := 0) d_M_unpoke_21 (by decide) ?_
      exact ev_iret d_M_unpoke_22 rfl zr0 (Nat.le_of_ble_eq_true rfl) (Nat.le_of_ble_eq_true rfl)
    · refine ev_aload_n 0 d_M_unpoke_13 rfl rfl ?_
      refine ev_iload_n 2 d_M_unpoke_14 rfl rfl ?_
      refine ev_callV M_M_isCrossing [_] (sp_M_isCrossing y) c_M_168 d_M_unpoke_15 rfl rfl (by decide) (Nat.le_of_ble_eq_true rfl) ⟨rfl, rfl⟩ rfl ?_
      refine ev_if_ne 23 d_M_unpoke_18 (by decide) (fun q3 => ?_) (fun q3 => ?_)
      · exact absurd ⟨q1, of_decide_eq_true ((zb_n0 _).mp q2), of_decide_eq_true ((zb_n0 _).mp q3)⟩ h
      · refine ev_iconst (v := 0) d_M_unpoke_21 (by decide) ?_
        exact ev_iret d_M_unpoke_22 rfl zr0 (Nat.le_of_ble_eq_true rfl) (Nat.le_of_ble_eq_true rfl)
theorem ev_M_unpoke (hn : mc ≤ 8) {o : Nat → Nat} (hw : win me 0 mc o) {x y : Nat} (hx : x < mc) (hy : y < mc) (hxy : x ≠ y) {r : Option Value} {wf : zW} (kn : fiF (upM o y) (4 * x) 4 = none → ∀ ex : List (Nat × Value), Ev M_M_unpoke none r wf 160 ([(0, .ref 25), (1, .int (nI x)), (2, .int (nI y)), (3, .int (nI (4 * x + 4)))] ++ ex) [] (kM X me mp mc md mo mw ml (0) (mc) mt ms mq mh ma mz mk mn mr mx) 0 0) (ky : ∀ a, fiF (upM o y) (4 * x) 4 = some a → Ev M_M_unpoke none r wf 116 [(0, .ref 25), (1, .int (nI x)), (2, .int (nI y)), (3, .int (nI a)), (4, .int (nI (fM o a))), (5, .int (zb true))] [] (kM X me mp mc md mo mw ml (0) (mc) mt ms mq mh ma mz mk mn mr mx) 0 0) : Ev M_M_unpoke none r wf 0 (lv_args 0 [.ref 25, .int (nI x), .int (nI y)]) [] (kM X me mp mc md mo mw ml mv my mt ms mq mh ma mz mk mn mr mx) 0 0 := by
  refine ev_iload_n 1 d_M_unpoke_0 rfl rfl ?_
  refine ev_iload_n 2 d_M_unpoke_1 rfl rfl ?_
  refine ev_icmp_eq 21 d_M_unpoke_2 (by decide) (fun q1 => ?_) (fun q1 => ?_)
  · exact absurd ((nI_eq (by omega) (by omega)).mp q1) hxy
  · refine ev_aload_n 0 d_M_unpoke_5 rfl rfl ?_
    refine ev_iload_n 1 d_M_unpoke_6 rfl rfl ?_
    refine ev_callV M_M_isCrossing [_] (sp_M_isCrossing (nI x)) c_M_168 d_M_unpoke_7 rfl rfl (by decide) (Nat.le_of_ble_eq_true rfl) ⟨rfl, rfl⟩ rfl ?_
    rw [decide_eq_true ⟨nI_pos (by omega), nI_lt hx (by omega)⟩]
    refine ev_if_eq 21 d_M_unpoke_10 (by decide) (fun q2 => ?_) (fun q2 => ?_)
    · exact absurd q2 (by decide)
    · refine ev_aload_n 0 d_M_unpoke_13 rfl rfl ?_
      refine ev_iload_n 2 d_M_unpoke_14 rfl rfl ?_
      refine ev_callV M_M_isCrossing [_] (sp_M_isCrossing (nI y)) c_M_168 d_M_unpoke_15 rfl rfl (by decide) (Nat.le_of_ble_eq_true rfl) ⟨rfl, rfl⟩ rfl ?_
      rw [decide_eq_true ⟨nI_pos (by omega), nI_lt hy (by omega)⟩]
      refine ev_if_ne 23 d_M_unpoke_18 (by decide) (fun q3 => ?_) (fun q3 => ?_)
      · refine ev_aload_n 0 d_M_unpoke_23 rfl rfl ?_
        refine ev_iconst (v := 0) d_M_unpoke_24 (by decide) ?_
        refine ev_callV M_M_look [_] (sp_M_look false) c_M_92 d_M_unpoke_25 rfl rfl (by decide) (Nat.le_of_ble_eq_true rfl) ⟨rfl, rfl⟩ rfl ?_
        refine ev_iconst (v := 4) d_M_unpoke_28 (by decide) ?_
        refine ev_iload_n 1 d_M_unpoke_29 rfl rfl ?_
        refine ev_imul d_M_unpoke_30 ?_
        rw [z_m4]
        refine ev_istore_n 3 d_M_unpoke_31 rfl (Nat.le_of_ble_eq_true rfl) rfl ?_
        exact lp_M_unpoke hn hw hx hy kn ky 4 (4 * x) [] (Or.inl rfl) (by omega) (by omega) rfl
      · exact absurd q3 (by decide)
theorem sp_M_unpoke_none (hn : mc ≤ 8) {o : Nat → Nat} (hw : win me 0 mc o) {x y : Nat} (hx : x < mc) (hy : y < mc) (hxy : x ≠ y) (hf : fiF (upM o y) (4 * x) 4 = none) : Sp M_M_unpoke [.ref 25, .int (nI x), .int (nI y)] (kM X me mp mc md mo mw ml mv my mt ms mq mh ma mz mk mn mr mx) (some (.int (zb false))) (kM X me mp mc md mo mw ml (0) (mc) mt ms mq mh ma mz mk mn mr mx) := by
  refine Sp.of (by decide) (Nat.le_of_ble_eq_true rfl) (ev_M_unpoke hn hw hx hy hxy (fun _ ex => ?_) (fun a ha => by rw [hf] at ha; cases ha))
  refine ev_drop (lv' := [(0, .ref 25), (1, .int (nI x)), (2, .int (nI y)), (3, .int (nI (4 * x + 4)))]) ?_
  refine ev_iconst (v := 0) d_M_unpoke_160 (by decide) ?_
  exact ev_iret d_M_unpoke_161 rfl zr0 (Nat.le_of_ble_eq_true rfl) (Nat.le_of_ble_eq_true rfl)
theorem sp_M_unpoke (hn : mc ≤ 6) {o : Nat → Nat} (hw : win me 0 (mc + 2) o) {x y a : Nat} (hx : x < mc + 2) (hy : y < mc + 2) (hxy : x ≠ y) (hf : fiF (upM o y) (4 * x) 4 = some a) : Sp M_M_unpoke [.ref 25, .int (nI x), .int (nI y)] (kM X me mp (mc + 2) md mo mw ml mv my mt ms mq mh ma mz mk mn mr mx) (some (.int (zb true))) (kM X ((puS me mp mc mo o (if lvM o a true = true then a else fM o a) (if lvM o a true = true then fM o a else a) x y).1) (tP (tP mp (mxM x y)) (miM x y)) mc md ((puS me mp mc mo o (if lvM o a true = true then a else fM o a) (if lvM o a true = true then fM o a else a) x y).2) mw ml (0) (mc + 2) mt ms mq mh ma mz mk mn mr mx) := by
  refine Sp.of (by decide) (Nat.le_of_ble_eq_true rfl) (ev_M_unpoke (mc := mc + 2) (by omega) hw hx hy hxy (fun h => by rw [hf] at h; cases h) (fun a' ha => ?_))
  rw [hf] at ha
  cases ha
  have hl := fiF_lt _ _ _ hf
  have l1 := fM_win (v := 0) (by decide) hw (h := a) (by omega) (by omega)
  cases hv : lvM o a true with
  | true =>
    rw [if_pos rfl, if_pos rfl]
    refine ev_aload_n 0 d_M_unpoke_116 rfl rfl ?_
    refine ev_aload_n 0 d_M_unpoke_117 rfl rfl ?_
    refine ev_iload_n 3 d_M_unpoke_118 rfl rfl ?_
    refine ev_iconst (v := 1) d_M_unpoke_119 (by decide) ?_
    refine ev_callV M_M_level [_, _] (sp_M_level (mc := mc + 2) (mv := 0) (my := mc + 2) (by omega) hw (h := a) (by omega) (by omega) true) c_M_180 d_M_unpoke_120 rfl rfl (by decide) (Nat.le_of_ble_eq_true rfl) ⟨rfl, rfl⟩ rfl ?_
    rw [hv]
    refine ev_if_eq 130 d_M_unpoke_123 (by decide) (fun q1 => ?_) (fun q1 => ?_)
    · exact absurd q1 (by decide)
    · refine ev_iload_n 3 d_M_unpoke_126 rfl rfl ?_
      refine ev_goto 132 d_M_unpoke_127 (by decide) ?_
      refine ev_aload_n 0 d_M_unpoke_132 rfl rfl ?_
      refine ev_iload_n 3 d_M_unpoke_133 rfl rfl ?_
      refine ev_iconst (v := 1) d_M_unpoke_134 (by decide) ?_
      refine ev_callV M_M_level [_, _] (sp_M_level (mc := mc + 2) (mv := 0) (my := mc + 2) (by omega) hw (h := a) (by omega) (by omega) true) c_M_180 d_M_unpoke_135 rfl rfl (by decide) (Nat.le_of_ble_eq_true rfl) ⟨rfl, rfl⟩ rfl ?_
      rw [hv]
      refine ev_if_eq 146 d_M_unpoke_138 (by decide) (fun q2 => ?_) (fun q2 => ?_)
      · exact absurd q2 (by decide)
      · refine ev_iload d_M_unpoke_141 rfl ?_
        refine ev_goto 147 d_M_unpoke_143 (by decide) ?_
        refine ev_iload_n 1 d_M_unpoke_147 rfl rfl ?_
        refine ev_iload_n 2 d_M_unpoke_148 rfl rfl ?_
        refine ev_callV M_M_pull [_, _, _, _] (sp_M_pull hn hw (up := a) (down := fM o a) (x := x) (y := y) (by omega) (by omega) hx hy) c_M_184 d_M_unpoke_149 rfl rfl (by decide) (Nat.le_of_ble_eq_true rfl) ⟨rfl, rfl⟩ rfl ?_
        refine ev_iconst (v := 1) d_M_unpoke_152 (by decide) ?_
        exact ev_iret d_M_unpoke_153 rfl zr1 (Nat.le_of_ble_eq_true rfl) (Nat.le_of_ble_eq_true rfl)
  | false =>
    rw [if_neg (by decide), if_neg (by decide)]
    refine ev_aload_n 0 d_M_unpoke_116 rfl rfl ?_
    refine ev_aload_n 0 d_M_unpoke_117 rfl rfl ?_
    refine ev_iload_n 3 d_M_unpoke_118 rfl rfl ?_
    refine ev_iconst (v := 1) d_M_unpoke_119 (by decide) ?_
    refine ev_callV M_M_level [_, _] (sp_M_level (mc := mc + 2) (mv := 0) (my := mc + 2) (by omega) hw (h := a) (by omega) (by omega) true) c_M_180 d_M_unpoke_120 rfl rfl (by decide) (Nat.le_of_ble_eq_true rfl) ⟨rfl, rfl⟩ rfl ?_
    rw [hv]
    refine ev_if_eq 130 d_M_unpoke_123 (by decide) (fun q1 => ?_) (fun q1 => ?_)
    · refine ev_iload d_M_unpoke_130 rfl ?_
      refine ev_aload_n 0 d_M_unpoke_132 rfl rfl ?_
      refine ev_iload_n 3 d_M_unpoke_133 rfl rfl ?_
      refine ev_iconst (v := 1) d_M_unpoke_134 (by decide) ?_
      refine ev_callV M_M_level [_, _] (sp_M_level (mc := mc + 2) (mv := 0) (my := mc + 2) (by omega) hw (h := a) (by omega) (by omega) true) c_M_180 d_M_unpoke_135 rfl rfl (by decide) (Nat.le_of_ble_eq_true rfl) ⟨rfl, rfl⟩ rfl ?_
      rw [hv]
      refine ev_if_eq 146 d_M_unpoke_138 (by decide) (fun q2 => ?_) (fun q2 => ?_)
      · refine ev_iload_n 3 d_M_unpoke_146 rfl rfl ?_
        refine ev_iload_n 1 d_M_unpoke_147 rfl rfl ?_
        refine ev_iload_n 2 d_M_unpoke_148 rfl rfl ?_
        refine ev_callV M_M_pull [_, _, _, _] (sp_M_pull hn hw (up := fM o a) (down := a) (x := x) (y := y) (by omega) (by omega) hx hy) c_M_184 d_M_unpoke_149 rfl rfl (by decide) (Nat.le_of_ble_eq_true rfl) ⟨rfl, rfl⟩ rfl ?_
        refine ev_iconst (v := 1) d_M_unpoke_152 (by decide) ?_
        exact ev_iret d_M_unpoke_153 rfl zr1 (Nat.le_of_ble_eq_true rfl) (Nat.le_of_ble_eq_true rfl)
      · exact absurd rfl q2
    · exact absurd rfl q1
theorem sp_M_slideEdge (hn : mc ≤ 8) {o : Nat → Nat} (hw : win me 0 mc o) {h : Nat} (hh : h < 4 * mc) : Sp M_M_slideEdge [.ref 25, .int (nI h)] (kM X me mp mc md mo mw ml (0) (mc) mt ms mq mh ma mz mk mn mr mx) none (kM X me mp mc md mo mw ml (0) (mc) mt ms mq mh ma mz mk mn mr (slM me mp o h mx)) := by
  refine Sp.of (by decide) (Nat.le_of_ble_eq_true rfl) ?_
  obtain ⟨a1, a2, a3⟩ := hw h (by omega) (by omega)
  have hu : ouM mp o h < 4 * mc := by unfold ouM; split <;> omega
  have hc : coM mp o h < 4 * mc := by unfold coM; split <;> omega
  have ou := opM_lt hu
  have oc := opM_lt hc
  have k2 : Ev M_M_slideEdge none none (kM X me mp mc md mo mw ml (0) (mc) mt ms mq mh ma mz mk mn mr (slM me mp o h mx)) 35 [(0, .ref 25), (1, .int (nI h)), (2, .int (nI (o h))), (3, .int (nI (ouM mp o h))), (4, .int (nI (coM mp o h)))] [] (kM X me mp mc md mo mw ml (0) (mc) mt ms mq mh ma mz mk mn mr mx) 0 0 := by
    unfold slM
    generalize ouM mp o h = U at *
    generalize coM mp o h = C at *
    refine ev_aload_n 0 d_M_slideEdge_35 rfl rfl ?_
    refine ev_get f_M_49 d_M_slideEdge_36 rfl rfl ?_
    refine ev_iload_n 3 d_M_slideEdge_39 rfl rfl ?_
    refine ev_callS M_M_opposite [_] (sp_M_opposite _ (h := U) (by omega)) c_M_177 d_M_slideEdge_40 rfl (by decide) (Nat.le_of_ble_eq_true rfl) ⟨rfl, rfl⟩ rfl ?_
    refine ev_aload_n 0 d_M_slideEdge_43 rfl rfl ?_
    refine ev_get f_M_7 d_M_slideEdge_44 rfl rfl ?_
    refine ev_iload_n 3 d_M_slideEdge_47 rfl rfl ?_
    refine ev_iald d_M_slideEdge_48 rfl (vp_in_nI (by omega) (by omega)) ?_
    rw [nI_clamp (n := U) (by omega)]
    refine ev_iast d_M_slideEdge_49 rfl (vp_in_nI (by omega) (by omega)) ?_
    rw [nI_clamp (n := opM U) (by omega)]
    refine ev_aload_n 0 d_M_slideEdge_50 rfl rfl ?_
    refine ev_get f_M_49 d_M_slideEdge_51 rfl rfl ?_
    refine ev_iload_n 3 d_M_slideEdge_54 rfl rfl ?_
    refine ev_aload_n 0 d_M_slideEdge_55 rfl rfl ?_
    refine ev_get f_M_7 d_M_slideEdge_56 rfl rfl ?_
    refine ev_iload d_M_slideEdge_59 rfl ?_
    refine ev_callS M_M_opposite [_] (sp_M_opposite _ (h := C) (by omega)) c_M_177 d_M_slideEdge_61 rfl (by decide) (Nat.le_of_ble_eq_true rfl) ⟨rfl, rfl⟩ rfl ?_
    refine ev_iald d_M_slideEdge_64 rfl (vp_in_nI (by omega) (by omega)) ?_
    rw [nI_clamp (n := opM C) (by omega)]
    refine ev_iast d_M_slideEdge_65 rfl (vp_in_nI (by omega) (by omega)) ?_
    rw [nI_clamp (n := U) (by omega)]
    refine ev_aload_n 0 d_M_slideEdge_66 rfl rfl ?_
    refine ev_get f_M_49 d_M_slideEdge_67 rfl rfl ?_
    refine ev_iload d_M_slideEdge_70 rfl ?_
    refine ev_aload_n 0 d_M_slideEdge_72 rfl rfl ?_
    refine ev_get f_M_7 d_M_slideEdge_73 rfl rfl ?_
    refine ev_iload_n 3 d_M_slideEdge_76 rfl rfl ?_
    refine ev_callS M_M_opposite [_] (sp_M_opposite _ (h := U) (by omega)) c_M_177 d_M_slideEdge_77 rfl (by decide) (Nat.le_of_ble_eq_true rfl) ⟨rfl, rfl⟩ rfl ?_
    refine ev_iald d_M_slideEdge_80 rfl (vp_in_nI (by omega) (by omega)) ?_
    rw [nI_clamp (n := opM U) (by omega)]
    refine ev_iast d_M_slideEdge_81 rfl (vp_in_nI (by omega) (by omega)) ?_
    rw [nI_clamp (n := C) (by omega)]
    refine ev_aload_n 0 d_M_slideEdge_82 rfl rfl ?_
    refine ev_get f_M_49 d_M_slideEdge_83 rfl rfl ?_
    refine ev_iload d_M_slideEdge_86 rfl ?_
    refine ev_callS M_M_opposite [_] (sp_M_opposite _ (h := C) (by omega)) c_M_177 d_M_slideEdge_88 rfl (by decide) (Nat.le_of_ble_eq_true rfl) ⟨rfl, rfl⟩ rfl ?_
    refine ev_aload_n 0 d_M_slideEdge_91 rfl rfl ?_
    refine ev_get f_M_7 d_M_slideEdge_92 rfl rfl ?_
    refine ev_iload d_M_slideEdge_95 rfl ?_
    refine ev_iald d_M_slideEdge_97 rfl (vp_in_nI (by omega) (by omega)) ?_
    rw [nI_clamp (n := C) (by omega)]
    refine ev_iast d_M_slideEdge_98 rfl (vp_in_nI (by omega) (by omega)) ?_
    rw [nI_clamp (n := opM C) (by omega)]
    exact ev_ret d_M_slideEdge_99 rfl (Nat.le_of_ble_eq_true rfl) (Nat.le_of_ble_eq_true rfl)
  refine ev_aload_n 0 d_M_slideEdge_0 rfl rfl ?_
  refine ev_iload_n 1 d_M_slideEdge_1 rfl rfl ?_
  refine ev_callV M_M_other [_] (sp_M_other (mv := 0) (my := mc) (by omega) (h := h) (by omega)) c_M_72 d_M_slideEdge_2 rfl rfl (by decide) (Nat.le_of_ble_eq_true rfl) ⟨rfl, rfl⟩ rfl ?_
  rw [a1]
  refine ev_istore_n 2 d_M_slideEdge_5 rfl (Nat.le_of_ble_eq_true rfl) rfl ?_
  refine ev_aload_n 0 d_M_slideEdge_6 rfl rfl ?_
  refine ev_iload_n 1 d_M_slideEdge_7 rfl rfl ?_
  refine ev_callV M_M_in [_] (sp_M_in (mv := 0) (my := mc) (h := h) (by omega)) c_M_76 d_M_slideEdge_8 rfl rfl (by decide) (Nat.le_of_ble_eq_true rfl) ⟨rfl, rfl⟩ rfl ?_
  cases hi : inM mp h with
  | true =>
    have e1 : ouM mp o h = o h := by unfold ouM; rw [hi]; rfl
    have e2 : coM mp o h = h := by unfold coM; rw [hi]; rfl
    rw [e1, e2] at k2
    refine ev_if_eq 18 d_M_slideEdge_11 (by decide) (fun q1 => ?_) (fun q1 => ?_)
    · exact absurd q1 (by decide)
    · refine ev_iload_n 2 d_M_slideEdge_14 rfl rfl ?_
      refine ev_goto 19 d_M_slideEdge_15 (by decide) ?_
      refine ev_istore_n 3 d_M_slideEdge_19 rfl (Nat.le_of_ble_eq_true rfl) rfl ?_
      refine ev_aload_n 0 d_M_slideEdge_20 rfl rfl ?_
      refine ev_iload_n 1 d_M_slideEdge_21 rfl rfl ?_
      refine ev_callV M_M_in [_] (sp_M_in (mv := 0) (my := mc) (h := h) (by omega)) c_M_76 d_M_slideEdge_22 rfl rfl (by decide) (Nat.le_of_ble_eq_true rfl) ⟨rfl, rfl⟩ rfl ?_
      rw [hi]
      refine ev_if_eq 32 d_M_slideEdge_25 (by decide) (fun q2 => ?_) (fun q2 => ?_)
      · exact absurd q2 (by decide)
      · refine ev_iload_n 1 d_M_slideEdge_28 rfl rfl ?_
        refine ev_goto 33 d_M_slideEdge_29 (by decide) ?_
        refine ev_istore d_M_slideEdge_33 (Nat.le_of_ble_eq_true rfl) rfl ?_
        exact k2
  | false =>
    have e1 : ouM mp o h = h := by unfold ouM; rw [hi]; rfl
    have e2 : coM mp o h = o h := by unfold coM; rw [hi]; rfl
    rw [e1, e2] at k2
    refine ev_if_eq 18 d_M_slideEdge_11 (by decide) (fun q1 => ?_) (fun q1 => ?_)
    · refine ev_iload_n 1 d_M_slideEdge_18 rfl rfl ?_
      refine ev_istore_n 3 d_M_slideEdge_19 rfl (Nat.le_of_ble_eq_true rfl) rfl ?_
      refine ev_aload_n 0 d_M_slideEdge_20 rfl rfl ?_
      refine ev_iload_n 1 d_M_slideEdge_21 rfl rfl ?_
      refine ev_callV M_M_in [_] (sp_M_in (mv := 0) (my := mc) (h := h) (by omega)) c_M_76 d_M_slideEdge_22 rfl rfl (by decide) (Nat.le_of_ble_eq_true rfl) ⟨rfl, rfl⟩ rfl ?_
      rw [hi]
      refine ev_if_eq 32 d_M_slideEdge_25 (by decide) (fun q2 => ?_) (fun q2 => ?_)
      · refine ev_iload_n 2 d_M_slideEdge_32 rfl rfl ?_
        refine ev_istore d_M_slideEdge_33 (Nat.le_of_ble_eq_true rfl) rfl ?_
        exact k2
      · exact absurd rfl q2
    · exact absurd rfl q1
end Md
