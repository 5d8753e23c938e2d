def opM (h : Nat) : Nat := if h % 4 < 2 then h + 2 else h - 2
theorem opM_lt {h n : Nat} (hh : h < 4 * n) : opM h < 4 * n := by unfold opM; split <;> omega
def lvM (o : Nat → Nat) (h : Nat) (b : Bool) : Bool := decide (h % 2 = (if b = true then 1 else 0)) && decide (o h % 2 = (if b = true then 1 else 0))
def beM (me mp : Nat → Int32) (o : Nat → Nat) (h : Nat) (b : Bool) : Int32 := me (opM (if inM mp h = b then o h else h))
def upM (o : Nat → Nat) (y a : Nat) : Bool := (decide (fM o a / 4 = y) && decide (fM o (fM o a) = a)) && ((lvM o a true && lvM o (fM o a) false) || (lvM o a false && lvM o (fM o a) true))
def mxM (a b : Nat) : Nat := if b < a then a else b
def miM (a b : Nat) : Nat := if b < a then b else a
def pkM (b1 b2 : Bool) (f : Nat → Int32) (n : Nat) (e y e1 e2 f1 f2 : Int32) : Nat → Int32 := match b1, b2 with
  | true, true => ptE (ptE f n f1 e f2 e1) (n + 1) y e2 f1 e1
  | true, false => ptE (ptE f n y e1 f1 e) (n + 1) f1 e1 f2 e2
  | false, true => ptE (ptE f n y e f1 e1) (n + 1) f1 e2 f2 e1
  | false, false => ptE (ptE f n f1 e1 f2 e) (n + 1) y e1 f1 e2
def pmF (me mp : Nat → Int32) (n : Nat) (e y : Int32) : Nat → Int32 := inA (inA me mp n (frI me n 1) e) mp n (frI me n 3) y
section Md
variable {X : Nat → zE} {me mp : Nat → Int32} {mc md mo : Nat} {mw : Nat → Int32} {ml mv my : Nat} {mt : Nat → Int32} {ms mq mh : Nat → Int64} {ma : Nat → Int32} {mz : Nat} {mk mn : Nat → Int32} {mr : Nat → Int64} {mx : Nat → Int32}
theorem sp_M_untwist_no {x : Int32} (hn : mc ≤ 8) (h : ¬ (¬ x < 0 ∧ x < nI mc)) : Sp M_M_untwist [.ref 25, .int x] (kM X me mp mc md mo mw ml mv my mt ms mq mh ma mz mk mn mr mx) (some (.int (zb false))) (kM X me mp mc md mo mw ml mv my mt ms mq mh ma mz mk mn mr mx) := by
  refine Sp.of (by decide) (Nat.le_of_ble_eq_true rfl) ?_
  refine ev_aload_n 0 d_M_untwist_0 rfl rfl ?_
  refine ev_iload_n 1 d_M_untwist_1 rfl rfl ?_
  refine ev_callV M_M_isCrossing [_] (sp_M_isCrossing x) c_M_168 d_M_untwist_2 rfl rfl (by decide) (Nat.le_of_ble_eq_true rfl) ⟨rfl, rfl⟩ rfl ?_
  rw [decide_eq_false h]
  refine ev_if_ne 10 d_M_untwist_5 (by decide) (fun q => ?_) (fun q => ?_)
  · exact absurd rfl q
  · refine ev_iconst (v := 0) d_M_untwist_8 (by decide) ?_
    exact ev_iret d_M_untwist_9 rfl zr0 (Nat.le_of_ble_eq_true rfl) (Nat.le_of_ble_eq_true rfl)
theorem lp_M_untwist {x : Nat} (hx : x < mc) (hn : mc ≤ 8) {r : Option Value} {wf : zW} (kn : fiF (uwB me x) 0 4 = none → Ev M_M_untwist none r wf 138 [(0, .ref 25), (1, .int (nI x)), (2, .int (nI 4))] [] (kM X me mp mc md mo mw ml mv my mt ms mq mh ma mz mk mn mr mx) 0 0) (ky : ∀ k, fiF (uwB me x) 0 4 = some k → Ev M_M_untwist none r wf 44 [(0, .ref 25), (1, .int (nI x)), (2, .int (nI k))] [] (kM X me mp mc md mo mw ml mv my mt ms mq mh ma mz mk mn mr mx) 0 0) : ∀ j k, k + j = 4 → fiF (uwB me x) 0 4 = fiF (uwB me x) k j → Ev M_M_untwist none r wf 12 [(0, .ref 25), (1, .int (nI x)), (2, .int (nI k))] [] (kM X me mp mc md mo mw ml mv my mt ms mq mh ma mz mk mn mr mx) 0 0 := by
  intro j
  induction j with
  | zero =>
    intro k hk hf
    refine ev_iload_n 2 d_M_untwist_12 rfl rfl ?_
    refine ev_iconst (v := 4) d_M_untwist_13 (by decide) ?_
    refine ev_icmp_ge 138 d_M_untwist_14 (by decide) (fun h => ?_) (fun h => ?_)
    · rw [show k = 4 by omega]
      exact kn (by rw [hf, fiF])
    · exact absurd (nI_le (a := 4) (b := k) (by omega) (by omega)) h
  | succ j ih =>
    intro k hk hf
    refine ev_iload_n 2 d_M_untwist_12 rfl rfl ?_
    refine ev_iconst (v := 4) d_M_untwist_13 (by decide) ?_
    refine ev_icmp_ge 138 d_M_untwist_14 (by decide) (fun h => ?_) (fun h => ?_)
    · exact absurd h (nI_ge (b := 4) (by omega) (by omega))
    · refine ev_aload_n 0 d_M_untwist_17 rfl rfl ?_
      refine ev_get f_M_7 d_M_untwist_18 rfl rfl ?_
      refine ev_iconst (v := 4) d_M_untwist_21 (by decide) ?_
      refine ev_iload_n 1 d_M_untwist_22 rfl rfl ?_
      refine ev_imul d_M_untwist_23 ?_
      rw [z_m4]
      refine ev_iload_n 2 d_M_untwist_24 rfl rfl ?_
      refine ev_iadd d_M_untwist_25 ?_
      rw [nI_add]
      refine ev_iald d_M_untwist_26 rfl (vp_in_nI (by omega) (by omega)) ?_
      rw [nI_clamp (by omega)]
      refine ev_aload_n 0 d_M_untwist_27 rfl rfl ?_
      refine ev_get f_M_7 d_M_untwist_28 rfl rfl ?_
      refine ev_iconst (v := 4) d_M_untwist_31 (by decide) ?_
      refine ev_iload_n 1 d_M_untwist_32 rfl rfl ?_
      refine ev_imul d_M_untwist_33 ?_
      rw [z_m4]
      refine ev_iload_n 2 d_M_untwist_34 rfl rfl ?_
      refine ev_iconst (v := 1) d_M_untwist_35 (by decide) ?_
      refine ev_iadd d_M_untwist_36 ?_
      rw [nI_1]
      refine ev_iconst (v := 4) d_M_untwist_37 (by decide) ?_
      refine ev_irem d_M_untwist_38 (by decide) ?_
      rw [z_rem4 (by omega)]
      refine ev_iadd d_M_untwist_39 ?_
      rw [nI_add]
      refine ev_iald d_M_untwist_40 rfl (vp_in_nI (by omega) (by omega)) ?_
      rw [nI_clamp (by omega)]
      refine ev_icmp_ne 132 d_M_untwist_41 (by decide) (fun q1 => ?_) (fun q1 => ?_)
      · refine ev_iinc (v := _ + 1) d_M_untwist_132 rfl rfl (Nat.le_of_ble_eq_true rfl) rfl ?_
        rw [nI_1]
        refine ev_goto 12 d_M_untwist_135 (by decide) ?_
        exact ih (k + 1) (by omega) (by rw [hf, fiF, if_neg (by unfold uwB; rw [decide_eq_false q1]; decide)])
      · exact ky k (by rw [hf, fiF, if_pos (by unfold uwB; rw [decide_eq_true q1])])
theorem ev_M_untwist {x : Nat} (hx : x < mc) (hn : mc ≤ 8) {r : Option Value} {wf : zW} (kn : fiF (uwB me x) 0 4 = none → Ev M_M_untwist none r wf 138 [(0, .ref 25), (1, .int (nI x)), (2, .int (nI 4))] [] (kM X me mp mc md mo mw ml mv my mt ms mq mh ma mz mk mn mr mx) 0 0) (ky : ∀ k, fiF (uwB me x) 0 4 = some k → Ev M_M_untwist none r wf 44 [(0, .ref 25), (1, .int (nI x)), (2, .int (nI k))] [] (kM X me mp mc md mo mw ml mv my mt ms mq mh ma mz mk mn mr mx) 0 0) : Ev M_M_untwist none r wf 0 (lv_args 0 [.ref 25, .int (nI x)]) [] (kM X me mp mc md mo mw ml mv my mt ms mq mh ma mz mk mn mr mx) 0 0 := by
  refine ev_aload_n 0 d_M_untwist_0 rfl rfl ?_
  refine ev_iload_n 1 d_M_untwist_1 rfl rfl ?_
  refine ev_callV M_M_isCrossing [_] (sp_M_isCrossing (nI x)) c_M_168 d_M_untwist_2 rfl rfl (by decide) (Nat.le_of_ble_eq_true rfl) ⟨rfl, rfl⟩ rfl ?_
  rw [decide_eq_true ⟨nI_pos (by omega), nI_lt hx (by omega)⟩]
  refine ev_if_ne 10 d_M_untwist_5 (by decide) (fun q => ?_) (fun q => ?_)
  · refine ev_iconst (v := 0) d_M_untwist_10 (by decide) ?_
    refine ev_istore_n 2 d_M_untwist_11 rfl (Nat.le_of_ble_eq_true rfl) rfl ?_
    exact lp_M_untwist hx hn kn ky 4 0 (by omega) rfl
  · exact absurd q (by decide)
theorem sp_M_untwist_none {x : Nat} (hx : x < mc) (hn : mc ≤ 8) (hf : fiF (uwB me x) 0 4 = none) : Sp M_M_untwist [.ref 25, .int (nI x)] (kM X me mp mc md mo mw ml mv my mt ms mq mh ma mz mk mn mr mx) (some (.int (zb false))) (kM X me mp mc md mo mw ml mv my mt ms mq mh ma mz mk mn mr mx) := by
  refine Sp.of (by decide) (Nat.le_of_ble_eq_true rfl) (ev_M_untwist hx hn (fun _ => ?_) (fun k hk => by rw [hf] at hk; cases hk))
  refine ev_iconst (v := 0) d_M_untwist_138 (by decide) ?_
  exact ev_iret d_M_untwist_139 rfl zr0 (Nat.le_of_ble_eq_true rfl) (Nat.le_of_ble_eq_true rfl)
theorem sp_M_untwist {x k : Nat} (hx : x < mc + 1) (hn : mc < 8) (hf : fiF (uwB me x) 0 4 = some k) : Sp M_M_untwist [.ref 25, .int (nI x)] (kM X me mp (mc + 1) md mo mw ml mv my mt ms mq mh ma mz mk mn mr mx) (some (.int (zb true))) (kM X ((joM mc (tP mp x) (uwP me mp x k) (uwQ me mp x k) (tE me x, mo)).1) (tP mp x) mc md ((joM mc (tP mp x) (uwP me mp x k) (uwQ me mp x k) (tE me x, mo)).2) mw ml mv my mt ms mq mh ma mz mk mn mr mx) := by
  refine Sp.of (by decide) (Nat.le_of_ble_eq_true rfl) (ev_M_untwist (mc := mc + 1) hx (by omega) (fun h => by rw [hf] at h; cases h) (fun k' hk => ?_))
  rw [hf] at hk
  cases hk
  have hk4 := (fiF_lt _ _ _ hf).2.1
  have k7 : Ev M_M_untwist none (some (.int (zb true))) (kM X ((joM mc (tP mp x) (uwP me mp x k) (uwQ me mp x k) (tE me x, mo)).1) (tP mp x) mc md ((joM mc (tP mp x) (uwP me mp x k) (uwQ me mp x k) (tE me x, mo)).2) mw ml mv my mt ms mq mh ma mz mk mn mr mx) 115 [(0, .ref 25), (1, .int (nI x)), (2, .int (nI k)), (3, .int (nI (4 * x + (k + 2) % 4))), (4, .int (nI (4 * x + (k + 3) % 4))), (5, .int (uwP me mp x k))] [.int (uwQ me mp x k)] (kM X me mp (mc + 1) md mo mw ml mv my mt ms mq mh ma mz mk mn mr mx) 0 0 := by
    refine ev_istore d_M_untwist_115 (Nat.le_of_ble_eq_true rfl) rfl ?_
    refine ev_aload_n 0 d_M_untwist_117 rfl rfl ?_
    refine ev_iload_n 1 d_M_untwist_118 rfl rfl ?_
    refine ev_callV M_M_takeOut [_] (sp_M_takeOut (x := x) (by omega)) c_M_171 d_M_untwist_119 rfl rfl (by decide) (Nat.le_of_ble_eq_true rfl) ⟨rfl, rfl⟩ rfl ?_
    refine ev_aload_n 0 d_M_untwist_122 rfl rfl ?_
    refine ev_iload d_M_untwist_123 rfl ?_
    refine ev_iload d_M_untwist_125 rfl ?_
    refine ev_callV M_M_join [_, _] (sp_M_join (by omega) _ _) c_M_174 d_M_untwist_127 rfl rfl (by decide) (Nat.le_of_ble_eq_true rfl) ⟨rfl, rfl⟩ rfl ?_
    refine ev_iconst (v := 1) d_M_untwist_130 (by decide) ?_
    exact ev_iret d_M_untwist_131 rfl zr1 (Nat.le_of_ble_eq_true rfl) (Nat.le_of_ble_eq_true rfl)
  have k6 : Ev M_M_untwist none (some (.int (zb true))) (kM X ((joM mc (tP mp x) (uwP me mp x k) (uwQ me mp x k) (tE me x, mo)).1) (tP mp x) mc md ((joM mc (tP mp x) (uwP me mp x k) (uwQ me mp x k) (tE me x, mo)).2) mw ml mv my mt ms mq mh ma mz mk mn mr mx) 89 [(0, .ref 25), (1, .int (nI x)), (2, .int (nI k)), (3, .int (nI (4 * x + (k + 2) % 4))), (4, .int (nI (4 * x + (k + 3) % 4)))] [.int (uwP me mp x k)] (kM X me mp (mc + 1) md mo mw ml mv my mt ms mq mh ma mz mk mn mr mx) 0 0 := by
    refine ev_istore d_M_untwist_89 (Nat.le_of_ble_eq_true rfl) rfl ?_
    refine ev_aload_n 0 d_M_untwist_91 rfl rfl ?_
    refine ev_iload_n 3 d_M_untwist_92 rfl rfl ?_
    refine ev_callV M_M_in [_] (sp_M_in (mc := mc + 1) (h := 4 * x + (k + 2) % 4) (by omega)) c_M_76 d_M_untwist_93 rfl rfl (by decide) (Nat.le_of_ble_eq_true rfl) ⟨rfl, rfl⟩ rfl ?_
    refine ev_if_eq 109 d_M_untwist_96 (by decide) (fun h2 => ?_) (fun h2 => ?_)
    · have e1 : uwQ me mp x k = me (4 * x + (k + 2) % 4) := by unfold uwQ; rw [(zb_0 _).mp h2]; rfl
      rw [e1] at k7 ⊢
      refine ev_aload_n 0 d_M_untwist_109 rfl rfl ?_
      refine ev_get f_M_7 d_M_untwist_110 rfl rfl ?_
      refine ev_iload_n 3 d_M_untwist_113 rfl rfl ?_
      refine ev_iald d_M_untwist_114 rfl (vp_in_nI (by omega) (by omega)) ?_
      rw [nI_clamp (by omega)]
      exact k7
    · have e1 : uwQ me mp x k = me (4 * x + (k + 3) % 4) := by unfold uwQ; rw [(zb_n0 _).mp h2]; rfl
      rw [e1] at k7 ⊢
      refine ev_aload_n 0 d_M_untwist_99 rfl rfl ?_
      refine ev_get f_M_7 d_M_untwist_100 rfl rfl ?_
      refine ev_iload d_M_untwist_103 rfl ?_
      refine ev_iald d_M_untwist_105 rfl (vp_in_nI (by omega) (by omega)) ?_
      rw [nI_clamp (by omega)]
      refine ev_goto 115 d_M_untwist_106 (by decide) ?_
      exact k7
  refine ev_iconst (v := 4) d_M_untwist_44 (by decide) ?_
  refine ev_iload_n 1 d_M_untwist_45 rfl rfl ?_
  refine ev_imul d_M_untwist_46 ?_
  rw [z_m4]
  refine ev_iload_n 2 d_M_untwist_47 rfl rfl ?_
  refine ev_iconst (v := 2) d_M_untwist_48 (by decide) ?_
  refine ev_iadd d_M_untwist_49 ?_
  rw [z_p2]
  refine ev_iconst (v := 4) d_M_untwist_50 (by decide) ?_
  refine ev_irem d_M_untwist_51 (by decide) ?_
  rw [z_rem4 (by omega)]
  refine ev_iadd d_M_untwist_52 ?_
  rw [nI_add]
  refine ev_istore_n 3 d_M_untwist_53 rfl (Nat.le_of_ble_eq_true rfl) rfl ?_
  refine ev_iconst (v := 4) d_M_untwist_54 (by decide) ?_
  refine ev_iload_n 1 d_M_untwist_55 rfl rfl ?_
  refine ev_imul d_M_untwist_56 ?_
  rw [z_m4]
  refine ev_iload_n 2 d_M_untwist_57 rfl rfl ?_
  refine ev_iconst (v := 3) d_M_untwist_58 (by decide) ?_
  refine ev_iadd d_M_untwist_59 ?_
  rw [z_p3]
  refine ev_iconst (v := 4) d_M_untwist_60 (by decide) ?_
  refine ev_irem d_M_untwist_61 (by decide) ?_
  rw [z_rem4 (by omega)]
  refine ev_iadd d_M_untwist_62 ?_
  rw [nI_add]
  refine ev_istore d_M_untwist_63 (Nat.le_of_ble_eq_true rfl) rfl ?_
  refine ev_aload_n 0 d_M_untwist_65 rfl rfl ?_
  refine ev_iload_n 3 d_M_untwist_66 rfl rfl ?_
  refine ev_callV M_M_in [_] (sp_M_in (mc := mc + 1) (h := 4 * x + (k + 2) % 4) (by omega)) c_M_76 d_M_untwist_67 rfl rfl (by decide) (Nat.le_of_ble_eq_true rfl) ⟨rfl, rfl⟩ rfl ?_
  refine ev_if_eq 82 d_M_untwist_70 (by decide) (fun h2 => ?_) (fun h2 => ?_)
  · have e1 : uwP me mp x k = me (4 * x + (k + 3) % 4) := by unfold uwP; rw [(zb_0 _).mp h2]; rfl
    rw [e1] at k6 ⊢
    refine ev_aload_n 0 d_M_untwist_82 rfl rfl ?_
    refine ev_get f_M_7 d_M_untwist_83 rfl rfl ?_
    refine ev_iload d_M_untwist_86 rfl ?_
    refine ev_iald d_M_untwist_88 rfl (vp_in_nI (by omega) (by omega)) ?_
    rw [nI_clamp (by omega)]
    exact k6
  · have e1 : uwP me mp x k = me (4 * x + (k + 2) % 4) := by unfold uwP; rw [(zb_n0 _).mp h2]; rfl
    rw [e1] at k6 ⊢
    refine ev_aload_n 0 d_M_untwist_73 rfl rfl ?_
    refine ev_get f_M_7 d_M_untwist_74 rfl rfl ?_
    refine ev_iload_n 3 d_M_untwist_77 rfl rfl ?_
    refine ev_iald d_M_untwist_78 rfl (vp_in_nI (by omega) (by omega)) ?_
    rw [nI_clamp (by omega)]
    refine ev_goto 89 d_M_untwist_79 (by decide) ?_
    exact k6
theorem sp_M_opposite (w : zW) {h : Nat} (hh : h < 64) : Sp M_M_opposite [.int (nI h)] w (some (.int (nI (opM h)))) w := by
  refine Sp.of (by decide) (Nat.le_of_ble_eq_true rfl) ?_
  refine ev_iload_n 0 d_M_opposite_0 rfl rfl ?_
  refine ev_iconst (v := 4) d_M_opposite_1 (by decide) ?_
  refine ev_irem d_M_opposite_2 (by decide) ?_
  rw [z_rem4 (by omega)]
  refine ev_iconst (v := 2) d_M_opposite_3 (by decide) ?_
  refine ev_icmp_ge 13 d_M_opposite_4 (by decide) (fun q => ?_) (fun q => ?_)
  · have q2 : ¬ h % 4 < 2 := fun w => absurd q (nI_ge (b := 2) w (by omega))
    have e1 : opM h = h - 2 := by unfold opM; rw [if_neg q2]
    rw [e1]
    refine ev_iload_n 0 d_M_opposite_13 rfl rfl ?_
    refine ev_iconst (v := 2) d_M_opposite_14 (by decide) ?_
    refine ev_isub d_M_opposite_15 ?_
    rw [show nI h - 2 = nI (h - 2) from pk_sub (b := 2) (by omega)]
    exact ev_iret d_M_opposite_16 rfl rfl (Nat.le_of_ble_eq_true rfl) (Nat.le_of_ble_eq_true rfl)
  · have q2 : h % 4 < 2 := Nat.not_le.mp (fun w => q (nI_le (a := 2) w (by omega)))
    have e1 : opM h = h + 2 := by unfold opM; rw [if_pos q2]
    rw [e1]
    refine ev_iload_n 0 d_M_opposite_7 rfl rfl ?_
    refine ev_iconst (v := 2) d_M_opposite_8 (by decide) ?_
    refine ev_iadd d_M_opposite_9 ?_
    rw [z_p2]
    refine ev_goto 16 d_M_opposite_10 (by decide) ?_
    exact ev_iret d_M_opposite_16 rfl rfl (Nat.le_of_ble_eq_true rfl) (Nat.le_of_ble_eq_true rfl)
theorem sp_M_level (hv : mv + 4 * my ≤ 64) {o : Nat → Nat} (hw : win me mv my o) {h : Nat} (h1 : mv ≤ h) (h2 : h < mv + 4 * my) (b : Bool) : Sp M_M_level [.ref 25, .int (nI h), .int (zb b)] (kM X me mp mc md mo mw ml mv my mt ms mq mh ma mz mk mn mr mx) (some (.int (zb (lvM o h b)))) (kM X me mp mc md mo mw ml mv my mt ms mq mh ma mz mk mn mr mx) := by
  refine Sp.of (by decide) (Nat.le_of_ble_eq_true rfl) ?_
  obtain ⟨a1, a2, a3⟩ := hw h h1 h2
  have fin : ∀ z : Nat, z = (if b = true then 1 else 0) → Ev M_M_level none (some (.int (zb (lvM o h b)))) (kM X me mp mc md mo mw ml mv my mt ms mq mh ma mz mk mn mr mx) 15 [(0, .ref 25), (1, .int (nI h)), (2, .int (zb b)), (3, .int (nI (o h)))] [.int (nI z)] (kM X me mp mc md mo mw ml mv my mt ms mq mh ma mz mk mn mr mx) 0 0 := by
    intro z hz
    have hz2 : z < 2 := by rw [hz]; split <;> omega
    unfold lvM
    rw [← hz]
    refine ev_istore d_M_level_15 (Nat.le_of_ble_eq_true rfl) rfl ?_
    refine ev_iload_n 1 d_M_level_17 rfl rfl ?_
    refine ev_iconst (v := 2) d_M_level_18 (by decide) ?_
    refine ev_irem d_M_level_19 (by decide) ?_
    rw [z_rem2 (by omega)]
    refine ev_iload d_M_level_20 rfl ?_
    refine ev_icmp_ne 37 d_M_level_22 (by decide) (fun q1 => ?_) (fun q1 => ?_)
    · rw [decide_eq_false (fun w => q1 (by rw [w])), Bool.false_and]
      refine ev_iconst (v := 0) d_M_level_37 (by decide) ?_
      exact ev_iret d_M_level_38 rfl zr0 (Nat.le_of_ble_eq_true rfl) (Nat.le_of_ble_eq_true rfl)
    · rw [decide_eq_true ((nI_eq (by omega) (by omega)).mp q1), Bool.true_and]
      refine ev_iload_n 3 d_M_level_25 rfl rfl ?_
      refine ev_iconst (v := 2) d_M_level_26 (by decide) ?_
      refine ev_irem d_M_level_27 (by decide) ?_
      rw [z_rem2 (by omega)]
      refine ev_iload d_M_level_28 rfl ?_
      refine ev_icmp_ne 37 d_M_level_30 (by decide) (fun q2 => ?_) (fun q2 => ?_)
      · rw [decide_eq_false (fun w => q2 (by rw [w]))]
        refine ev_iconst (v := 0) d_M_level_37 (by decide) ?_
        exact ev_iret d_M_level_38 rfl zr0 (Nat.le_of_ble_eq_true rfl) (Nat.le_of_ble_eq_true rfl)
      · rw [decide_eq_true ((nI_eq (by omega) (by omega)).mp q2)]
        refine ev_iconst (v := 1) d_M_level_33 (by decide) ?_
        refine ev_goto 38 d_M_level_34 (by decide) ?_
        exact ev_iret d_M_level_38 rfl zr1 (Nat.le_of_ble_eq_true rfl) (Nat.le_of_ble_eq_true rfl)
  refine ev_aload_n 0 d_M_level_0 rfl rfl ?_
  refine ev_iload_n 1 d_M_level_1 rfl rfl ?_
  refine ev_callV M_M_other [_] (sp_M_other hv (h := h) (by omega)) c_M_72 d_M_level_2 rfl rfl (by decide) (Nat.le_of_ble_eq_true rfl) ⟨rfl, rfl⟩ rfl ?_
  rw [a1]
  refine ev_istore_n 3 d_M_level_5 rfl (Nat.le_of_ble_eq_true rfl) rfl ?_
  refine ev_iload_n 2 d_M_level_6 rfl rfl ?_
  refine ev_if_eq 14 d_M_level_7 (by decide) (fun q => ?_) (fun q => ?_)
  · refine ev_iconst (v := 0) d_M_level_14 (by decide) ?_
    exact fin 0 (by rw [(zb_0 _).mp q]; rfl)
  · refine ev_iconst (v := 1) d_M_level_10 (by decide) ?_
    refine ev_goto 15 d_M_level_11 (by decide) ?_
    exact fin 1 (by rw [(zb_n0 _).mp q]; rfl)
theorem sp_M_beyond (hv : mv + 4 * my ≤ 64) (h4 : mv % 4 = 0) {o : Nat → Nat} (hw : win me mv my o) {h : Nat} (h1 : mv ≤ h) (h2 : h < mv + 4 * my) (b : Bool) : Sp M_M_beyond [.ref 25, .int (nI h), .int (zb b)] (kM X me mp mc md mo mw ml mv my mt ms mq mh ma mz mk mn mr mx) (some (.int (beM me mp o h b))) (kM X me mp mc md mo mw ml mv my mt ms mq mh ma mz mk mn mr mx) := by
  refine Sp.of (by decide) (Nat.le_of_ble_eq_true rfl) ?_
  obtain ⟨a1, a2, a3⟩ := hw h h1 h2
  have fin : ∀ z : Nat, z = (if inM mp h = b then o h else h) → Ev M_M_beyond none (some (.int (beM me mp o h b))) (kM X me mp mc md mo mw ml mv my mt ms mq mh ma mz mk mn mr mx) 20 [(0, .ref 25), (1, .int (nI h)), (2, .int (zb b)), (3, .int (nI (o h)))] [.int (nI z)] (kM X me mp mc md mo mw ml mv my mt ms mq mh ma mz mk mn mr mx) 0 0 := by
    intro z hz
    have hz2 : z < 64 := by rw [hz]; split <;> omega
    have hz3 : opM z < 64 := opM_lt (n := 16) (by omega)
    unfold beM
    rw [← hz]
    refine ev_istore d_M_beyond_20 (Nat.le_of_ble_eq_true rfl) rfl ?_
    refine ev_aload_n 0 d_M_beyond_22 rfl rfl ?_
    refine ev_get f_M_7 d_M_beyond_23 rfl rfl ?_
    refine ev_iload d_M_beyond_26 rfl ?_
    refine ev_callS M_M_opposite [_] (sp_M_opposite _ hz2) c_M_177 d_M_beyond_28 rfl (by decide) (Nat.le_of_ble_eq_true rfl) ⟨rfl, rfl⟩ rfl ?_
    refine ev_iald d_M_beyond_31 rfl (vp_in_nI (by omega) (by omega)) ?_
    rw [nI_clamp (by omega)]
    exact ev_iret d_M_beyond_32 rfl rfl (Nat.le_of_ble_eq_true rfl) (Nat.le_of_ble_eq_true rfl)
  refine ev_aload_n 0 d_M_beyond_0 rfl rfl ?_
  refine ev_iload_n 1 d_M_beyond_1 rfl rfl ?_
  refine ev_callV M_M_other [_] (sp_M_other hv (h := h) (by omega)) c_M_72 d_M_beyond_2 rfl rfl (by decide) (Nat.le_of_ble_eq_true rfl) ⟨rfl, rfl⟩ rfl ?_
  rw [a1]
  refine ev_istore_n 3 d_M_beyond_5 rfl (Nat.le_of_ble_eq_true rfl) rfl ?_
  refine ev_aload_n 0 d_M_beyond_6 rfl rfl ?_
  refine ev_iload_n 1 d_M_beyond_7 rfl rfl ?_
  refine ev_callV M_M_in [_] (sp_M_in (h := h) (by omega)) c_M_76 d_M_beyond_8 rfl rfl (by decide) (Nat.le_of_ble_eq_true rfl) ⟨rfl, rfl⟩ rfl ?_
  refine ev_iload_n 2 d_M_beyond_11 rfl rfl ?_
  refine ev_icmp_ne 19 d_M_beyond_12 (by decide) (fun q => ?_) (fun q => ?_)
  · refine ev_iload_n 1 d_M_beyond_19 rfl rfl ?_
    exact fin h (by rw [if_neg (fun w => q (by rw [w]))])
  · refine ev_iload_n 3 d_M_beyond_15 rfl rfl ?_
    refine ev_goto 20 d_M_beyond_16 (by decide) ?_
    exact fin (o h) (by rw [if_pos ((zb_eq _ _).mp q)])
theorem sp_M_poke_no {e y : Int32} {b1 b2 : Bool} (hn : mc ≤ 8) (h : ¬ (mc ≤ 6 ∧ ¬ e = y ∧ ¬ eOM me mp e true 0 (4 * mc) = none ∧ ¬ eOM me mp y true 0 (4 * mc) = none)) : Sp M_M_poke [.ref 25, .int e, .int (zb b1), .int y, .int (zb b2)] (kM X me mp mc md mo mw ml mv my mt ms mq mh ma mz mk mn mr mx) (some (.int (zb false))) (kM X me mp mc md mo mw ml mv my mt ms mq mh ma mz mk mn mr mx) := by
  refine Sp.of (by decide) (Nat.le_of_ble_eq_true rfl) ?_
  have neg : ∀ z : Int32, ¬ oI (eOM me mp z true 0 (4 * mc)) < 0 → ¬ eOM me mp z true 0 (4 * mc) = none := by
    intro z hz w
    rw [w] at hz
    exact hz (by decide)
  refine ev_aload_n 0 d_M_poke_0 rfl rfl ?_
  refine ev_get f_M_66 d_M_poke_1 rfl rfl ?_
  refine ev_bipush (v := 6) d_M_poke_4 (by decide) ?_
  refine ev_icmp_gt 32 d_M_poke_6 (by decide) (fun h1 => ?_) (fun h1 => ?_)
  · refine ev_iconst (v := 0) d_M_poke_32 (by decide) ?_
    exact ev_iret d_M_poke_33 rfl zr0 (Nat.le_of_ble_eq_true rfl) (Nat.le_of_ble_eq_true rfl)
  · have h1' : mc ≤ 6 := Nat.not_lt.mp (fun z => h1 (nI_lt (a := 6) z (by omega)))
    refine ev_iload_n 1 d_M_poke_9 rfl rfl ?_
    refine ev_iload_n 3 d_M_poke_10 rfl rfl ?_
    refine ev_icmp_eq 32 d_M_poke_11 (by decide) (fun h2 => ?_) (fun h2 => ?_)
    · refine ev_iconst (v := 0) d_M_poke_32 (by decide) ?_
      exact ev_iret d_M_poke_33 rfl zr0 (Nat.le_of_ble_eq_true rfl) (Nat.le_of_ble_eq_true rfl)
    · refine ev_aload_n 0 d_M_poke_14 rfl rfl ?_
      refine ev_iload_n 1 d_M_poke_15 rfl rfl ?_
      refine ev_iconst (v := 1) d_M_poke_16 (by decide) ?_
      refine ev_callV M_M_endOf [_, _] (sp_M_endOf hn e true) c_M_154 d_M_poke_17 rfl rfl (by decide) (Nat.le_of_ble_eq_true rfl) ⟨rfl, rfl⟩ rfl ?_
      refine ev_if_lt 32 d_M_poke_20 (by decide) (fun h3 => ?_) (fun h3 => ?_)
      · refine ev_iconst (v := 0) d_M_poke_32 (by decide) ?_
        exact ev_iret d_M_poke_33 rfl zr0 (Nat.le_of_ble_eq_true rfl) (Nat.le_of_ble_eq_true rfl)
      · refine ev_aload_n 0 d_M_poke_23 rfl rfl ?_
        refine ev_iload_n 3 d_M_poke_24 rfl rfl ?_
        refine ev_iconst (v := 1) d_M_poke_25 (by decide) ?_
        refine ev_callV M_M_endOf [_, _] (sp_M_endOf hn y true) c_M_154 d_M_poke_26 rfl rfl (by decide) (Nat.le_of_ble_eq_true rfl) ⟨rfl, rfl⟩ rfl ?_
        refine ev_if_ge 34 d_M_poke_29 (by decide) (fun h4 => ?_) (fun h4 => ?_)
        · refine absurd ⟨h1', h2, neg e h3, neg y (fun w => ?_)⟩ h
          rw [Int32.le_iff_toInt_le] at h4
          rw [Int32.lt_iff_toInt_lt] at w
          omega
        · refine ev_iconst (v := 0) d_M_poke_32 (by decide) ?_
          exact ev_iret d_M_poke_33 rfl zr0 (Nat.le_of_ble_eq_true rfl) (Nat.le_of_ble_eq_true rfl)
theorem ev_M_poke {e y : Int32} {b1 b2 : Bool} {a b : Nat} (hn : mc ≤ 6) (h1 : ¬ e = y) (h2 : ¬ eOM me mp e true 0 (4 * mc) = none) (h3 : ¬ eOM me mp y true 0 (4 * mc) = none) (ha : eOM me mp e b1 0 (4 * mc) = some a) (hb : eOM me mp y b2 0 (4 * mc) = some b) {o : Nat → Nat} (hw : win me 0 mc o) (hr : ∀ h, 0 ≤ h → h < 0 + 4 * mc → rch (fM o) h 64 (fM o h)) {r : Option Value} {wf : zW} (kk : Ev M_M_poke none r wf 60 [(0, .ref 25), (1, .int e), (2, .int (zb b1)), (3, .int y), (4, .int (zb b2))] [.int (nI (faM o b)), .int (nI (faM o a))] (kM X me mp mc md mo mw ml (0) (mc) mt ms mq mh ma mz mk mn mr mx) 0 0) : Ev M_M_poke none r wf 0 (lv_args 0 [.ref 25, .int e, .int (zb b1), .int y, .int (zb b2)]) [] (kM X me mp mc md mo mw ml mv my mt ms mq mh ma mz mk mn mr mx) 0 0 := by
  have la := eOM_lt (N := 4 * mc) _ _ _ (by omega) ha
  have lb := eOM_lt (N := 4 * mc) _ _ _ (by omega) hb
  have pos : ∀ z : Int32, ¬ eOM me mp z true 0 (4 * mc) = none → ∃ x, x < 32 ∧ oI (eOM me mp z true 0 (4 * mc)) = nI x := by
    intro z hz
    cases hq : eOM me mp z true 0 (4 * mc) with
    | none => exact absurd hq hz
    | some x => exact ⟨x, by have := eOM_lt (N := 32) _ _ _ (by omega) hq; omega, rfl⟩
  obtain ⟨x1, x1l, e1⟩ := pos e h2
  obtain ⟨x2, x2l, e2⟩ := pos y h3
  refine ev_aload_n 0 d_M_poke_0 rfl rfl ?_
  refine ev_get f_M_66 d_M_poke_1 rfl rfl ?_
  refine ev_bipush (v := 6) d_M_poke_4 (by decide) ?_
  refine ev_icmp_gt 32 d_M_poke_6 (by decide) (fun q1 => ?_) (fun q1 => ?_)
  · exact absurd q1 (nI_nlt (a := 6) (b := mc) hn (by omega))
  · refine ev_iload_n 1 d_M_poke_9 rfl rfl ?_
    refine ev_iload_n 3 d_M_poke_10 rfl rfl ?_
    refine ev_icmp_eq 32 d_M_poke_11 (by decide) (fun q2 => ?_) (fun q2 => ?_)
    · exact absurd q2 h1
    · refine ev_aload_n 0 d_M_poke_14 rfl rfl ?_
      refine ev_iload_n 1 d_M_poke_15 rfl rfl ?_
      refine ev_iconst (v := 1) d_M_poke_16 (by decide) ?_
      refine ev_callV M_M_endOf [_, _] (sp_M_endOf (by omega) e true) c_M_154 d_M_poke_17 rfl rfl (by decide) (Nat.le_of_ble_eq_true rfl) ⟨rfl, rfl⟩ rfl ?_
      rw [e1]
      refine ev_if_lt 32 d_M_poke_20 (by decide) (fun q3 => ?_) (fun q3 => ?_)
      · exact absurd q3 (nI_pos (by omega))
      · refine ev_aload_n 0 d_M_poke_23 rfl rfl ?_
        refine ev_iload_n 3 d_M_poke_24 rfl rfl ?_
        refine ev_iconst (v := 1) d_M_poke_25 (by decide) ?_
        refine ev_callV M_M_endOf [_, _] (sp_M_endOf (by omega) y true) c_M_154 d_M_poke_26 rfl rfl (by decide) (Nat.le_of_ble_eq_true rfl) ⟨rfl, rfl⟩ rfl ?_
        rw [e2]
        refine ev_if_ge 34 d_M_poke_29 (by decide) (fun q4 => ?_) (fun q4 => ?_)
        · refine ev_aload_n 0 d_M_poke_34 rfl rfl ?_
          refine ev_iconst (v := 0) d_M_poke_35 (by decide) ?_
          refine ev_callV M_M_look [_] (sp_M_look false) c_M_92 d_M_poke_36 rfl rfl (by decide) (Nat.le_of_ble_eq_true rfl) ⟨rfl, rfl⟩ rfl ?_
          refine ev_aload_n 0 d_M_poke_39 rfl rfl ?_
          refine ev_aload_n 0 d_M_poke_40 rfl rfl ?_
          refine ev_iload_n 1 d_M_poke_41 rfl rfl ?_
          refine ev_iload_n 2 d_M_poke_42 rfl rfl ?_
          refine ev_callV M_M_endOf [_, _] (sp_M_endOf (mv := 0) (my := mc) (by omega) e b1) c_M_154 d_M_poke_43 rfl rfl (by decide) (Nat.le_of_ble_eq_true rfl) ⟨rfl, rfl⟩ rfl ?_
          rw [ha]
          refine ev_callV M_M_face [_] (sp_M_face (mv := 0) (my := mc) (by omega) (by decide) hw (h := a) (by omega) (by omega) (hr a (by omega) (by omega))) c_M_82 d_M_poke_46 rfl rfl (by decide) (Nat.le_of_ble_eq_true rfl) ⟨rfl, rfl⟩ rfl ?_
          refine ev_aload_n 0 d_M_poke_49 rfl rfl ?_
          refine ev_aload_n 0 d_M_poke_50 rfl rfl ?_
          refine ev_iload_n 3 d_M_poke_51 rfl rfl ?_
          refine ev_iload d_M_poke_52 rfl ?_
          refine ev_callV M_M_endOf [_, _] (sp_M_endOf (mv := 0) (my := mc) (by omega) y b2) c_M_154 d_M_poke_54 rfl rfl (by decide) (Nat.le_of_ble_eq_true rfl) ⟨rfl, rfl⟩ rfl ?_
          rw [hb]
          refine ev_callV M_M_face [_] (sp_M_face (mv := 0) (my := mc) (by omega) (by decide) hw (h := b) (by omega) (by omega) (hr b (by omega) (by omega))) c_M_82 d_M_poke_57 rfl rfl (by decide) (Nat.le_of_ble_eq_true rfl) ⟨rfl, rfl⟩ rfl ?_
          exact kk
        · exact absurd (nI_pos' (by omega)) q4
theorem sp_M_poke_face {e y : Int32} {b1 b2 : Bool} {a b : Nat} (hn : mc ≤ 6) (h1 : ¬ e = y) (h2 : ¬ eOM me mp e true 0 (4 * mc) = none) (h3 : ¬ eOM me mp y true 0 (4 * mc) = none) (ha : eOM me mp e b1 0 (4 * mc) = some a) (hb : eOM me mp y b2 0 (4 * mc) = some b) {o : Nat → Nat} (hw : win me 0 mc o) (hr : ∀ h, 0 ≤ h → h < 0 + 4 * mc → rch (fM o) h 64 (fM o h)) (hf : ¬ faM o a = faM o b) : Sp M_M_poke [.ref 25, .int e, .int (zb b1), .int y, .int (zb b2)] (kM X me mp mc md mo mw ml mv my mt ms mq mh ma mz mk mn mr mx) (some (.int (zb false))) (kM X me mp mc md mo mw ml (0) (mc) mt ms mq mh ma mz mk mn mr mx) := by
  have la := eOM_lt (N := 4 * mc) _ _ _ (by omega) ha
  have lb := eOM_lt (N := 4 * mc) _ _ _ (by omega) hb
  have fa := faM_le (o := o) (h := a)
  have fb := faM_le (o := o) (h := b)
  refine Sp.of (by decide) (Nat.le_of_ble_eq_true rfl) (ev_M_poke hn h1 h2 h3 ha hb hw hr ?_)
  refine ev_icmp_eq 65 d_M_poke_60 (by decide) (fun h => ?_) (fun h => ?_)
  · exact absurd ((nI_eq (by omega) (by omega)).mp h) hf
  · refine ev_iconst (v := 0) d_M_poke_63 (by decide) ?_
    exact ev_iret d_M_poke_64 rfl zr0 (Nat.le_of_ble_eq_true rfl) (Nat.le_of_ble_eq_true rfl)
theorem sp_M_poke {e y : Int32} {b1 b2 : Bool} {a b : Nat} (hn : mc ≤ 6) (h1 : ¬ e = y) (h2 : ¬ eOM me mp e true 0 (4 * mc) = none) (h3 : ¬ eOM me mp y true 0 (4 * mc) = none) (ha : eOM me mp e b1 0 (4 * mc) = some a) (hb : eOM me mp y b2 0 (4 * mc) = some b) {o : Nat → Nat} (hw : win me 0 mc o) (hr : ∀ h, 0 ≤ h → h < 0 + 4 * mc → rch (fM o) h 64 (fM o h)) (hf : faM o a = faM o b) : Sp M_M_poke [.ref 25, .int e, .int (zb b1), .int y, .int (zb b2)] (kM X me mp mc md mo mw ml mv my mt ms mq mh ma mz mk mn mr mx) (some (.int (zb true))) (kM X (pkM b1 b2 (pmF me mp mc e y) mc e y (frI me mc 0) (frI me mc 1) (frI me mc 2) (frI me mc 3)) (upd (upd mp mc (zb (pkB b1 b2))) (mc + 1) (zb (!(pkB b1 b2)))) (mc + 2) md mo mw ml (0) (mc) mt ms mq mh ma mz mk mn mr mx) := by
  refine Sp.of (by decide) (Nat.le_of_ble_eq_true rfl) (ev_M_poke hn h1 h2 h3 ha hb hw hr ?_)
  rw [hf]
  have fin : ∀ me' mp' : Nat → Int32, ∀ v5 v6 v7 v8 : Int32, Ev M_M_poke none (some (.int (zb true))) (kM X (me') (mp') (mc + 2) md mo mw ml (0) (mc) mt ms mq mh ma mz mk mn mr mx) 260 [(0, .ref 25), (1, .int e), (2, .int (zb b1)), (3, .int y), (4, .int (zb b2)), (5, .int v5), (6, .int v6), (7, .int v7), (8, .int v8), (9, .int (nI mc))] [] (kM X (me') (mp') mc md mo mw ml (0) (mc) mt ms mq mh ma mz mk mn mr mx) 0 0 := by
    intro me' mp' v5 v6 v7 v8
    refine ev_aload_n 0 d_M_poke_260 rfl rfl ?_
    refine ev_iload d_M_poke_261 rfl ?_
    refine ev_iconst (v := 2) d_M_poke_263 (by decide) ?_
    refine ev_iadd d_M_poke_264 ?_
    rw [z_p2]
    refine ev_put p_M_66 d_M_poke_265 rfl (fun _ _ => ⟨rfl, rfl⟩) (Nat.le_of_ble_eq_true rfl) ?_
    refine ev_iconst (v := 1) d_M_poke_268 (by decide) ?_
    exact ev_iret d_M_poke_269 rfl zr1 (Nat.le_of_ble_eq_true rfl) (Nat.le_of_ble_eq_true rfl)
  refine ev_icmp_eq 65 d_M_poke_60 (by decide) (fun h => ?_) (fun h => ?_)
  · refine ev_aload_n 0 d_M_poke_65 rfl rfl ?_
    refine ev_iconst (v := 0) d_M_poke_66 (by decide) ?_
    refine ev_callV M_M_free [_] (sp_M_free (mv := 0) (my := mc) (b := 0) (by omega) (by decide)) c_M_161 d_M_poke_67 rfl rfl (by decide) (Nat.le_of_ble_eq_true rfl) ⟨rfl, rfl⟩ rfl ?_
    refine ev_istore d_M_poke_70 (Nat.le_of_ble_eq_true rfl) rfl ?_
    refine ev_aload_n 0 d_M_poke_72 rfl rfl ?_
    refine ev_iconst (v := 1) d_M_poke_73 (by decide) ?_
    refine ev_callV M_M_free [_] (sp_M_free (mv := 0) (my := mc) (b := 1) (by omega) (by decide)) c_M_161 d_M_poke_74 rfl rfl (by decide) (Nat.le_of_ble_eq_true rfl) ⟨rfl, rfl⟩ rfl ?_
    refine ev_istore d_M_poke_77 (Nat.le_of_ble_eq_true rfl) rfl ?_
    refine ev_aload_n 0 d_M_poke_79 rfl rfl ?_
    refine ev_iconst (v := 2) d_M_poke_80 (by decide) ?_
    refine ev_callV M_M_free [_] (sp_M_free (mv := 0) (my := mc) (b := 2) (by omega) (by decide)) c_M_161 d_M_poke_81 rfl rfl (by decide) (Nat.le_of_ble_eq_true rfl) ⟨rfl, rfl⟩ rfl ?_
    refine ev_istore d_M_poke_84 (Nat.le_of_ble_eq_true rfl) rfl ?_
    refine ev_aload_n 0 d_M_poke_86 rfl rfl ?_
    refine ev_iconst (v := 3) d_M_poke_87 (by decide) ?_
    refine ev_callV M_M_free [_] (sp_M_free (mv := 0) (my := mc) (b := 3) (by omega) (by decide)) c_M_161 d_M_poke_88 rfl rfl (by decide) (Nat.le_of_ble_eq_true rfl) ⟨rfl, rfl⟩ rfl ?_
    refine ev_istore d_M_poke_91 (Nat.le_of_ble_eq_true rfl) rfl ?_
    refine ev_aload_n 0 d_M_poke_93 rfl rfl ?_
    refine ev_iload d_M_poke_94 rfl ?_
    refine ev_iload_n 1 d_M_poke_96 rfl rfl ?_
    refine ev_callV M_M_instead [_, _] (sp_M_instead (mv := 0) (my := mc) (by omega) _ _) c_M_158 d_M_poke_97 rfl rfl (by decide) (Nat.le_of_ble_eq_true rfl) ⟨rfl, rfl⟩ rfl ?_
    refine ev_aload_n 0 d_M_poke_100 rfl rfl ?_
    refine ev_iload d_M_poke_101 rfl ?_
    refine ev_iload_n 3 d_M_poke_103 rfl rfl ?_
    refine ev_callV M_M_instead [_, _] (sp_M_instead (mv := 0) (my := mc) (me := inA me mp mc (frI me mc 1) e) (by omega) _ _) c_M_158 d_M_poke_104 rfl rfl (by decide) (Nat.le_of_ble_eq_true rfl) ⟨rfl, rfl⟩ rfl ?_
    refine ev_aload_n 0 d_M_poke_107 rfl rfl ?_
    refine ev_get f_M_66 d_M_poke_108 rfl rfl ?_
    refine ev_istore d_M_poke_111 (Nat.le_of_ble_eq_true rfl) rfl ?_
    cases b1 with
    | true =>
      cases b2 with
      | true =>
        refine ev_iload_n 2 d_M_poke_113 rfl rfl ?_
        refine ev_if_eq 155 d_M_poke_114 (by decide) (fun q1 => ?_) (fun q1 => ?_)
        · exact absurd q1 (by decide)
        · refine ev_iload d_M_poke_117 rfl ?_
          refine ev_if_eq 155 d_M_poke_119 (by decide) (fun q2 => ?_) (fun q2 => ?_)
          · exact absurd q2 (by decide)
          · refine ev_aload_n 0 d_M_poke_122 rfl rfl ?_
            refine ev_iload d_M_poke_123 rfl ?_
            refine ev_iload d_M_poke_125 rfl ?_
            refine ev_iload_n 1 d_M_poke_127 rfl rfl ?_
            refine ev_iload d_M_poke_128 rfl ?_
            refine ev_iload d_M_poke_130 rfl ?_
            refine ev_iconst (v := 0) d_M_poke_132 (by decide) ?_
            refine ev_callV M_M_put [_, _, _, _, _, _] (sp_M_put (me := pmF me mp mc e y) (mv := 0) (my := mc) (x := mc) (by omega) _ _ _ _ false) c_M_59 d_M_poke_133 rfl rfl (by decide) (Nat.le_of_ble_eq_true rfl) ⟨rfl, rfl⟩ rfl ?_
            refine ev_aload_n 0 d_M_poke_136 rfl rfl ?_
            refine ev_iload d_M_poke_137 rfl ?_
            refine ev_iconst (v := 1) d_M_poke_139 (by decide) ?_
            refine ev_iadd d_M_poke_140 ?_
            rw [nI_1]
            refine ev_iload_n 3 d_M_poke_141 rfl rfl ?_
            refine ev_iload d_M_poke_142 rfl ?_
            refine ev_iload d_M_poke_144 rfl ?_
            refine ev_iload d_M_poke_146 rfl ?_
            refine ev_iconst (v := 1) d_M_poke_148 (by decide) ?_
            refine ev_callV M_M_put [_, _, _, _, _, _] (sp_M_put (mv := 0) (my := mc) (x := mc + 1) (by omega) _ _ _ _ true) c_M_59 d_M_poke_149 rfl rfl (by decide) (Nat.le_of_ble_eq_true rfl) ⟨rfl, rfl⟩ rfl ?_
            refine ev_goto 260 d_M_poke_152 (by decide) ?_
            exact fin _ _ _ _ _ _
      | false =>
        refine ev_iload_n 2 d_M_poke_113 rfl rfl ?_
        refine ev_if_eq 155 d_M_poke_114 (by decide) (fun q1 => ?_) (fun q1 => ?_)
        · exact absurd q1 (by decide)
        · refine ev_iload d_M_poke_117 rfl ?_
          refine ev_if_eq 155 d_M_poke_119 (by decide) (fun q2 => ?_) (fun q2 => ?_)
          · refine ev_iload_n 2 d_M_poke_155 rfl rfl ?_
            refine ev_if_eq 192 d_M_poke_156 (by decide) (fun q3 => ?_) (fun q3 => ?_)
            · exact absurd q3 (by decide)
            · refine ev_aload_n 0 d_M_poke_159 rfl rfl ?_
              refine ev_iload d_M_poke_160 rfl ?_
              refine ev_iload_n 3 d_M_poke_162 rfl rfl ?_
              refine ev_iload d_M_poke_163 rfl ?_
              refine ev_iload d_M_poke_165 rfl ?_
              refine ev_iload_n 1 d_M_poke_167 rfl rfl ?_
              refine ev_iconst (v := 1) d_M_poke_168 (by decide) ?_
              refine ev_callV M_M_put [_, _, _, _, _, _] (sp_M_put (me := pmF me mp mc e y) (mv := 0) (my := mc) (x := mc) (by omega) _ _ _ _ true) c_M_59 d_M_poke_169 rfl rfl (by decide) (Nat.le_of_ble_eq_true rfl) ⟨rfl, rfl⟩ rfl ?_
              refine ev_aload_n 0 d_M_poke_172 rfl rfl ?_
              refine ev_iload d_M_poke_173 rfl ?_
              refine ev_iconst (v := 1) d_M_poke_175 (by decide) ?_
              refine ev_iadd d_M_poke_176 ?_
              rw [nI_1]
              refine ev_iload d_M_poke_177 rfl ?_
              refine ev_iload d_M_poke_179 rfl ?_
              refine ev_iload d_M_poke_181 rfl ?_
              refine ev_iload d_M_poke_183 rfl ?_
              refine ev_iconst (v := 0) d_M_poke_185 (by decide) ?_
              refine ev_callV M_M_put [_, _, _, _, _, _] (sp_M_put (mv := 0) (my := mc) (x := mc + 1) (by omega) _ _ _ _ false) c_M_59 d_M_poke_186 rfl rfl (by decide) (Nat.le_of_ble_eq_true rfl) ⟨rfl, rfl⟩ rfl ?_
              refine ev_goto 260 d_M_poke_189 (by decide) ?_
              exact fin _ _ _ _ _ _
          · exact absurd rfl q2
    | false =>
      cases b2 with
      | true =>
        refine ev_iload_n 2 d_M_poke_113 rfl rfl ?_
        refine ev_if_eq 155 d_M_poke_114 (by decide) (fun q1 => ?_) (fun q1 => ?_)
        · refine ev_iload_n 2 d_M_poke_155 rfl rfl ?_
          refine ev_if_eq 192 d_M_poke_156 (by decide) (fun q3 => ?_) (fun q3 => ?_)
          · refine ev_iload d_M_poke_192 rfl ?_
            refine ev_if_eq 230 d_M_poke_194 (by decide) (fun q4 => ?_) (fun q4 => ?_)
            · exact absurd q4 (by decide)
            · refine ev_aload_n 0 d_M_poke_197 rfl rfl ?_
              refine ev_iload d_M_poke_198 rfl ?_
              refine ev_iload_n 3 d_M_poke_200 rfl rfl ?_
              refine ev_iload_n 1 d_M_poke_201 rfl rfl ?_
              refine ev_iload d_M_poke_202 rfl ?_
              refine ev_iload d_M_poke_204 rfl ?_
              refine ev_iconst (v := 0) d_M_poke_206 (by decide) ?_
              refine ev_callV M_M_put [_, _, _, _, _, _] (sp_M_put (me := pmF me mp mc e y) (mv := 0) (my := mc) (x := mc) (by omega) _ _ _ _ false) c_M_59 d_M_poke_207 rfl rfl (by decide) (Nat.le_of_ble_eq_true rfl) ⟨rfl, rfl⟩ rfl ?_
              refine ev_aload_n 0 d_M_poke_210 rfl rfl ?_
              refine ev_iload d_M_poke_211 rfl ?_
              refine ev_iconst (v := 1) d_M_poke_213 (by decide) ?_
              refine ev_iadd d_M_poke_214 ?_
              rw [nI_1]
              refine ev_iload d_M_poke_215 rfl ?_
              refine ev_iload d_M_poke_217 rfl ?_
              refine ev_iload d_M_poke_219 rfl ?_
              refine ev_iload d_M_poke_221 rfl ?_
              refine ev_iconst (v := 1) d_M_poke_223 (by decide) ?_
              refine ev_callV M_M_put [_, _, _, _, _, _] (sp_M_put (mv := 0) (my := mc) (x := mc + 1) (by omega) _ _ _ _ true) c_M_59 d_M_poke_224 rfl rfl (by decide) (Nat.le_of_ble_eq_true rfl) ⟨rfl, rfl⟩ rfl ?_
              refine ev_goto 260 d_M_poke_227 (by decide) ?_
              exact fin _ _ _ _ _ _
          · exact absurd rfl q3
        · exact absurd rfl q1
      | false =>
        refine ev_iload_n 2 d_M_poke_113 rfl rfl ?_
        refine ev_if_eq 155 d_M_poke_114 (by decide) (fun q1 => ?_) (fun q1 => ?_)
        · refine ev_iload_n 2 d_M_poke_155 rfl rfl ?_
          refine ev_if_eq 192 d_M_poke_156 (by decide) (fun q3 => ?_) (fun q3 => ?_)
          · refine ev_iload d_M_poke_192 rfl ?_
            refine ev_if_eq 230 d_M_poke_194 (by decide) (fun q4 => ?_) (fun q4 => ?_)
            · refine ev_aload_n 0 d_M_poke_230 rfl rfl ?_
              refine ev_iload d_M_poke_231 rfl ?_
              refine ev_iload d_M_poke_233 rfl ?_
              refine ev_iload d_M_poke_235 rfl ?_
              refine ev_iload d_M_poke_237 rfl ?_
              refine ev_iload_n 1 d_M_poke_239 rfl rfl ?_
              refine ev_iconst (v := 1) d_M_poke_240 (by decide) ?_
              refine ev_callV M_M_put [_, _, _, _, _, _] (sp_M_put (me := pmF me mp mc e y) (mv := 0) (my := mc) (x := mc) (by omega) _ _ _ _ true) c_M_59 d_M_poke_241 rfl rfl (by decide) (Nat.le_of_ble_eq_true rfl) ⟨rfl, rfl⟩ rfl ?_
              refine ev_aload_n 0 d_M_poke_244 rfl rfl ?_
              refine ev_iload d_M_poke_245 rfl ?_
              refine ev_iconst (v := 1) d_M_poke_247 (by decide) ?_
              refine ev_iadd d_M_poke_248 ?_
              rw [nI_1]
              refine ev_iload_n 3 d_M_poke_249 rfl rfl ?_
              refine ev_iload d_M_poke_250 rfl ?_
              refine ev_iload d_M_poke_252 rfl ?_
              refine ev_iload d_M_poke_254 rfl ?_
              refine ev_iconst (v := 0) d_M_poke_256 (by decide) ?_
              refine ev_callV M_M_put [_, _, _, _, _, _] (sp_M_put (mv := 0) (my := mc) (x := mc + 1) (by omega) _ _ _ _ false) c_M_59 d_M_poke_257 rfl rfl (by decide) (Nat.le_of_ble_eq_true rfl) ⟨rfl, rfl⟩ rfl ?_
              exact fin _ _ _ _ _ _
            · exact absurd rfl q4
          · exact absurd rfl q3
        · exact absurd rfl q1
  · exact absurd rfl h
end Md
