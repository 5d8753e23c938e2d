def tkS (h : Nat) (S : (Nat → Int32) × (Nat → Int32)) : (Nat → Int32) × (Nat → Int32) := (upd S.1 h (S.1 (32 + h)), upd S.2 (h / 4) (vp_nar .boolean (S.2 (8 + h / 4))))
def szI (x : Int32) : Int32 := if 0 ≤ x then x else -x
def wBeM (mw : Nat → Int32) (x : Int32) : Nat → Nat → Bool
  | _, 0 => true
  | i, k + 1 => if szI (mw i) < x then wBeM mw x (i + 1) k else false
def awM (mw : Nat → Int32) (i : Nat) : Nat := (szI (mw i)).toNatClampNeg
def wOM (mw : Nat → Int32) (ml : Nat) : Prop := ∀ i, i < ml → ∃ k, 1 ≤ k ∧ k ≤ 3 ∧ szI (mw i) = nI k
def wvM (mw : Nat → Int32) (nn i : Nat) (S : z3) : z3 :=
  (if 0 < mw i then ptE S.1 i (S.2.2 (awM mw i + 1)) (nI (nn + 2 + 2 * i)) (nI (nn + 1 + 2 * i)) (S.2.2 (awM mw i)) else ptE S.1 i (S.2.2 (awM mw i)) (S.2.2 (awM mw i + 1)) (nI (nn + 2 + 2 * i)) (nI (nn + 1 + 2 * i)),
   upd S.2.1 i (zb (decide (0 < mw i))),
   upd (upd S.2.2 (awM mw i) (nI (nn + 1 + 2 * i))) (awM mw i + 1) (nI (nn + 2 + 2 * i)))
/-- edge[h] = edge[h] == a ? b : edge[h] -/
def reS (a b : Int32) (h : Nat) (e : Nat → Int32) : Nat → Int32 := upd e h (if e h = a then b else e h)
def clP (n : Nat) (mx : Nat → Int32) (p : Nat) (S : (Nat → Int32) × Nat) : (Nat → Int32) × Nat := (itN (reS (mx p) (nI p)) 0 (4 * n) S.1, if mx p = nI p then S.2 + 1 else S.2)
section Md
variable {X : Nat → zE} {me mp : Nat → Int32} {mc md mo : Nat} {mw : Nat → Int32} {ml mv my : Nat} {mt : Nat → Int32} {ms mq mh : Nat → Int64} {ma : Nat → Int32} {mz : Nat} {mk mn : Nat → Int32} {mr : Nat → Int64} {mx : Nat → Int32}
theorem sp_M_take1 {x : Int32} (h : x < 0 ∨ 4 < x ∨ (x = 0 ∧ md = 0)) (hn : md ≤ 8) : Sp M_M_take [.ref 25, .int x] (kM X me mp mc md mo mw ml mv my mt ms mq mh ma mz mk mn mr mx) (some (.int 1)) (kM X me mp mc md mo mw ml mv my mt ms mq mh ma mz mk mn mr mx) := by
  refine Sp.of (by decide) (Nat.le_of_ble_eq_true rfl) ?_
  refine ev_iload_n 1 d_M_take_0 rfl rfl ?_
  refine ev_if_lt 20 d_M_take_1 (by decide) (fun h1 => ?_) (fun h1 => ?_)
  · refine ev_iconst (v := 1) d_M_take_20 (by decide) ?_
    exact ev_iret d_M_take_21 rfl rfl (Nat.le_of_ble_eq_true rfl) (Nat.le_of_ble_eq_true rfl)
  · refine ev_iload_n 1 d_M_take_4 rfl rfl ?_
    refine ev_iconst (v := 4) d_M_take_5 (by decide) ?_
    refine ev_icmp_gt 20 d_M_take_6 (by decide) (fun h2 => ?_) (fun h2 => ?_)
    · refine ev_iconst (v := 1) d_M_take_20 (by decide) ?_
      exact ev_iret d_M_take_21 rfl rfl (Nat.le_of_ble_eq_true rfl) (Nat.le_of_ble_eq_true rfl)
    · have h3 := (h.resolve_left h1).resolve_left h2
      refine ev_iload_n 1 d_M_take_9 rfl rfl ?_
      refine ev_if_ne 22 d_M_take_10 (by decide) (fun h4 => ?_) (fun h4 => ?_)
      · exact absurd h3.1 h4
      · refine ev_aload_n 0 d_M_take_13 rfl rfl ?_
        refine ev_get f_M_52 d_M_take_14 rfl rfl ?_
        refine ev_if_ne 22 d_M_take_17 (by decide) (fun h5 => ?_) (fun h5 => ?_)
        · exact absurd ((z_nz (by omega)).mpr h3.2) h5
        · refine ev_iconst (v := 1) d_M_take_20 (by decide) ?_
          exact ev_iret d_M_take_21 rfl rfl (Nat.le_of_ble_eq_true rfl) (Nat.le_of_ble_eq_true rfl)
theorem ev_M_take {x : Int32} (h1 : ¬ x < 0) (h2 : ¬ 4 < x) (h3 : ¬ (x = 0 ∧ md = 0)) (hn : md ≤ 8) {r : Option Value} {wf : zW} (k : Ev M_M_take none r wf 27 [(0, .ref 25), (1, .int x)] [] (kM X me mp mc md mo mw ml (32) (md) mt ms mq mh ma mz mk mn mr mx) 0 0) : Ev M_M_take none r wf 0 (lv_args 0 [.ref 25, .int x]) [] (kM X me mp mc md mo mw ml mv my mt ms mq mh ma mz mk mn mr mx) 0 0 := by
  have k1 : Ev M_M_take none r wf 22 [(0, .ref 25), (1, .int x)] [] (kM X me mp mc md mo mw ml mv my mt ms mq mh ma mz mk mn mr mx) 0 0 := by
    refine ev_aload_n 0 d_M_take_22 rfl rfl ?_
    refine ev_iconst (v := 1) d_M_take_23 (by decide) ?_
    refine ev_callV M_M_look [_] (sp_M_look true) c_M_92 d_M_take_24 rfl rfl (by decide) (Nat.le_of_ble_eq_true rfl) ⟨rfl, rfl⟩ rfl ?_
    exact k
  refine ev_iload_n 1 d_M_take_0 rfl rfl ?_
  refine ev_if_lt 20 d_M_take_1 (by decide) (fun q1 => ?_) (fun q1 => ?_)
  · exact absurd q1 h1
  · refine ev_iload_n 1 d_M_take_4 rfl rfl ?_
    refine ev_iconst (v := 4) d_M_take_5 (by decide) ?_
    refine ev_icmp_gt 20 d_M_take_6 (by decide) (fun q2 => ?_) (fun q2 => ?_)
    · exact absurd q2 h2
    · refine ev_iload_n 1 d_M_take_9 rfl rfl ?_
      refine ev_if_ne 22 d_M_take_10 (by decide) (fun h4 => ?_) (fun h4 => ?_)
      · exact k1
      · refine ev_aload_n 0 d_M_take_13 rfl rfl ?_
        refine ev_get f_M_52 d_M_take_14 rfl rfl ?_
        refine ev_if_ne 22 d_M_take_17 (by decide) (fun h5 => ?_) (fun h5 => ?_)
        · exact k1
        · exact absurd ⟨h4, (z_nz (by omega)).mp h5⟩ h3
theorem sp_M_take2 {x : Int32} (h1 : ¬ x < 0) (h2 : ¬ 4 < x) (h3 : ¬ (x = 0 ∧ md = 0)) (hn : md ≤ 8) (hf : ftM me mp 32 md 32 (4 * md) = false) : Sp M_M_take [.ref 25, .int x] (kM X me mp mc md mo mw ml mv my mt ms mq mh ma mz mk mn mr mx) (some (.int 2)) (kM X me mp mc md mo mw ml (32) (md) mt ms mq mh ma mz mk mn mr mx) := by
  refine Sp.of (by decide) (Nat.le_of_ble_eq_true rfl) (ev_M_take h1 h2 h3 hn ?_)
  refine ev_aload_n 0 d_M_take_27 rfl rfl ?_
  refine ev_callV M_M_fit [] (sp_M_fit (mv := 32) (my := md) (by omega)) c_M_96 d_M_take_28 rfl rfl (by decide) (Nat.le_of_ble_eq_true rfl) ⟨rfl, rfl⟩ rfl ?_
  rw [hf]
  refine ev_if_ne 36 d_M_take_31 (by decide) (fun h => ?_) (fun h => ?_)
  · exact absurd rfl h
  · refine ev_iconst (v := 2) d_M_take_34 (by decide) ?_
    exact ev_iret d_M_take_35 rfl rfl (Nat.le_of_ble_eq_true rfl) (Nat.le_of_ble_eq_true rfl)
theorem ev_M_take2 {x : Int32} (h1 : ¬ x < 0) (h2 : ¬ 4 < x) (h3 : ¬ (x = 0 ∧ md = 0)) (hn : md ≤ 8) (hf : ftM me mp 32 md 32 (4 * md) = true) {o : Nat → Nat} (hw : win me 32 md o) (hr : ∀ h, 32 ≤ h → h < 32 + 4 * md → rch (fM o) h 64 (fM o h)) {K : Nat} {R : Nat × (Nat → Int32)} (hR : pcM o 32 md K 8 md (clM mt) 0 = some R) {r : Option Value} {wf : zW} (k : Ev M_M_take none r wf 46 [(0, .ref 25), (1, .int x), (2, .int (nI (fcN (faM o) 32 (4 * md) 0))), (3, .int (nI R.1))] [] (kM X me mp mc md mo mw ml (32) (md) (R.2) ms mq mh ma mz mk mn mr mx) 0 0) : Ev M_M_take none r wf 0 (lv_args 0 [.ref 25, .int x]) [] (kM X me mp mc md mo mw ml mv my mt ms mq mh ma mz mk mn mr mx) 0 0 := by
  refine ev_M_take h1 h2 h3 hn ?_
  refine ev_aload_n 0 d_M_take_27 rfl rfl ?_
  refine ev_callV M_M_fit [] (sp_M_fit (mv := 32) (my := md) (by omega)) c_M_96 d_M_take_28 rfl rfl (by decide) (Nat.le_of_ble_eq_true rfl) ⟨rfl, rfl⟩ rfl ?_
  rw [hf]
  refine ev_if_ne 36 d_M_take_31 (by decide) (fun h => ?_) (fun h => ?_)
  · refine ev_aload_n 0 d_M_take_36 rfl rfl ?_
    refine ev_callV M_M_faces [] (sp_M_faces (mv := 32) (my := md) (by omega) (by decide) hw hr) c_M_100 d_M_take_37 rfl rfl (by decide) (Nat.le_of_ble_eq_true rfl) ⟨rfl, rfl⟩ rfl ?_
    refine ev_istore_n 2 d_M_take_40 rfl (Nat.le_of_ble_eq_true rfl) rfl ?_
    refine ev_aload_n 0 d_M_take_41 rfl rfl ?_
    refine ev_callV M_M_pieces [] (sp_M_pieces (mv := 32) (my := md) (by omega) (by decide) hw hR) c_M_104 d_M_take_42 rfl rfl (by decide) (Nat.le_of_ble_eq_true rfl) ⟨rfl, rfl⟩ rfl ?_
    refine ev_istore_n 3 d_M_take_45 rfl (Nat.le_of_ble_eq_true rfl) rfl ?_
    exact k
  · exact absurd h (by decide)
theorem sp_M_take3 {x : Int32} (h1 : ¬ x < 0) (h2 : ¬ 4 < x) (h3 : ¬ (x = 0 ∧ md = 0)) (hn : md ≤ 8) (hf : ftM me mp 32 md 32 (4 * md) = true) {o : Nat → Nat} (hw : win me 32 md o) (hr : ∀ h, 32 ≤ h → h < 32 + 4 * md → rch (fM o) h 64 (fM o h)) {K : Nat} {R : Nat × (Nat → Int32)} (hR : pcM o 32 md K 8 md (clM mt) 0 = some R) (hp : ¬ nI (fcN (faM o) 32 (4 * md) 0) = nI md + 2 * nI R.1) : Sp M_M_take [.ref 25, .int x] (kM X me mp mc md mo mw ml mv my mt ms mq mh ma mz mk mn mr mx) (some (.int 3)) (kM X me mp mc md mo mw ml (32) (md) (R.2) ms mq mh ma mz mk mn mr mx) := by
  refine Sp.of (by decide) (Nat.le_of_ble_eq_true rfl) (ev_M_take2 h1 h2 h3 hn hf hw hr hR ?_)
  refine ev_iload_n 2 d_M_take_46 rfl rfl ?_
  refine ev_aload_n 0 d_M_take_47 rfl rfl ?_
  refine ev_get f_M_52 d_M_take_48 rfl rfl ?_
  refine ev_iconst (v := 2) d_M_take_51 (by decide) ?_
  refine ev_iload_n 3 d_M_take_52 rfl rfl ?_
  refine ev_imul d_M_take_53 ?_
  refine ev_iadd d_M_take_54 ?_
  refine ev_icmp_eq 60 d_M_take_55 (by decide) (fun h => ?_) (fun h => ?_)
  · exact absurd h hp
  · refine ev_iconst (v := 3) d_M_take_58 (by decide) ?_
    exact ev_iret d_M_take_59 rfl rfl (Nat.le_of_ble_eq_true rfl) (Nat.le_of_ble_eq_true rfl)
theorem lp_M_take {a b : Int32} {m0 : Nat} : ∀ k h (me mp : Nat → Int32), h + k = 32 → Ev M_M_take none (some (.int 0)) (kM X ((itN tkS h k (me, mp)).1) ((itN tkS h k (me, mp)).2) (md) (0) (mo) mw ml mv my mt ms mq mh ma mz mk mn mr mx) 63 [(0, .ref 25), (1, .int (nI mo)), (2, .int a), (3, .int b), (4, .int (nI h))] [] (kM X me mp mc md (m0) mw ml mv my mt ms mq mh ma mz mk mn mr mx) 0 0 := by
  intro k
  induction k with
  | zero =>
    intro h me mp hh
    rw [itN_0]
    refine ev_iload d_M_take_63 rfl ?_
    refine ev_bipush (v := 32) d_M_take_65 (by decide) ?_
    refine ev_icmp_ge 114 d_M_take_67 (by decide) (fun q0 => ?_) (fun q0 => ?_)
    · refine ev_aload_n 0 d_M_take_114 rfl rfl ?_
      refine ev_aload_n 0 d_M_take_115 rfl rfl ?_
      refine ev_get f_M_52 d_M_take_116 rfl rfl ?_
      refine ev_put p_M_66 d_M_take_119 rfl (fun _ _ => ⟨rfl, rfl⟩) (Nat.le_of_ble_eq_true rfl) ?_
      refine ev_aload_n 0 d_M_take_122 rfl rfl ?_
      refine ev_iconst (v := 0) d_M_take_123 (by decide) ?_
      refine ev_put p_M_52 d_M_take_124 rfl (fun _ _ => ⟨rfl, rfl⟩) (Nat.le_of_ble_eq_true rfl) ?_
      refine ev_aload_n 0 d_M_take_127 rfl rfl ?_
      refine ev_iload_n 1 d_M_take_128 rfl rfl ?_
      refine ev_put p_M_17 d_M_take_129 rfl (fun _ _ => ⟨rfl, rfl⟩) (Nat.le_of_ble_eq_true rfl) ?_
      refine ev_iconst (v := 0) d_M_take_132 (by decide) ?_
      exact ev_iret d_M_take_133 rfl rfl (Nat.le_of_ble_eq_true rfl) (Nat.le_of_ble_eq_true rfl)
    · exact absurd (nI_le (a := 32) (b := h) (by omega) (by omega)) q0
  | succ k ih =>
    intro h me mp hh
    rw [itN_s]
    refine ev_iload d_M_take_63 rfl ?_
    refine ev_bipush (v := 32) d_M_take_65 (by decide) ?_
    refine ev_icmp_ge 114 d_M_take_67 (by decide) (fun q0 => ?_) (fun q0 => ?_)
    · exact absurd q0 (nI_ge (b := 32) (by omega) (by omega))
    · refine ev_aload_n 0 d_M_take_70 rfl rfl ?_
      refine ev_get f_M_7 d_M_take_71 rfl rfl ?_
      refine ev_iload d_M_take_74 rfl ?_
      refine ev_aload_n 0 d_M_take_76 rfl rfl ?_
      refine ev_get f_M_7 d_M_take_77 rfl rfl ?_
      refine ev_bipush (v := 32) d_M_take_80 (by decide) ?_
      refine ev_iload d_M_take_82 rfl ?_
      refine ev_iadd d_M_take_84 ?_
      rw [show (32 : Int32) + nI h = nI (32 + h) from nI_add 32 h]
      refine ev_iald d_M_take_85 rfl (vp_in_nI (by omega) (by omega)) ?_
      rw [nI_clamp (by omega)]
      refine ev_iast d_M_take_86 rfl (vp_in_nI (by omega) (by omega)) ?_
      rw [nI_clamp (by omega)]
      refine ev_aload_n 0 d_M_take_87 rfl rfl ?_
      refine ev_get f_M_13 d_M_take_88 rfl rfl ?_
      refine ev_iload d_M_take_91 rfl ?_
      refine ev_iconst (v := 4) d_M_take_93 (by decide) ?_
      refine ev_idiv d_M_take_94 (by decide) ?_
      rw [z_div4 (by omega)]
      refine ev_aload_n 0 d_M_take_95 rfl rfl ?_
      refine ev_get f_M_13 d_M_take_96 rfl rfl ?_
      refine ev_bipush (v := 8) d_M_take_99 (by decide) ?_
      refine ev_iload d_M_take_101 rfl ?_
      refine ev_iconst (v := 4) d_M_take_103 (by decide) ?_
      refine ev_idiv d_M_take_104 (by decide) ?_
      rw [z_div4 (by omega)]
      refine ev_iadd d_M_take_105 ?_
      rw [show (8 : Int32) + nI (h / 4) = nI (8 + h / 4) from nI_add 8 _]
      refine ev_zald d_M_take_106 rfl (vp_in_nI (by omega) (by omega)) ?_
      rw [nI_clamp (by omega)]
      refine ev_zast d_M_take_107 rfl (vp_in_nI (by omega) (by omega)) ?_
      rw [nI_clamp (by omega)]
      refine ev_iinc (v := _ + 1) d_M_take_108 rfl rfl (Nat.le_of_ble_eq_true rfl) rfl ?_
      rw [nI_1]
      refine ev_goto 63 d_M_take_111 (by decide) ?_
      exact ih (h + 1) (tkS h (me, mp)).1 (tkS h (me, mp)).2 (by omega)
theorem sp_M_take0 {x : Nat} (hx : x ≤ 4) (h3 : ¬ (x = 0 ∧ md = 0)) (hn : md ≤ 8) (hf : ftM me mp 32 md 32 (4 * md) = true) {o : Nat → Nat} (hw : win me 32 md o) (hr : ∀ h, 32 ≤ h → h < 32 + 4 * md → rch (fM o) h 64 (fM o h)) {K : Nat} {R : Nat × (Nat → Int32)} (hR : pcM o 32 md K 8 md (clM mt) 0 = some R) (hp : nI (fcN (faM o) 32 (4 * md) 0) = nI md + 2 * nI R.1) : Sp M_M_take [.ref 25, .int (nI x)] (kM X me mp mc md mo mw ml mv my mt ms mq mh ma mz mk mn mr mx) (some (.int 0)) (kM X ((itN tkS 0 32 (me, mp)).1) ((itN tkS 0 32 (me, mp)).2) (md) (0) (x) mw ml (32) (md) (R.2) ms mq mh ma mz mk mn mr mx) := by
  refine Sp.of (by decide) (Nat.le_of_ble_eq_true rfl) (ev_M_take2 (nI_pos (by omega)) (nI_nlt (a := 4) (b := x) (by omega) (by omega)) (fun q => h3 ⟨(z_nz (by omega)).mp q.1, q.2⟩) hn hf hw hr hR ?_)
  refine ev_iload_n 2 d_M_take_46 rfl rfl ?_
  refine ev_aload_n 0 d_M_take_47 rfl rfl ?_
  refine ev_get f_M_52 d_M_take_48 rfl rfl ?_
  refine ev_iconst (v := 2) d_M_take_51 (by decide) ?_
  refine ev_iload_n 3 d_M_take_52 rfl rfl ?_
  refine ev_imul d_M_take_53 ?_
  refine ev_iadd d_M_take_54 ?_
  refine ev_icmp_eq 60 d_M_take_55 (by decide) (fun h => ?_) (fun h => ?_)
  · refine ev_iconst (v := 0) d_M_take_60 (by decide) ?_
    refine ev_istore d_M_take_61 (Nat.le_of_ble_eq_true rfl) rfl ?_
    exact lp_M_take (m0 := mo) 32 0 me mp (by omega)
  · exact absurd hp h
theorem sp_M_letter_no {x : Int32} (hl : ml ≤ 8) (h : ¬ (¬ x = 0 ∧ ¬ x < -3 ∧ ¬ 3 < x ∧ ml < 8)) : Sp M_M_letter [.ref 25, .int x] (kM X me mp mc md mo mw ml mv my mt ms mq mh ma mz mk mn mr mx) (some (.int (zb false))) (kM X me mp mc md mo mw ml mv my mt ms mq mh ma mz mk mn mr mx) := by
  refine Sp.of (by decide) (Nat.le_of_ble_eq_true rfl) ?_
  refine ev_iload_n 1 d_M_letter_0 rfl rfl ?_
  refine ev_if_eq 24 d_M_letter_1 (by decide) (fun h1 => ?_) (fun h1 => ?_)
  · refine ev_iconst (v := 0) d_M_letter_24 (by decide) ?_
    exact ev_iret d_M_letter_25 rfl zr0 (Nat.le_of_ble_eq_true rfl) (Nat.le_of_ble_eq_true rfl)
  · refine ev_iload_n 1 d_M_letter_4 rfl rfl ?_
    refine ev_bipush (v := -3) d_M_letter_5 (by decide) ?_
    refine ev_icmp_lt 24 d_M_letter_7 (by decide) (fun h2 => ?_) (fun h2 => ?_)
    · refine ev_iconst (v := 0) d_M_letter_24 (by decide) ?_
      exact ev_iret d_M_letter_25 rfl zr0 (Nat.le_of_ble_eq_true rfl) (Nat.le_of_ble_eq_true rfl)
    · refine ev_iload_n 1 d_M_letter_10 rfl rfl ?_
      refine ev_iconst (v := 3) d_M_letter_11 (by decide) ?_
      refine ev_icmp_gt 24 d_M_letter_12 (by decide) (fun h3 => ?_) (fun h3 => ?_)
      · refine ev_iconst (v := 0) d_M_letter_24 (by decide) ?_
        exact ev_iret d_M_letter_25 rfl zr0 (Nat.le_of_ble_eq_true rfl) (Nat.le_of_ble_eq_true rfl)
      · refine ev_aload_n 0 d_M_letter_15 rfl rfl ?_
        refine ev_get f_M_107 d_M_letter_16 rfl rfl ?_
        refine ev_bipush (v := 8) d_M_letter_19 (by decide) ?_
        refine ev_icmp_ne 26 d_M_letter_21 (by decide) (fun h5 => ?_) (fun h5 => ?_)
        · have h6 : ¬ ml = 8 := fun z => h5 (by rw [z]; rfl)
          exact absurd ⟨h1, h2, h3, by omega⟩ h
        · refine ev_iconst (v := 0) d_M_letter_24 (by decide) ?_
          exact ev_iret d_M_letter_25 rfl zr0 (Nat.le_of_ble_eq_true rfl) (Nat.le_of_ble_eq_true rfl)
theorem sp_M_letter {x : Int32} (hl : ml < 8) (h1 : ¬ x = 0) (h2 : ¬ x < -3) (h3 : ¬ 3 < x) : Sp M_M_letter [.ref 25, .int x] (kM X me mp mc md mo mw ml mv my mt ms mq mh ma mz mk mn mr mx) (some (.int (zb true))) (kM X me mp mc md mo (upd mw ml x) (ml + 1) mv my mt ms mq mh ma mz mk mn mr mx) := by
  refine Sp.of (by decide) (Nat.le_of_ble_eq_true rfl) ?_
  refine ev_iload_n 1 d_M_letter_0 rfl rfl ?_
  refine ev_if_eq 24 d_M_letter_1 (by decide) (fun q1 => ?_) (fun q1 => ?_)
  · exact absurd q1 h1
  · refine ev_iload_n 1 d_M_letter_4 rfl rfl ?_
    refine ev_bipush (v := -3) d_M_letter_5 (by decide) ?_
    refine ev_icmp_lt 24 d_M_letter_7 (by decide) (fun q2 => ?_) (fun q2 => ?_)
    · exact absurd q2 h2
    · refine ev_iload_n 1 d_M_letter_10 rfl rfl ?_
      refine ev_iconst (v := 3) d_M_letter_11 (by decide) ?_
      refine ev_icmp_gt 24 d_M_letter_12 (by decide) (fun q3 => ?_) (fun q3 => ?_)
      · exact absurd q3 h3
      · refine ev_aload_n 0 d_M_letter_15 rfl rfl ?_
        refine ev_get f_M_107 d_M_letter_16 rfl rfl ?_
        refine ev_bipush (v := 8) d_M_letter_19 (by decide) ?_
        refine ev_icmp_ne 26 d_M_letter_21 (by decide) (fun q5 => ?_) (fun q5 => ?_)
        · refine ev_aload_n 0 d_M_letter_26 rfl rfl ?_
          refine ev_get f_M_21 d_M_letter_27 rfl rfl ?_
          refine ev_aload_n 0 d_M_letter_30 rfl rfl ?_
          refine ev_get f_M_107 d_M_letter_31 rfl rfl ?_
          refine ev_iload_n 1 d_M_letter_34 rfl rfl ?_
          refine ev_iast d_M_letter_35 rfl (vp_in_nI (by omega) (by omega)) ?_
          rw [nI_clamp (by omega)]
          refine ev_aload_n 0 d_M_letter_36 rfl rfl ?_
          refine ev_dup d_M_letter_37 rfl ?_
          refine ev_get f_M_107 d_M_letter_38 rfl rfl ?_
          refine ev_iconst (v := 1) d_M_letter_41 (by decide) ?_
          refine ev_iadd d_M_letter_42 ?_
          rw [nI_1]
          refine ev_put p_M_107 d_M_letter_43 rfl (fun _ _ => ⟨rfl, rfl⟩) (Nat.le_of_ble_eq_true rfl) ?_
          refine ev_iconst (v := 1) d_M_letter_46 (by decide) ?_
          exact ev_iret d_M_letter_47 rfl zr1 (Nat.le_of_ble_eq_true rfl) (Nat.le_of_ble_eq_true rfl)
        · exact absurd ((nI_eq (b := 8) (by omega) (by omega)).mp q5) (by omega)
theorem sp_M_size (w : zW) (x : Int32) : Sp M_M_size [.int x] w (some (.int (szI x))) w := by
  refine Sp.of (by decide) (Nat.le_of_ble_eq_true rfl) ?_
  unfold szI
  refine ev_iload_n 0 d_M_size_0 rfl rfl ?_
  refine ev_if_ge 9 d_M_size_1 (by decide) (fun h => ?_) (fun h => ?_)
  · rw [if_pos h]
    refine ev_iload_n 0 d_M_size_9 rfl rfl ?_
    exact ev_iret d_M_size_10 rfl rfl (Nat.le_of_ble_eq_true rfl) (Nat.le_of_ble_eq_true rfl)
  · rw [if_neg h]
    refine ev_iload_n 0 d_M_size_4 rfl rfl ?_
    refine ev_ineg d_M_size_5 ?_
    refine ev_goto 10 d_M_size_6 (by decide) ?_
    exact ev_iret d_M_size_10 rfl rfl (Nat.le_of_ble_eq_true rfl) (Nat.le_of_ble_eq_true rfl)
-- braid
theorem lp_M_braid6 {nn p : Nat} (hn : mc ≤ 8) (hp : p ≤ 4) {r : Option Value} {wf : zW} : ∀ k h (me : Nat → Int32), h + k = 4 * mc → (∀ me' : Nat → Int32, me' = itN (reS (mx p) (nI p)) h k me → Ev M_M_braid none r wf 274 [(0, .ref 25), (1, .int (nI nn)), (2, .int (nI p)), (3, .int (nI (4 * mc)))] [] (kM X (me') mp mc md mo mw ml mv my mt ms mq mh ma mz mk mn mr mx) 0 0) → Ev M_M_braid none r wf 227 [(0, .ref 25), (1, .int (nI nn)), (2, .int (nI p)), (3, .int (nI h))] [] (kM X me mp mc md mo mw ml mv my mt ms mq mh ma mz mk mn mr mx) 0 0 := by
  intro k
  induction k with
  | zero =>
    intro h me hh kk
    have k1 := kk me (by rw [itN_0])
    refine ev_iload_n 3 d_M_braid_227 rfl rfl ?_
    refine ev_iconst (v := 4) d_M_braid_228 (by decide) ?_
    refine ev_aload_n 0 d_M_braid_229 rfl rfl ?_
    refine ev_get f_M_66 d_M_braid_230 rfl rfl ?_
    refine ev_imul d_M_braid_233 ?_
    rw [z_m4]
    refine ev_icmp_ge 274 d_M_braid_234 (by decide) (fun q0 => ?_) (fun q0 => ?_)
    · rw [show h = 4 * mc by omega]
      exact k1
    · exact absurd (nI_le (by omega) (by omega)) q0
  | succ k ih =>
    intro h me hh kk
    have k2 : ∀ v : Int32, v = (if me h = mx p then nI p else me h) → Ev M_M_braid none r wf 267 [(0, .ref 25), (1, .int (nI nn)), (2, .int (nI p)), (3, .int (nI h))] [.int v, .int (nI h), .ref 26] (kM X me mp mc md mo mw ml mv my mt ms mq mh ma mz mk mn mr mx) 0 0 := by
      intro v hv
      refine ev_iast d_M_braid_267 rfl (vp_in_nI (by omega) (by omega)) ?_
      rw [nI_clamp (by omega)]
      refine ev_iinc (v := _ + 1) d_M_braid_268 rfl rfl (Nat.le_of_ble_eq_true rfl) rfl ?_
      rw [nI_1]
      refine ev_goto 227 d_M_braid_271 (by decide) ?_
      refine ih (h + 1) (upd me h v) (by omega) (fun me' e => kk me' ?_)
      rw [e, itN_s]
      congr 1
      unfold reS
      rw [hv]
    refine ev_iload_n 3 d_M_braid_227 rfl rfl ?_
    refine ev_iconst (v := 4) d_M_braid_228 (by decide) ?_
    refine ev_aload_n 0 d_M_braid_229 rfl rfl ?_
    refine ev_get f_M_66 d_M_braid_230 rfl rfl ?_
    refine ev_imul d_M_braid_233 ?_
    rw [z_m4]
    refine ev_icmp_ge 274 d_M_braid_234 (by decide) (fun q0 => ?_) (fun q0 => ?_)
    · exact absurd q0 (nI_ge (by omega) (by omega))
    · refine ev_aload_n 0 d_M_braid_237 rfl rfl ?_
      refine ev_get f_M_7 d_M_braid_238 rfl rfl ?_
      refine ev_iload_n 3 d_M_braid_241 rfl rfl ?_
      refine ev_aload_n 0 d_M_braid_242 rfl rfl ?_
      refine ev_get f_M_7 d_M_braid_243 rfl rfl ?_
      refine ev_iload_n 3 d_M_braid_246 rfl rfl ?_
      refine ev_iald d_M_braid_247 rfl (vp_in_nI (by omega) (by omega)) ?_
      rw [nI_clamp (by omega)]
      refine ev_aload_n 0 d_M_braid_248 rfl rfl ?_
      refine ev_get f_M_49 d_M_braid_249 rfl rfl ?_
      refine ev_iload_n 2 d_M_braid_252 rfl rfl ?_
      refine ev_iald d_M_braid_253 rfl (vp_in_nI (by omega) (by omega)) ?_
      rw [nI_clamp (by omega)]
      refine ev_icmp_ne 261 d_M_braid_254 (by decide) (fun q1 => ?_) (fun q1 => ?_)
      · refine ev_aload_n 0 d_M_braid_261 rfl rfl ?_
        refine ev_get f_M_7 d_M_braid_262 rfl rfl ?_
        refine ev_iload_n 3 d_M_braid_265 rfl rfl ?_
        refine ev_iald d_M_braid_266 rfl (vp_in_nI (by omega) (by omega)) ?_
        rw [nI_clamp (by omega)]
        exact k2 (me h) (by rw [if_neg q1])
      · refine ev_iload_n 2 d_M_braid_257 rfl rfl ?_
        refine ev_goto 267 d_M_braid_258 (by decide) ?_
        exact k2 (nI p) (by rw [if_pos q1])
theorem lp_M_braid5 {nn : Nat} (hnn : nn ≤ 4) (hn : mc ≤ 8) : ∀ k p (me : Nat → Int32) (mo : Nat), p + k = nn + 1 → Ev M_M_braid none (some (.int (zb true))) (kM X ((itN (clP mc mx) p k (me, mo)).1) mp mc md ((itN (clP mc mx) p k (me, mo)).2) mw ml mv my mt ms mq mh ma mz mk mn mr mx) 200 [(0, .ref 25), (1, .int (nI nn)), (2, .int (nI p))] [] (kM X me mp mc md mo mw ml mv my mt ms mq mh ma mz mk mn mr mx) 0 0 := by
  intro k
  induction k with
  | zero =>
    intro p me mo hp
    rw [itN_0]
    refine ev_iload_n 2 d_M_braid_200 rfl rfl ?_
    refine ev_iload_n 1 d_M_braid_201 rfl rfl ?_
    refine ev_icmp_gt 280 d_M_braid_202 (by decide) (fun q0 => ?_) (fun q0 => ?_)
    · refine ev_iconst (v := 1) d_M_braid_280 (by decide) ?_
      exact ev_iret d_M_braid_281 rfl zr1 (Nat.le_of_ble_eq_true rfl) (Nat.le_of_ble_eq_true rfl)
    · exact absurd (nI_lt (by omega) (by omega)) q0
  | succ k ih =>
    intro p me mo hp
    rw [itN_s]
    have k2 : ∀ mo' : Nat, mo' = (if mx p = nI p then mo + 1 else mo) → Ev M_M_braid none (some (.int (zb true))) (kM X ((itN (clP mc mx) (p + 1) k (clP mc mx p (me, mo))).1) mp mc md ((itN (clP mc mx) (p + 1) k (clP mc mx p (me, mo))).2) mw ml mv my mt ms mq mh ma mz mk mn mr mx) 225 [(0, .ref 25), (1, .int (nI nn)), (2, .int (nI p))] [] (kM X me mp mc md (mo') mw ml mv my mt ms mq mh ma mz mk mn mr mx) 0 0 := by
      intro mo' hmo'
      refine ev_iconst (v := 0) d_M_braid_225 (by decide) ?_
      refine ev_istore_n 3 d_M_braid_226 rfl (Nat.le_of_ble_eq_true rfl) rfl ?_
      refine lp_M_braid6 (mo := mo') hn (by omega) (4 * mc) 0 me (by omega) (fun me' e => ?_)
      refine ev_iinc (v := _ + 1) d_M_braid_274 rfl rfl (Nat.le_of_ble_eq_true rfl) rfl ?_
      rw [nI_1]
      refine ev_goto 200 d_M_braid_277 (by decide) ?_
      have h4 := ih (p + 1) me' mo' (by omega)
      have e1 : clP mc mx p (me, mo) = (me', mo') := by unfold clP; rw [e, hmo']
      rw [e1]
      exact ev_drop (lv' := [(0, .ref 25), (1, .int (nI nn)), (2, .int (nI (p + 1)))]) (ext := [_]) h4
    refine ev_iload_n 2 d_M_braid_200 rfl rfl ?_
    refine ev_iload_n 1 d_M_braid_201 rfl rfl ?_
    refine ev_icmp_gt 280 d_M_braid_202 (by decide) (fun q0 => ?_) (fun q0 => ?_)
    · exact absurd q0 (nI_nlt (by omega) (by omega))
    · refine ev_aload_n 0 d_M_braid_205 rfl rfl ?_
      refine ev_get f_M_49 d_M_braid_206 rfl rfl ?_
      refine ev_iload_n 2 d_M_braid_209 rfl rfl ?_
      refine ev_iald d_M_braid_210 rfl (vp_in_nI (by omega) (by omega)) ?_
      rw [nI_clamp (by omega)]
      refine ev_iload_n 2 d_M_braid_211 rfl rfl ?_
      refine ev_icmp_ne 225 d_M_braid_212 (by decide) (fun q1 => ?_) (fun q1 => ?_)
      · exact k2 mo (by rw [if_neg q1])
      · refine ev_aload_n 0 d_M_braid_215 rfl rfl ?_
        refine ev_dup d_M_braid_216 rfl ?_
        refine ev_get f_M_17 d_M_braid_217 rfl rfl ?_
        refine ev_iconst (v := 1) d_M_braid_220 (by decide) ?_
        refine ev_iadd d_M_braid_221 ?_
        rw [nI_1]
        refine ev_put p_M_17 d_M_braid_222 rfl (fun _ _ => ⟨rfl, rfl⟩) (Nat.le_of_ble_eq_true rfl) ?_
        exact k2 (mo + 1) (by rw [if_pos q1])
def bmW (mw me mp mx : Nat → Int32) (nn ml : Nat) : z3 := itN (wvM mw nn) 0 ml (me, mp, piI mx 1 nn)
def bmC (n : Nat) (mx me : Nat → Int32) (nn : Nat) : (Nat → Int32) × Nat := itN (clP n mx) 1 nn (me, 0)
theorem lp_M_braid4 {nn : Nat} (hnn : nn ≤ 4) (hml : ml ≤ 8) (hw : wOM mw ml) : ∀ k i (me mp mx : Nat → Int32), i + k = ml → Ev M_M_braid none (some (.int (zb true))) (kM X ((bmC ml (itN (wvM mw nn) i k (me, mp, mx)).2.2 (itN (wvM mw nn) i k (me, mp, mx)).1 nn).1) ((itN (wvM mw nn) i k (me, mp, mx)).2.1) (ml) md ((bmC ml (itN (wvM mw nn) i k (me, mp, mx)).2.2 (itN (wvM mw nn) i k (me, mp, mx)).1 nn).2) mw (0) mv my mt ms mq mh ma mz mk mn mr ((itN (wvM mw nn) i k (me, mp, mx)).2.2)) 65 [(0, .ref 25), (1, .int (nI nn)), (2, .int (nI i))] [] (kM X me mp mc md mo mw ml mv my mt ms mq mh ma mz mk mn mr mx) 0 0 := by
  intro k
  induction k with
  | zero =>
    intro i me mp mx hi
    rw [itN_0]
    refine ev_iload_n 2 d_M_braid_65 rfl rfl ?_
    refine ev_aload_n 0 d_M_braid_66 rfl rfl ?_
    refine ev_get f_M_107 d_M_braid_67 rfl rfl ?_
    refine ev_icmp_ge 180 d_M_braid_70 (by decide) (fun q0 => ?_) (fun q0 => ?_)
    · refine ev_aload_n 0 d_M_braid_180 rfl rfl ?_
      refine ev_aload_n 0 d_M_braid_181 rfl rfl ?_
      refine ev_get f_M_107 d_M_braid_182 rfl rfl ?_
      refine ev_put p_M_66 d_M_braid_185 rfl (fun _ _ => ⟨rfl, rfl⟩) (Nat.le_of_ble_eq_true rfl) ?_
      refine ev_aload_n 0 d_M_braid_188 rfl rfl ?_
      refine ev_iconst (v := 0) d_M_braid_189 (by decide) ?_
      refine ev_put p_M_107 d_M_braid_190 rfl (fun _ _ => ⟨rfl, rfl⟩) (Nat.le_of_ble_eq_true rfl) ?_
      refine ev_aload_n 0 d_M_braid_193 rfl rfl ?_
      refine ev_iconst (v := 0) d_M_braid_194 (by decide) ?_
      refine ev_put p_M_17 d_M_braid_195 rfl (fun _ _ => ⟨rfl, rfl⟩) (Nat.le_of_ble_eq_true rfl) ?_
      refine ev_iconst (v := 1) d_M_braid_198 (by decide) ?_
      refine ev_istore_n 2 d_M_braid_199 rfl (Nat.le_of_ble_eq_true rfl) rfl ?_
      exact lp_M_braid5 (mc := ml) (ml := 0) hnn hml nn 1 me 0 (by omega)
    · exact absurd (nI_le (by omega) (by omega)) q0
  | succ k ih =>
    intro i me mp mx hi
    rw [itN_s]
    obtain ⟨a, a1, a3, ka⟩ := hw i (by omega)
    have ha : awM mw i = a := by unfold awM; rw [ka, nI_clamp (by omega)]
    have fin : ∀ me' mp' : Nat → Int32, (me', mp', upd (upd mx a (nI (nn + 1 + 2 * i))) (a + 1) (nI (nn + 2 + 2 * i))) = wvM mw nn i (me, mp, mx) → Ev M_M_braid none (some (.int (zb true))) (kM X ((bmC ml (itN (wvM mw nn) (i + 1) k (wvM mw nn i (me, mp, mx))).2.2 (itN (wvM mw nn) (i + 1) k (wvM mw nn i (me, mp, mx))).1 nn).1) ((itN (wvM mw nn) (i + 1) k (wvM mw nn i (me, mp, mx))).2.1) (ml) md ((bmC ml (itN (wvM mw nn) (i + 1) k (wvM mw nn i (me, mp, mx))).2.2 (itN (wvM mw nn) (i + 1) k (wvM mw nn i (me, mp, mx))).1 nn).2) mw (0) mv my mt ms mq mh ma mz mk mn mr ((itN (wvM mw nn) (i + 1) k (wvM mw nn i (me, mp, mx))).2.2)) 156 [(0, .ref 25), (1, .int (nI nn)), (2, .int (nI i)), (3, .int (nI a)), (4, .int (mx a)), (5, .int (mx (a + 1))), (6, .int (nI (nn + 1 + 2 * i))), (7, .int (nI (nn + 2 + 2 * i)))] [] (kM X (me') (mp') mc md mo mw ml mv my mt ms mq mh ma mz mk mn mr mx) 0 0 := by
      intro me' mp' e
      rw [← e]
      refine ev_aload_n 0 d_M_braid_156 rfl rfl ?_
      refine ev_get f_M_49 d_M_braid_157 rfl rfl ?_
      refine ev_iload_n 3 d_M_braid_160 rfl rfl ?_
      refine ev_iload d_M_braid_161 rfl ?_
      refine ev_iast d_M_braid_163 rfl (vp_in_nI (by omega) (by omega)) ?_
      rw [nI_clamp (by omega)]
      refine ev_aload_n 0 d_M_braid_164 rfl rfl ?_
      refine ev_get f_M_49 d_M_braid_165 rfl rfl ?_
      refine ev_iload_n 3 d_M_braid_168 rfl rfl ?_
      refine ev_iconst (v := 1) d_M_braid_169 (by decide) ?_
      refine ev_iadd d_M_braid_170 ?_
      rw [nI_1]
      refine ev_iload d_M_braid_171 rfl ?_
      refine ev_iast d_M_braid_173 rfl (vp_in_nI (by omega) (by omega)) ?_
      rw [nI_clamp (by omega)]
      refine ev_iinc (v := _ + 1) d_M_braid_174 rfl rfl (Nat.le_of_ble_eq_true rfl) rfl ?_
      rw [nI_1]
      refine ev_goto 65 d_M_braid_177 (by decide) ?_
      exact ev_drop (lv' := [(0, .ref 25), (1, .int (nI nn)), (2, .int (nI (i + 1)))]) (ext := [_, _, _, _, _]) (ih (i + 1) me' mp' (upd (upd mx a (nI (nn + 1 + 2 * i))) (a + 1) (nI (nn + 2 + 2 * i))) (by omega))
    refine ev_iload_n 2 d_M_braid_65 rfl rfl ?_
    refine ev_aload_n 0 d_M_braid_66 rfl rfl ?_
    refine ev_get f_M_107 d_M_braid_67 rfl rfl ?_
    refine ev_icmp_ge 180 d_M_braid_70 (by decide) (fun q0 => ?_) (fun q0 => ?_)
    · exact absurd q0 (nI_ge (by omega) (by omega))
    · refine ev_aload_n 0 d_M_braid_73 rfl rfl ?_
      refine ev_get f_M_21 d_M_braid_74 rfl rfl ?_
      refine ev_iload_n 2 d_M_braid_77 rfl rfl ?_
      refine ev_iald d_M_braid_78 rfl (vp_in_nI (by omega) (by omega)) ?_
      rw [nI_clamp (by omega)]
      refine ev_callS M_M_size [_] (sp_M_size _ _) c_M_110 d_M_braid_79 rfl (by decide) (Nat.le_of_ble_eq_true rfl) ⟨rfl, rfl⟩ rfl ?_
      rw [ka]
      refine ev_istore_n 3 d_M_braid_82 rfl (Nat.le_of_ble_eq_true rfl) rfl ?_
      refine ev_aload_n 0 d_M_braid_83 rfl rfl ?_
      refine ev_get f_M_49 d_M_braid_84 rfl rfl ?_
      refine ev_iload_n 3 d_M_braid_87 rfl rfl ?_
      refine ev_iald d_M_braid_88 rfl (vp_in_nI (by omega) (by omega)) ?_
      rw [nI_clamp (by omega)]
      refine ev_istore d_M_braid_89 (Nat.le_of_ble_eq_true rfl) rfl ?_
      refine ev_aload_n 0 d_M_braid_91 rfl rfl ?_
      refine ev_get f_M_49 d_M_braid_92 rfl rfl ?_
      refine ev_iload_n 3 d_M_braid_95 rfl rfl ?_
      refine ev_iconst (v := 1) d_M_braid_96 (by decide) ?_
      refine ev_iadd d_M_braid_97 ?_
      rw [nI_1]
      refine ev_iald d_M_braid_98 rfl (vp_in_nI (by omega) (by omega)) ?_
      rw [nI_clamp (by omega)]
      refine ev_istore d_M_braid_99 (Nat.le_of_ble_eq_true rfl) rfl ?_
      refine ev_iload_n 1 d_M_braid_101 rfl rfl ?_
      refine ev_iconst (v := 1) d_M_braid_102 (by decide) ?_
      refine ev_iadd d_M_braid_103 ?_
      rw [nI_1]
      refine ev_iconst (v := 2) d_M_braid_104 (by decide) ?_
      refine ev_iload_n 2 d_M_braid_105 rfl rfl ?_
      refine ev_imul d_M_braid_106 ?_
      rw [show (2 : Int32) * nI i = nI (2 * i) from pk_mul 2 i]
      refine ev_iadd d_M_braid_107 ?_
      rw [nI_add]
      refine ev_istore d_M_braid_108 (Nat.le_of_ble_eq_true rfl) rfl ?_
      refine ev_iload d_M_braid_110 rfl ?_
      refine ev_iconst (v := 1) d_M_braid_112 (by decide) ?_
      refine ev_iadd d_M_braid_113 ?_
      rw [nI_1, show nn + 1 + 2 * i + 1 = nn + 2 + 2 * i by omega]
      refine ev_istore d_M_braid_114 (Nat.le_of_ble_eq_true rfl) rfl ?_
      refine ev_aload_n 0 d_M_braid_116 rfl rfl ?_
      refine ev_get f_M_21 d_M_braid_117 rfl rfl ?_
      refine ev_iload_n 2 d_M_braid_120 rfl rfl ?_
      refine ev_iald d_M_braid_121 rfl (vp_in_nI (by omega) (by omega)) ?_
      rw [nI_clamp (by omega)]
      refine ev_if_le 142 d_M_braid_122 (by decide) (fun q1 => ?_) (fun q1 => ?_)
      · have h1 : ¬ 0 < mw i := fun z => absurd q1 (by rw [Int32.le_iff_toInt_le]; rw [Int32.lt_iff_toInt_lt] at z; omega)
        refine ev_aload_n 0 d_M_braid_142 rfl rfl ?_
        refine ev_iload_n 2 d_M_braid_143 rfl rfl ?_
        refine ev_iload d_M_braid_144 rfl ?_
        refine ev_iload d_M_braid_146 rfl ?_
        refine ev_iload d_M_braid_148 rfl ?_
        refine ev_iload d_M_braid_150 rfl ?_
        refine ev_iconst (v := 0) d_M_braid_152 (by decide) ?_
        refine ev_callV M_M_put [_, _, _, _, _, _] (sp_M_put (x := i) (by omega) _ _ _ _ false) c_M_59 d_M_braid_153 rfl rfl (by decide) (Nat.le_of_ble_eq_true rfl) ⟨rfl, rfl⟩ rfl ?_
        exact fin _ _ (by unfold wvM; rw [ha, if_neg h1, decide_eq_false h1])
      · have h1 : 0 < mw i := by rw [Int32.lt_iff_toInt_lt]; rw [Int32.le_iff_toInt_le] at q1; omega
        refine ev_aload_n 0 d_M_braid_125 rfl rfl ?_
        refine ev_iload_n 2 d_M_braid_126 rfl rfl ?_
        refine ev_iload d_M_braid_127 rfl ?_
        refine ev_iload d_M_braid_129 rfl ?_
        refine ev_iload d_M_braid_131 rfl ?_
        refine ev_iload d_M_braid_133 rfl ?_
        refine ev_iconst (v := 1) d_M_braid_135 (by decide) ?_
        refine ev_callV M_M_put [_, _, _, _, _, _] (sp_M_put (x := i) (by omega) _ _ _ _ true) c_M_59 d_M_braid_136 rfl rfl (by decide) (Nat.le_of_ble_eq_true rfl) ⟨rfl, rfl⟩ rfl ?_
        refine ev_goto 156 d_M_braid_139 (by decide) ?_
        exact fin _ _ (by unfold wvM; rw [ha, if_pos h1, decide_eq_true h1])
theorem lp_M_braid3 {nn : Nat} (hnn : nn ≤ 4) (hml : ml ≤ 8) (hw : wOM mw ml) : ∀ k i (mx : Nat → Int32), i + k = nn + 1 → Ev M_M_braid none (some (.int (zb true))) (kM X ((bmC ml (itN (wvM mw nn) 0 ml (me, mp, piI mx i k)).2.2 (itN (wvM mw nn) 0 ml (me, mp, piI mx i k)).1 nn).1) ((itN (wvM mw nn) 0 ml (me, mp, piI mx i k)).2.1) (ml) md ((bmC ml (itN (wvM mw nn) 0 ml (me, mp, piI mx i k)).2.2 (itN (wvM mw nn) 0 ml (me, mp, piI mx i k)).1 nn).2) mw (0) mv my mt ms mq mh ma mz mk mn mr ((itN (wvM mw nn) 0 ml (me, mp, piI mx i k)).2.2)) 45 [(0, .ref 25), (1, .int (nI nn)), (2, .int (nI i))] [] (kM X me mp mc md mo mw ml mv my mt ms mq mh ma mz mk mn mr mx) 0 0 := by
  intro k
  induction k with
  | zero =>
    intro i mx hi
    have e0 : piI mx i 0 = mx := by rw [piI]
    rw [e0]
    refine ev_iload_n 2 d_M_braid_45 rfl rfl ?_
    refine ev_iload_n 1 d_M_braid_46 rfl rfl ?_
    refine ev_icmp_gt 63 d_M_braid_47 (by decide) (fun q0 => ?_) (fun q0 => ?_)
    · refine ev_iconst (v := 0) d_M_braid_63 (by decide) ?_
      refine ev_istore_n 2 d_M_braid_64 rfl (Nat.le_of_ble_eq_true rfl) rfl ?_
      exact lp_M_braid4 hnn hml hw ml 0 me mp mx (by omega)
    · exact absurd (nI_lt (by omega) (by omega)) q0
  | succ k ih =>
    intro i mx hi
    have e0 : piI mx i (k + 1) = piI (upd mx i (nI i)) (i + 1) k := by rw [piI]
    rw [e0]
    refine ev_iload_n 2 d_M_braid_45 rfl rfl ?_
    refine ev_iload_n 1 d_M_braid_46 rfl rfl ?_
    refine ev_icmp_gt 63 d_M_braid_47 (by decide) (fun q0 => ?_) (fun q0 => ?_)
    · exact absurd q0 (nI_nlt (by omega) (by omega))
    · refine ev_aload_n 0 d_M_braid_50 rfl rfl ?_
      refine ev_get f_M_49 d_M_braid_51 rfl rfl ?_
      refine ev_iload_n 2 d_M_braid_54 rfl rfl ?_
      refine ev_iload_n 2 d_M_braid_55 rfl rfl ?_
      refine ev_iast d_M_braid_56 rfl (vp_in_nI (by omega) (by omega)) ?_
      refine ev_iinc (v := _ + 1) d_M_braid_57 rfl rfl (Nat.le_of_ble_eq_true rfl) rfl ?_
      rw [nI_clamp (by omega), nI_1]
      refine ev_goto 45 d_M_braid_60 (by decide) ?_
      exact ih (i + 1) (upd mx i (nI i)) (by omega)
theorem lp_M_braid2 {x : Int32} (hml : ml ≤ 8) {r : Option Value} {wf : zW} (ky : wBeM mw x 0 ml = true → Ev M_M_braid none r wf 43 [(0, .ref 25), (1, .int x), (2, .int (nI ml))] [] (kM X me mp mc md mo mw ml mv my mt ms mq mh ma mz mk mn mr mx) 0 0) (kn : wBeM mw x 0 ml = false → ∀ v : Int32, Ev M_M_braid none r wf 35 [(0, .ref 25), (1, .int x), (2, .int v)] [] (kM X me mp mc md mo mw ml mv my mt ms mq mh ma mz mk mn mr mx) 0 0) : ∀ k i, i + k = ml → wBeM mw x 0 ml = wBeM mw x i k → Ev M_M_braid none r wf 14 [(0, .ref 25), (1, .int x), (2, .int (nI i))] [] (kM X me mp mc md mo mw ml mv my mt ms mq mh ma mz mk mn mr mx) 0 0 := by
  intro k
  induction k with
  | zero =>
    intro i hi hb
    refine ev_iload_n 2 d_M_braid_14 rfl rfl ?_
    refine ev_aload_n 0 d_M_braid_15 rfl rfl ?_
    refine ev_get f_M_107 d_M_braid_16 rfl rfl ?_
    refine ev_icmp_ge 43 d_M_braid_19 (by decide) (fun q0 => ?_) (fun q0 => ?_)
    · rw [show i = ml by omega]
      exact ky (by rw [hb, wBeM])
    · exact absurd (nI_le (by omega) (by omega)) q0
  | succ k ih =>
    intro i hi hb
    refine ev_iload_n 2 d_M_braid_14 rfl rfl ?_
    refine ev_aload_n 0 d_M_braid_15 rfl rfl ?_
    refine ev_get f_M_107 d_M_braid_16 rfl rfl ?_
    refine ev_icmp_ge 43 d_M_braid_19 (by decide) (fun q0 => ?_) (fun q0 => ?_)
    · exact absurd q0 (nI_ge (by omega) (by omega))
    · refine ev_aload_n 0 d_M_braid_22 rfl rfl ?_
      refine ev_get f_M_21 d_M_braid_23 rfl rfl ?_
      refine ev_iload_n 2 d_M_braid_26 rfl rfl ?_
      refine ev_iald d_M_braid_27 rfl (vp_in_nI (by omega) (by omega)) ?_
      rw [nI_clamp (by omega)]
      refine ev_callS M_M_size [_] (sp_M_size _ _) c_M_110 d_M_braid_28 rfl (by decide) (Nat.le_of_ble_eq_true rfl) ⟨rfl, rfl⟩ rfl ?_
      refine ev_iload_n 1 d_M_braid_31 rfl rfl ?_
      refine ev_icmp_lt 37 d_M_braid_32 (by decide) (fun q1 => ?_) (fun q1 => ?_)
      · refine ev_iinc (v := _ + 1) d_M_braid_37 rfl rfl (Nat.le_of_ble_eq_true rfl) rfl ?_
        rw [nI_1]
        refine ev_goto 14 d_M_braid_40 (by decide) ?_
        exact ih (i + 1) (by omega) (by rw [hb, wBeM, if_pos q1])
      · exact kn (by rw [hb, wBeM, if_neg q1]) _
theorem sp_M_braid_no {x : Int32} (hl : ml ≤ 8) (h : ¬ (¬ x < 1 ∧ x ≤ 4 ∧ wBeM mw x 0 ml = true)) : Sp M_M_braid [.ref 25, .int x] (kM X me mp mc md mo mw ml mv my mt ms mq mh ma mz mk mn mr mx) (some (.int (zb false))) (kM X me mp mc md mo mw ml mv my mt ms mq mh ma mz mk mn mr mx) := by
  refine Sp.of (by decide) (Nat.le_of_ble_eq_true rfl) ?_
  refine ev_iload_n 1 d_M_braid_0 rfl rfl ?_
  refine ev_iconst (v := 1) d_M_braid_1 (by decide) ?_
  refine ev_icmp_lt 10 d_M_braid_2 (by decide) (fun h1 => ?_) (fun h1 => ?_)
  · refine ev_iconst (v := 0) d_M_braid_10 (by decide) ?_
    exact ev_iret d_M_braid_11 rfl zr0 (Nat.le_of_ble_eq_true rfl) (Nat.le_of_ble_eq_true rfl)
  · refine ev_iload_n 1 d_M_braid_5 rfl rfl ?_
    refine ev_iconst (v := 4) d_M_braid_6 (by decide) ?_
    refine ev_icmp_le 12 d_M_braid_7 (by decide) (fun h2 => ?_) (fun h2 => ?_)
    · refine ev_iconst (v := 0) d_M_braid_12 (by decide) ?_
      refine ev_istore_n 2 d_M_braid_13 rfl (Nat.le_of_ble_eq_true rfl) rfl ?_
      refine lp_M_braid2 hl (fun hb => absurd ⟨h1, h2, hb⟩ h) (fun _ v => ?_) ml 0 (by omega) rfl
      refine ev_iconst (v := 0) d_M_braid_35 (by decide) ?_
      exact ev_iret d_M_braid_36 rfl zr0 (Nat.le_of_ble_eq_true rfl) (Nat.le_of_ble_eq_true rfl)
    · refine ev_iconst (v := 0) d_M_braid_10 (by decide) ?_
      exact ev_iret d_M_braid_11 rfl zr0 (Nat.le_of_ble_eq_true rfl) (Nat.le_of_ble_eq_true rfl)
theorem sp_M_braid {nn : Nat} (h1 : 1 ≤ nn) (hnn : nn ≤ 4) (hml : ml ≤ 8) (hw : wOM mw ml) (hb : wBeM mw (nI nn) 0 ml = true) : Sp M_M_braid [.ref 25, .int (nI nn)] (kM X me mp mc md mo mw ml mv my mt ms mq mh ma mz mk mn mr mx) (some (.int (zb true))) (kM X ((bmC ml (bmW mw me mp mx nn ml).2.2 (bmW mw me mp mx nn ml).1 nn).1) ((bmW mw me mp mx nn ml).2.1) (ml) md ((bmC ml (bmW mw me mp mx nn ml).2.2 (bmW mw me mp mx nn ml).1 nn).2) mw (0) mv my mt ms mq mh ma mz mk mn mr ((bmW mw me mp mx nn ml).2.2)) := by
  refine Sp.of (by decide) (Nat.le_of_ble_eq_true rfl) ?_
  refine ev_iload_n 1 d_M_braid_0 rfl rfl ?_
  refine ev_iconst (v := 1) d_M_braid_1 (by decide) ?_
  refine ev_icmp_lt 10 d_M_braid_2 (by decide) (fun q1 => ?_) (fun q1 => ?_)
  · exact absurd q1 (nI_nlt (a := nn) (b := 1) h1 (by omega))
  · refine ev_iload_n 1 d_M_braid_5 rfl rfl ?_
    refine ev_iconst (v := 4) d_M_braid_6 (by decide) ?_
    refine ev_icmp_le 12 d_M_braid_7 (by decide) (fun q2 => ?_) (fun q2 => ?_)
    · refine ev_iconst (v := 0) d_M_braid_12 (by decide) ?_
      refine ev_istore_n 2 d_M_braid_13 rfl (Nat.le_of_ble_eq_true rfl) rfl ?_
      refine lp_M_braid2 hml (fun _ => ?_) (fun h => by rw [hb] at h; cases h) ml 0 (by omega) rfl
      refine ev_iconst (v := 1) d_M_braid_43 (by decide) ?_
      refine ev_istore_n 2 d_M_braid_44 rfl (Nat.le_of_ble_eq_true rfl) rfl ?_
      exact lp_M_braid3 hnn hml hw nn 1 mx (by omega)
    · exact absurd (nI_le (b := 4) hnn (by omega)) q2
end Md
