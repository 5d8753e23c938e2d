theorem fcB_le {nx : Nat → Nat} {h : Nat} : ∀ k j b, fcB nx h k j b ≤ b := by
  intro k
  induction k with
  | zero => intro j b; rw [fcB]; omega
  | succ k ih =>
    intro j b
    rw [fcB]
    split
    · omega
    · have := ih (nx j) (if j < b then j else b)
      by_cases h5 : j < b
      · rw [if_pos h5] at this ⊢; omega
      · rw [if_neg h5] at this ⊢; omega
theorem faM_le {o : Nat → Nat} {h : Nat} : faM o h ≤ h := fcB_le _ _ _
theorem oM_or {me : Nat → Int32} {h a b : Nat} : ∀ k j fd c, a ≤ j → j + k ≤ b → (fd = -1 ∨ ∃ x, a ≤ x ∧ x < b ∧ fd = nI x) → (oM me h j k fd c = -1 ∨ ∃ x, a ≤ x ∧ x < b ∧ oM me h j k fd c = nI x) := by
  intro k
  induction k with
  | zero =>
    intro j fd c _ _ hf
    rw [oM]
    split
    · exact hf
    · exact Or.inl rfl
  | succ k ih =>
    intro j fd c h1 h2 hf
    rw [oM]
    split
    · exact ih (j + 1) (nI j) (c + 1) (by omega) (by omega) (Or.inr ⟨j, by omega, by omega, rfl⟩)
    · exact ih (j + 1) fd c (by omega) (by omega) hf
theorem oMI_or (me : Nat → Int32) (v y h : Nat) : oMI me v y h = -1 ∨ ∃ x, v ≤ x ∧ x < v + 4 * y ∧ oMI me v y h = nI x := oM_or _ _ _ _ (Nat.le_refl _) (Nat.le_refl _) (Or.inl rfl)
def rea (o : Nat → Nat) (mt : Nat → Int32) (h : Nat) : Bool := decide (¬ mt (h / 4 * 4) = 0) || decide (¬ mt (h / 4 * 4 + 1) = 0) || decide (¬ mt (h / 4 * 4 + 2) = 0) || decide (¬ mt (h / 4 * 4 + 3) = 0) || decide (¬ mt (o h) = 0)
def spS (o : Nat → Nat) (h : Nat) (S : (Nat → Int32) × Bool) : (Nat → Int32) × Bool := if rea o S.1 h = true ∧ S.1 h = 0 then (upd S.1 h 1, true) else S
def spO (o : Nat → Nat) (v y : Nat) : Nat → (Nat → Int32) → Option (Nat → Int32)
  | 0, _ => none
  | k + 1, mt => if (itN (spS o) v (4 * y) (mt, false)).2 = true then spO o v y k (itN (spS o) v (4 * y) (mt, false)).1 else some (itN (spS o) v (4 * y) (mt, false)).1
def pcM (o : Nat → Nat) (v y K : Nat) : Nat → Nat → (Nat → Int32) → Nat → Option (Nat × (Nat → Int32))
  | _, 0, mt, c => some (c, mt)
  | x, k + 1, mt, c => if mt (4 * x) = 0 then (match spO o v y K (upd mt (4 * x) 1) with
      | none => none
      | some mt' => pcM o v y K (x + 1) k mt' (c + 1)) else pcM o v y K (x + 1) k mt c
def clM (mt : Nat → Int32) : Nat → Int32 := fun t => if t < 64 then 0 else mt t
theorem vz0 : vp_nar .boolean 0 = 0 := by decide
theorem vz1 : vp_nar .boolean 1 = 1 := by decide
section Md
variable {X : Nat → zE} {me mp : Nat → Int32} {mc md mo : Nat} {mw : Nat → Int32} {ml mv my : Nat} {mt : Nat → Int32} {ms mq mh : Nat → Int64} {ma : Nat → Int32} {mz : Nat} {mk mn : Nat → Int32} {mr : Nat → Int64} {mx : Nat → Int32}
theorem lp_M_faces (hv : mv + 4 * my ≤ 64) (h4 : mv % 4 = 0) {o : Nat → Nat} (hw : win me mv my o) (hr : ∀ h, mv ≤ h → h < mv + 4 * my → rch (fM o) h 64 (fM o h)) : ∀ k h c, h + k = mv + 4 * my → mv ≤ h → Ev M_M_faces none (some (.int (nI (fcN (faM o) h k c)))) (kM X me mp mc md mo mw ml mv my mt ms mq mh ma mz mk mn mr mx) 7 [(0, .ref 25), (1, .int (nI c)), (2, .int (nI h))] [] (kM X me mp mc md mo mw ml mv my mt ms mq mh ma mz mk mn mr mx) 0 0 := by
  intro k
  induction k with
  | zero =>
    intro h c hh hm
    have e0 : fcN (faM o) h 0 c = c := by rw [fcN]
    rw [e0]
    refine ev_iload_n 2 d_M_faces_7 rfl rfl ?_
    refine ev_aload_n 0 d_M_faces_8 rfl rfl ?_
    refine ev_get f_M_63 d_M_faces_9 rfl rfl ?_
    refine ev_iconst (v := 4) d_M_faces_12 (by decide) ?_
    refine ev_aload_n 0 d_M_faces_13 rfl rfl ?_
    refine ev_get f_M_69 d_M_faces_14 rfl rfl ?_
    refine ev_imul d_M_faces_17 ?_
    rw [z_m4]
    refine ev_iadd d_M_faces_18 ?_
    rw [nI_add]
    refine ev_icmp_ge 45 d_M_faces_19 (by decide) (fun q0 => ?_) (fun q0 => ?_)
    · refine ev_iload_n 1 d_M_faces_45 rfl rfl ?_
      exact ev_iret d_M_faces_46 rfl rfl (Nat.le_of_ble_eq_true rfl) (Nat.le_of_ble_eq_true rfl)
    · exact absurd (nI_le (by omega) (by omega)) q0
  | succ k ih =>
    intro h c hh hm
    have hle := faM_le (o := o) (h := h)
    have e0 : fcN (faM o) h (k + 1) c = fcN (faM o) (h + 1) k (if faM o h = h then c + 1 else c) := by rw [fcN]
    rw [e0]
    have k2 : ∀ c' : Nat, c' = (if faM o h = h then c + 1 else c) → Ev M_M_faces none (some (.int (nI (fcN (faM o) (h + 1) k (if faM o h = h then c + 1 else c))))) (kM X me mp mc md mo mw ml mv my mt ms mq mh ma mz mk mn mr mx) 38 [(0, .ref 25), (1, .int (nI c)), (2, .int (nI h))] [.int (nI c')] (kM X me mp mc md mo mw ml mv my mt ms mq mh ma mz mk mn mr mx) 0 0 := by
      intro c' hc
      rw [← hc]
      refine ev_istore_n 1 d_M_faces_38 rfl (Nat.le_of_ble_eq_true rfl) rfl ?_
      refine ev_iinc (v := _ + 1) d_M_faces_39 rfl rfl (Nat.le_of_ble_eq_true rfl) rfl ?_
      rw [nI_1]
      refine ev_goto 7 d_M_faces_42 (by decide) ?_
      exact ih (h + 1) c' (by omega) (by omega)
    refine ev_iload_n 2 d_M_faces_7 rfl rfl ?_
    refine ev_aload_n 0 d_M_faces_8 rfl rfl ?_
    refine ev_get f_M_63 d_M_faces_9 rfl rfl ?_
    refine ev_iconst (v := 4) d_M_faces_12 (by decide) ?_
    refine ev_aload_n 0 d_M_faces_13 rfl rfl ?_
    refine ev_get f_M_69 d_M_faces_14 rfl rfl ?_
    refine ev_imul d_M_faces_17 ?_
    rw [z_m4]
    refine ev_iadd d_M_faces_18 ?_
    rw [nI_add]
    refine ev_icmp_ge 45 d_M_faces_19 (by decide) (fun q0 => ?_) (fun q0 => ?_)
    · exact absurd q0 (nI_ge (by omega) (by omega))
    · refine ev_aload_n 0 d_M_faces_22 rfl rfl ?_
      refine ev_iload_n 2 d_M_faces_23 rfl rfl ?_
      refine ev_callV M_M_face [_] (sp_M_face hv h4 hw hm (by omega) (hr h hm (by omega))) c_M_82 d_M_faces_24 rfl rfl (by decide) (Nat.le_of_ble_eq_true rfl) ⟨rfl, rfl⟩ rfl ?_
      refine ev_iload_n 2 d_M_faces_27 rfl rfl ?_
      refine ev_icmp_ne 37 d_M_faces_28 (by decide) (fun q1 => ?_) (fun q1 => ?_)
      · refine ev_iload_n 1 d_M_faces_37 rfl rfl ?_
        exact k2 c (by rw [if_neg (fun w => q1 (by rw [w]))])
      · refine ev_iload_n 1 d_M_faces_31 rfl rfl ?_
        refine ev_iconst (v := 1) d_M_faces_32 (by decide) ?_
        refine ev_iadd d_M_faces_33 ?_
        rw [nI_1]
        refine ev_goto 38 d_M_faces_34 (by decide) ?_
        exact k2 (c + 1) (by rw [if_pos ((nI_eq (by omega) (by omega)).mp q1)])
theorem sp_M_faces (hv : mv + 4 * my ≤ 64) (h4 : mv % 4 = 0) {o : Nat → Nat} (hw : win me mv my o) (hr : ∀ h, mv ≤ h → h < mv + 4 * my → rch (fM o) h 64 (fM o h)) : Sp M_M_faces [.ref 25] (kM X me mp mc md mo mw ml mv my mt ms mq mh ma mz mk mn mr mx) (some (.int (nI (fcN (faM o) mv (4 * my) 0)))) (kM X me mp mc md mo mw ml mv my mt ms mq mh ma mz mk mn mr mx) := by
  refine Sp.of (by decide) (Nat.le_of_ble_eq_true rfl) ?_
  refine ev_iconst (v := 0) d_M_faces_0 (by decide) ?_
  refine ev_istore_n 1 d_M_faces_1 rfl (Nat.le_of_ble_eq_true rfl) rfl ?_
  refine ev_aload_n 0 d_M_faces_2 rfl rfl ?_
  refine ev_get f_M_63 d_M_faces_3 rfl rfl ?_
  refine ev_istore_n 2 d_M_faces_6 rfl (Nat.le_of_ble_eq_true rfl) rfl ?_
  exact lp_M_faces hv h4 hw hr (4 * my) mv 0 (by omega) (by omega)
theorem lp_M_fit (hv : mv + 4 * my ≤ 64) : ∀ k h, h + k = mv + 4 * my → mv ≤ h → Ev M_M_fit none (some (.int (zb (ftM me mp mv my h k)))) (kM X me mp mc md mo mw ml mv my mt ms mq mh ma mz mk mn mr mx) 5 [(0, .ref 25), (1, .int (nI h))] [] (kM X me mp mc md mo mw ml mv my mt ms mq mh ma mz mk mn mr mx) 0 0 := by
  intro k
  induction k with
  | zero =>
    intro h hh hm
    have e0 : ftM me mp mv my h 0 = true := by rw [ftM]
    rw [e0]
    refine ev_iload_n 1 d_M_fit_5 rfl rfl ?_
    refine ev_aload_n 0 d_M_fit_6 rfl rfl ?_
    refine ev_get f_M_63 d_M_fit_7 rfl rfl ?_
    refine ev_iconst (v := 4) d_M_fit_10 (by decide) ?_
    refine ev_aload_n 0 d_M_fit_11 rfl rfl ?_
    refine ev_get f_M_69 d_M_fit_12 rfl rfl ?_
    refine ev_imul d_M_fit_15 ?_
    rw [z_m4]
    refine ev_iadd d_M_fit_16 ?_
    rw [nI_add]
    refine ev_icmp_ge 51 d_M_fit_17 (by decide) (fun q0 => ?_) (fun q0 => ?_)
    · refine ev_iconst (v := 1) d_M_fit_51 (by decide) ?_
      exact ev_iret d_M_fit_52 rfl zr1 (Nat.le_of_ble_eq_true rfl) (Nat.le_of_ble_eq_true rfl)
    · exact absurd (nI_le (by omega) (by omega)) q0
  | succ k ih =>
    intro h hh hm
    refine ev_iload_n 1 d_M_fit_5 rfl rfl ?_
    refine ev_aload_n 0 d_M_fit_6 rfl rfl ?_
    refine ev_get f_M_63 d_M_fit_7 rfl rfl ?_
    refine ev_iconst (v := 4) d_M_fit_10 (by decide) ?_
    refine ev_aload_n 0 d_M_fit_11 rfl rfl ?_
    refine ev_get f_M_69 d_M_fit_12 rfl rfl ?_
    refine ev_imul d_M_fit_15 ?_
    rw [z_m4]
    refine ev_iadd d_M_fit_16 ?_
    rw [nI_add]
    refine ev_icmp_ge 51 d_M_fit_17 (by decide) (fun q0 => ?_) (fun q0 => ?_)
    · exact absurd q0 (nI_ge (by omega) (by omega))
    · refine ev_aload_n 0 d_M_fit_20 rfl rfl ?_
      refine ev_iload_n 1 d_M_fit_21 rfl rfl ?_
      refine ev_callV M_M_other [_] (sp_M_other hv (by omega)) c_M_72 d_M_fit_22 rfl rfl (by decide) (Nat.le_of_ble_eq_true rfl) ⟨rfl, rfl⟩ rfl ?_
      refine ev_istore_n 2 d_M_fit_25 rfl (Nat.le_of_ble_eq_true rfl) rfl ?_
      refine ev_iload_n 2 d_M_fit_26 rfl rfl ?_
      refine ev_if_lt 43 d_M_fit_27 (by decide) (fun q1 => ?_) (fun q1 => ?_)
      · have e0 : ftM me mp mv my h (k + 1) = false := by rw [ftM, if_pos (Or.inl q1)]
        rw [e0]
        refine ev_iconst (v := 0) d_M_fit_43 (by decide) ?_
        exact ev_iret d_M_fit_44 rfl zr0 (Nat.le_of_ble_eq_true rfl) (Nat.le_of_ble_eq_true rfl)
      · rcases oMI_or me mv my h with e1 | ⟨x, x1, x2, e1⟩
        · rw [e1] at q1
          exact absurd (by decide) q1
        · have e2 : (oMI me mv my h).toNatClampNeg = x := by rw [e1, nI_clamp (by omega)]
          rw [e1]
          refine ev_aload_n 0 d_M_fit_30 rfl rfl ?_
          refine ev_iload_n 2 d_M_fit_31 rfl rfl ?_
          refine ev_callV M_M_in [_] (sp_M_in (h := x) (by omega)) c_M_76 d_M_fit_32 rfl rfl (by decide) (Nat.le_of_ble_eq_true rfl) ⟨rfl, rfl⟩ rfl ?_
          refine ev_aload_n 0 d_M_fit_35 rfl rfl ?_
          refine ev_iload_n 1 d_M_fit_36 rfl rfl ?_
          refine ev_callV M_M_in [_] (sp_M_in (h := h) (by omega)) c_M_76 d_M_fit_37 rfl rfl (by decide) (Nat.le_of_ble_eq_true rfl) ⟨rfl, rfl⟩ rfl ?_
          refine ev_icmp_ne 45 d_M_fit_40 (by decide) (fun q2 => ?_) (fun q2 => ?_)
          · have e0 : ftM me mp mv my h (k + 1) = ftM me mp mv my (h + 1) k := by
              rw [ftM, if_neg]
              intro w
              rcases w with w | w
              · exact q1 w
              · rw [e2] at w
                exact q2 (by rw [w])
            rw [e0]
            refine ev_iinc (v := _ + 1) d_M_fit_45 rfl rfl (Nat.le_of_ble_eq_true rfl) rfl ?_
            rw [nI_1]
            refine ev_goto 5 d_M_fit_48 (by decide) ?_
            exact ev_drop (lv' := [(0, .ref 25), (1, .int (nI (h + 1)))]) (ext := [_]) (ih (h + 1) (by omega) (by omega))
          · have e0 : ftM me mp mv my h (k + 1) = false := by
              rw [ftM, if_pos (Or.inr ?_)]
              rw [e2]
              exact (zb_eq _ _).mp q2
            rw [e0]
            refine ev_iconst (v := 0) d_M_fit_43 (by decide) ?_
            exact ev_iret d_M_fit_44 rfl zr0 (Nat.le_of_ble_eq_true rfl) (Nat.le_of_ble_eq_true rfl)
theorem sp_M_fit (hv : mv + 4 * my ≤ 64) : Sp M_M_fit [.ref 25] (kM X me mp mc md mo mw ml mv my mt ms mq mh ma mz mk mn mr mx) (some (.int (zb (ftM me mp mv my mv (4 * my))))) (kM X me mp mc md mo mw ml mv my mt ms mq mh ma mz mk mn mr mx) := by
  refine Sp.of (by decide) (Nat.le_of_ble_eq_true rfl) ?_
  refine ev_aload_n 0 d_M_fit_0 rfl rfl ?_
  refine ev_get f_M_63 d_M_fit_1 rfl rfl ?_
  refine ev_istore_n 1 d_M_fit_4 rfl (Nat.le_of_ble_eq_true rfl) rfl ?_
  exact lp_M_fit hv (4 * my) mv (by omega) (by omega)
theorem lp_M_clear : ∀ k i (mt : Nat → Int32), i + k = 64 → Ev M_M_clear none none (kM X me mp mc md mo mw ml mv my ((fun t => if i ≤ t ∧ t < 64 then 0 else mt t)) ms mq mh ma mz mk mn mr mx) 2 [(0, .ref 25), (1, .int (nI i))] [] (kM X me mp mc md mo mw ml mv my mt ms mq mh ma mz mk mn mr mx) 0 0 := by
  intro k
  induction k with
  | zero =>
    intro i mt hi
    have e1 : (fun t => if i ≤ t ∧ t < 64 then 0 else mt t) = mt := by
      funext t
      rw [if_neg (by omega)]
    rw [e1]
    refine ev_iload_n 1 d_M_clear_2 rfl rfl ?_
    refine ev_bipush (v := 64) d_M_clear_3 (by decide) ?_
    refine ev_icmp_ge 21 d_M_clear_5 (by decide) (fun h => ?_) (fun h => ?_)
    · exact ev_ret d_M_clear_21 rfl (Nat.le_of_ble_eq_true rfl) (Nat.le_of_ble_eq_true rfl)
    · exact absurd (nI_le (a := 64) (b := i) (by omega) (by omega)) h
  | succ k ih =>
    intro i mt hi
    refine ev_iload_n 1 d_M_clear_2 rfl rfl ?_
    refine ev_bipush (v := 64) d_M_clear_3 (by decide) ?_
    refine ev_icmp_ge 21 d_M_clear_5 (by decide) (fun h => ?_) (fun h => ?_)
    · exact absurd h (nI_ge (b := 64) (by omega) (by omega))
    · refine ev_aload_n 0 d_M_clear_8 rfl rfl ?_
      refine ev_get f_M_24 d_M_clear_9 rfl rfl ?_
      refine ev_iload_n 1 d_M_clear_12 rfl rfl ?_
      refine ev_iconst (v := 0) d_M_clear_13 (by decide) ?_
      refine ev_zast d_M_clear_14 rfl (vp_in_nI (by omega) (by omega)) ?_
      refine ev_iinc (v := _ + 1) d_M_clear_15 rfl rfl (Nat.le_of_ble_eq_true rfl) rfl ?_
      rw [nI_clamp (by omega), nI_1, vz0]
      refine ev_goto 2 d_M_clear_18 (by decide) ?_
      have h4 := ih (i + 1) (upd mt i 0) (by omega)
      have e1 : (fun t => if i + 1 ≤ t ∧ t < 64 then 0 else upd mt i 0 t) = (fun t => if i ≤ t ∧ t < 64 then 0 else mt t) := by
        funext t
        by_cases h5 : t = i
        · subst h5
          rw [if_neg (by omega), if_pos (by omega)]
          exact pk_us
        · rw [pk_un h5]
          by_cases h6 : i + 1 ≤ t ∧ t < 64
          · rw [if_pos h6, if_pos (by omega)]
          · rw [if_neg h6, if_neg (by omega)]
      rw [e1] at h4
      exact h4
theorem sp_M_clear : Sp M_M_clear [.ref 25] (kM X me mp mc md mo mw ml mv my mt ms mq mh ma mz mk mn mr mx) none (kM X me mp mc md mo mw ml mv my (clM mt) ms mq mh ma mz mk mn mr mx) := by
  refine Sp.of (by decide) (Nat.le_of_ble_eq_true rfl) ?_
  refine ev_iconst (v := 0) d_M_clear_0 (by decide) ?_
  refine ev_istore_n 1 d_M_clear_1 rfl (Nat.le_of_ble_eq_true rfl) rfl ?_
  have h1 := lp_M_clear (X := X) (me := me) (mp := mp) (mc := mc) (md := md) (mo := mo) (mw := mw) (ml := ml) (mv := mv) (my := my) (ms := ms) (mq := mq) (mh := mh) (ma := ma) (mz := mz) (mk := mk) (mn := mn) (mr := mr) (mx := mx) 64 0 mt (by omega)
  have e1 : (fun t => if 0 ≤ t ∧ t < 64 then 0 else mt t) = clM mt := by
    funext t
    unfold clM
    congr 1
    simp
  rw [e1] at h1
  exact h1
theorem lp_M_spread1 (hv : mv + 4 * my ≤ 64) (h4 : mv % 4 = 0) {o : Nat → Nat} (hw : win me mv my o) (x : Int32) {r : Option Value} {wf : zW} : ∀ k h (mt : Nat → Int32) (b : Bool), h + k = mv + 4 * my → mv ≤ h → (∀ (mt' : Nat → Int32) (b' : Bool), (mt', b') = itN (spS o) h k (mt, b) → Ev M_M_spread none r wf 11 [(0, .ref 25), (1, .int x), (2, .int (zb b'))] [] (kM X me mp mc md mo mw ml mv my (mt') ms mq mh ma mz mk mn mr mx) 0 0) → Ev M_M_spread none r wf 22 [(0, .ref 25), (1, .int x), (2, .int (zb b)), (3, .int (nI h))] [] (kM X me mp mc md mo mw ml mv my mt ms mq mh ma mz mk mn mr mx) 0 0 := by
  intro k
  induction k with
  | zero =>
    intro h mt b hh hm kk
    have k1 := kk mt b (by rw [itN_0])
    refine ev_iload_n 3 d_M_spread_22 rfl rfl ?_
    refine ev_aload_n 0 d_M_spread_23 rfl rfl ?_
    refine ev_get f_M_63 d_M_spread_24 rfl rfl ?_
    refine ev_iconst (v := 4) d_M_spread_27 (by decide) ?_
    refine ev_aload_n 0 d_M_spread_28 rfl rfl ?_
    refine ev_get f_M_69 d_M_spread_29 rfl rfl ?_
    refine ev_imul d_M_spread_32 ?_
    rw [z_m4]
    refine ev_iadd d_M_spread_33 ?_
    rw [nI_add]
    refine ev_icmp_ge 139 d_M_spread_34 (by decide) (fun q0 => ?_) (fun q0 => ?_)
    · refine ev_goto 11 d_M_spread_139 (by decide) ?_
      exact ev_drop (lv' := [(0, .ref 25), (1, .int x), (2, .int (zb b))]) (ext := [_]) k1
    · exact absurd (nI_le (by omega) (by omega)) q0
  | succ k ih =>
    intro h mt b hh hm kk
    obtain ⟨a1, a2, a3⟩ := hw h hm (by omega)
    have hd : h / 4 * 4 + 3 < 64 := by omega
    -- behind the asking: R says whether it is reached
    have k3 : ∀ R : Bool, R = rea o mt h → Ev M_M_spread none r wf 108 [(0, .ref 25), (1, .int x), (2, .int (zb b)), (3, .int (nI h)), (4, .int (nI (h / 4 * 4)))] [.int (zb R)] (kM X me mp mc md mo mw ml mv my mt ms mq mh ma mz mk mn mr mx) 0 0 := by
      intro R hR
      have no : ¬ (rea o mt h = true ∧ mt h = 0) → Ev M_M_spread none r wf 133 [(0, .ref 25), (1, .int x), (2, .int (zb b)), (3, .int (nI h)), (4, .int (nI (h / 4 * 4))), (5, .int (zb R))] [] (kM X me mp mc md mo mw ml mv my mt ms mq mh ma mz mk mn mr mx) 0 0 := by
        intro hq
        refine ev_iinc (v := _ + 1) d_M_spread_133 rfl rfl (Nat.le_of_ble_eq_true rfl) rfl ?_
        rw [nI_1]
        refine ev_goto 22 d_M_spread_136 (by decide) ?_
        refine ev_drop (lv' := [(0, .ref 25), (1, .int x), (2, .int (zb b)), (3, .int (nI (h + 1)))]) (ext := [_, _]) (ih (h + 1) mt b (by omega) (by omega) (fun mt' b' e => kk mt' b' ?_))
        rw [e, itN_s]
        congr 1
        unfold spS
        rw [if_neg hq]
      refine ev_istore d_M_spread_108 (Nat.le_of_ble_eq_true rfl) rfl ?_
      refine ev_iload d_M_spread_110 rfl ?_
      refine ev_if_eq 133 d_M_spread_112 (by decide) (fun q1 => ?_) (fun q1 => ?_)
      · exact no (fun w => by rw [← hR, (zb_0 _).mp q1] at w; exact absurd w.1 (by decide))
      · refine ev_aload_n 0 d_M_spread_115 rfl rfl ?_
        refine ev_get f_M_24 d_M_spread_116 rfl rfl ?_
        refine ev_iload_n 3 d_M_spread_119 rfl rfl ?_
        refine ev_zald d_M_spread_120 rfl (vp_in_nI (by omega) (by omega)) ?_
        rw [nI_clamp (by omega)]
        refine ev_if_ne 133 d_M_spread_121 (by decide) (fun q2 => ?_) (fun q2 => ?_)
        · exact no (fun w => q2 w.2)
        · refine ev_aload_n 0 d_M_spread_124 rfl rfl ?_
          refine ev_get f_M_24 d_M_spread_125 rfl rfl ?_
          refine ev_iload_n 3 d_M_spread_128 rfl rfl ?_
          refine ev_iconst (v := 1) d_M_spread_129 (by decide) ?_
          refine ev_zast d_M_spread_130 rfl (vp_in_nI (by omega) (by omega)) ?_
          rw [nI_clamp (by omega), vz1]
          refine ev_iconst (v := 1) d_M_spread_131 (by decide) ?_
          refine ev_istore_n 2 d_M_spread_132 rfl (Nat.le_of_ble_eq_true rfl) rfl ?_
          refine ev_iinc (v := _ + 1) d_M_spread_133 rfl rfl (Nat.le_of_ble_eq_true rfl) rfl ?_
          rw [nI_1]
          refine ev_goto 22 d_M_spread_136 (by decide) ?_
          refine ev_drop (lv' := [(0, .ref 25), (1, .int x), (2, .int (zb true)), (3, .int (nI (h + 1)))]) (ext := [_, _]) (ih (h + 1) (upd mt h 1) true (by omega) (by omega) (fun mt' b' e => kk mt' b' ?_))
          rw [e, itN_s]
          congr 1
          unfold spS
          rw [if_pos ⟨by rw [← hR]; exact (zb_n0 _).mp q1, q2⟩]
    have yes : rea o mt h = true → Ev M_M_spread none r wf 103 [(0, .ref 25), (1, .int x), (2, .int (zb b)), (3, .int (nI h)), (4, .int (nI (h / 4 * 4)))] [] (kM X me mp mc md mo mw ml mv my mt ms mq mh ma mz mk mn mr mx) 0 0 := by
      intro hq
      refine ev_iconst (v := 1) d_M_spread_103 (by decide) ?_
      refine ev_goto 108 d_M_spread_104 (by decide) ?_
      exact k3 true hq.symm
    refine ev_iload_n 3 d_M_spread_22 rfl rfl ?_
    refine ev_aload_n 0 d_M_spread_23 rfl rfl ?_
    refine ev_get f_M_63 d_M_spread_24 rfl rfl ?_
    refine ev_iconst (v := 4) d_M_spread_27 (by decide) ?_
    refine ev_aload_n 0 d_M_spread_28 rfl rfl ?_
    refine ev_get f_M_69 d_M_spread_29 rfl rfl ?_
    refine ev_imul d_M_spread_32 ?_
    rw [z_m4]
    refine ev_iadd d_M_spread_33 ?_
    rw [nI_add]
    refine ev_icmp_ge 139 d_M_spread_34 (by decide) (fun q0 => ?_) (fun q0 => ?_)
    · exact absurd q0 (nI_ge (by omega) (by omega))
    · refine ev_iload_n 3 d_M_spread_37 rfl rfl ?_
      refine ev_iconst (v := 4) d_M_spread_38 (by decide) ?_
      refine ev_idiv d_M_spread_39 (by decide) ?_
      rw [z_div4 (by omega)]
      refine ev_iconst (v := 4) d_M_spread_40 (by decide) ?_
      refine ev_imul d_M_spread_41 ?_
      rw [show nI (h / 4) * (4 : Int32) = nI (h / 4 * 4) from pk_mul _ 4]
      refine ev_istore d_M_spread_42 (Nat.le_of_ble_eq_true rfl) rfl ?_
      refine ev_aload_n 0 d_M_spread_44 rfl rfl ?_
      refine ev_get f_M_24 d_M_spread_45 rfl rfl ?_
      refine ev_iload d_M_spread_48 rfl ?_
      refine ev_zald d_M_spread_50 rfl (vp_in_nI (by omega) (by omega)) ?_
      rw [nI_clamp (by omega)]
      refine ev_if_ne 103 d_M_spread_51 (by decide) (fun q1 => ?_) (fun q1 => ?_)
      · exact yes (by unfold rea; rw [decide_eq_true q1]; rfl)
      · refine ev_aload_n 0 d_M_spread_54 rfl rfl ?_
        refine ev_get f_M_24 d_M_spread_55 rfl rfl ?_
        refine ev_iload d_M_spread_58 rfl ?_
        refine ev_iconst (v := 1) d_M_spread_60 (by decide) ?_
        refine ev_iadd d_M_spread_61 ?_
        rw [nI_1]
        refine ev_zald d_M_spread_62 rfl (vp_in_nI (by omega) (by omega)) ?_
        rw [nI_clamp (by omega)]
        refine ev_if_ne 103 d_M_spread_63 (by decide) (fun q2 => ?_) (fun q2 => ?_)
        · exact yes (by unfold rea; rw [decide_eq_true q2, Bool.or_true]; rfl)
        · refine ev_aload_n 0 d_M_spread_66 rfl rfl ?_
          refine ev_get f_M_24 d_M_spread_67 rfl rfl ?_
          refine ev_iload d_M_spread_70 rfl ?_
          refine ev_iconst (v := 2) d_M_spread_72 (by decide) ?_
          refine ev_iadd d_M_spread_73 ?_
          rw [z_p2]
          refine ev_zald d_M_spread_74 rfl (vp_in_nI (by omega) (by omega)) ?_
          rw [nI_clamp (by omega)]
          refine ev_if_ne 103 d_M_spread_75 (by decide) (fun q3 => ?_) (fun q3 => ?_)
          · exact yes (by unfold rea; rw [decide_eq_true q3, Bool.or_true]; rfl)
          · refine ev_aload_n 0 d_M_spread_78 rfl rfl ?_
            refine ev_get f_M_24 d_M_spread_79 rfl rfl ?_
            refine ev_iload d_M_spread_82 rfl ?_
            refine ev_iconst (v := 3) d_M_spread_84 (by decide) ?_
            refine ev_iadd d_M_spread_85 ?_
            rw [z_p3]
            refine ev_zald d_M_spread_86 rfl (vp_in_nI (by omega) (by omega)) ?_
            rw [nI_clamp (by omega)]
            refine ev_if_ne 103 d_M_spread_87 (by decide) (fun q4 => ?_) (fun q4 => ?_)
            · exact yes (by unfold rea; rw [decide_eq_true q4, Bool.or_true]; rfl)
            · refine ev_aload_n 0 d_M_spread_90 rfl rfl ?_
              refine ev_get f_M_24 d_M_spread_91 rfl rfl ?_
              refine ev_aload_n 0 d_M_spread_94 rfl rfl ?_
              refine ev_iload_n 3 d_M_spread_95 rfl rfl ?_
              refine ev_callV M_M_other [_] (sp_M_other hv (h := h) (by omega)) c_M_72 d_M_spread_96 rfl rfl (by decide) (Nat.le_of_ble_eq_true rfl) ⟨rfl, rfl⟩ rfl ?_
              rw [a1]
              refine ev_zald d_M_spread_99 rfl (vp_in_nI (by omega) (by omega)) ?_
              rw [nI_clamp (by omega)]
              refine ev_if_eq 107 d_M_spread_100 (by decide) (fun q5 => ?_) (fun q5 => ?_)
              · refine ev_iconst (v := 0) d_M_spread_107 (by decide) ?_
                refine k3 false ?_
                unfold rea
                rw [decide_eq_false (fun w => w q1), decide_eq_false (fun w => w q2), decide_eq_false (fun w => w q3), decide_eq_false (fun w => w q4), decide_eq_false (fun w => w q5)]
                rfl
              · exact yes (by unfold rea; rw [decide_eq_true q5, Bool.or_true])
theorem lp_M_spread2 (hv : mv + 4 * my ≤ 64) (h4 : mv % 4 = 0) {o : Nat → Nat} (hw : win me mv my o) (x : Int32) {mt' : Nat → Int32} : ∀ K (mt : Nat → Int32), spO o mv my K mt = some mt' → Ev M_M_spread none none (kM X me mp mc md mo mw ml mv my (mt') ms mq mh ma mz mk mn mr mx) 11 [(0, .ref 25), (1, .int x), (2, .int (zb true))] [] (kM X me mp mc md mo mw ml mv my mt ms mq mh ma mz mk mn mr mx) 0 0 := by
  intro K
  induction K with
  | zero => intro mt h; rw [spO] at h; cases h
  | succ K ih =>
    intro mt hK
    rw [spO] at hK
    refine ev_iload_n 2 d_M_spread_11 rfl rfl ?_
    refine ev_if_eq 142 d_M_spread_12 (by decide) (fun q0 => ?_) (fun q0 => ?_)
    · exact absurd q0 (by decide)
    · refine ev_iconst (v := 0) d_M_spread_15 (by decide) ?_
      refine ev_istore_n 2 d_M_spread_16 rfl (Nat.le_of_ble_eq_true rfl) rfl ?_
      refine ev_aload_n 0 d_M_spread_17 rfl rfl ?_
      refine ev_get f_M_63 d_M_spread_18 rfl rfl ?_
      refine ev_istore_n 3 d_M_spread_21 rfl (Nat.le_of_ble_eq_true rfl) rfl ?_
      refine lp_M_spread1 hv h4 hw x (4 * my) mv mt false (by omega) (by omega) (fun m1 b1 e1 => ?_)
      rw [← e1] at hK
      cases b1 with
      | true =>
        rw [if_pos rfl] at hK
        exact ih m1 hK
      | false =>
        rw [if_neg Bool.false_ne_true] at hK
        cases hK
        refine ev_iload_n 2 d_M_spread_11 rfl rfl ?_
        refine ev_if_eq 142 d_M_spread_12 (by decide) (fun q1 => ?_) (fun q1 => ?_)
        · exact ev_ret d_M_spread_142 rfl (Nat.le_of_ble_eq_true rfl) (Nat.le_of_ble_eq_true rfl)
        · exact absurd rfl q1
theorem sp_M_spread (hv : mv + 4 * my ≤ 64) (h4 : mv % 4 = 0) {o : Nat → Nat} (hw : win me mv my o) {x : Nat} (hx : x < 16) {K : Nat} {mt' : Nat → Int32} (hK : spO o mv my K (upd mt (4 * x) 1) = some mt') : Sp M_M_spread [.ref 25, .int (nI x)] (kM X me mp mc md mo mw ml mv my mt ms mq mh ma mz mk mn mr mx) none (kM X me mp mc md mo mw ml mv my (mt') ms mq mh ma mz mk mn mr mx) := by
  refine Sp.of (by decide) (Nat.le_of_ble_eq_true rfl) ?_
  refine ev_aload_n 0 d_M_spread_0 rfl rfl ?_
  refine ev_get f_M_24 d_M_spread_1 rfl rfl ?_
  refine ev_iconst (v := 4) d_M_spread_4 (by decide) ?_
  refine ev_iload_n 1 d_M_spread_5 rfl rfl ?_
  refine ev_imul d_M_spread_6 ?_
  rw [z_m4]
  refine ev_iconst (v := 1) d_M_spread_7 (by decide) ?_
  refine ev_zast d_M_spread_8 rfl (vp_in_nI (by omega) (by omega)) ?_
  rw [nI_clamp (by omega), vz1]
  refine ev_iconst (v := 1) d_M_spread_9 (by decide) ?_
  refine ev_istore_n 2 d_M_spread_10 rfl (Nat.le_of_ble_eq_true rfl) rfl ?_
  exact lp_M_spread2 hv h4 hw (nI x) K (upd mt (4 * x) 1) hK
theorem lp_M_pieces (hv : mv + 4 * my ≤ 64) (h4 : mv % 4 = 0) {o : Nat → Nat} (hw : win me mv my o) {K : Nat} {R : Nat × (Nat → Int32)} : ∀ k x (mt : Nat → Int32) (c : Nat), x + k = mv / 4 + my → mv / 4 ≤ x → pcM o mv my K x k mt c = some R → Ev M_M_pieces none (some (.int (nI R.1))) (kM X me mp mc md mo mw ml mv my (R.2) ms mq mh ma mz mk mn mr mx) 13 [(0, .ref 25), (1, .int (nI c)), (2, .int (nI x))] [] (kM X me mp mc md mo mw ml mv my mt ms mq mh ma mz mk mn mr mx) 0 0 := by
  intro k
  induction k with
  | zero =>
    intro x mt c hx hm hR
    rw [pcM] at hR
    cases hR
    refine ev_iload_n 2 d_M_pieces_13 rfl rfl ?_
    refine ev_aload_n 0 d_M_pieces_14 rfl rfl ?_
    refine ev_get f_M_63 d_M_pieces_15 rfl rfl ?_
    refine ev_iconst (v := 4) d_M_pieces_18 (by decide) ?_
    refine ev_idiv d_M_pieces_19 (by decide) ?_
    rw [z_div4 (by omega)]
    refine ev_aload_n 0 d_M_pieces_20 rfl rfl ?_
    refine ev_get f_M_69 d_M_pieces_21 rfl rfl ?_
    refine ev_iadd d_M_pieces_24 ?_
    rw [nI_add]
    refine ev_icmp_ge 53 d_M_pieces_25 (by decide) (fun q0 => ?_) (fun q0 => ?_)
    · refine ev_iload_n 1 d_M_pieces_53 rfl rfl ?_
      exact ev_iret d_M_pieces_54 rfl rfl (Nat.le_of_ble_eq_true rfl) (Nat.le_of_ble_eq_true rfl)
    · exact absurd (nI_le (by omega) (by omega)) q0
  | succ k ih =>
    intro x mt c hx hm hR
    rw [pcM] at hR
    refine ev_iload_n 2 d_M_pieces_13 rfl rfl ?_
    refine ev_aload_n 0 d_M_pieces_14 rfl rfl ?_
    refine ev_get f_M_63 d_M_pieces_15 rfl rfl ?_
    refine ev_iconst (v := 4) d_M_pieces_18 (by decide) ?_
    refine ev_idiv d_M_pieces_19 (by decide) ?_
    rw [z_div4 (by omega)]
    refine ev_aload_n 0 d_M_pieces_20 rfl rfl ?_
    refine ev_get f_M_69 d_M_pieces_21 rfl rfl ?_
    refine ev_iadd d_M_pieces_24 ?_
    rw [nI_add]
    refine ev_icmp_ge 53 d_M_pieces_25 (by decide) (fun q0 => ?_) (fun q0 => ?_)
    · exact absurd q0 (nI_ge (by omega) (by omega))
    · refine ev_aload_n 0 d_M_pieces_28 rfl rfl ?_
      refine ev_get f_M_24 d_M_pieces_29 rfl rfl ?_
      refine ev_iconst (v := 4) d_M_pieces_32 (by decide) ?_
      refine ev_iload_n 2 d_M_pieces_33 rfl rfl ?_
      refine ev_imul d_M_pieces_34 ?_
      rw [z_m4]
      refine ev_zald d_M_pieces_35 rfl (vp_in_nI (by omega) (by omega)) ?_
      rw [nI_clamp (by omega)]
      refine ev_if_ne 47 d_M_pieces_36 (by decide) (fun q1 => ?_) (fun q1 => ?_)
      · rw [if_neg q1] at hR
        refine ev_iinc (v := _ + 1) d_M_pieces_47 rfl rfl (Nat.le_of_ble_eq_true rfl) rfl ?_
        rw [nI_1]
        refine ev_goto 13 d_M_pieces_50 (by decide) ?_
        exact ih (x + 1) mt c (by omega) (by omega) hR
      · rw [if_pos q1] at hR
        cases hs : spO o mv my K (upd mt (4 * x) 1) with
        | none => rw [hs] at hR; cases hR
        | some mt1 =>
          rw [hs] at hR
          refine ev_iinc (v := _ + 1) d_M_pieces_39 rfl rfl (Nat.le_of_ble_eq_true rfl) rfl ?_
          rw [nI_1]
          refine ev_aload_n 0 d_M_pieces_42 rfl rfl ?_
          refine ev_iload_n 2 d_M_pieces_43 rfl rfl ?_
          refine ev_callV M_M_spread [_] (sp_M_spread hv h4 hw (x := x) (by omega) hs) c_M_88 d_M_pieces_44 rfl rfl (by decide) (Nat.le_of_ble_eq_true rfl) ⟨rfl, rfl⟩ rfl ?_
          refine ev_iinc (v := _ + 1) d_M_pieces_47 rfl rfl (Nat.le_of_ble_eq_true rfl) rfl ?_
          rw [nI_1]
          refine ev_goto 13 d_M_pieces_50 (by decide) ?_
          exact ih (x + 1) mt1 (c + 1) (by omega) (by omega) hR
theorem sp_M_pieces (hv : mv + 4 * my ≤ 64) (h4 : mv % 4 = 0) {o : Nat → Nat} (hw : win me mv my o) {K : Nat} {R : Nat × (Nat → Int32)} (hR : pcM o mv my K (mv / 4) my (clM mt) 0 = some R) : Sp M_M_pieces [.ref 25] (kM X me mp mc md mo mw ml mv my mt ms mq mh ma mz mk mn mr mx) (some (.int (nI R.1))) (kM X me mp mc md mo mw ml mv my (R.2) ms mq mh ma mz mk mn mr mx) := by
  refine Sp.of (by decide) (Nat.le_of_ble_eq_true rfl) ?_
  refine ev_aload_n 0 d_M_pieces_0 rfl rfl ?_
  refine ev_callV M_M_clear [] sp_M_clear c_M_85 d_M_pieces_1 rfl rfl (by decide) (Nat.le_of_ble_eq_true rfl) ⟨rfl, rfl⟩ rfl ?_
  refine ev_iconst (v := 0) d_M_pieces_4 (by decide) ?_
  refine ev_istore_n 1 d_M_pieces_5 rfl (Nat.le_of_ble_eq_true rfl) rfl ?_
  refine ev_aload_n 0 d_M_pieces_6 rfl rfl ?_
  refine ev_get f_M_63 d_M_pieces_7 rfl rfl ?_
  refine ev_iconst (v := 4) d_M_pieces_10 (by decide) ?_
  refine ev_idiv d_M_pieces_11 (by decide) ?_
  rw [z_div4 (by omega)]
  refine ev_istore_n 2 d_M_pieces_12 rfl (Nat.le_of_ble_eq_true rfl) rfl ?_
  exact lp_M_pieces hv h4 hw my (mv / 4) (clM mt) 0 (by omega) (by omega) hR
end Md
