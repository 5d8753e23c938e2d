def thM (way : Int32) (h : Nat) : Nat := if way = 0 then h - h % 4 + (h % 4 + 2) % 4 else (if ((way - 1) >>> (nI (h / 4) &&& 31)) &&& 1 = 1 then h - h % 4 + (if h % 4 % 2 = 0 then h % 4 + 1 else h % 4 - 1) else h - h % 4 + 3 - h % 4)
theorem thM_lt {way : Int32} {h n : Nat} (hh : h < 4 * n) : thM way h < 4 * n := by
  unfold thM
  split
  · omega
  · split
    · split <;> omega
    · omega
def rdW (o : Nat → Nat) (way : Int32) : Nat → (Nat → Int32) → Nat → Option (Nat → Int32)
  | 0, _, _ => none
  | k + 1, mt, j => if mt j = 0 then rdW o way k (upd (upd mt j 1) (o j) 1) (thM way (o j)) else some mt
def rds (o : Nat → Nat) (way : Int32) (K : Nat) : Nat → Nat → (Nat → Int32) → Nat → Option (Nat × (Nat → Int32))
  | _, 0, mt, c => some (c, mt)
  | h, k + 1, mt, c => if mt h = 0 then (match rdW o way K mt h with
      | none => none
      | some mt' => rds o way K (h + 1) k mt' (c + 1)) else rds o way K (h + 1) k mt c
def wrM (mp : Nat → Int32) : Nat → Nat → Int32 → Int32
  | _, 0, a => a
  | i, k + 1, a => wrM mp (i + 1) k (if mp i = 0 then a - 1 else a + 1)
theorem rds_le {o : Nat → Nat} {way : Int32} {K : Nat} : ∀ k h mt c R, rds o way K h k mt c = some R → R.1 ≤ c + k := by
  intro k
  induction k with
  | zero => intro h mt c R hR; rw [rds] at hR; cases hR; exact Nat.le_refl _
  | succ k ih =>
    intro h mt c R hR
    rw [rds] at hR
    split at hR
    · cases hs : rdW o way K mt h with
      | none => rw [hs] at hR; cases hR
      | some m1 => rw [hs] at hR; have := ih _ _ _ _ hR; omega
    · have := ih _ _ _ _ hR; omega
section Md
variable {X : Nat → zE} {me mp : Nat → Int32} {mc md mo : Nat} {mw : Nat → Int32} {ml mv my : Nat} {mt : Nat → Int32} {ms mq mh : Nat → Int64} {ma : Nat → Int32} {mz : Nat} {mk mn : Nat → Int32} {mr : Nat → Int64} {mx : Nat → Int32}
theorem sp_M_through (w : zW) {h : Nat} (hh : h < 64) (way : Int32) : Sp M_M_through [.int (nI h), .int way] w (some (.int (nI (thM way h)))) w := by
  refine Sp.of (by decide) (Nat.le_of_ble_eq_true rfl) ?_
  refine ev_iload_n 0 d_M_through_0 rfl rfl ?_
  refine ev_iconst (v := 4) d_M_through_1 (by decide) ?_
  refine ev_irem d_M_through_2 (by decide) ?_
  rw [z_rem4 (by omega)]
  refine ev_istore_n 2 d_M_through_3 rfl (Nat.le_of_ble_eq_true rfl) rfl ?_
  refine ev_iload_n 1 d_M_through_4 rfl rfl ?_
  refine ev_if_ne 18 d_M_through_5 (by decide) (fun q0 => ?_) (fun q0 => ?_)
  · have k3 : ∀ b : Bool, b = decide (((way - 1) >>> (nI (h / 4) &&& 31)) &&& 1 = 1) → Ev M_M_through none (some (.int (nI (thM way h)))) w 36 [(0, .int (nI h)), (1, .int way), (2, .int (nI (h % 4)))] [.int (zb b)] w 0 0 := by
      intro b hb
      cases b with
      | true =>
        have e1 : thM way h = h - h % 4 + (if h % 4 % 2 = 0 then h % 4 + 1 else h % 4 - 1) := by unfold thM; rw [if_neg q0, if_pos (of_decide_eq_true hb.symm)]
        rw [e1]
        have k4 : ∀ z : Nat, z = (if h % 4 % 2 = 0 then h % 4 + 1 else h % 4 - 1) → Ev M_M_through none (some (.int (nI (h - h % 4 + (if h % 4 % 2 = 0 then h % 4 + 1 else h % 4 - 1))))) w 59 [(0, .int (nI h)), (1, .int way), (2, .int (nI (h % 4))), (3, .int (zb true))] [.int (nI z), .int (nI (h - h % 4))] w 0 0 := by
          intro z hz
          rw [← hz]
          refine ev_iadd d_M_through_59 ?_
          rw [nI_add]
          refine ev_goto 70 d_M_through_60 (by decide) ?_
          exact ev_iret d_M_through_70 rfl rfl (Nat.le_of_ble_eq_true rfl) (Nat.le_of_ble_eq_true rfl)
        refine ev_istore_n 3 d_M_through_36 rfl (Nat.le_of_ble_eq_true rfl) rfl ?_
        refine ev_iload_n 3 d_M_through_37 rfl rfl ?_
        refine ev_if_eq 63 d_M_through_38 (by decide) (fun q1 => ?_) (fun q1 => ?_)
        · exact absurd q1 (by decide)
        · refine ev_iload_n 0 d_M_through_41 rfl rfl ?_
          refine ev_iload_n 2 d_M_through_42 rfl rfl ?_
          refine ev_isub d_M_through_43 ?_
          rw [pk_sub (by omega)]
          refine ev_iload_n 2 d_M_through_44 rfl rfl ?_
          refine ev_iconst (v := 2) d_M_through_45 (by decide) ?_
          refine ev_irem d_M_through_46 (by decide) ?_
          rw [z_rem2 (by omega)]
          refine ev_if_ne 56 d_M_through_47 (by decide) (fun q2 => ?_) (fun q2 => ?_)
          · have q3 : ¬ h % 4 % 2 = 0 := fun w => q2 ((z_nz (by omega)).mpr w)
            refine ev_iload_n 2 d_M_through_56 rfl rfl ?_
            refine ev_iconst (v := 1) d_M_through_57 (by decide) ?_
            refine ev_isub d_M_through_58 ?_
            rw [show nI (h % 4) - 1 = nI (h % 4 - 1) by rw [show h % 4 = h % 4 - 1 + 1 by omega, nI_pred]; rfl]
            exact k4 (h % 4 - 1) (by rw [if_neg q3])
          · have q3 := (z_nz (by omega)).mp q2
            refine ev_iload_n 2 d_M_through_50 rfl rfl ?_
            refine ev_iconst (v := 1) d_M_through_51 (by decide) ?_
            refine ev_iadd d_M_through_52 ?_
            rw [nI_1]
            refine ev_goto 59 d_M_through_53 (by decide) ?_
            exact k4 (h % 4 + 1) (by rw [if_pos q3])
      | false =>
        have e1 : thM way h = h - h % 4 + 3 - h % 4 := by unfold thM; rw [if_neg q0, if_neg (of_decide_eq_false hb.symm)]
        rw [e1]
        refine ev_istore_n 3 d_M_through_36 rfl (Nat.le_of_ble_eq_true rfl) rfl ?_
        refine ev_iload_n 3 d_M_through_37 rfl rfl ?_
        refine ev_if_eq 63 d_M_through_38 (by decide) (fun q1 => ?_) (fun q1 => ?_)
        · refine ev_iload_n 0 d_M_through_63 rfl rfl ?_
          refine ev_iload_n 2 d_M_through_64 rfl rfl ?_
          refine ev_isub d_M_through_65 ?_
          rw [pk_sub (by omega)]
          refine ev_iconst (v := 3) d_M_through_66 (by decide) ?_
          refine ev_iadd d_M_through_67 ?_
          rw [z_p3]
          refine ev_iload_n 2 d_M_through_68 rfl rfl ?_
          refine ev_isub d_M_through_69 ?_
          rw [pk_sub (by omega)]
          exact ev_iret d_M_through_70 rfl rfl (Nat.le_of_ble_eq_true rfl) (Nat.le_of_ble_eq_true rfl)
        · exact absurd rfl q1
    refine ev_iload_n 1 d_M_through_18 rfl rfl ?_
    refine ev_iconst (v := 1) d_M_through_19 (by decide) ?_
    refine ev_isub d_M_through_20 ?_
    refine ev_iload_n 0 d_M_through_21 rfl rfl ?_
    refine ev_iconst (v := 4) d_M_through_22 (by decide) ?_
    refine ev_idiv d_M_through_23 (by decide) ?_
    rw [z_div4 (by omega)]
    refine ev_ishr d_M_through_24 ?_
    refine ev_iconst (v := 1) d_M_through_25 (by decide) ?_
    refine ev_iand d_M_through_26 ?_
    refine ev_iconst (v := 1) d_M_through_27 (by decide) ?_
    refine ev_icmp_ne 35 d_M_through_28 (by decide) (fun q1 => ?_) (fun q1 => ?_)
    · refine ev_iconst (v := 0) d_M_through_35 (by decide) ?_
      exact k3 false (decide_eq_false q1).symm
    · refine ev_iconst (v := 1) d_M_through_31 (by decide) ?_
      refine ev_goto 36 d_M_through_32 (by decide) ?_
      exact k3 true (decide_eq_true q1).symm
  · have e1 : thM way h = h - h % 4 + (h % 4 + 2) % 4 := by unfold thM; rw [if_pos q0]
    rw [e1]
    refine ev_iload_n 0 d_M_through_8 rfl rfl ?_
    refine ev_iload_n 2 d_M_through_9 rfl rfl ?_
    refine ev_isub d_M_through_10 ?_
    rw [pk_sub (by omega)]
    refine ev_iload_n 2 d_M_through_11 rfl rfl ?_
    refine ev_iconst (v := 2) d_M_through_12 (by decide) ?_
    refine ev_iadd d_M_through_13 ?_
    rw [z_p2]
    refine ev_iconst (v := 4) d_M_through_14 (by decide) ?_
    refine ev_irem d_M_through_15 (by decide) ?_
    rw [z_rem4 (by omega)]
    refine ev_iadd d_M_through_16 ?_
    rw [nI_add]
    exact ev_iret d_M_through_17 rfl rfl (Nat.le_of_ble_eq_true rfl) (Nat.le_of_ble_eq_true rfl)
theorem lp_M_rounds1 (hn : mc ≤ 8) {o : Nat → Nat} (hw : win me 0 mc o) {way v2 v3 : Int32} {r : Option Value} {wf : zW} {mt' : Nat → Int32} (kk : ∀ (v4 : Int32) (ex : List (Nat × Value)), Ev M_M_rounds none r wf 83 ([(0, .ref 25), (1, .int way), (2, .int v2), (3, .int v3), (4, .int v4)] ++ ex) [] (kM X me mp mc md mo mw ml (0) (mc) (mt') ms mq mh ma mz mk mn mr mx) 0 0) : ∀ K (mt : Nat → Int32) (j : Nat) (ex : List (Nat × Value)), (ex = [] ∨ ∃ v, ex = [(5, .int v)]) → j < 4 * mc → rdW o way K mt j = some mt' → Ev M_M_rounds none r wf 38 ([(0, .ref 25), (1, .int way), (2, .int v2), (3, .int v3), (4, .int (nI j))] ++ ex) [] (kM X me mp mc md mo mw ml (0) (mc) mt ms mq mh ma mz mk mn mr mx) 0 0 := by
  intro K
  induction K with
  | zero => intro mt j ex _ _ h; rw [rdW] at h; cases h
  | succ K ih =>
    intro mt j ex hex hj hK
    rw [rdW] at hK
    obtain ⟨a1, a2, a3⟩ := hw j (by omega) (by omega)
    have ht := thM_lt (way := way) (h := o j) (n := mc) (by omega)
    rcases hex with rfl | ⟨v, rfl⟩
    · skip
      refine ev_aload_n 0 d_M_rounds_38 rfl rfl ?_
      refine ev_get f_M_24 d_M_rounds_39 rfl rfl ?_
      refine ev_iload d_M_rounds_42 rfl ?_
      refine ev_zald d_M_rounds_44 rfl (vp_in_nI (by omega) (by omega)) ?_
      rw [nI_clamp (by omega)]
      refine ev_if_ne 83 d_M_rounds_45 (by decide) (fun q0 => ?_) (fun q0 => ?_)
      · rw [if_neg q0] at hK
        cases hK
        exact kk _ []
      · rw [if_pos q0] at hK
        refine ev_aload_n 0 d_M_rounds_48 rfl rfl ?_
        refine ev_get f_M_24 d_M_rounds_49 rfl rfl ?_
        refine ev_iload d_M_rounds_52 rfl ?_
        refine ev_iconst (v := 1) d_M_rounds_54 (by decide) ?_
        refine ev_zast d_M_rounds_55 rfl (vp_in_nI (by omega) (by omega)) ?_
        rw [nI_clamp (by omega), vz1]
        refine ev_aload_n 0 d_M_rounds_56 rfl rfl ?_
        refine ev_iload d_M_rounds_57 rfl ?_
        refine ev_callV M_M_other [_] (sp_M_other (mv := 0) (my := mc) (by omega) (by omega)) c_M_72 d_M_rounds_59 rfl rfl (by decide) (Nat.le_of_ble_eq_true rfl) ⟨rfl, rfl⟩ rfl ?_
        rw [a1]
        refine ev_istore d_M_rounds_62 (Nat.le_of_ble_eq_true rfl) rfl ?_
        refine ev_aload_n 0 d_M_rounds_64 rfl rfl ?_
        refine ev_get f_M_24 d_M_rounds_65 rfl rfl ?_
        refine ev_iload d_M_rounds_68 rfl ?_
        refine ev_iconst (v := 1) d_M_rounds_70 (by decide) ?_
        refine ev_zast d_M_rounds_71 rfl (vp_in_nI (by omega) (by omega)) ?_
        rw [nI_clamp (by omega), vz1]
        refine ev_iload d_M_rounds_72 rfl ?_
        refine ev_iload_n 1 d_M_rounds_74 rfl rfl ?_
        refine ev_callS M_M_through [_, _] (sp_M_through _ (by omega) way) c_M_113 d_M_rounds_75 rfl (by decide) (Nat.le_of_ble_eq_true rfl) ⟨rfl, rfl⟩ rfl ?_
        refine ev_istore d_M_rounds_78 (Nat.le_of_ble_eq_true rfl) rfl ?_
        refine ev_goto 38 d_M_rounds_80 (by decide) ?_
        exact ih (upd (upd mt j 1) (o j) 1) (thM way (o j)) [(5, .int (nI (o j)))] (Or.inr ⟨_, rfl⟩) ht hK
    · skip
      refine ev_aload_n 0 d_M_rounds_38 rfl rfl ?_
      refine ev_get f_M_24 d_M_rounds_39 rfl rfl ?_
      refine ev_iload d_M_rounds_42 rfl ?_
      refine ev_zald d_M_rounds_44 rfl (vp_in_nI (by omega) (by omega)) ?_
      rw [nI_clamp (by omega)]
      refine ev_if_ne 83 d_M_rounds_45 (by decide) (fun q0 => ?_) (fun q0 => ?_)
      · rw [if_neg q0] at hK
        cases hK
        exact kk _ [_]
      · rw [if_pos q0] at hK
        refine ev_aload_n 0 d_M_rounds_48 rfl rfl ?_
        refine ev_get f_M_24 d_M_rounds_49 rfl rfl ?_
        refine ev_iload d_M_rounds_52 rfl ?_
        refine ev_iconst (v := 1) d_M_rounds_54 (by decide) ?_
        refine ev_zast d_M_rounds_55 rfl (vp_in_nI (by omega) (by omega)) ?_
        rw [nI_clamp (by omega), vz1]
        refine ev_aload_n 0 d_M_rounds_56 rfl rfl ?_
        refine ev_iload d_M_rounds_57 rfl ?_
        refine ev_callV M_M_other [_] (sp_M_other (mv := 0) (my := mc) (by omega) (by omega)) c_M_72 d_M_rounds_59 rfl rfl (by decide) (Nat.le_of_ble_eq_true rfl) ⟨rfl, rfl⟩ rfl ?_
        rw [a1]
        refine ev_istore d_M_rounds_62 (Nat.le_of_ble_eq_true rfl) rfl ?_
        refine ev_aload_n 0 d_M_rounds_64 rfl rfl ?_
        refine ev_get f_M_24 d_M_rounds_65 rfl rfl ?_
        refine ev_iload d_M_rounds_68 rfl ?_
        refine ev_iconst (v := 1) d_M_rounds_70 (by decide) ?_
        refine ev_zast d_M_rounds_71 rfl (vp_in_nI (by omega) (by omega)) ?_
        rw [nI_clamp (by omega), vz1]
        refine ev_iload d_M_rounds_72 rfl ?_
        refine ev_iload_n 1 d_M_rounds_74 rfl rfl ?_
        refine ev_callS M_M_through [_, _] (sp_M_through _ (by omega) way) c_M_113 d_M_rounds_75 rfl (by decide) (Nat.le_of_ble_eq_true rfl) ⟨rfl, rfl⟩ rfl ?_
        refine ev_istore d_M_rounds_78 (Nat.le_of_ble_eq_true rfl) rfl ?_
        refine ev_goto 38 d_M_rounds_80 (by decide) ?_
        exact ih (upd (upd mt j 1) (o j) 1) (thM way (o j)) [(5, .int (nI (o j)))] (Or.inr ⟨_, rfl⟩) ht hK
theorem lp_M_rounds2 (hn : mc ≤ 8) {o : Nat → Nat} (hw : win me 0 mc o) {way : Int32} {K : Nat} {R : Nat × (Nat → Int32)} : ∀ k h (mt : Nat → Int32) (c : Nat), h + k = 4 * mc → rds o way K h k mt c = some R → Ev M_M_rounds none (some (.int (nI R.1))) (kM X me mp mc md mo mw ml (0) (mc) (R.2) ms mq mh ma mz mk mn mr mx) 13 [(0, .ref 25), (1, .int way), (2, .int (nI c)), (3, .int (nI h))] [] (kM X me mp mc md mo mw ml (0) (mc) mt ms mq mh ma mz mk mn mr mx) 0 0 := by
  intro k
  induction k with
  | zero =>
    intro h mt c hh hR
    rw [rds] at hR
    cases hR
    refine ev_iload_n 3 d_M_rounds_13 rfl rfl ?_
    refine ev_iconst (v := 4) d_M_rounds_14 (by decide) ?_
    refine ev_aload_n 0 d_M_rounds_15 rfl rfl ?_
    refine ev_get f_M_66 d_M_rounds_16 rfl rfl ?_
    refine ev_imul d_M_rounds_19 ?_
    rw [z_m4]
    refine ev_icmp_ge 89 d_M_rounds_20 (by decide) (fun q0 => ?_) (fun q0 => ?_)
    · refine ev_iload_n 2 d_M_rounds_89 rfl rfl ?_
      exact ev_iret d_M_rounds_90 rfl rfl (Nat.le_of_ble_eq_true rfl) (Nat.le_of_ble_eq_true rfl)
    · exact absurd (nI_le (by omega) (by omega)) q0
  | succ k ih =>
    intro h mt c hh hR
    rw [rds] at hR
    refine ev_iload_n 3 d_M_rounds_13 rfl rfl ?_
    refine ev_iconst (v := 4) d_M_rounds_14 (by decide) ?_
    refine ev_aload_n 0 d_M_rounds_15 rfl rfl ?_
    refine ev_get f_M_66 d_M_rounds_16 rfl rfl ?_
    refine ev_imul d_M_rounds_19 ?_
    rw [z_m4]
    refine ev_icmp_ge 89 d_M_rounds_20 (by decide) (fun q0 => ?_) (fun q0 => ?_)
    · exact absurd q0 (nI_ge (by omega) (by omega))
    · refine ev_aload_n 0 d_M_rounds_23 rfl rfl ?_
      refine ev_get f_M_24 d_M_rounds_24 rfl rfl ?_
      refine ev_iload_n 3 d_M_rounds_27 rfl rfl ?_
      refine ev_zald d_M_rounds_28 rfl (vp_in_nI (by omega) (by omega)) ?_
      rw [nI_clamp (by omega)]
      refine ev_if_ne 83 d_M_rounds_29 (by decide) (fun q1 => ?_) (fun q1 => ?_)
      · rw [if_neg q1] at hR
        refine ev_iinc (v := _ + 1) d_M_rounds_83 rfl rfl (Nat.le_of_ble_eq_true rfl) rfl ?_
        rw [nI_1]
        refine ev_goto 13 d_M_rounds_86 (by decide) ?_
        exact ih (h + 1) mt c (by omega) hR
      · rw [if_pos q1] at hR
        cases hs : rdW o way K mt h with
        | none => rw [hs] at hR; cases hR
        | some m1 =>
          rw [hs] at hR
          refine ev_iinc (v := _ + 1) d_M_rounds_32 rfl rfl (Nat.le_of_ble_eq_true rfl) rfl ?_
          rw [nI_1]
          refine ev_iload_n 3 d_M_rounds_35 rfl rfl ?_
          refine ev_istore d_M_rounds_36 (Nat.le_of_ble_eq_true rfl) rfl ?_
          refine lp_M_rounds1 hn hw (fun v4 ex => ?_) K mt h [] (Or.inl rfl) (by omega) hs
          refine ev_sub (lv' := [(0, .ref 25), (1, .int way), (2, .int (nI (c + 1))), (3, .int (nI h))]) (fun x hx => List.mem_append_left _ (List.mem_append_left [(4, Value.int v4)] hx)) ?_
          refine ev_iinc (v := _ + 1) d_M_rounds_83 rfl rfl (Nat.le_of_ble_eq_true rfl) rfl ?_
          rw [nI_1]
          refine ev_goto 13 d_M_rounds_86 (by decide) ?_
          exact ih (h + 1) m1 (c + 1) (by omega) hR
theorem sp_M_rounds (hn : mc ≤ 8) {o : Nat → Nat} (hw : win me 0 mc o) {way : Int32} {K : Nat} {R : Nat × (Nat → Int32)} (hR : rds o way K 0 (4 * mc) (clM mt) 0 = some R) : Sp M_M_rounds [.ref 25, .int way] (kM X me mp mc md mo mw ml mv my mt ms mq mh ma mz mk mn mr mx) (some (.int (nI R.1))) (kM X me mp mc md mo mw ml (0) (mc) (R.2) ms mq mh ma mz mk mn mr mx) := by
  refine Sp.of (by decide) (Nat.le_of_ble_eq_true rfl) ?_
  refine ev_aload_n 0 d_M_rounds_0 rfl rfl ?_
  refine ev_iconst (v := 0) d_M_rounds_1 (by decide) ?_
  refine ev_callV M_M_look [_] (sp_M_look false) c_M_92 d_M_rounds_2 rfl rfl (by decide) (Nat.le_of_ble_eq_true rfl) ⟨rfl, rfl⟩ rfl ?_
  refine ev_aload_n 0 d_M_rounds_5 rfl rfl ?_
  refine ev_callV M_M_clear [] (sp_M_clear (mv := 0) (my := mc)) c_M_85 d_M_rounds_6 rfl rfl (by decide) (Nat.le_of_ble_eq_true rfl) ⟨rfl, rfl⟩ rfl ?_
  refine ev_iconst (v := 0) d_M_rounds_9 (by decide) ?_
  refine ev_istore_n 2 d_M_rounds_10 rfl (Nat.le_of_ble_eq_true rfl) rfl ?_
  refine ev_iconst (v := 0) d_M_rounds_11 (by decide) ?_
  refine ev_istore_n 3 d_M_rounds_12 rfl (Nat.le_of_ble_eq_true rfl) rfl ?_
  exact lp_M_rounds2 hn hw (4 * mc) 0 (clM mt) 0 (by omega) hR
theorem lp_M_writhe (hn : mc ≤ 8) : ∀ k i (a : Int32), i + k = mc → Ev M_M_writhe none (some (.int (wrM mp i k a))) (kM X me mp mc md mo mw ml mv my mt ms mq mh ma mz mk mn mr mx) 4 [(0, .ref 25), (1, .int a), (2, .int (nI i))] [] (kM X me mp mc md mo mw ml mv my mt ms mq mh ma mz mk mn mr mx) 0 0 := by
  intro k
  induction k with
  | zero =>
    intro i a hi
    have e0 : wrM mp i 0 a = a := by rw [wrM]
    rw [e0]
    refine ev_iload_n 2 d_M_writhe_4 rfl rfl ?_
    refine ev_aload_n 0 d_M_writhe_5 rfl rfl ?_
    refine ev_get f_M_66 d_M_writhe_6 rfl rfl ?_
    refine ev_icmp_ge 37 d_M_writhe_9 (by decide) (fun q0 => ?_) (fun q0 => ?_)
    · refine ev_iload_n 1 d_M_writhe_37 rfl rfl ?_
      exact ev_iret d_M_writhe_38 rfl rfl (Nat.le_of_ble_eq_true rfl) (Nat.le_of_ble_eq_true rfl)
    · exact absurd (nI_le (by omega) (by omega)) q0
  | succ k ih =>
    intro i a hi
    have e0 : wrM mp i (k + 1) a = wrM mp (i + 1) k (if mp i = 0 then a - 1 else a + 1) := by rw [wrM]
    rw [e0]
    refine ev_iload_n 2 d_M_writhe_4 rfl rfl ?_
    refine ev_aload_n 0 d_M_writhe_5 rfl rfl ?_
    refine ev_get f_M_66 d_M_writhe_6 rfl rfl ?_
    refine ev_icmp_ge 37 d_M_writhe_9 (by decide) (fun q0 => ?_) (fun q0 => ?_)
    · exact absurd q0 (nI_ge (by omega) (by omega))
    · refine ev_aload_n 0 d_M_writhe_12 rfl rfl ?_
      refine ev_get f_M_13 d_M_writhe_13 rfl rfl ?_
      refine ev_iload_n 2 d_M_writhe_16 rfl rfl ?_
      refine ev_zald d_M_writhe_17 rfl (vp_in_nI (by omega) (by omega)) ?_
      rw [nI_clamp (by omega)]
      refine ev_if_eq 27 d_M_writhe_18 (by decide) (fun q1 => ?_) (fun q1 => ?_)
      · rw [if_pos q1]
        refine ev_iload_n 1 d_M_writhe_27 rfl rfl ?_
        refine ev_iconst (v := 1) d_M_writhe_28 (by decide) ?_
        refine ev_isub d_M_writhe_29 ?_
        refine ev_istore_n 1 d_M_writhe_30 rfl (Nat.le_of_ble_eq_true rfl) rfl ?_
        refine ev_iinc (v := _ + 1) d_M_writhe_31 rfl rfl (Nat.le_of_ble_eq_true rfl) rfl ?_
        rw [nI_1]
        refine ev_goto 4 d_M_writhe_34 (by decide) ?_
        exact ih (i + 1) (a - 1) (by omega)
      · rw [if_neg q1]
        refine ev_iload_n 1 d_M_writhe_21 rfl rfl ?_
        refine ev_iconst (v := 1) d_M_writhe_22 (by decide) ?_
        refine ev_iadd d_M_writhe_23 ?_
        refine ev_goto 30 d_M_writhe_24 (by decide) ?_
        refine ev_istore_n 1 d_M_writhe_30 rfl (Nat.le_of_ble_eq_true rfl) rfl ?_
        refine ev_iinc (v := _ + 1) d_M_writhe_31 rfl rfl (Nat.le_of_ble_eq_true rfl) rfl ?_
        rw [nI_1]
        refine ev_goto 4 d_M_writhe_34 (by decide) ?_
        exact ih (i + 1) (a + 1) (by omega)
theorem sp_M_writhe (hn : mc ≤ 8) : Sp M_M_writhe [.ref 25] (kM X me mp mc md mo mw ml mv my mt ms mq mh ma mz mk mn mr mx) (some (.int (wrM mp 0 mc 0))) (kM X me mp mc md mo mw ml mv my mt ms mq mh ma mz mk mn mr mx) := by
  refine Sp.of (by decide) (Nat.le_of_ble_eq_true rfl) ?_
  refine ev_iconst (v := 0) d_M_writhe_0 (by decide) ?_
  refine ev_istore_n 1 d_M_writhe_1 rfl (Nat.le_of_ble_eq_true rfl) rfl ?_
  refine ev_iconst (v := 0) d_M_writhe_2 (by decide) ?_
  refine ev_istore_n 2 d_M_writhe_3 rfl (Nat.le_of_ble_eq_true rfl) rfl ?_
  exact lp_M_writhe hn mc 0 0 (by omega)
theorem sp_M_count0 : Sp M_M_count [.ref 25, .int 0] (kM X me mp mc md mo mw ml mv my mt ms mq mh ma mz mk mn mr mx) (some (.int (nI mc))) (kM X me mp mc md mo mw ml (0) (mc) mt ms mq mh ma mz mk mn mr mx) := by
  refine Sp.of (by decide) (Nat.le_of_ble_eq_true rfl) ?_
  refine ev_aload_n 0 d_M_count_0 rfl rfl ?_
  refine ev_iconst (v := 0) d_M_count_1 (by decide) ?_
  refine ev_callV M_M_look [_] (sp_M_look false) c_M_92 d_M_count_2 rfl rfl (by decide) (Nat.le_of_ble_eq_true rfl) ⟨rfl, rfl⟩ rfl ?_
  refine ev_iload_n 1 d_M_count_5 rfl rfl ?_
  refine ev_tabIn 44 d_M_count_6 (by decide) (by decide) rfl (by decide) ?_
  refine ev_aload_n 0 d_M_count_44 rfl rfl ?_
  refine ev_get f_M_66 d_M_count_45 rfl rfl ?_
  exact ev_iret d_M_count_48 rfl rfl (Nat.le_of_ble_eq_true rfl) (Nat.le_of_ble_eq_true rfl)
theorem sp_M_count1 : Sp M_M_count [.ref 25, .int 1] (kM X me mp mc md mo mw ml mv my mt ms mq mh ma mz mk mn mr mx) (some (.int (nI mo))) (kM X me mp mc md mo mw ml (0) (mc) mt ms mq mh ma mz mk mn mr mx) := by
  refine Sp.of (by decide) (Nat.le_of_ble_eq_true rfl) ?_
  refine ev_aload_n 0 d_M_count_0 rfl rfl ?_
  refine ev_iconst (v := 0) d_M_count_1 (by decide) ?_
  refine ev_callV M_M_look [_] (sp_M_look false) c_M_92 d_M_count_2 rfl rfl (by decide) (Nat.le_of_ble_eq_true rfl) ⟨rfl, rfl⟩ rfl ?_
  refine ev_iload_n 1 d_M_count_5 rfl rfl ?_
  refine ev_tabIn 49 d_M_count_6 (by decide) (by decide) rfl (by decide) ?_
  refine ev_aload_n 0 d_M_count_49 rfl rfl ?_
  refine ev_get f_M_17 d_M_count_50 rfl rfl ?_
  exact ev_iret d_M_count_53 rfl rfl (Nat.le_of_ble_eq_true rfl) (Nat.le_of_ble_eq_true rfl)
theorem sp_M_count2 (hn : mc ≤ 8) {o : Nat → Nat} (hw : win me 0 mc o) {K : Nat} {R : Nat × (Nat → Int32)} (hR : rds o 0 K 0 (4 * mc) (clM mt) 0 = some R) : Sp M_M_count [.ref 25, .int 2] (kM X me mp mc md mo mw ml mv my mt ms mq mh ma mz mk mn mr mx) (some (.int (nI R.1 + nI mo))) (kM X me mp mc md mo mw ml (0) (mc) (R.2) ms mq mh ma mz mk mn mr mx) := by
  refine Sp.of (by decide) (Nat.le_of_ble_eq_true rfl) ?_
  refine ev_aload_n 0 d_M_count_0 rfl rfl ?_
  refine ev_iconst (v := 0) d_M_count_1 (by decide) ?_
  refine ev_callV M_M_look [_] (sp_M_look false) c_M_92 d_M_count_2 rfl rfl (by decide) (Nat.le_of_ble_eq_true rfl) ⟨rfl, rfl⟩ rfl ?_
  refine ev_iload_n 1 d_M_count_5 rfl rfl ?_
  refine ev_tabIn 54 d_M_count_6 (by decide) (by decide) rfl (by decide) ?_
  refine ev_aload_n 0 d_M_count_54 rfl rfl ?_
  refine ev_iconst (v := 0) d_M_count_55 (by decide) ?_
  refine ev_callV M_M_rounds [_] (sp_M_rounds (mv := 0) (my := mc) hn hw hR) c_M_117 d_M_count_56 rfl rfl (by decide) (Nat.le_of_ble_eq_true rfl) ⟨rfl, rfl⟩ rfl ?_
  refine ev_aload_n 0 d_M_count_59 rfl rfl ?_
  refine ev_get f_M_17 d_M_count_60 rfl rfl ?_
  refine ev_iadd d_M_count_63 ?_
  exact ev_iret d_M_count_64 rfl rfl (Nat.le_of_ble_eq_true rfl) (Nat.le_of_ble_eq_true rfl)
theorem sp_M_count3 (hn : mc ≤ 8) : Sp M_M_count [.ref 25, .int 3] (kM X me mp mc md mo mw ml mv my mt ms mq mh ma mz mk mn mr mx) (some (.int (wrM mp 0 mc 0))) (kM X me mp mc md mo mw ml (0) (mc) mt ms mq mh ma mz mk mn mr mx) := by
  refine Sp.of (by decide) (Nat.le_of_ble_eq_true rfl) ?_
  refine ev_aload_n 0 d_M_count_0 rfl rfl ?_
  refine ev_iconst (v := 0) d_M_count_1 (by decide) ?_
  refine ev_callV M_M_look [_] (sp_M_look false) c_M_92 d_M_count_2 rfl rfl (by decide) (Nat.le_of_ble_eq_true rfl) ⟨rfl, rfl⟩ rfl ?_
  refine ev_iload_n 1 d_M_count_5 rfl rfl ?_
  refine ev_tabIn 65 d_M_count_6 (by decide) (by decide) rfl (by decide) ?_
  refine ev_aload_n 0 d_M_count_65 rfl rfl ?_
  refine ev_callV M_M_writhe [] (sp_M_writhe (mv := 0) (my := mc) hn) c_M_120 d_M_count_66 rfl rfl (by decide) (Nat.le_of_ble_eq_true rfl) ⟨rfl, rfl⟩ rfl ?_
  exact ev_iret d_M_count_69 rfl rfl (Nat.le_of_ble_eq_true rfl) (Nat.le_of_ble_eq_true rfl)
theorem sp_M_count4 (hn : mc ≤ 8) {o : Nat → Nat} (hw : win me 0 mc o) (hr : ∀ h, 0 ≤ h → h < 0 + 4 * mc → rch (fM o) h 64 (fM o h)) : Sp M_M_count [.ref 25, .int 4] (kM X me mp mc md mo mw ml mv my mt ms mq mh ma mz mk mn mr mx) (some (.int (nI (fcN (faM o) 0 (4 * mc) 0)))) (kM X me mp mc md mo mw ml (0) (mc) mt ms mq mh ma mz mk mn mr mx) := by
  refine Sp.of (by decide) (Nat.le_of_ble_eq_true rfl) ?_
  refine ev_aload_n 0 d_M_count_0 rfl rfl ?_
  refine ev_iconst (v := 0) d_M_count_1 (by decide) ?_
  refine ev_callV M_M_look [_] (sp_M_look false) c_M_92 d_M_count_2 rfl rfl (by decide) (Nat.le_of_ble_eq_true rfl) ⟨rfl, rfl⟩ rfl ?_
  refine ev_iload_n 1 d_M_count_5 rfl rfl ?_
  refine ev_tabIn 70 d_M_count_6 (by decide) (by decide) rfl (by decide) ?_
  refine ev_aload_n 0 d_M_count_70 rfl rfl ?_
  refine ev_callV M_M_faces [] (sp_M_faces (mv := 0) (my := mc) (by omega) (by decide) hw hr) c_M_100 d_M_count_71 rfl rfl (by decide) (Nat.le_of_ble_eq_true rfl) ⟨rfl, rfl⟩ rfl ?_
  exact ev_iret d_M_count_74 rfl rfl (Nat.le_of_ble_eq_true rfl) (Nat.le_of_ble_eq_true rfl)
theorem sp_M_count5 (hn : mc ≤ 8) {o : Nat → Nat} (hw : win me 0 mc o) {K : Nat} {R : Nat × (Nat → Int32)} (hR : pcM o 0 mc K 0 mc (clM mt) 0 = some R) : Sp M_M_count [.ref 25, .int 5] (kM X me mp mc md mo mw ml mv my mt ms mq mh ma mz mk mn mr mx) (some (.int (nI R.1))) (kM X me mp mc md mo mw ml (0) (mc) (R.2) ms mq mh ma mz mk mn mr mx) := by
  refine Sp.of (by decide) (Nat.le_of_ble_eq_true rfl) ?_
  refine ev_aload_n 0 d_M_count_0 rfl rfl ?_
  refine ev_iconst (v := 0) d_M_count_1 (by decide) ?_
  refine ev_callV M_M_look [_] (sp_M_look false) c_M_92 d_M_count_2 rfl rfl (by decide) (Nat.le_of_ble_eq_true rfl) ⟨rfl, rfl⟩ rfl ?_
  refine ev_iload_n 1 d_M_count_5 rfl rfl ?_
  refine ev_tabIn 75 d_M_count_6 (by decide) (by decide) rfl (by decide) ?_
  refine ev_aload_n 0 d_M_count_75 rfl rfl ?_
  refine ev_callV M_M_pieces [] (sp_M_pieces (mv := 0) (my := mc) (by omega) (by decide) hw hR) c_M_104 d_M_count_76 rfl rfl (by decide) (Nat.le_of_ble_eq_true rfl) ⟨rfl, rfl⟩ rfl ?_
  exact ev_iret d_M_count_79 rfl rfl (Nat.le_of_ble_eq_true rfl) (Nat.le_of_ble_eq_true rfl)
theorem sp_M_count_no {x : Int32} (h : x.toInt < 0 ∨ 5 < x.toInt) : Sp M_M_count [.ref 25, .int x] (kM X me mp mc md mo mw ml mv my mt ms mq mh ma mz mk mn mr mx) (some (.int (-100))) (kM X me mp mc md mo mw ml (0) (mc) mt ms mq mh ma mz mk mn mr mx) := by
  refine Sp.of (by decide) (Nat.le_of_ble_eq_true rfl) ?_
  refine ev_aload_n 0 d_M_count_0 rfl rfl ?_
  refine ev_iconst (v := 0) d_M_count_1 (by decide) ?_
  refine ev_callV M_M_look [_] (sp_M_look false) c_M_92 d_M_count_2 rfl rfl (by decide) (Nat.le_of_ble_eq_true rfl) ⟨rfl, rfl⟩ rfl ?_
  refine ev_iload_n 1 d_M_count_5 rfl rfl ?_
  refine ev_tabOut 80 d_M_count_6 h (by decide) ?_
  refine ev_bipush (v := -100) d_M_count_80 (by decide) ?_
  exact ev_iret d_M_count_82 rfl rfl (Nat.le_of_ble_eq_true rfl) (Nat.le_of_ble_eq_true rfl)
theorem sp_M_end_no {x k : Int32} (h : ¬ ((¬ x < 0 ∧ x < nI mc) ∧ ¬ k < 0 ∧ k ≤ 4)) : Sp M_M_end [.ref 25, .int x, .int k] (kM X me mp mc md mo mw ml mv my mt ms mq mh ma mz mk mn mr mx) (some (.int (-100))) (kM X me mp mc md mo mw ml mv my mt ms mq mh ma mz mk mn mr mx) := by
  refine Sp.of (by decide) (Nat.le_of_ble_eq_true rfl) ?_
  refine ev_iload_n 1 d_M_end_0 rfl rfl ?_
  refine ev_if_lt 21 d_M_end_1 (by decide) (fun h1 => ?_) (fun h1 => ?_)
  · refine ev_bipush (v := -100) d_M_end_21 (by decide) ?_
    exact ev_iret d_M_end_23 rfl rfl (Nat.le_of_ble_eq_true rfl) (Nat.le_of_ble_eq_true rfl)
  · refine ev_iload_n 1 d_M_end_4 rfl rfl ?_
    refine ev_aload_n 0 d_M_end_5 rfl rfl ?_
    refine ev_get f_M_66 d_M_end_6 rfl rfl ?_
    refine ev_icmp_ge 21 d_M_end_9 (by decide) (fun h2 => ?_) (fun h2 => ?_)
    · refine ev_bipush (v := -100) d_M_end_21 (by decide) ?_
      exact ev_iret d_M_end_23 rfl rfl (Nat.le_of_ble_eq_true rfl) (Nat.le_of_ble_eq_true rfl)
    · refine ev_iload_n 2 d_M_end_12 rfl rfl ?_
      refine ev_if_lt 21 d_M_end_13 (by decide) (fun h3 => ?_) (fun h3 => ?_)
      · refine ev_bipush (v := -100) d_M_end_21 (by decide) ?_
        exact ev_iret d_M_end_23 rfl rfl (Nat.le_of_ble_eq_true rfl) (Nat.le_of_ble_eq_true rfl)
      · refine ev_iload_n 2 d_M_end_16 rfl rfl ?_
        refine ev_iconst (v := 4) d_M_end_17 (by decide) ?_
        refine ev_icmp_le 24 d_M_end_18 (by decide) (fun h4 => ?_) (fun h4 => ?_)
        · exact absurd ⟨⟨h1, by rw [Int32.lt_iff_toInt_lt]; rw [Int32.le_iff_toInt_le] at h2; omega⟩, h3, h4⟩ h
        · refine ev_bipush (v := -100) d_M_end_21 (by decide) ?_
          exact ev_iret d_M_end_23 rfl rfl (Nat.le_of_ble_eq_true rfl) (Nat.le_of_ble_eq_true rfl)
theorem ev_M_end {x : Nat} {k : Int32} (hx : x < mc) (hn : mc ≤ 8) (h2 : ¬ k < 0) (h3 : k ≤ 4) {r : Option Value} {wf : zW} (kk : Ev M_M_end none r wf 24 [(0, .ref 25), (1, .int (nI x)), (2, .int k)] [] (kM X me mp mc md mo mw ml mv my mt ms mq mh ma mz mk mn mr mx) 0 0) : Ev M_M_end none r wf 0 (lv_args 0 [.ref 25, .int (nI x), .int k]) [] (kM X me mp mc md mo mw ml mv my mt ms mq mh ma mz mk mn mr mx) 0 0 := by
  refine ev_iload_n 1 d_M_end_0 rfl rfl ?_
  refine ev_if_lt 21 d_M_end_1 (by decide) (fun q1 => ?_) (fun q1 => ?_)
  · exact absurd q1 (nI_pos (by omega))
  · refine ev_iload_n 1 d_M_end_4 rfl rfl ?_
    refine ev_aload_n 0 d_M_end_5 rfl rfl ?_
    refine ev_get f_M_66 d_M_end_6 rfl rfl ?_
    refine ev_icmp_ge 21 d_M_end_9 (by decide) (fun q2 => ?_) (fun q2 => ?_)
    · exact absurd q2 (nI_ge hx (by omega))
    · refine ev_iload_n 2 d_M_end_12 rfl rfl ?_
      refine ev_if_lt 21 d_M_end_13 (by decide) (fun q3 => ?_) (fun q3 => ?_)
      · exact absurd q3 h2
      · refine ev_iload_n 2 d_M_end_16 rfl rfl ?_
        refine ev_iconst (v := 4) d_M_end_17 (by decide) ?_
        refine ev_icmp_le 24 d_M_end_18 (by decide) (fun q4 => ?_) (fun q4 => ?_)
        · exact kk
        · exact absurd h3 q4
theorem sp_M_end4 {x : Nat} (hx : x < mc) (hn : mc ≤ 8) : Sp M_M_end [.ref 25, .int (nI x), .int 4] (kM X me mp mc md mo mw ml mv my mt ms mq mh ma mz mk mn mr mx) (some (.int (sgn (decide (¬ mp x = 0))))) (kM X me mp mc md mo mw ml mv my mt ms mq mh ma mz mk mn mr mx) := by
  refine Sp.of (by decide) (Nat.le_of_ble_eq_true rfl) (ev_M_end hx hn (by decide) (by decide) ?_)
  refine ev_iload_n 2 d_M_end_24 rfl rfl ?_
  refine ev_iconst (v := 4) d_M_end_25 (by decide) ?_
  refine ev_icmp_ge 42 d_M_end_26 (by decide) (fun h => ?_) (fun h => ?_)
  · refine ev_aload_n 0 d_M_end_42 rfl rfl ?_
    refine ev_get f_M_13 d_M_end_43 rfl rfl ?_
    refine ev_iload_n 1 d_M_end_46 rfl rfl ?_
    refine ev_zald d_M_end_47 rfl (vp_in_nI (by omega) (by omega)) ?_
    rw [nI_clamp (by omega)]
    refine ev_if_eq 55 d_M_end_48 (by decide) (fun q1 => ?_) (fun q1 => ?_)
    · rw [decide_eq_false (fun w => w q1)]
      refine ev_iconst (v := -1) d_M_end_55 (by decide) ?_
      exact ev_iret d_M_end_56 rfl rfl (Nat.le_of_ble_eq_true rfl) (Nat.le_of_ble_eq_true rfl)
    · rw [decide_eq_true q1]
      refine ev_iconst (v := 1) d_M_end_51 (by decide) ?_
      refine ev_goto 56 d_M_end_52 (by decide) ?_
      exact ev_iret d_M_end_56 rfl rfl (Nat.le_of_ble_eq_true rfl) (Nat.le_of_ble_eq_true rfl)
  · exact absurd (by decide) h
theorem sp_M_end {x k : Nat} (hx : x < mc) (hn : mc ≤ 8) (hk : k < 4) : Sp M_M_end [.ref 25, .int (nI x), .int (nI k)] (kM X me mp mc md mo mw ml mv my mt ms mq mh ma mz mk mn mr mx) (some (.int (me (4 * x + k)))) (kM X me mp mc md mo mw ml mv my mt ms mq mh ma mz mk mn mr mx) := by
  refine Sp.of (by decide) (Nat.le_of_ble_eq_true rfl) (ev_M_end hx hn (nI_pos (by omega)) (nI_le (b := 4) (by omega) (by omega)) ?_)
  refine ev_iload_n 2 d_M_end_24 rfl rfl ?_
  refine ev_iconst (v := 4) d_M_end_25 (by decide) ?_
  refine ev_icmp_ge 42 d_M_end_26 (by decide) (fun h => ?_) (fun h => ?_)
  · exact absurd h (nI_ge (b := 4) hk (by omega))
  · refine ev_aload_n 0 d_M_end_29 rfl rfl ?_
    refine ev_get f_M_7 d_M_end_30 rfl rfl ?_
    refine ev_iconst (v := 4) d_M_end_33 (by decide) ?_
    refine ev_iload_n 1 d_M_end_34 rfl rfl ?_
    refine ev_imul d_M_end_35 ?_
    rw [z_m4]
    refine ev_iload_n 2 d_M_end_36 rfl rfl ?_
    refine ev_iadd d_M_end_37 ?_
    rw [nI_add]
    refine ev_iald d_M_end_38 rfl (vp_in_nI (by omega) (by omega)) ?_
    rw [nI_clamp (by omega)]
    refine ev_goto 56 d_M_end_39 (by decide) ?_
    exact ev_iret d_M_end_56 rfl rfl (Nat.le_of_ble_eq_true rfl) (Nat.le_of_ble_eq_true rfl)
end Md
