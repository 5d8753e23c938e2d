def mT (me mp : Nat → Int32) (mc md mo : Nat) (mw : Nat → Int32) (ml mv my : Nat) (mt : Nat → Int32) (ms mq mh : Nat → Int64) (ma : Nat → Int32) (mz : Nat) (mk mn : Nat → Int32) (mr : Nat → Int64) (mx : Nat → Int32) : zW :=
  (.inr (5, [.ref 26, .ref 27, .int (nI mc), .int (nI md), .int (nI mo), .ref 28, .int (nI ml), .int (nI mv), .int (nI my), .ref 29, .ref 30, .ref 31, .ref 32, .ref 33, .int (nI mz), .ref 34, .ref 35, .ref 36, .ref 37])) :: aI 64 me :: aZ 16 mp :: aI 8 mw :: aZ 64 mt :: aL 257 ms :: aL 257 mq :: aL 257 mh :: aI 33 ma :: aI 64 mk :: aI 64 mn :: aL 2560 mr :: aI 32 mx :: []
def kM (X : Nat → zE) (me mp : Nat → Int32) (mc md mo : Nat) (mw : Nat → Int32) (ml mv my : Nat) (mt : Nat → Int32) (ms mq mh : Nat → Int64) (ma : Nat → Int32) (mz : Nat) (mk mn : Nat → Int32) (mr : Nat → Int64) (mx : Nat → Int32) : zW :=
  X 0 :: X 1 :: X 2 :: X 3 :: X 4 :: X 5 :: X 6 :: X 7 :: X 8 :: X 9 :: X 10 :: X 11 :: X 12 :: X 13 :: X 14 :: X 15 :: X 16 :: X 17 :: X 18 :: X 19 :: X 20 :: X 21 :: X 22 :: X 23 :: X 24 :: mT me mp mc md mo mw ml mv my mt ms mq mh ma mz mk mn mr mx
theorem vz (b : Bool) : vp_nar .boolean (zb b) = zb b := by cases b <;> decide
theorem z_div4 {h : Nat} (hh : h < 2 ^ 31) : nI h / (4 : Int32) = nI (h / 4) := pk_div (d := 4) hh (by decide) (by decide)
theorem z_rem4 {h : Nat} (hh : h < 2 ^ 31) : nI h - nI h / (4 : Int32) * (4 : Int32) = nI (h % 4) := pk_rem (d := 4) hh (by decide) (by decide)
theorem z_rem2 {h : Nat} (hh : h < 2 ^ 31) : nI h - nI h / (2 : Int32) * (2 : Int32) = nI (h % 2) := pk_rem (d := 2) hh (by decide) (by decide)
def inM (mp : Nat → Int32) (h : Nat) : Bool := decide (h % 4 = 0) || decide (h % 4 = (if mp (h / 4) = 0 then 1 else 3))
def oM (me : Nat → Int32) (h : Nat) : Nat → Nat → Int32 → Int32 → Int32
  | _, 0, fd, c => if c = 1 then fd else -1
  | j, k + 1, fd, c => if j ≠ h ∧ me j = me h then oM me h (j + 1) k (nI j) (c + 1) else oM me h (j + 1) k fd c
def oMI (me : Nat → Int32) (v y h : Nat) : Int32 := oM me h v (4 * y) (-1) 0
def fM (o : Nat → Nat) (h : Nat) : Nat := if o h % 4 = 0 then o h + 3 else o h - 1
/-- in the window the other end of each end is o's -/
def win (me : Nat → Int32) (v y : Nat) (o : Nat → Nat) : Prop := ∀ h, v ≤ h → h < v + 4 * y → oMI me v y h = nI (o h) ∧ v ≤ o h ∧ o h < v + 4 * y
def rch (nx : Nat → Nat) (h : Nat) : Nat → Nat → Prop
  | 0, j => j = h
  | k + 1, j => j = h ∨ rch nx h k (nx j)
def fcB (nx : Nat → Nat) (h : Nat) : Nat → Nat → Nat → Nat
  | 0, _, b => b
  | k + 1, j, b => if j = h then b else fcB nx h k (nx j) (if j < b then j else b)
def ftM (me mp : Nat → Int32) (v y : Nat) : Nat → Nat → Bool
  | _, 0 => true
  | h, k + 1 => if (oMI me v y h < 0 ∨ inM mp (oMI me v y h).toNatClampNeg = inM mp h) then false else ftM me mp v y (h + 1) k
def fcN (fc : Nat → Nat) : Nat → Nat → Nat → Nat
  | _, 0, c => c
  | h, k + 1, c => fcN fc (h + 1) k (if fc h = h then c + 1 else c)
def ptE (me : Nat → Int32) (x : Nat) (a b c d : Int32) : Nat → Int32 := upd (upd (upd (upd me (4 * x) a) (4 * x + 1) b) (4 * x + 2) c) (4 * x + 3) d
theorem fM_win {me : Nat → Int32} {v y : Nat} {o : Nat → Nat} (hv : v % 4 = 0) (hw : win me v y o) {h : Nat} (h1 : v ≤ h) (h2 : h < v + 4 * y) : v ≤ fM o h ∧ fM o h < v + 4 * y := by
  obtain ⟨-, a, b⟩ := hw h h1 h2
  unfold fM
  split <;> omega
section Md
variable {X : Nat → zE} {me mp : Nat → Int32} {mc md mo : Nat} {mw : Nat → Int32} {ml mv my : Nat} {mt : Nat → Int32} {ms mq mh : Nat → Int64} {ma : Nat → Int32} {mz : Nat} {mk mn : Nat → Int32} {mr : Nat → Int64} {mx : Nat → Int32}
theorem sp_M_isEdge (w : zW) (x : Int32) : Sp M_M_isEdge [.int x] w (some (.int (zb (isE x)))) w := by
  refine Sp.of (by decide) (Nat.le_of_ble_eq_true rfl) ?_
  unfold isE
  refine ev_iload_n 0 d_M_isEdge_0 rfl rfl ?_
  refine ev_iconst (v := 1) d_M_isEdge_1 (by decide) ?_
  refine ev_icmp_lt 15 d_M_isEdge_2 (by decide) (fun h => ?_) (fun h => ?_)
  · have h1 : decide (1 ≤ x ∧ x ≤ 32) = false := by
      apply decide_eq_false
      intro ⟨a, _⟩
      exact absurd a (by rw [Int32.le_iff_toInt_le]; rw [Int32.lt_iff_toInt_lt] at h; omega)
    rw [h1]
    refine ev_iconst (v := 0) d_M_isEdge_15 (by decide) ?_
    exact ev_iret d_M_isEdge_16 rfl zr0 (Nat.le_of_ble_eq_true rfl) (Nat.le_of_ble_eq_true rfl)
  · refine ev_iload_n 0 d_M_isEdge_5 rfl rfl ?_
    refine ev_bipush (v := 32) d_M_isEdge_6 (by decide) ?_
    refine ev_icmp_gt 15 d_M_isEdge_8 (by decide) (fun h2 => ?_) (fun h2 => ?_)
    · have h1 : decide (1 ≤ x ∧ x ≤ 32) = false := by
        apply decide_eq_false
        intro ⟨_, a⟩
        exact absurd a (by rw [Int32.le_iff_toInt_le]; rw [Int32.lt_iff_toInt_lt] at h2; omega)
      rw [h1]
      refine ev_iconst (v := 0) d_M_isEdge_15 (by decide) ?_
      exact ev_iret d_M_isEdge_16 rfl zr0 (Nat.le_of_ble_eq_true rfl) (Nat.le_of_ble_eq_true rfl)
    · have h1 : decide (1 ≤ x ∧ x ≤ 32) = true := by
        apply decide_eq_true
        rw [Int32.lt_iff_toInt_lt] at h h2
        rw [Int32.le_iff_toInt_le, Int32.le_iff_toInt_le]
        omega
      rw [h1]
      refine ev_iconst (v := 1) d_M_isEdge_11 (by decide) ?_
      refine ev_goto 16 d_M_isEdge_12 (by decide) ?_
      exact ev_iret d_M_isEdge_16 rfl zr1 (Nat.le_of_ble_eq_true rfl) (Nat.le_of_ble_eq_true rfl)
theorem sp_M_put {x : Nat} (hx : x < 16) (a b c d : Int32) (p : Bool) : Sp M_M_put [.ref 25, .int (nI x), .int a, .int b, .int c, .int d, .int (zb p)] (kM X me mp mc md mo mw ml mv my mt ms mq mh ma mz mk mn mr mx) none (kM X (ptE me x a b c d) (upd mp x (zb p)) mc md mo mw ml mv my mt ms mq mh ma mz mk mn mr mx) := by
  refine Sp.of (by decide) (Nat.le_of_ble_eq_true rfl) ?_
  refine ev_aload_n 0 d_M_put_0 rfl rfl ?_
  refine ev_get f_M_7 d_M_put_1 rfl rfl ?_
  refine ev_iconst (v := 4) d_M_put_4 (by decide) ?_
  refine ev_iload_n 1 d_M_put_5 rfl rfl ?_
  refine ev_imul d_M_put_6 ?_
  rw [z_m4]
  refine ev_iload_n 2 d_M_put_7 rfl rfl ?_
  refine ev_iast d_M_put_8 rfl (vp_in_nI (by omega) (by omega)) ?_
  rw [nI_clamp (by omega)]
  refine ev_aload_n 0 d_M_put_9 rfl rfl ?_
  refine ev_get f_M_7 d_M_put_10 rfl rfl ?_
  refine ev_iconst (v := 4) d_M_put_13 (by decide) ?_
  refine ev_iload_n 1 d_M_put_14 rfl rfl ?_
  refine ev_imul d_M_put_15 ?_
  rw [z_m4]
  refine ev_iconst (v := 1) d_M_put_16 (by decide) ?_
  refine ev_iadd d_M_put_17 ?_
  rw [nI_1]
  refine ev_iload_n 3 d_M_put_18 rfl rfl ?_
  refine ev_iast d_M_put_19 rfl (vp_in_nI (by omega) (by omega)) ?_
  rw [nI_clamp (by omega)]
  refine ev_aload_n 0 d_M_put_20 rfl rfl ?_
  refine ev_get f_M_7 d_M_put_21 rfl rfl ?_
  refine ev_iconst (v := 4) d_M_put_24 (by decide) ?_
  refine ev_iload_n 1 d_M_put_25 rfl rfl ?_
  refine ev_imul d_M_put_26 ?_
  rw [z_m4]
  refine ev_iconst (v := 2) d_M_put_27 (by decide) ?_
  refine ev_iadd d_M_put_28 ?_
  rw [z_p2]
  refine ev_iload d_M_put_29 rfl ?_
  refine ev_iast d_M_put_31 rfl (vp_in_nI (by omega) (by omega)) ?_
  rw [nI_clamp (by omega)]
  refine ev_aload_n 0 d_M_put_32 rfl rfl ?_
  refine ev_get f_M_7 d_M_put_33 rfl rfl ?_
  refine ev_iconst (v := 4) d_M_put_36 (by decide) ?_
  refine ev_iload_n 1 d_M_put_37 rfl rfl ?_
  refine ev_imul d_M_put_38 ?_
  rw [z_m4]
  refine ev_iconst (v := 3) d_M_put_39 (by decide) ?_
  refine ev_iadd d_M_put_40 ?_
  rw [z_p3]
  refine ev_iload d_M_put_41 rfl ?_
  refine ev_iast d_M_put_43 rfl (vp_in_nI (by omega) (by omega)) ?_
  rw [nI_clamp (by omega)]
  refine ev_aload_n 0 d_M_put_44 rfl rfl ?_
  refine ev_get f_M_13 d_M_put_45 rfl rfl ?_
  refine ev_iload_n 1 d_M_put_48 rfl rfl ?_
  refine ev_iload d_M_put_49 rfl ?_
  refine ev_zast d_M_put_51 rfl (vp_in_nI (by omega) (by omega)) ?_
  rw [nI_clamp (by omega), vz]
  exact ev_ret d_M_put_52 rfl (Nat.le_of_ble_eq_true rfl) (Nat.le_of_ble_eq_true rfl)
theorem sp_M_cross_no {a b x d : Int32} {p : Bool} (hn : md ≤ 8) (h : ¬ (md < 8 ∧ isE a = true ∧ isE b = true ∧ isE x = true ∧ isE d = true)) : Sp M_M_cross [.ref 25, .int a, .int b, .int x, .int d, .int (zb p)] (kM X me mp mc md mo mw ml mv my mt ms mq mh ma mz mk mn mr mx) (some (.int (zb false))) (kM X me mp mc md mo mw ml mv my mt ms mq mh ma mz mk mn mr mx) := by
  refine Sp.of (by decide) (Nat.le_of_ble_eq_true rfl) ?_
  refine ev_aload_n 0 d_M_cross_0 rfl rfl ?_
  refine ev_get f_M_52 d_M_cross_1 rfl rfl ?_
  refine ev_bipush (v := 8) d_M_cross_4 (by decide) ?_
  refine ev_icmp_eq 38 d_M_cross_6 (by decide) (fun h1 => ?_) (fun h1 => ?_)
  · refine ev_iconst (v := 0) d_M_cross_38 (by decide) ?_
    exact ev_iret d_M_cross_39 rfl zr0 (Nat.le_of_ble_eq_true rfl) (Nat.le_of_ble_eq_true rfl)
  · refine ev_iload_n 1 d_M_cross_9 rfl rfl ?_
    refine ev_callS M_M_isEdge [_] (sp_M_isEdge _ a) c_M_55 d_M_cross_10 rfl (by decide) (Nat.le_of_ble_eq_true rfl) ⟨rfl, rfl⟩ rfl ?_
    refine ev_if_eq 38 d_M_cross_13 (by decide) (fun h2 => ?_) (fun h2 => ?_)
    · refine ev_iconst (v := 0) d_M_cross_38 (by decide) ?_
      exact ev_iret d_M_cross_39 rfl zr0 (Nat.le_of_ble_eq_true rfl) (Nat.le_of_ble_eq_true rfl)
    · refine ev_iload_n 2 d_M_cross_16 rfl rfl ?_
      refine ev_callS M_M_isEdge [_] (sp_M_isEdge _ b) c_M_55 d_M_cross_17 rfl (by decide) (Nat.le_of_ble_eq_true rfl) ⟨rfl, rfl⟩ rfl ?_
      refine ev_if_eq 38 d_M_cross_20 (by decide) (fun h3 => ?_) (fun h3 => ?_)
      · refine ev_iconst (v := 0) d_M_cross_38 (by decide) ?_
        exact ev_iret d_M_cross_39 rfl zr0 (Nat.le_of_ble_eq_true rfl) (Nat.le_of_ble_eq_true rfl)
      · refine ev_iload_n 3 d_M_cross_23 rfl rfl ?_
        refine ev_callS M_M_isEdge [_] (sp_M_isEdge _ x) c_M_55 d_M_cross_24 rfl (by decide) (Nat.le_of_ble_eq_true rfl) ⟨rfl, rfl⟩ rfl ?_
        refine ev_if_eq 38 d_M_cross_27 (by decide) (fun h4 => ?_) (fun h4 => ?_)
        · refine ev_iconst (v := 0) d_M_cross_38 (by decide) ?_
          exact ev_iret d_M_cross_39 rfl zr0 (Nat.le_of_ble_eq_true rfl) (Nat.le_of_ble_eq_true rfl)
        · refine ev_iload d_M_cross_30 rfl ?_
          refine ev_callS M_M_isEdge [_] (sp_M_isEdge _ d) c_M_55 d_M_cross_32 rfl (by decide) (Nat.le_of_ble_eq_true rfl) ⟨rfl, rfl⟩ rfl ?_
          refine ev_if_ne 40 d_M_cross_35 (by decide) (fun h5 => ?_) (fun h5 => ?_)
          · have h6 : md < 8 := by
              have : ¬ md = 8 := fun z => h1 (by rw [z]; rfl)
              omega
            exact absurd ⟨h6, (zb_n0 _).mp h2, (zb_n0 _).mp h3, (zb_n0 _).mp h4, (zb_n0 _).mp h5⟩ h
          · refine ev_iconst (v := 0) d_M_cross_38 (by decide) ?_
            exact ev_iret d_M_cross_39 rfl zr0 (Nat.le_of_ble_eq_true rfl) (Nat.le_of_ble_eq_true rfl)
theorem sp_M_cross {a b x d : Int32} {p : Bool} (hn : md < 8) (ha : isE a = true) (hb : isE b = true) (hx : isE x = true) (hd : isE d = true) : Sp M_M_cross [.ref 25, .int a, .int b, .int x, .int d, .int (zb p)] (kM X me mp mc md mo mw ml mv my mt ms mq mh ma mz mk mn mr mx) (some (.int (zb true))) (kM X (ptE me (8 + md) a b x d) (upd mp (8 + md) (zb p)) mc (md + 1) mo mw ml mv my mt ms mq mh ma mz mk mn mr mx) := by
  refine Sp.of (by decide) (Nat.le_of_ble_eq_true rfl) ?_
  refine ev_aload_n 0 d_M_cross_0 rfl rfl ?_
  refine ev_get f_M_52 d_M_cross_1 rfl rfl ?_
  refine ev_bipush (v := 8) d_M_cross_4 (by decide) ?_
  refine ev_icmp_eq 38 d_M_cross_6 (by decide) (fun h1 => ?_) (fun h1 => ?_)
  · exact absurd ((nI_eq (b := 8) (by omega) (by omega)).mp h1) (by omega)
  · refine ev_iload_n 1 d_M_cross_9 rfl rfl ?_
    refine ev_callS M_M_isEdge [_] (sp_M_isEdge _ a) c_M_55 d_M_cross_10 rfl (by decide) (Nat.le_of_ble_eq_true rfl) ⟨rfl, rfl⟩ rfl ?_
    rw [ha]
    refine ev_if_eq 38 d_M_cross_13 (by decide) (fun h2 => ?_) (fun h2 => ?_)
    · exact absurd h2 (by decide)
    · refine ev_iload_n 2 d_M_cross_16 rfl rfl ?_
      refine ev_callS M_M_isEdge [_] (sp_M_isEdge _ b) c_M_55 d_M_cross_17 rfl (by decide) (Nat.le_of_ble_eq_true rfl) ⟨rfl, rfl⟩ rfl ?_
      rw [hb]
      refine ev_if_eq 38 d_M_cross_20 (by decide) (fun h3 => ?_) (fun h3 => ?_)
      · exact absurd h3 (by decide)
      · refine ev_iload_n 3 d_M_cross_23 rfl rfl ?_
        refine ev_callS M_M_isEdge [_] (sp_M_isEdge _ x) c_M_55 d_M_cross_24 rfl (by decide) (Nat.le_of_ble_eq_true rfl) ⟨rfl, rfl⟩ rfl ?_
        rw [hx]
        refine ev_if_eq 38 d_M_cross_27 (by decide) (fun h4 => ?_) (fun h4 => ?_)
        · exact absurd h4 (by decide)
        · refine ev_iload d_M_cross_30 rfl ?_
          refine ev_callS M_M_isEdge [_] (sp_M_isEdge _ d) c_M_55 d_M_cross_32 rfl (by decide) (Nat.le_of_ble_eq_true rfl) ⟨rfl, rfl⟩ rfl ?_
          rw [hd]
          refine ev_if_ne 40 d_M_cross_35 (by decide) (fun h5 => ?_) (fun h5 => ?_)
          · refine ev_aload_n 0 d_M_cross_40 rfl rfl ?_
            refine ev_bipush (v := 8) d_M_cross_41 (by decide) ?_
            refine ev_aload_n 0 d_M_cross_43 rfl rfl ?_
            refine ev_get f_M_52 d_M_cross_44 rfl rfl ?_
            refine ev_iadd d_M_cross_47 ?_
            rw [show (8 : Int32) + nI md = nI (8 + md) from nI_add 8 md]
            refine ev_iload_n 1 d_M_cross_48 rfl rfl ?_
            refine ev_iload_n 2 d_M_cross_49 rfl rfl ?_
            refine ev_iload_n 3 d_M_cross_50 rfl rfl ?_
            refine ev_iload d_M_cross_51 rfl ?_
            refine ev_iload d_M_cross_53 rfl ?_
            refine ev_callV M_M_put [_, _, _, _, _, _] (sp_M_put (x := 8 + md) (by omega) a b x d p) c_M_59 d_M_cross_55 rfl rfl (by decide) (Nat.le_of_ble_eq_true rfl) ⟨rfl, rfl⟩ rfl ?_
            refine ev_aload_n 0 d_M_cross_58 rfl rfl ?_
            refine ev_dup d_M_cross_59 rfl ?_
            refine ev_get f_M_52 d_M_cross_60 rfl rfl ?_
            refine ev_iconst (v := 1) d_M_cross_63 (by decide) ?_
            refine ev_iadd d_M_cross_64 ?_
            rw [nI_1]
            refine ev_put p_M_52 d_M_cross_65 rfl (fun _ _ => ⟨rfl, rfl⟩) (Nat.le_of_ble_eq_true rfl) ?_
            refine ev_iconst (v := 1) d_M_cross_68 (by decide) ?_
            exact ev_iret d_M_cross_69 rfl zr1 (Nat.le_of_ble_eq_true rfl) (Nat.le_of_ble_eq_true rfl)
          · exact absurd h5 (by decide)
theorem sp_M_drop0 : Sp M_M_drop [.ref 25] (kM X me mp mc (0) mo mw ml mv my mt ms mq mh ma mz mk mn mr mx) (some (.int (nI 0))) (kM X me mp mc (0) mo mw ml mv my mt ms mq mh ma mz mk mn mr mx) := by
  refine Sp.of (by decide) (Nat.le_of_ble_eq_true rfl) ?_
  refine ev_aload_n 0 d_M_drop_0 rfl rfl ?_
  refine ev_aload_n 0 d_M_drop_1 rfl rfl ?_
  refine ev_get f_M_52 d_M_drop_2 rfl rfl ?_
  refine ev_if_ne 12 d_M_drop_5 (by decide) (fun h => ?_) (fun h => ?_)
  · exact absurd rfl h
  · refine ev_iconst (v := 0) d_M_drop_8 (by decide) ?_
    refine ev_goto 18 d_M_drop_9 (by decide) ?_
    refine ev_put p_M_52 d_M_drop_18 rfl (fun _ _ => ⟨rfl, rfl⟩) (Nat.le_of_ble_eq_true rfl) ?_
    refine ev_aload_n 0 d_M_drop_21 rfl rfl ?_
    refine ev_get f_M_52 d_M_drop_22 rfl rfl ?_
    exact ev_iret d_M_drop_25 rfl rfl (Nat.le_of_ble_eq_true rfl) (Nat.le_of_ble_eq_true rfl)
theorem sp_M_drop (hn : md < 8) : Sp M_M_drop [.ref 25] (kM X me mp mc (md + 1) mo mw ml mv my mt ms mq mh ma mz mk mn mr mx) (some (.int (nI md))) (kM X me mp mc md mo mw ml mv my mt ms mq mh ma mz mk mn mr mx) := by
  refine Sp.of (by decide) (Nat.le_of_ble_eq_true rfl) ?_
  refine ev_aload_n 0 d_M_drop_0 rfl rfl ?_
  refine ev_aload_n 0 d_M_drop_1 rfl rfl ?_
  refine ev_get f_M_52 d_M_drop_2 rfl rfl ?_
  refine ev_if_ne 12 d_M_drop_5 (by decide) (fun h => ?_) (fun h => ?_)
  · refine ev_aload_n 0 d_M_drop_12 rfl rfl ?_
    refine ev_get f_M_52 d_M_drop_13 rfl rfl ?_
    refine ev_iconst (v := 1) d_M_drop_16 (by decide) ?_
    refine ev_isub d_M_drop_17 ?_
    rw [nI_pred]
    refine ev_put p_M_52 d_M_drop_18 rfl (fun _ _ => ⟨rfl, rfl⟩) (Nat.le_of_ble_eq_true rfl) ?_
    refine ev_aload_n 0 d_M_drop_21 rfl rfl ?_
    refine ev_get f_M_52 d_M_drop_22 rfl rfl ?_
    exact ev_iret d_M_drop_25 rfl rfl (Nat.le_of_ble_eq_true rfl) (Nat.le_of_ble_eq_true rfl)
  · exact absurd h (nI_ne0 (by omega) (by omega))
theorem sp_M_look (b : Bool) : Sp M_M_look [.ref 25, .int (zb b)] (kM X me mp mc md mo mw ml mv my mt ms mq mh ma mz mk mn mr mx) none (kM X me mp mc md mo mw ml ((if b = true then 32 else 0)) ((if b = true then md else mc)) mt ms mq mh ma mz mk mn mr mx) := by
  refine Sp.of (by decide) (Nat.le_of_ble_eq_true rfl) ?_
  cases b with
  | true =>
    refine ev_aload_n 0 d_M_look_0 rfl rfl ?_
    refine ev_iload_n 1 d_M_look_1 rfl rfl ?_
    refine ev_if_eq 10 d_M_look_2 (by decide) (fun h1 => ?_) (fun h1 => ?_)
    · exact absurd h1 (by decide)
    · refine ev_bipush (v := 32) d_M_look_5 (by decide) ?_
      refine ev_goto 11 d_M_look_7 (by decide) ?_
      refine ev_put p_M_63 d_M_look_11 rfl (fun _ _ => ⟨rfl, rfl⟩) (Nat.le_of_ble_eq_true rfl) ?_
      refine ev_aload_n 0 d_M_look_14 rfl rfl ?_
      refine ev_iload_n 1 d_M_look_15 rfl rfl ?_
      refine ev_if_eq 26 d_M_look_16 (by decide) (fun h2 => ?_) (fun h2 => ?_)
      · exact absurd h2 (by decide)
      · refine ev_aload_n 0 d_M_look_19 rfl rfl ?_
        refine ev_get f_M_52 d_M_look_20 rfl rfl ?_
        refine ev_goto 30 d_M_look_23 (by decide) ?_
        refine ev_put p_M_69 d_M_look_30 rfl (fun _ _ => ⟨rfl, rfl⟩) (Nat.le_of_ble_eq_true rfl) ?_
        exact ev_ret d_M_look_33 rfl (Nat.le_of_ble_eq_true rfl) (Nat.le_of_ble_eq_true rfl)
  | false =>
    refine ev_aload_n 0 d_M_look_0 rfl rfl ?_
    refine ev_iload_n 1 d_M_look_1 rfl rfl ?_
    refine ev_if_eq 10 d_M_look_2 (by decide) (fun h1 => ?_) (fun h1 => ?_)
    · refine ev_iconst (v := 0) d_M_look_10 (by decide) ?_
      refine ev_put p_M_63 d_M_look_11 rfl (fun _ _ => ⟨rfl, rfl⟩) (Nat.le_of_ble_eq_true rfl) ?_
      refine ev_aload_n 0 d_M_look_14 rfl rfl ?_
      refine ev_iload_n 1 d_M_look_15 rfl rfl ?_
      refine ev_if_eq 26 d_M_look_16 (by decide) (fun h2 => ?_) (fun h2 => ?_)
      · refine ev_aload_n 0 d_M_look_26 rfl rfl ?_
        refine ev_get f_M_66 d_M_look_27 rfl rfl ?_
        refine ev_put p_M_69 d_M_look_30 rfl (fun _ _ => ⟨rfl, rfl⟩) (Nat.le_of_ble_eq_true rfl) ?_
        exact ev_ret d_M_look_33 rfl (Nat.le_of_ble_eq_true rfl) (Nat.le_of_ble_eq_true rfl)
      · exact absurd rfl h2
    · exact absurd rfl h1
theorem sp_M_in {h : Nat} (hh : h < 64) : Sp M_M_in [.ref 25, .int (nI h)] (kM X me mp mc md mo mw ml mv my mt ms mq mh ma mz mk mn mr mx) (some (.int (zb (inM mp h)))) (kM X me mp mc md mo mw ml mv my mt ms mq mh ma mz mk mn mr mx) := by
  refine Sp.of (by decide) (Nat.le_of_ble_eq_true rfl) ?_
  refine ev_iload_n 1 d_M_in_0 rfl rfl ?_
  refine ev_iconst (v := 4) d_M_in_1 (by decide) ?_
  refine ev_irem d_M_in_2 (by decide) ?_
  rw [z_rem4 (by omega)]
  have k3 : ∀ z : Nat, z < 4 → inM mp h = decide (h % 4 = z) → Ev M_M_in none (some (.int (zb (inM mp h)))) (kM X me mp mc md mo mw ml mv my mt ms mq mh ma mz mk mn mr mx) 25 [(0, .ref 25), (1, .int (nI h)), (2, .int (nI (h % 4)))] [.int (nI z), .int (nI (h % 4))] (kM X me mp mc md mo mw ml mv my mt ms mq mh ma mz mk mn mr mx) 0 0 := by
    intro z hz he
    rw [he]
    refine ev_icmp_ne 32 d_M_in_25 (by decide) (fun q1 => ?_) (fun q1 => ?_)
    · rw [decide_eq_false (fun w => q1 (by rw [w]))]
      refine ev_iconst (v := 0) d_M_in_32 (by decide) ?_
      exact ev_iret d_M_in_33 rfl zr0 (Nat.le_of_ble_eq_true rfl) (Nat.le_of_ble_eq_true rfl)
    · rw [decide_eq_true ((nI_eq (by omega) (by omega)).mp q1)]
      refine ev_iconst (v := 1) d_M_in_28 (by decide) ?_
      refine ev_goto 33 d_M_in_29 (by decide) ?_
      exact ev_iret d_M_in_33 rfl zr1 (Nat.le_of_ble_eq_true rfl) (Nat.le_of_ble_eq_true rfl)
  refine ev_istore_n 2 d_M_in_3 rfl (Nat.le_of_ble_eq_true rfl) rfl ?_
  refine ev_iload_n 2 d_M_in_4 rfl rfl ?_
  refine ev_if_eq 28 d_M_in_5 (by decide) (fun q0 => ?_) (fun q0 => ?_)
  · have e1 : inM mp h = true := by unfold inM; rw [decide_eq_true ((z_nz (by omega)).mp q0)]; rfl
    rw [e1]
    refine ev_iconst (v := 1) d_M_in_28 (by decide) ?_
    refine ev_goto 33 d_M_in_29 (by decide) ?_
    exact ev_iret d_M_in_33 rfl zr1 (Nat.le_of_ble_eq_true rfl) (Nat.le_of_ble_eq_true rfl)
  · have e0 : decide (h % 4 = 0) = false := decide_eq_false (fun w => q0 ((z_nz (by omega)).mpr w))
    refine ev_iload_n 2 d_M_in_8 rfl rfl ?_
    refine ev_aload_n 0 d_M_in_9 rfl rfl ?_
    refine ev_get f_M_13 d_M_in_10 rfl rfl ?_
    refine ev_iload_n 1 d_M_in_13 rfl rfl ?_
    refine ev_iconst (v := 4) d_M_in_14 (by decide) ?_
    refine ev_idiv d_M_in_15 (by decide) ?_
    rw [z_div4 (by omega)]
    refine ev_zald d_M_in_16 rfl (vp_in_nI (by omega) (by omega)) ?_
    rw [nI_clamp (by omega)]
    refine ev_if_eq 24 d_M_in_17 (by decide) (fun q1 => ?_) (fun q1 => ?_)
    · refine ev_iconst (v := 1) d_M_in_24 (by decide) ?_
      exact k3 1 (by decide) (by unfold inM; rw [e0, if_pos q1]; rfl)
    · refine ev_iconst (v := 3) d_M_in_20 (by decide) ?_
      refine ev_goto 25 d_M_in_21 (by decide) ?_
      exact k3 3 (by decide) (by unfold inM; rw [e0, if_neg q1]; rfl)
theorem lp_M_other (hv : mv + 4 * my ≤ 64) {h : Nat} (hh : h < 64) : ∀ k j (fd c : Int32), j + k = mv + 4 * my → mv ≤ j → Ev M_M_other none (some (.int (oM me h j k fd c))) (kM X me mp mc md mo mw ml mv my mt ms mq mh ma mz mk mn mr mx) 10 [(0, .ref 25), (1, .int (nI h)), (2, .int fd), (3, .int c), (4, .int (nI j))] [] (kM X me mp mc md mo mw ml mv my mt ms mq mh ma mz mk mn mr mx) 0 0 := by
  intro k
  induction k with
  | zero =>
    intro j fd c hj hm
    have e0 : oM me h j 0 fd c = if c = 1 then fd else -1 := by rw [oM]
    rw [e0]
    refine ev_iload d_M_other_10 rfl ?_
    refine ev_aload_n 0 d_M_other_12 rfl rfl ?_
    refine ev_get f_M_63 d_M_other_13 rfl rfl ?_
    refine ev_iconst (v := 4) d_M_other_16 (by decide) ?_
    refine ev_aload_n 0 d_M_other_17 rfl rfl ?_
    refine ev_get f_M_69 d_M_other_18 rfl rfl ?_
    refine ev_imul d_M_other_21 ?_
    rw [z_m4]
    refine ev_iadd d_M_other_22 ?_
    rw [nI_add]
    refine ev_icmp_ge 60 d_M_other_23 (by decide) (fun q0 => ?_) (fun q0 => ?_)
    · refine ev_iload_n 3 d_M_other_60 rfl rfl ?_
      refine ev_iconst (v := 1) d_M_other_61 (by decide) ?_
      refine ev_icmp_ne 69 d_M_other_62 (by decide) (fun q1 => ?_) (fun q1 => ?_)
      · rw [if_neg q1]
        refine ev_iconst (v := -1) d_M_other_69 (by decide) ?_
        exact ev_iret d_M_other_70 rfl rfl (Nat.le_of_ble_eq_true rfl) (Nat.le_of_ble_eq_true rfl)
      · rw [if_pos q1]
        refine ev_iload_n 2 d_M_other_65 rfl rfl ?_
        refine ev_goto 70 d_M_other_66 (by decide) ?_
        exact ev_iret d_M_other_70 rfl rfl (Nat.le_of_ble_eq_true rfl) (Nat.le_of_ble_eq_true rfl)
    · exact absurd (nI_le (by omega) (by omega)) q0
  | succ k ih =>
    intro j fd c hj hm
    have no : ¬ (j ≠ h ∧ me j = me h) → Ev M_M_other none (some (.int (oM me h j (k + 1) fd c))) (kM X me mp mc md mo mw ml mv my mt ms mq mh ma mz mk mn mr mx) 54 [(0, .ref 25), (1, .int (nI h)), (2, .int fd), (3, .int c), (4, .int (nI j))] [] (kM X me mp mc md mo mw ml mv my mt ms mq mh ma mz mk mn mr mx) 0 0 := by
      intro hq
      have e0 : oM me h j (k + 1) fd c = oM me h (j + 1) k fd c := by rw [oM, if_neg hq]
      rw [e0]
      refine ev_iinc (v := _ + 1) d_M_other_54 rfl rfl (Nat.le_of_ble_eq_true rfl) rfl ?_
      rw [nI_1]
      refine ev_goto 10 d_M_other_57 (by decide) ?_
      exact ih (j + 1) fd c (by omega) (by omega)
    refine ev_iload d_M_other_10 rfl ?_
    refine ev_aload_n 0 d_M_other_12 rfl rfl ?_
    refine ev_get f_M_63 d_M_other_13 rfl rfl ?_
    refine ev_iconst (v := 4) d_M_other_16 (by decide) ?_
    refine ev_aload_n 0 d_M_other_17 rfl rfl ?_
    refine ev_get f_M_69 d_M_other_18 rfl rfl ?_
    refine ev_imul d_M_other_21 ?_
    rw [z_m4]
    refine ev_iadd d_M_other_22 ?_
    rw [nI_add]
    refine ev_icmp_ge 60 d_M_other_23 (by decide) (fun q0 => ?_) (fun q0 => ?_)
    · exact absurd q0 (nI_ge (by omega) (by omega))
    · refine ev_iload d_M_other_26 rfl ?_
      refine ev_iload_n 1 d_M_other_28 rfl rfl ?_
      refine ev_icmp_eq 54 d_M_other_29 (by decide) (fun q1 => ?_) (fun q1 => ?_)
      · exact no (fun w => w.1 ((nI_eq (by omega) (by omega)).mp q1))
      · refine ev_aload_n 0 d_M_other_32 rfl rfl ?_
        refine ev_get f_M_7 d_M_other_33 rfl rfl ?_
        refine ev_iload d_M_other_36 rfl ?_
        refine ev_iald d_M_other_38 rfl (vp_in_nI (by omega) (by omega)) ?_
        rw [nI_clamp (by omega)]
        refine ev_aload_n 0 d_M_other_39 rfl rfl ?_
        refine ev_get f_M_7 d_M_other_40 rfl rfl ?_
        refine ev_iload_n 1 d_M_other_43 rfl rfl ?_
        refine ev_iald d_M_other_44 rfl (vp_in_nI (by omega) (by omega)) ?_
        rw [nI_clamp (by omega)]
        refine ev_icmp_ne 54 d_M_other_45 (by decide) (fun q2 => ?_) (fun q2 => ?_)
        · exact no (fun w => q2 w.2)
        · have e0 : oM me h j (k + 1) fd c = oM me h (j + 1) k (nI j) (c + 1) := by rw [oM, if_pos ⟨fun w => q1 (by rw [w]), q2⟩]
          rw [e0]
          refine ev_iload d_M_other_48 rfl ?_
          refine ev_istore_n 2 d_M_other_50 rfl (Nat.le_of_ble_eq_true rfl) rfl ?_
          refine ev_iinc (v := _ + 1) d_M_other_51 rfl rfl (Nat.le_of_ble_eq_true rfl) rfl ?_
          refine ev_iinc (v := _ + 1) d_M_other_54 rfl rfl (Nat.le_of_ble_eq_true rfl) rfl ?_
          rw [nI_1]
          refine ev_goto 10 d_M_other_57 (by decide) ?_
          exact ih (j + 1) (nI j) (c + 1) (by omega) (by omega)
theorem sp_M_other (hv : mv + 4 * my ≤ 64) {h : Nat} (hh : h < 64) : Sp M_M_other [.ref 25, .int (nI h)] (kM X me mp mc md mo mw ml mv my mt ms mq mh ma mz mk mn mr mx) (some (.int (oMI me mv my h))) (kM X me mp mc md mo mw ml mv my mt ms mq mh ma mz mk mn mr mx) := by
  refine Sp.of (by decide) (Nat.le_of_ble_eq_true rfl) ?_
  refine ev_iconst (v := -1) d_M_other_0 (by decide) ?_
  refine ev_istore_n 2 d_M_other_1 rfl (Nat.le_of_ble_eq_true rfl) rfl ?_
  refine ev_iconst (v := 0) d_M_other_2 (by decide) ?_
  refine ev_istore_n 3 d_M_other_3 rfl (Nat.le_of_ble_eq_true rfl) rfl ?_
  refine ev_aload_n 0 d_M_other_4 rfl rfl ?_
  refine ev_get f_M_63 d_M_other_5 rfl rfl ?_
  refine ev_istore d_M_other_8 (Nat.le_of_ble_eq_true rfl) rfl ?_
  exact lp_M_other hv hh (4 * my) mv (-1) 0 (by omega) (by omega)
theorem sp_M_follow (hv : mv + 4 * my ≤ 64) {o : Nat → Nat} (hw : win me mv my o) {h : Nat} (h1 : mv ≤ h) (h2 : h < mv + 4 * my) : Sp M_M_follow [.ref 25, .int (nI h)] (kM X me mp mc md mo mw ml mv my mt ms mq mh ma mz mk mn mr mx) (some (.int (nI (fM o h)))) (kM X me mp mc md mo mw ml mv my mt ms mq mh ma mz mk mn mr mx) := by
  refine Sp.of (by decide) (Nat.le_of_ble_eq_true rfl) ?_
  obtain ⟨a1, a2, a3⟩ := hw h h1 h2
  refine ev_aload_n 0 d_M_follow_0 rfl rfl ?_
  refine ev_iload_n 1 d_M_follow_1 rfl rfl ?_
  refine ev_callV M_M_other [_] (sp_M_other hv (by omega)) c_M_72 d_M_follow_2 rfl rfl (by decide) (Nat.le_of_ble_eq_true rfl) ⟨rfl, rfl⟩ rfl ?_
  rw [a1]
  refine ev_istore_n 2 d_M_follow_5 rfl (Nat.le_of_ble_eq_true rfl) rfl ?_
  refine ev_iload_n 2 d_M_follow_6 rfl rfl ?_
  refine ev_iconst (v := 4) d_M_follow_7 (by decide) ?_
  refine ev_irem d_M_follow_8 (by decide) ?_
  rw [z_rem4 (by omega)]
  refine ev_if_ne 18 d_M_follow_9 (by decide) (fun q1 => ?_) (fun q1 => ?_)
  · have e1 : fM o h = o h - 1 := by unfold fM; rw [if_neg (fun w => q1 ((z_nz (by omega)).mpr w))]
    rw [e1]
    refine ev_iload_n 2 d_M_follow_18 rfl rfl ?_
    refine ev_iconst (v := 1) d_M_follow_19 (by decide) ?_
    refine ev_isub d_M_follow_20 ?_
    have q2 : ¬ o h % 4 = 0 := fun w => q1 ((z_nz (by omega)).mpr w)
    rw [show nI (o h) - 1 = nI (o h - 1) by rw [show o h = o h - 1 + 1 by omega, nI_pred]; rfl]
    exact ev_iret d_M_follow_21 rfl rfl (Nat.le_of_ble_eq_true rfl) (Nat.le_of_ble_eq_true rfl)
  · have e1 : fM o h = o h + 3 := by unfold fM; rw [if_pos ((z_nz (by omega)).mp q1)]
    rw [e1]
    refine ev_iload_n 2 d_M_follow_12 rfl rfl ?_
    refine ev_iconst (v := 3) d_M_follow_13 (by decide) ?_
    refine ev_iadd d_M_follow_14 ?_
    rw [z_p3]
    refine ev_goto 21 d_M_follow_15 (by decide) ?_
    exact ev_iret d_M_follow_21 rfl rfl (Nat.le_of_ble_eq_true rfl) (Nat.le_of_ble_eq_true rfl)
theorem lp_M_face (hv : mv + 4 * my ≤ 64) (h4 : mv % 4 = 0) {o : Nat → Nat} (hw : win me mv my o) {h : Nat} (h1 : mv ≤ h) (h2 : h < mv + 4 * my) : ∀ k j b, mv ≤ j → j < mv + 4 * my → b < 64 → rch (fM o) h k j → Ev M_M_face none (some (.int (nI (fcB (fM o) h k j b)))) (kM X me mp mc md mo mw ml mv my mt ms mq mh ma mz mk mn mr mx) 8 [(0, .ref 25), (1, .int (nI h)), (2, .int (nI b)), (3, .int (nI j))] [] (kM X me mp mc md mo mw ml mv my mt ms mq mh ma mz mk mn mr mx) 0 0 := by
  intro k
  induction k with
  | zero =>
    intro j b j1 j2 hb hr
    have e0 : fcB (fM o) h 0 j b = b := by rw [fcB]
    rw [e0]
    rw [rch] at hr
    refine ev_iload_n 3 d_M_face_8 rfl rfl ?_
    refine ev_iload_n 1 d_M_face_9 rfl rfl ?_
    refine ev_icmp_eq 33 d_M_face_10 (by decide) (fun q0 => ?_) (fun q0 => ?_)
    · refine ev_iload_n 2 d_M_face_33 rfl rfl ?_
      exact ev_iret d_M_face_34 rfl rfl (Nat.le_of_ble_eq_true rfl) (Nat.le_of_ble_eq_true rfl)
    · exact absurd (by rw [hr]) q0
  | succ k ih =>
    intro j b j1 j2 hb hr
    rw [rch] at hr
    have hf := fM_win h4 hw j1 j2
    refine ev_iload_n 3 d_M_face_8 rfl rfl ?_
    refine ev_iload_n 1 d_M_face_9 rfl rfl ?_
    refine ev_icmp_eq 33 d_M_face_10 (by decide) (fun q0 => ?_) (fun q0 => ?_)
    · have e0 : fcB (fM o) h (k + 1) j b = b := by rw [fcB, if_pos ((nI_eq (by omega) (by omega)).mp q0)]
      rw [e0]
      refine ev_iload_n 2 d_M_face_33 rfl rfl ?_
      exact ev_iret d_M_face_34 rfl rfl (Nat.le_of_ble_eq_true rfl) (Nat.le_of_ble_eq_true rfl)
    · have q1 : ¬ j = h := fun w => q0 (by rw [w])
      have e0 : fcB (fM o) h (k + 1) j b = fcB (fM o) h k (fM o j) (if j < b then j else b) := by rw [fcB, if_neg q1]
      rw [e0]
      have k2 : ∀ b' : Nat, b' = (if j < b then j else b) → Ev M_M_face none (some (.int (nI (fcB (fM o) h k (fM o j) (if j < b then j else b))))) (kM X me mp mc md mo mw ml mv my mt ms mq mh ma mz mk mn mr mx) 23 [(0, .ref 25), (1, .int (nI h)), (2, .int (nI b)), (3, .int (nI j))] [.int (nI b')] (kM X me mp mc md mo mw ml mv my mt ms mq mh ma mz mk mn mr mx) 0 0 := by
        intro b' hb'
        rw [← hb']
        refine ev_istore_n 2 d_M_face_23 rfl (Nat.le_of_ble_eq_true rfl) rfl ?_
        refine ev_aload_n 0 d_M_face_24 rfl rfl ?_
        refine ev_iload_n 3 d_M_face_25 rfl rfl ?_
        refine ev_callV M_M_follow [_] (sp_M_follow hv hw j1 j2) c_M_79 d_M_face_26 rfl rfl (by decide) (Nat.le_of_ble_eq_true rfl) ⟨rfl, rfl⟩ rfl ?_
        refine ev_istore_n 3 d_M_face_29 rfl (Nat.le_of_ble_eq_true rfl) rfl ?_
        refine ev_goto 8 d_M_face_30 (by decide) ?_
        exact ih (fM o j) b' hf.1 hf.2 (by rw [hb']; split <;> omega) (hr.resolve_left q1)
      refine ev_iload_n 3 d_M_face_13 rfl rfl ?_
      refine ev_iload_n 2 d_M_face_14 rfl rfl ?_
      refine ev_icmp_ge 22 d_M_face_15 (by decide) (fun q2 => ?_) (fun q2 => ?_)
      · refine ev_iload_n 2 d_M_face_22 rfl rfl ?_
        exact k2 b (by rw [if_neg (fun w => absurd q2 (nI_ge w (by omega)))])
      · refine ev_iload_n 3 d_M_face_18 rfl rfl ?_
        refine ev_goto 23 d_M_face_19 (by decide) ?_
        exact k2 j (by rw [if_pos (Nat.not_le.mp (fun w => q2 (nI_le w (by omega))))])
def faM (o : Nat → Nat) (h : Nat) : Nat := fcB (fM o) h 64 (fM o h) h
theorem sp_M_face (hv : mv + 4 * my ≤ 64) (h4 : mv % 4 = 0) {o : Nat → Nat} (hw : win me mv my o) {h : Nat} (h1 : mv ≤ h) (h2 : h < mv + 4 * my) (hr : rch (fM o) h 64 (fM o h)) : Sp M_M_face [.ref 25, .int (nI h)] (kM X me mp mc md mo mw ml mv my mt ms mq mh ma mz mk mn mr mx) (some (.int (nI (faM o h)))) (kM X me mp mc md mo mw ml mv my mt ms mq mh ma mz mk mn mr mx) := by
  refine Sp.of (by decide) (Nat.le_of_ble_eq_true rfl) ?_
  have hf := fM_win h4 hw h1 h2
  refine ev_iload_n 1 d_M_face_0 rfl rfl ?_
  refine ev_istore_n 2 d_M_face_1 rfl (Nat.le_of_ble_eq_true rfl) rfl ?_
  refine ev_aload_n 0 d_M_face_2 rfl rfl ?_
  refine ev_iload_n 1 d_M_face_3 rfl rfl ?_
  refine ev_callV M_M_follow [_] (sp_M_follow hv hw h1 h2) c_M_79 d_M_face_4 rfl rfl (by decide) (Nat.le_of_ble_eq_true rfl) ⟨rfl, rfl⟩ rfl ?_
  refine ev_istore_n 3 d_M_face_7 rfl (Nat.le_of_ble_eq_true rfl) rfl ?_
  exact lp_M_face hv h4 hw h1 h2 64 (fM o h) h hf.1 hf.2 (by omega) hr
end Md
