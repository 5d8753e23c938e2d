/-- what pull leaves: of the edges and the circles -/
def puS (me mp : Nat → Int32) (n mo : Nat) (o : Nat → Nat) (up down x y : Nat) : (Nat → Int32) × Nat :=
  joM n (tP (tP mp (mxM x y)) (miM x y)) (rj (beM me mp o up true) (beM me mp o up false) (beM me mp o down true)) (rj (beM me mp o up true) (beM me mp o up false) (beM me mp o down false))
    (joM n (tP (tP mp (mxM x y)) (miM x y)) (beM me mp o up true) (beM me mp o up false) (tE (tE me (mxM x y)) (miM x y), mo))
def ouM (mp : Nat → Int32) (o : Nat → Nat) (h : Nat) : Nat := if inM mp h = true then o h else h
def coM (mp : Nat → Int32) (o : Nat → Nat) (h : Nat) : Nat := if inM mp h = true then h else o h
def slM (me mp : Nat → Int32) (o : Nat → Nat) (h : Nat) (x : Nat → Int32) : Nat → Int32 := upd (upd (upd (upd x (opM (ouM mp o h)) (me (ouM mp o h))) (ouM mp o h) (me (opM (coM mp o h)))) (coM mp o h) (me (opM (ouM mp o h)))) (opM (coM mp o h)) (me (coM mp o h))
def cpS (a : Nat → Int32) (h : Nat) (x : Nat → Int32) : Nat → Int32 := upd x h (a h)
def sbB (o : Nat → Nat) (y z a : Nat) : Bool := (decide (fM o (fM o (fM o a)) = a) && ((decide (fM o a / 4 = y) && decide (fM o (fM o a) / 4 = z)) || (decide (fM o a / 4 = z) && decide (fM o (fM o a) / 4 = y)))) && (lvM o a true || lvM o (fM o a) true || lvM o (fM o (fM o a)) true)
section Md
variable {X : Nat → zE} {me mp : Nat → Int32} {mc md mo : Nat} {mw : Nat → Int32} {ml mv my : Nat} {mt : Nat → Int32} {ms mq mh : Nat → Int64} {ma : Nat → Int32} {mz : Nat} {mk mn : Nat → Int32} {mr : Nat → Int64} {mx : Nat → Int32}
theorem sp_M_pull {o : Nat → Nat} (hn : mc ≤ 6) (hw : win me 0 (mc + 2) o) {up down x y : Nat} (hu : up < 4 * (mc + 2)) (hd : down < 4 * (mc + 2)) (hx : x < mc + 2) (hy : y < mc + 2) : Sp M_M_pull [.ref 25, .int (nI up), .int (nI down), .int (nI x), .int (nI y)] (kM X me mp (mc + 2) md mo mw ml (0) (mc + 2) mt ms mq mh ma mz mk mn mr mx) none (kM X ((puS me mp mc mo o up down x y).1) (tP (tP mp (mxM x y)) (miM x y)) mc md ((puS me mp mc mo o up down x y).2) mw ml (0) (mc + 2) mt ms mq mh ma mz mk mn mr mx) := by
  refine Sp.of (by decide) (Nat.le_of_ble_eq_true rfl) ?_
  have hmx : mxM x y ≤ 7 := by unfold mxM; split <;> omega
  have hmi : miM x y ≤ 7 := by unfold miM; split <;> omega
  refine ev_aload_n 0 d_M_pull_0 rfl rfl ?_
  refine ev_iload_n 1 d_M_pull_1 rfl rfl ?_
  refine ev_iconst (v := 1) d_M_pull_2 (by decide) ?_
  refine ev_callV M_M_beyond [_, _] (sp_M_beyond (mc := mc + 2) (mv := 0) (my := mc + 2) (by omega) (by decide) hw (h := up) (by omega) (by omega) true) c_M_187 d_M_pull_3 rfl rfl (by decide) (Nat.le_of_ble_eq_true rfl) ⟨rfl, rfl⟩ rfl ?_
  refine ev_istore d_M_pull_6 (Nat.le_of_ble_eq_true rfl) rfl ?_
  refine ev_aload_n 0 d_M_pull_8 rfl rfl ?_
  refine ev_iload_n 1 d_M_pull_9 rfl rfl ?_
  refine ev_iconst (v := 0) d_M_pull_10 (by decide) ?_
  refine ev_callV M_M_beyond [_, _] (sp_M_beyond (mc := mc + 2) (mv := 0) (my := mc + 2) (by omega) (by decide) hw (h := up) (by omega) (by omega) false) c_M_187 d_M_pull_11 rfl rfl (by decide) (Nat.le_of_ble_eq_true rfl) ⟨rfl, rfl⟩ rfl ?_
  refine ev_istore d_M_pull_14 (Nat.le_of_ble_eq_true rfl) rfl ?_
  refine ev_aload_n 0 d_M_pull_16 rfl rfl ?_
  refine ev_iload_n 2 d_M_pull_17 rfl rfl ?_
  refine ev_iconst (v := 1) d_M_pull_18 (by decide) ?_
  refine ev_callV M_M_beyond [_, _] (sp_M_beyond (mc := mc + 2) (mv := 0) (my := mc + 2) (by omega) (by decide) hw (h := down) (by omega) (by omega) true) c_M_187 d_M_pull_19 rfl rfl (by decide) (Nat.le_of_ble_eq_true rfl) ⟨rfl, rfl⟩ rfl ?_
  refine ev_istore d_M_pull_22 (Nat.le_of_ble_eq_true rfl) rfl ?_
  refine ev_aload_n 0 d_M_pull_24 rfl rfl ?_
  refine ev_iload_n 2 d_M_pull_25 rfl rfl ?_
  refine ev_iconst (v := 0) d_M_pull_26 (by decide) ?_
  refine ev_callV M_M_beyond [_, _] (sp_M_beyond (mc := mc + 2) (mv := 0) (my := mc + 2) (by omega) (by decide) hw (h := down) (by omega) (by omega) false) c_M_187 d_M_pull_27 rfl rfl (by decide) (Nat.le_of_ble_eq_true rfl) ⟨rfl, rfl⟩ rfl ?_
  generalize hP : beM me mp o up true = P
  generalize hQ : beM me mp o up false = Q
  generalize hR : beM me mp o down true = R
  generalize hS : beM me mp o down false = S
  have ep : puS me mp mc mo o up down x y = joM mc (tP (tP mp (mxM x y)) (miM x y)) (rj P Q R) (rj P Q S) (joM mc (tP (tP mp (mxM x y)) (miM x y)) P Q (tE (tE me (mxM x y)) (miM x y), mo)) := by unfold puS; rw [hP, hQ, hR, hS]
  rw [ep]
  have k4 : Ev M_M_pull none none (kM X ((joM mc (tP (tP mp (mxM x y)) (miM x y)) (rj P Q R) (rj P Q S) (joM mc (tP (tP mp (mxM x y)) (miM x y)) P Q (tE (tE me (mxM x y)) (miM x y), mo))).1) (tP (tP mp (mxM x y)) (miM x y)) mc md ((joM mc (tP (tP mp (mxM x y)) (miM x y)) (rj P Q R) (rj P Q S) (joM mc (tP (tP mp (mxM x y)) (miM x y)) P Q (tE (tE me (mxM x y)) (miM x y), mo))).2) mw ml (0) (mc + 2) mt ms mq mh ma mz mk mn mr mx) 64 [(0, .ref 25), (1, .int (nI up)), (2, .int (nI down)), (3, .int (nI x)), (4, .int (nI y)), (5, .int P), (6, .int Q), (7, .int R), (8, .int S)] [] (kM X (tE (tE me (mxM x y)) (miM x y)) (tP (tP mp (mxM x y)) (miM x y)) mc md mo mw ml (0) (mc + 2) mt ms mq mh ma mz mk mn mr mx) 0 0 := by
    generalize tE (tE me (mxM x y)) (miM x y) = E
    generalize tP (tP mp (mxM x y)) (miM x y) = G
    have k5 : ∀ (E : Nat → Int32) (mo : Nat), Ev M_M_pull none none (kM X ((joM mc G (rj P Q R) (rj P Q S) (E, mo)).1) (G) mc md ((joM mc G (rj P Q R) (rj P Q S) (E, mo)).2) mw ml (0) (mc + 2) mt ms mq mh ma mz mk mn mr mx) 88 [(0, .ref 25), (1, .int (nI up)), (2, .int (nI down)), (3, .int (nI x)), (4, .int (nI y)), (5, .int P), (6, .int Q), (7, .int (rj P Q R)), (8, .int S)] [] (kM X (E) (G) mc md mo mw ml (0) (mc + 2) mt ms mq mh ma mz mk mn mr mx) 0 0 := by
      intro E mo
      refine ev_iload d_M_pull_88 rfl ?_
      refine ev_iload d_M_pull_90 rfl ?_
      refine ev_icmp_ne 100 d_M_pull_92 (by decide) (fun q1 => ?_) (fun q1 => ?_)
      · have e1 : rj P Q S = S := by unfold rj; rw [if_neg q1]
        rw [e1]
        refine ev_iload d_M_pull_100 rfl ?_
        refine ev_istore d_M_pull_102 (Nat.le_of_ble_eq_true rfl) rfl ?_
        refine ev_aload_n 0 d_M_pull_104 rfl rfl ?_
        refine ev_iload d_M_pull_105 rfl ?_
        refine ev_iload d_M_pull_107 rfl ?_
        refine ev_callV M_M_join [_, _] (sp_M_join (mv := 0) (my := mc + 2) (mp := G) (by omega) _ _) c_M_174 d_M_pull_109 rfl rfl (by decide) (Nat.le_of_ble_eq_true rfl) ⟨rfl, rfl⟩ rfl ?_
        exact ev_ret d_M_pull_112 rfl (Nat.le_of_ble_eq_true rfl) (Nat.le_of_ble_eq_true rfl)
      · have e1 : rj P Q S = P := by unfold rj; rw [if_pos q1]
        rw [e1]
        refine ev_iload d_M_pull_95 rfl ?_
        refine ev_goto 102 d_M_pull_97 (by decide) ?_
        refine ev_istore d_M_pull_102 (Nat.le_of_ble_eq_true rfl) rfl ?_
        refine ev_aload_n 0 d_M_pull_104 rfl rfl ?_
        refine ev_iload d_M_pull_105 rfl ?_
        refine ev_iload d_M_pull_107 rfl ?_
        refine ev_callV M_M_join [_, _] (sp_M_join (mv := 0) (my := mc + 2) (mp := G) (by omega) _ _) c_M_174 d_M_pull_109 rfl rfl (by decide) (Nat.le_of_ble_eq_true rfl) ⟨rfl, rfl⟩ rfl ?_
        exact ev_ret d_M_pull_112 rfl (Nat.le_of_ble_eq_true rfl) (Nat.le_of_ble_eq_true rfl)
    refine ev_aload_n 0 d_M_pull_64 rfl rfl ?_
    refine ev_iload d_M_pull_65 rfl ?_
    refine ev_iload d_M_pull_67 rfl ?_
    refine ev_callV M_M_join [_, _] (sp_M_join (mv := 0) (my := mc + 2) (mp := G) (by omega) _ _) c_M_174 d_M_pull_69 rfl rfl (by decide) (Nat.le_of_ble_eq_true rfl) ⟨rfl, rfl⟩ rfl ?_
    refine ev_iload d_M_pull_72 rfl ?_
    refine ev_iload d_M_pull_74 rfl ?_
    refine ev_icmp_ne 84 d_M_pull_76 (by decide) (fun q1 => ?_) (fun q1 => ?_)
    · have e1 : rj P Q R = R := by unfold rj; rw [if_neg q1]
      rw [e1] at k5 ⊢
      refine ev_iload d_M_pull_84 rfl ?_
      refine ev_istore d_M_pull_86 (Nat.le_of_ble_eq_true rfl) rfl ?_
      exact k5 _ _
    · have e1 : rj P Q R = P := by unfold rj; rw [if_pos q1]
      rw [e1] at k5 ⊢
      refine ev_iload d_M_pull_79 rfl ?_
      refine ev_goto 86 d_M_pull_81 (by decide) ?_
      refine ev_istore d_M_pull_86 (Nat.le_of_ble_eq_true rfl) rfl ?_
      exact k5 _ _
  refine ev_istore d_M_pull_30 (Nat.le_of_ble_eq_true rfl) rfl ?_
  refine ev_aload_n 0 d_M_pull_32 rfl rfl ?_
  refine ev_iload_n 3 d_M_pull_33 rfl rfl ?_
  refine ev_iload d_M_pull_34 rfl ?_
  refine ev_icmp_le 43 d_M_pull_36 (by decide) (fun q1 => ?_) (fun q1 => ?_)
  · have h1 : ¬ y < x := fun w => absurd q1 (by have := nI_ge w (by omega : x < 2 ^ 31); exact fun z => this z)
    have e1 : mxM x y = y := by unfold mxM; rw [if_neg h1]
    have e2 : miM x y = x := by unfold miM; rw [if_neg h1]
    rw [e1, e2] at k4
    rw [e1, e2]
    refine ev_iload d_M_pull_43 rfl ?_
    refine ev_callV M_M_takeOut [_] (sp_M_takeOut (mc := mc + 1) (mv := 0) (my := mc + 2) (x := y) (by omega)) c_M_171 d_M_pull_45 rfl rfl (by decide) (Nat.le_of_ble_eq_true rfl) ⟨rfl, rfl⟩ rfl ?_
    refine ev_aload_n 0 d_M_pull_48 rfl rfl ?_
    refine ev_iload_n 3 d_M_pull_49 rfl rfl ?_
    refine ev_iload d_M_pull_50 rfl ?_
    refine ev_icmp_le 60 d_M_pull_52 (by decide) (fun q2 => ?_) (fun q2 => ?_)
    · skip
      refine ev_iload_n 3 d_M_pull_60 rfl rfl ?_
      refine ev_callV M_M_takeOut [_] (sp_M_takeOut (mc := mc) (mv := 0) (my := mc + 2) (me := tE me y) (mp := tP mp y) (x := x) (by omega)) c_M_171 d_M_pull_61 rfl rfl (by decide) (Nat.le_of_ble_eq_true rfl) ⟨rfl, rfl⟩ rfl ?_
      exact k4
    · exact absurd q1 q2
  · have h1 : y < x := Nat.not_le.mp (fun w => q1 (nI_le w (by omega)))
    have e1 : mxM x y = x := by unfold mxM; rw [if_pos h1]
    have e2 : miM x y = y := by unfold miM; rw [if_pos h1]
    rw [e1, e2] at k4
    rw [e1, e2]
    refine ev_iload_n 3 d_M_pull_39 rfl rfl ?_
    refine ev_goto 45 d_M_pull_40 (by decide) ?_
    refine ev_callV M_M_takeOut [_] (sp_M_takeOut (mc := mc + 1) (mv := 0) (my := mc + 2) (x := x) (by omega)) c_M_171 d_M_pull_45 rfl rfl (by decide) (Nat.le_of_ble_eq_true rfl) ⟨rfl, rfl⟩ rfl ?_
    refine ev_aload_n 0 d_M_pull_48 rfl rfl ?_
    refine ev_iload_n 3 d_M_pull_49 rfl rfl ?_
    refine ev_iload d_M_pull_50 rfl ?_
    refine ev_icmp_le 60 d_M_pull_52 (by decide) (fun q2 => ?_) (fun q2 => ?_)
    · exact absurd q2 q1
    · skip
      refine ev_iload d_M_pull_55 rfl ?_
      refine ev_goto 61 d_M_pull_57 (by decide) ?_
      refine ev_callV M_M_takeOut [_] (sp_M_takeOut (mc := mc) (mv := 0) (my := mc + 2) (me := tE me x) (mp := tP mp x) (x := y) (by omega)) c_M_171 d_M_pull_61 rfl rfl (by decide) (Nat.le_of_ble_eq_true rfl) ⟨rfl, rfl⟩ rfl ?_
      exact k4
end Md
