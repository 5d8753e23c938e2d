def aN (ma me : Nat → Int32) (e : Nat) : Nat := (ma (ed me e)).toNatClampNeg
def rM (mp : Nat → Int32) (x : Nat) : Nat := if mp x = 0 then 4 * x + 2 else 4 * x
def lM (mp : Nat → Int32) (x : Nat) : Nat := if mp x = 0 then 4 * x else 4 * x + 2
/-- v is added at the row x and the column a, if that is below order -/
def adM (order x a : Nat) (v : Int32) (c : Nat → Int32) : Nat → Int32 := if a < order then upd c (8 * x + a) (c (8 * x + a) + v) else c
def sbM (order x a : Nat) (c : Nat → Int32) : Nat → Int32 := if a < order then upd c (8 * x + a) (c (8 * x + a) - 1) else c
abbrev i2 : Type := (Nat → Int32) × (Nat → Int32)
def enS (cl : Nat → Nat) (mp : Nat → Int32) (order x : Nat) (S : i2) : i2 := (sbM order x (cl (lM mp x)) (adM order x (cl (4 * x + 1)) 1 S.1), adM order x (cl (rM mp x)) 1 (sbM order x (cl (4 * x + 1)) S.2))
def z64 (S : i2) : i2 := (fun t => if t < 64 then 0 else S.1 t, fun t => if t < 64 then 0 else S.2 t)
def enM (cl : Nat → Nat) (mp : Nat → Int32) (order : Nat) (S : i2) : i2 := itN (enS cl mp order) 0 order (z64 S)
section Md
variable {X : Nat → zE} {me mp : Nat → Int32} {mc md mo : Nat} {mw : Nat → Int32} {ml mv my : Nat} {mt : Nat → Int32} {ms mq mh : Nat → Int64} {ma : Nat → Int32} {mz : Nat} {mk mn : Nat → Int32} {mr : Nat → Int64} {mx : Nat → Int32}
theorem z_8x {x a : Nat} : (8 : Int32) * nI x + nI a = nI (8 * x + a) := by
  rw [show (8 : Int32) * nI x = nI (8 * x) from pk_mul 8 x, nI_add]
theorem lp_M_entries2 (hn : mc ≤ 8) (hf : edg (4 * mc) me) {B : Nat} (hB : B ≤ 1000) (hs : sml B 33 ma) {order : Nat} (ho : order ≤ mc) : ∀ k x (mk mn : Nat → Int32) (ex : List (Nat × Value)), (ex = [] ∨ ∃ a b c : Int32, ex = [(3, .int a), (4, .int b), (5, .int c)]) → x + k = order → Ev M_M_entries none none (kM X me mp mc md mo mw ml mv my mt ms mq mh ma mz ((itN (enS (aN ma me) mp order) x k (mk, mn)).1) ((itN (enS (aN ma me) mp order) x k (mk, mn)).2) mr mx) 30 ([(0, .ref 25), (1, .int (nI order)), (2, .int (nI x))] ++ ex) [] (kM X me mp mc md mo mw ml mv my mt ms mq mh ma mz mk mn mr mx) 0 0 := by
  intro k
  induction k with
  | zero =>
    intro x mk mn ex hex hx
    rw [itN_0]
    refine ev_drop (lv' := [(0, .ref 25), (1, .int (nI order)), (2, .int (nI x))]) ?_
    refine ev_iload_n 2 d_M_entries_30 rfl rfl ?_
    refine ev_iload_n 1 d_M_entries_31 rfl rfl ?_
    refine ev_icmp_ge 200 d_M_entries_32 (by decide) (fun h => ?_) (fun h => ?_)
    · exact ev_ret d_M_entries_200 rfl (Nat.le_of_ble_eq_true rfl) (Nat.le_of_ble_eq_true rfl)
    · exact absurd (nI_le (by omega) (by omega)) h
  | succ k ih =>
    intro x mk mn ex hex hx
    rw [itN_s]
    have at_ : ∀ e, e < 4 * mc → vp_in (me e) 33 ∧ ma (me e).toNatClampNeg = nI (aN ma me e) ∧ aN ma me e < B := by
      intro e he
      have h1 := edg_ed hf he
      have h2 := sml_at (by omega) hs (d := ed me e) (by omega)
      refine ⟨?_, h2.1, h2.2⟩
      rw [h1.1]
      exact vp_in_nI (by omega) (by omega)
    have hr : rM mp x < 4 * mc := by unfold rM; split <;> omega
    have hl : lM mp x < 4 * mc := by unfold lM; split <;> omega
    obtain ⟨o1, o2, o3⟩ := at_ (4 * x + 1) (by omega)
    obtain ⟨r1, r2, r3⟩ := at_ (rM mp x) hr
    obtain ⟨l1, l2, l3⟩ := at_ (lM mp x) hl
    generalize hO : aN ma me (4 * x + 1) = O at *
    generalize hRr : aN ma me (rM mp x) = Rr at *
    generalize hLl : aN ma me (lM mp x) = Ll at *
    have eS : enS (aN ma me) mp order x (mk, mn) = (sbM order x Ll (adM order x O 1 mk), adM order x Rr 1 (sbM order x O mn)) := by unfold enS; rw [hO, hRr, hLl]
    rw [eS]
    -- behind the third
    have k4 : ∀ mk' mn' : Nat → Int32, mk' = sbM order x Ll (adM order x O 1 mk) → mn' = adM order x Rr 1 (sbM order x O mn) → Ev M_M_entries none none (kM X me mp mc md mo mw ml mv my mt ms mq mh ma mz ((itN (enS (aN ma me) mp order) (x + 1) k (sbM order x Ll (adM order x O 1 mk), adM order x Rr 1 (sbM order x O mn))).1) ((itN (enS (aN ma me) mp order) (x + 1) k (sbM order x Ll (adM order x O 1 mk), adM order x Rr 1 (sbM order x O mn))).2) mr mx) 194 [(0, .ref 25), (1, .int (nI order)), (2, .int (nI x)), (3, .int (nI O)), (4, .int (nI Rr)), (5, .int (nI Ll))] [] (kM X me mp mc md mo mw ml mv my mt ms mq mh ma mz (mk') (mn') mr mx) 0 0 := by
      intro mk' mn' e1 e2
      rw [← e1, ← e2]
      refine ev_iinc (v := _ + 1) d_M_entries_194 rfl rfl (Nat.le_of_ble_eq_true rfl) rfl ?_
      rw [nI_1]
      refine ev_goto 30 d_M_entries_197 (by decide) ?_
      exact ih (x + 1) mk' mn' [(3, .int (nI O)), (4, .int (nI Rr)), (5, .int (nI Ll))] (Or.inr ⟨_, _, _, rfl⟩) (by omega)
    have k3 : ∀ mk' mn' : Nat → Int32, mk' = adM order x O 1 mk → mn' = adM order x Rr 1 (sbM order x O mn) → Ev M_M_entries none none (kM X me mp mc md mo mw ml mv my mt ms mq mh ma mz ((itN (enS (aN ma me) mp order) (x + 1) k (sbM order x Ll (adM order x O 1 mk), adM order x Rr 1 (sbM order x O mn))).1) ((itN (enS (aN ma me) mp order) (x + 1) k (sbM order x Ll (adM order x O 1 mk), adM order x Rr 1 (sbM order x O mn))).2) mr mx) 172 [(0, .ref 25), (1, .int (nI order)), (2, .int (nI x)), (3, .int (nI O)), (4, .int (nI Rr)), (5, .int (nI Ll))] [] (kM X me mp mc md mo mw ml mv my mt ms mq mh ma mz (mk') (mn') mr mx) 0 0 := by
      intro mk' mn' e1 e2
      refine ev_iload d_M_entries_172 rfl ?_
      refine ev_iload_n 1 d_M_entries_174 rfl rfl ?_
      refine ev_icmp_ge 194 d_M_entries_175 (by decide) (fun h => ?_) (fun h => ?_)
      · exact k4 mk' mn' (by rw [← e1]; unfold sbM; rw [if_neg (fun w => absurd h (nI_ge w (by omega)))]) e2
      · have hq : Ll < order := Nat.not_le.mp (fun w => h (nI_le w (by omega)))
        refine ev_aload_n 0 d_M_entries_178 rfl rfl ?_
        refine ev_get f_M_40 d_M_entries_179 rfl rfl ?_
        refine ev_bipush (v := 8) d_M_entries_182 (by decide) ?_
        refine ev_iload_n 2 d_M_entries_184 rfl rfl ?_
        refine ev_imul d_M_entries_185 ?_
        refine ev_iload d_M_entries_186 rfl ?_
        refine ev_iadd d_M_entries_188 ?_
        rw [z_8x]
        refine ev_dup2 d_M_entries_189 rfl rfl ?_
        refine ev_iald d_M_entries_190 rfl (vp_in_nI (by omega) (by omega)) ?_
        rw [nI_clamp (by omega)]
        refine ev_iconst (v := 1) d_M_entries_191 (by decide) ?_
        refine ev_isub d_M_entries_192 ?_
        refine ev_iast d_M_entries_193 rfl (vp_in_nI (by omega) (by omega)) ?_
        rw [nI_clamp (by omega)]
        exact k4 _ mn' (by rw [← e1]; unfold sbM; rw [if_pos hq]) e2
    have k2 : ∀ mk' mn' : Nat → Int32, mk' = adM order x O 1 mk → mn' = sbM order x O mn → Ev M_M_entries none none (kM X me mp mc md mo mw ml mv my mt ms mq mh ma mz ((itN (enS (aN ma me) mp order) (x + 1) k (sbM order x Ll (adM order x O 1 mk), adM order x Rr 1 (sbM order x O mn))).1) ((itN (enS (aN ma me) mp order) (x + 1) k (sbM order x Ll (adM order x O 1 mk), adM order x Rr 1 (sbM order x O mn))).2) mr mx) 150 [(0, .ref 25), (1, .int (nI order)), (2, .int (nI x)), (3, .int (nI O)), (4, .int (nI Rr)), (5, .int (nI Ll))] [] (kM X me mp mc md mo mw ml mv my mt ms mq mh ma mz (mk') (mn') mr mx) 0 0 := by
      intro mk' mn' e1 e2
      refine ev_iload d_M_entries_150 rfl ?_
      refine ev_iload_n 1 d_M_entries_152 rfl rfl ?_
      refine ev_icmp_ge 172 d_M_entries_153 (by decide) (fun h => ?_) (fun h => ?_)
      · exact k3 mk' mn' e1 (by rw [← e2]; unfold adM; rw [if_neg (fun w => absurd h (nI_ge w (by omega)))])
      · have hq : Rr < order := Nat.not_le.mp (fun w => h (nI_le w (by omega)))
        refine ev_aload_n 0 d_M_entries_156 rfl rfl ?_
        refine ev_get f_M_43 d_M_entries_157 rfl rfl ?_
        refine ev_bipush (v := 8) d_M_entries_160 (by decide) ?_
        refine ev_iload_n 2 d_M_entries_162 rfl rfl ?_
        refine ev_imul d_M_entries_163 ?_
        refine ev_iload d_M_entries_164 rfl ?_
        refine ev_iadd d_M_entries_166 ?_
        rw [z_8x]
        refine ev_dup2 d_M_entries_167 rfl rfl ?_
        refine ev_iald d_M_entries_168 rfl (vp_in_nI (by omega) (by omega)) ?_
        rw [nI_clamp (by omega)]
        refine ev_iconst (v := 1) d_M_entries_169 (by decide) ?_
        refine ev_iadd d_M_entries_170 ?_
        refine ev_iast d_M_entries_171 rfl (vp_in_nI (by omega) (by omega)) ?_
        rw [nI_clamp (by omega)]
        exact k3 mk' _ e1 (by rw [← e2]; unfold adM; rw [if_pos hq])
    have k1 : Ev M_M_entries none none (kM X me mp mc md mo mw ml mv my mt ms mq mh ma mz ((itN (enS (aN ma me) mp order) (x + 1) k (sbM order x Ll (adM order x O 1 mk), adM order x Rr 1 (sbM order x O mn))).1) ((itN (enS (aN ma me) mp order) (x + 1) k (sbM order x Ll (adM order x O 1 mk), adM order x Rr 1 (sbM order x O mn))).2) mr mx) 115 [(0, .ref 25), (1, .int (nI order)), (2, .int (nI x)), (3, .int (nI O)), (4, .int (nI Rr)), (5, .int (nI Ll))] [] (kM X me mp mc md mo mw ml mv my mt ms mq mh ma mz mk mn mr mx) 0 0 := by
      refine ev_iload_n 3 d_M_entries_115 rfl rfl ?_
      refine ev_iload_n 1 d_M_entries_116 rfl rfl ?_
      refine ev_icmp_ge 150 d_M_entries_117 (by decide) (fun h => ?_) (fun h => ?_)
      · have hq : ¬ O < order := fun w => absurd h (nI_ge w (by omega))
        exact k2 mk mn (by unfold adM; rw [if_neg hq]) (by unfold sbM; rw [if_neg hq])
      · have hq : O < order := Nat.not_le.mp (fun w => h (nI_le w (by omega)))
        refine ev_aload_n 0 d_M_entries_120 rfl rfl ?_
        refine ev_get f_M_40 d_M_entries_121 rfl rfl ?_
        refine ev_bipush (v := 8) d_M_entries_124 (by decide) ?_
        refine ev_iload_n 2 d_M_entries_126 rfl rfl ?_
        refine ev_imul d_M_entries_127 ?_
        refine ev_iload_n 3 d_M_entries_128 rfl rfl ?_
        refine ev_iadd d_M_entries_129 ?_
        rw [z_8x]
        refine ev_dup2 d_M_entries_130 rfl rfl ?_
        refine ev_iald d_M_entries_131 rfl (vp_in_nI (by omega) (by omega)) ?_
        rw [nI_clamp (by omega)]
        refine ev_iconst (v := 1) d_M_entries_132 (by decide) ?_
        refine ev_iadd d_M_entries_133 ?_
        refine ev_iast d_M_entries_134 rfl (vp_in_nI (by omega) (by omega)) ?_
        rw [nI_clamp (by omega)]
        refine ev_aload_n 0 d_M_entries_135 rfl rfl ?_
        refine ev_get f_M_43 d_M_entries_136 rfl rfl ?_
        refine ev_bipush (v := 8) d_M_entries_139 (by decide) ?_
        refine ev_iload_n 2 d_M_entries_141 rfl rfl ?_
        refine ev_imul d_M_entries_142 ?_
        refine ev_iload_n 3 d_M_entries_143 rfl rfl ?_
        refine ev_iadd d_M_entries_144 ?_
        rw [z_8x]
        refine ev_dup2 d_M_entries_145 rfl rfl ?_
        refine ev_iald d_M_entries_146 rfl (vp_in_nI (by omega) (by omega)) ?_
        rw [nI_clamp (by omega)]
        refine ev_iconst (v := 1) d_M_entries_147 (by decide) ?_
        refine ev_isub d_M_entries_148 ?_
        refine ev_iast d_M_entries_149 rfl (vp_in_nI (by omega) (by omega)) ?_
        rw [nI_clamp (by omega)]
        exact k2 _ _ (by unfold adM; rw [if_pos hq]) (by unfold sbM; rw [if_pos hq])
    have k0 : Ev M_M_entries none none (kM X me mp mc md mo mw ml mv my mt ms mq mh ma mz ((itN (enS (aN ma me) mp order) (x + 1) k (sbM order x Ll (adM order x O 1 mk), adM order x Rr 1 (sbM order x O mn))).1) ((itN (enS (aN ma me) mp order) (x + 1) k (sbM order x Ll (adM order x O 1 mk), adM order x Rr 1 (sbM order x O mn))).2) mr mx) 35 [(0, .ref 25), (1, .int (nI order)), (2, .int (nI x))] [] (kM X me mp mc md mo mw ml mv my mt ms mq mh ma mz mk mn mr mx) 0 0 := by
      by_cases hp : mp x = 0
      · have er : rM mp x = 4 * x + 2 := by unfold rM; rw [if_pos hp]
        have el : lM mp x = 4 * x := by unfold lM; rw [if_pos hp]
        rw [er] at r1 r2
        rw [el] at l1 l2
        refine ev_aload_n 0 d_M_entries_35 rfl rfl ?_
        refine ev_get f_M_37 d_M_entries_36 rfl rfl ?_
        refine ev_aload_n 0 d_M_entries_39 rfl rfl ?_
        refine ev_get f_M_7 d_M_entries_40 rfl rfl ?_
        refine ev_iconst (v := 4) d_M_entries_43 (by decide) ?_
        refine ev_iload_n 2 d_M_entries_44 rfl rfl ?_
        refine ev_imul d_M_entries_45 ?_
        rw [z_m4]
        refine ev_iconst (v := 1) d_M_entries_46 (by decide) ?_
        refine ev_iadd d_M_entries_47 ?_
        rw [nI_1]
        refine ev_iald d_M_entries_48 rfl (vp_in_nI (by omega) (by omega)) ?_
        rw [nI_clamp (by omega)]
        refine ev_iald d_M_entries_49 rfl o1 ?_
        rw [o2]
        refine ev_istore_n 3 d_M_entries_50 rfl (Nat.le_of_ble_eq_true rfl) rfl ?_
        refine ev_aload_n 0 d_M_entries_51 rfl rfl ?_
        refine ev_get f_M_37 d_M_entries_52 rfl rfl ?_
        refine ev_aload_n 0 d_M_entries_55 rfl rfl ?_
        refine ev_get f_M_7 d_M_entries_56 rfl rfl ?_
        refine ev_aload_n 0 d_M_entries_59 rfl rfl ?_
        refine ev_get f_M_13 d_M_entries_60 rfl rfl ?_
        refine ev_iload_n 2 d_M_entries_63 rfl rfl ?_
        refine ev_zald d_M_entries_64 rfl (vp_in_nI (by omega) (by omega)) ?_
        rw [nI_clamp (by omega)]
        refine ev_if_eq 74 d_M_entries_65 (by decide) (fun h => ?_) (fun h => ?_)
        · refine ev_iconst (v := 4) d_M_entries_74 (by decide) ?_
          refine ev_iload_n 2 d_M_entries_75 rfl rfl ?_
          refine ev_imul d_M_entries_76 ?_
          rw [z_m4]
          refine ev_iconst (v := 2) d_M_entries_77 (by decide) ?_
          refine ev_iadd d_M_entries_78 ?_
          rw [z_p2]
          refine ev_iald d_M_entries_79 rfl (vp_in_nI (by omega) (by omega)) ?_
          rw [nI_clamp (by omega)]
          refine ev_iald d_M_entries_80 rfl r1 ?_
          rw [r2]
          refine ev_istore d_M_entries_81 (Nat.le_of_ble_eq_true rfl) rfl ?_
          refine ev_aload_n 0 d_M_entries_83 rfl rfl ?_
          refine ev_get f_M_37 d_M_entries_84 rfl rfl ?_
          refine ev_aload_n 0 d_M_entries_87 rfl rfl ?_
          refine ev_get f_M_7 d_M_entries_88 rfl rfl ?_
          refine ev_aload_n 0 d_M_entries_91 rfl rfl ?_
          refine ev_get f_M_13 d_M_entries_92 rfl rfl ?_
          refine ev_iload_n 2 d_M_entries_95 rfl rfl ?_
          refine ev_zald d_M_entries_96 rfl (vp_in_nI (by omega) (by omega)) ?_
          rw [nI_clamp (by omega)]
          refine ev_if_eq 108 d_M_entries_97 (by decide) (fun h2 => ?_) (fun h2 => ?_)
          · refine ev_iconst (v := 4) d_M_entries_108 (by decide) ?_
            refine ev_iload_n 2 d_M_entries_109 rfl rfl ?_
            refine ev_imul d_M_entries_110 ?_
            rw [z_m4]
            refine ev_iald d_M_entries_111 rfl (vp_in_nI (by omega) (by omega)) ?_
            rw [nI_clamp (by omega)]
            refine ev_iald d_M_entries_112 rfl l1 ?_
            rw [l2]
            refine ev_istore d_M_entries_113 (Nat.le_of_ble_eq_true rfl) rfl ?_
            exact k1
          · exact absurd hp h2
        · exact absurd hp h
      · have er : rM mp x = 4 * x := by unfold rM; rw [if_neg hp]
        have el : lM mp x = 4 * x + 2 := by unfold lM; rw [if_neg hp]
        rw [er] at r1 r2
        rw [el] at l1 l2
        refine ev_aload_n 0 d_M_entries_35 rfl rfl ?_
        refine ev_get f_M_37 d_M_entries_36 rfl rfl ?_
        refine ev_aload_n 0 d_M_entries_39 rfl rfl ?_
        refine ev_get f_M_7 d_M_entries_40 rfl rfl ?_
        refine ev_iconst (v := 4) d_M_entries_43 (by decide) ?_
        refine ev_iload_n 2 d_M_entries_44 rfl rfl ?_
        refine ev_imul d_M_entries_45 ?_
        rw [z_m4]
        refine ev_iconst (v := 1) d_M_entries_46 (by decide) ?_
        refine ev_iadd d_M_entries_47 ?_
        rw [nI_1]
        refine ev_iald d_M_entries_48 rfl (vp_in_nI (by omega) (by omega)) ?_
        rw [nI_clamp (by omega)]
        refine ev_iald d_M_entries_49 rfl o1 ?_
        rw [o2]
        refine ev_istore_n 3 d_M_entries_50 rfl (Nat.le_of_ble_eq_true rfl) rfl ?_
        refine ev_aload_n 0 d_M_entries_51 rfl rfl ?_
        refine ev_get f_M_37 d_M_entries_52 rfl rfl ?_
        refine ev_aload_n 0 d_M_entries_55 rfl rfl ?_
        refine ev_get f_M_7 d_M_entries_56 rfl rfl ?_
        refine ev_aload_n 0 d_M_entries_59 rfl rfl ?_
        refine ev_get f_M_13 d_M_entries_60 rfl rfl ?_
        refine ev_iload_n 2 d_M_entries_63 rfl rfl ?_
        refine ev_zald d_M_entries_64 rfl (vp_in_nI (by omega) (by omega)) ?_
        rw [nI_clamp (by omega)]
        refine ev_if_eq 74 d_M_entries_65 (by decide) (fun h => ?_) (fun h => ?_)
        · exact absurd h hp
        · refine ev_iconst (v := 4) d_M_entries_68 (by decide) ?_
          refine ev_iload_n 2 d_M_entries_69 rfl rfl ?_
          refine ev_imul d_M_entries_70 ?_
          rw [z_m4]
          refine ev_goto 79 d_M_entries_71 (by decide) ?_
          refine ev_iald d_M_entries_79 rfl (vp_in_nI (by omega) (by omega)) ?_
          rw [nI_clamp (by omega)]
          refine ev_iald d_M_entries_80 rfl r1 ?_
          rw [r2]
          refine ev_istore d_M_entries_81 (Nat.le_of_ble_eq_true rfl) rfl ?_
          refine ev_aload_n 0 d_M_entries_83 rfl rfl ?_
          refine ev_get f_M_37 d_M_entries_84 rfl rfl ?_
          refine ev_aload_n 0 d_M_entries_87 rfl rfl ?_
          refine ev_get f_M_7 d_M_entries_88 rfl rfl ?_
          refine ev_aload_n 0 d_M_entries_91 rfl rfl ?_
          refine ev_get f_M_13 d_M_entries_92 rfl rfl ?_
          refine ev_iload_n 2 d_M_entries_95 rfl rfl ?_
          refine ev_zald d_M_entries_96 rfl (vp_in_nI (by omega) (by omega)) ?_
          rw [nI_clamp (by omega)]
          refine ev_if_eq 108 d_M_entries_97 (by decide) (fun h2 => ?_) (fun h2 => ?_)
          · exact absurd h2 hp
          · refine ev_iconst (v := 4) d_M_entries_100 (by decide) ?_
            refine ev_iload_n 2 d_M_entries_101 rfl rfl ?_
            refine ev_imul d_M_entries_102 ?_
            rw [z_m4]
            refine ev_iconst (v := 2) d_M_entries_103 (by decide) ?_
            refine ev_iadd d_M_entries_104 ?_
            rw [z_p2]
            refine ev_goto 111 d_M_entries_105 (by decide) ?_
            refine ev_iald d_M_entries_111 rfl (vp_in_nI (by omega) (by omega)) ?_
            rw [nI_clamp (by omega)]
            refine ev_iald d_M_entries_112 rfl l1 ?_
            rw [l2]
            refine ev_istore d_M_entries_113 (Nat.le_of_ble_eq_true rfl) rfl ?_
            exact k1
    refine ev_drop (lv' := [(0, .ref 25), (1, .int (nI order)), (2, .int (nI x))]) ?_
    refine ev_iload_n 2 d_M_entries_30 rfl rfl ?_
    refine ev_iload_n 1 d_M_entries_31 rfl rfl ?_
    refine ev_icmp_ge 200 d_M_entries_32 (by decide) (fun h => ?_) (fun h => ?_)
    · exact absurd h (nI_ge (by omega) (by omega))
    · exact k0
theorem lp_M_entries1 {order : Nat} {r : Option Value} {wf : zW} : ∀ k i (mk mn : Nat → Int32), i + k = 64 → Ev M_M_entries none r wf 28 [(0, .ref 25), (1, .int (nI order)), (2, .int (nI 64))] [] (kM X me mp mc md mo mw ml mv my mt ms mq mh ma mz ((fun t => if i ≤ t ∧ t < 64 then 0 else mk t)) ((fun t => if i ≤ t ∧ t < 64 then 0 else mn t)) mr mx) 0 0 → Ev M_M_entries none r wf 2 [(0, .ref 25), (1, .int (nI order)), (2, .int (nI i))] [] (kM X me mp mc md mo mw ml mv my mt ms mq mh ma mz mk mn mr mx) 0 0 := by
  have key : ∀ (i : Nat) (m : Nat → Int32), i < 64 → (fun t => if i + 1 ≤ t ∧ t < 64 then 0 else upd m i 0 t) = (fun t => if i ≤ t ∧ t < 64 then 0 else m t) := by
    intro i m hi
    funext t
    by_cases h5 : t = i
    · subst h5
      rw [if_neg (by omega), if_pos (by omega)]
      exact pk_us
    · rw [pk_un h5]
      by_cases h6 : i + 1 ≤ t ∧ t < 64
      · rw [if_pos h6, if_pos (by omega)]
      · rw [if_neg h6, if_neg (by omega)]
  intro k
  induction k with
  | zero =>
    intro i mk mn hi kk
    have e1 : ∀ m : Nat → Int32, (fun t => if i ≤ t ∧ t < 64 then 0 else m t) = m := by
      intro m
      funext t
      rw [if_neg (by omega)]
    rw [e1, e1] at kk
    refine ev_iload_n 2 d_M_entries_2 rfl rfl ?_
    refine ev_bipush (v := 64) d_M_entries_3 (by decide) ?_
    refine ev_icmp_ge 28 d_M_entries_5 (by decide) (fun h => ?_) (fun h => ?_)
    · rw [show i = 64 by omega]
      exact kk
    · exact absurd (nI_le (a := 64) (b := i) (by omega) (by omega)) h
  | succ k ih =>
    intro i mk mn hi kk
    refine ev_iload_n 2 d_M_entries_2 rfl rfl ?_
    refine ev_bipush (v := 64) d_M_entries_3 (by decide) ?_
    refine ev_icmp_ge 28 d_M_entries_5 (by decide) (fun h => ?_) (fun h => ?_)
    · exact absurd h (nI_ge (b := 64) (by omega) (by omega))
    · refine ev_aload_n 0 d_M_entries_8 rfl rfl ?_
      refine ev_get f_M_40 d_M_entries_9 rfl rfl ?_
      refine ev_iload_n 2 d_M_entries_12 rfl rfl ?_
      refine ev_iconst (v := 0) d_M_entries_13 (by decide) ?_
      refine ev_iast d_M_entries_14 rfl (vp_in_nI (by omega) (by omega)) ?_
      rw [nI_clamp (by omega)]
      refine ev_aload_n 0 d_M_entries_15 rfl rfl ?_
      refine ev_get f_M_43 d_M_entries_16 rfl rfl ?_
      refine ev_iload_n 2 d_M_entries_19 rfl rfl ?_
      refine ev_iconst (v := 0) d_M_entries_20 (by decide) ?_
      refine ev_iast d_M_entries_21 rfl (vp_in_nI (by omega) (by omega)) ?_
      rw [nI_clamp (by omega)]
      refine ev_iinc (v := _ + 1) d_M_entries_22 rfl rfl (Nat.le_of_ble_eq_true rfl) rfl ?_
      rw [nI_1]
      refine ev_goto 2 d_M_entries_25 (by decide) ?_
      refine ih (i + 1) (upd mk i 0) (upd mn i 0) (by omega) ?_
      rw [key i mk (by omega), key i mn (by omega)]
      exact kk
theorem sp_M_entries (hn : mc ≤ 8) (hf : edg (4 * mc) me) {B : Nat} (hB : B ≤ 1000) (hs : sml B 33 ma) {order : Nat} (ho : order ≤ mc) : Sp M_M_entries [.ref 25, .int (nI order)] (kM X me mp mc md mo mw ml mv my mt ms mq mh ma mz mk mn mr mx) none (kM X me mp mc md mo mw ml mv my mt ms mq mh ma mz ((enM (aN ma me) mp order (mk, mn)).1) ((enM (aN ma me) mp order (mk, mn)).2) mr mx) := by
  refine Sp.of (by decide) (Nat.le_of_ble_eq_true rfl) ?_
  refine ev_iconst (v := 0) d_M_entries_0 (by decide) ?_
  refine ev_istore_n 2 d_M_entries_1 rfl (Nat.le_of_ble_eq_true rfl) rfl ?_
  refine lp_M_entries1 64 0 mk mn (by omega) ?_
  have e1 : ∀ m : Nat → Int32, (fun t => if 0 ≤ t ∧ t < 64 then 0 else m t) = (fun t => if t < 64 then 0 else m t) := by
    intro m
    funext t
    congr 1
    simp
  rw [e1, e1]
  refine ev_iconst (v := 0) d_M_entries_28 (by decide) ?_
  refine ev_istore_n 2 d_M_entries_29 rfl (Nat.le_of_ble_eq_true rfl) rfl ?_
  exact lp_M_entries2 hn hf hB hs ho order 0 _ _ [] (Or.inl rfl) (by omega)
end Md
