section Md
variable {X : Nat → zE} {me mp : Nat → Int32} {mc md mo : Nat} {mw : Nat → Int32} {ml mv my : Nat} {mt : Nat → Int32} {ms mq mh : Nat → Int64} {ma : Nat → Int32} {mz : Nat} {mk mn : Nat → Int32} {mr : Nat → Int64} {mx : Nat → Int32}
theorem kM_len : (kM X me mp mc md mo mw ml mv my mt ms mq mh ma mz mk mn mr mx).length = 38 := rfl
theorem lp_M_second5 {e base : Nat} {v2 : Int32} (he : e ≤ 9) (hb : base ≤ 2550) {S0 : Nat × Option Nat} (hS : lmM mr base 10 0 none = S0) : ∀ i le (mo' : Option Nat), i ≤ 10 → le < 10 → (∀ x, mo' = some x → x < 10) → S0 = lmM mr base i le mo' → Ev M_M_second none (some (.long (seR mr base e))) (kM X me mp mc md mo mw ml mv my mt ms mq mh ma mz mk mn mr mx) 140 [(0, .ref 25), (1, .int (nI e)), (2, .int v2), (3, .int (nI base)), (4, .int (nI le)), (5, .int (oI mo')), (6, .int (nI i - 1))] [] (kM X me mp mc md mo mw ml mv my mt ms mq mh ma mz mk mn mr mx) 0 0 := by
  intro i
  induction i with
  | zero =>
    intro le mo' hi hle hmo hl
    rw [lmM] at hl
    have e6 : nI 0 - 1 = (-1 : Int32) := by decide
    rw [e6]
    refine ev_iload d_M_second_140 rfl ?_
    refine ev_if_lt 202 d_M_second_142 (by decide) (fun q0 => ?_) (fun q0 => ?_)
    · cases hm : mo' with
      | none =>
        have e1 : seR mr base e = 0 := by unfold seR; rw [hS, hl, hm]
        rw [e1]
        refine ev_iload d_M_second_202 rfl ?_
        refine ev_if_lt 216 d_M_second_204 (by decide) (fun q1 => ?_) (fun q1 => ?_)
        · refine ev_lconst (v := 0) d_M_second_216 (by decide) ?_
          exact ev_lret d_M_second_217 rfl (Nat.le_of_ble_eq_true rfl) (Nat.le_of_ble_eq_true rfl)
        · exact absurd (by decide) q1
      | some x =>
        have hx := hmo x hm
        have e1 : seR mr base e = if le + e ≤ 9 then (if mr (base + x) < 0 then -mr (base + le + e) else mr (base + le + e)) else 0 := by unfold seR; rw [hS, hl, hm]
        rw [e1]
        refine ev_iload d_M_second_202 rfl ?_
        refine ev_if_lt 216 d_M_second_204 (by decide) (fun q1 => ?_) (fun q1 => ?_)
        · exact absurd q1 (nI_pos (by omega))
        · refine ev_iload d_M_second_207 rfl ?_
          refine ev_iload_n 1 d_M_second_209 rfl rfl ?_
          refine ev_iadd d_M_second_210 ?_
          rw [nI_add]
          refine ev_bipush (v := 9) d_M_second_211 (by decide) ?_
          refine ev_icmp_le 218 d_M_second_213 (by decide) (fun q2 => ?_) (fun q2 => ?_)
          · have q3 : le + e ≤ 9 := (nI_leI (b := 9) (by omega) (by omega)).mp q2
            rw [if_pos q3]
            refine ev_aload_n 0 d_M_second_218 rfl rfl ?_
            refine ev_get f_M_46 d_M_second_219 rfl rfl ?_
            refine ev_iload_n 3 d_M_second_222 rfl rfl ?_
            refine ev_iload d_M_second_223 rfl ?_
            refine ev_iadd d_M_second_225 ?_
            rw [show oI (some x) = nI x from rfl, nI_add]
            refine ev_lald d_M_second_226 rfl (vp_in_nI (by omega) (by omega)) ?_
            rw [nI_clamp (by omega)]
            refine ev_lconst (v := 0) d_M_second_227 (by decide) ?_
            refine ev_lcmp d_M_second_228 ?_
            refine ev_if_ge 247 d_M_second_229 (by decide) (fun q4 => ?_) (fun q4 => ?_)
            · rw [if_neg (fun w => absurd q4 (by rw [lg_cmp_ge]; exact Int64.not_le.mpr w))]
              refine ev_aload_n 0 d_M_second_247 rfl rfl ?_
              refine ev_get f_M_46 d_M_second_248 rfl rfl ?_
              refine ev_iload_n 3 d_M_second_251 rfl rfl ?_
              refine ev_iload d_M_second_252 rfl ?_
              refine ev_iadd d_M_second_254 ?_
              refine ev_iload_n 1 d_M_second_255 rfl rfl ?_
              refine ev_iadd d_M_second_256 ?_
              rw [nI_add, nI_add]
              refine ev_lald d_M_second_257 rfl (vp_in_nI (by omega) (by omega)) ?_
              rw [nI_clamp (by omega)]
              exact ev_lret d_M_second_258 rfl (Nat.le_of_ble_eq_true rfl) (Nat.le_of_ble_eq_true rfl)
            · rw [if_pos (Int64.not_le.mp (fun w => q4 ((lg_cmp_ge _ _).mpr w)))]
              refine ev_aload_n 0 d_M_second_232 rfl rfl ?_
              refine ev_get f_M_46 d_M_second_233 rfl rfl ?_
              refine ev_iload_n 3 d_M_second_236 rfl rfl ?_
              refine ev_iload d_M_second_237 rfl ?_
              refine ev_iadd d_M_second_239 ?_
              refine ev_iload_n 1 d_M_second_240 rfl rfl ?_
              refine ev_iadd d_M_second_241 ?_
              rw [nI_add, nI_add]
              refine ev_lald d_M_second_242 rfl (vp_in_nI (by omega) (by omega)) ?_
              rw [nI_clamp (by omega)]
              refine ev_lneg d_M_second_243 ?_
              refine ev_goto 258 d_M_second_244 (by decide) ?_
              exact ev_lret d_M_second_258 rfl (Nat.le_of_ble_eq_true rfl) (Nat.le_of_ble_eq_true rfl)
          · have q3 : ¬ le + e ≤ 9 := fun w => q2 (nI_le (b := 9) w (by omega))
            rw [if_neg q3]
            refine ev_lconst (v := 0) d_M_second_216 (by decide) ?_
            exact ev_lret d_M_second_217 rfl (Nat.le_of_ble_eq_true rfl) (Nat.le_of_ble_eq_true rfl)
    · exact absurd (by decide) q0
  | succ i ih =>
    intro le mo' hi hle hmo hl
    rw [lmM] at hl
    rw [nI_pred]
    have k3 : ∀ (le' : Nat) (m2 : Option Nat), le' = (if mr (base + i) = 0 then le else i) → m2 = (if mo' = none ∧ ¬ mr (base + i) = 0 then some i else mo') → Ev M_M_second none (some (.long (seR mr base e))) (kM X me mp mc md mo mw ml mv my mt ms mq mh ma mz mk mn mr mx) 194 [(0, .ref 25), (1, .int (nI e)), (2, .int v2), (3, .int (nI base)), (4, .int (nI le')), (5, .int (oI mo')), (6, .int (nI i))] [.int (oI m2)] (kM X me mp mc md mo mw ml mv my mt ms mq mh ma mz mk mn mr mx) 0 0 := by
      intro le' m2 e1 e2
      rw [← e1, ← e2] at hl
      refine ev_istore d_M_second_194 (Nat.le_of_ble_eq_true rfl) rfl ?_
      refine ev_iinc (v := _ + (-1)) d_M_second_196 rfl rfl (Nat.le_of_ble_eq_true rfl) rfl ?_
      rw [show nI i + (-1) = nI i - 1 by rw [Int32.sub_eq_add_neg]]
      refine ev_goto 140 d_M_second_199 (by decide) ?_
      refine ih le' m2 (by omega) (by rw [e1]; split <;> omega) ?_ hl
      intro x hx
      rw [e2] at hx
      split at hx
      · cases hx; omega
      · exact hmo x hx
    have k2 : ∀ le' : Nat, le' = (if mr (base + i) = 0 then le else i) → Ev M_M_second none (some (.long (seR mr base e))) (kM X me mp mc md mo mw ml mv my mt ms mq mh ma mz mk mn mr mx) 166 [(0, .ref 25), (1, .int (nI e)), (2, .int v2), (3, .int (nI base)), (4, .int (nI le)), (5, .int (oI mo')), (6, .int (nI i))] [.int (nI le')] (kM X me mp mc md mo mw ml mv my mt ms mq mh ma mz mk mn mr mx) 0 0 := by
      intro le' e1
      have k192 : ¬ (mo' = none ∧ ¬ mr (base + i) = 0) → Ev M_M_second none (some (.long (seR mr base e))) (kM X me mp mc md mo mw ml mv my mt ms mq mh ma mz mk mn mr mx) 192 [(0, .ref 25), (1, .int (nI e)), (2, .int v2), (3, .int (nI base)), (4, .int (nI le')), (5, .int (oI mo')), (6, .int (nI i))] [] (kM X me mp mc md mo mw ml mv my mt ms mq mh ma mz mk mn mr mx) 0 0 := by
        intro hq
        refine ev_iload d_M_second_192 rfl ?_
        exact k3 le' mo' e1 (by rw [if_neg hq])
      refine ev_istore d_M_second_166 (Nat.le_of_ble_eq_true rfl) rfl ?_
      refine ev_iload d_M_second_168 rfl ?_
      refine ev_if_ge 192 d_M_second_170 (by decide) (fun q1 => ?_) (fun q1 => ?_)
      · refine k192 (fun w => ?_)
        rw [w.1] at q1
        exact absurd q1 (by decide)
      · have hm : mo' = none := by
          cases hq : mo' with
          | none => rfl
          | some x =>
            rw [hq] at q1
            exact absurd (nI_pos' (by have := hmo x hq; omega)) q1
        refine ev_aload_n 0 d_M_second_173 rfl rfl ?_
        refine ev_get f_M_46 d_M_second_174 rfl rfl ?_
        refine ev_iload_n 3 d_M_second_177 rfl rfl ?_
        refine ev_iload d_M_second_178 rfl ?_
        refine ev_iadd d_M_second_180 ?_
        rw [nI_add]
        refine ev_lald d_M_second_181 rfl (vp_in_nI (by omega) (by omega)) ?_
        rw [nI_clamp (by omega)]
        refine ev_lconst (v := 0) d_M_second_182 (by decide) ?_
        refine ev_lcmp d_M_second_183 ?_
        refine ev_if_eq 192 d_M_second_184 (by decide) (fun q2 => ?_) (fun q2 => ?_)
        · exact k192 (fun w => w.2 ((lg_cmp_eq _ _).mp q2))
        · refine ev_iload d_M_second_187 rfl ?_
          refine ev_goto 194 d_M_second_189 (by decide) ?_
          exact k3 le' (some i) e1 (by rw [if_pos ⟨hm, fun w => q2 ((lg_cmp_eq _ _).mpr w)⟩])
    refine ev_iload d_M_second_140 rfl ?_
    refine ev_if_lt 202 d_M_second_142 (by decide) (fun q0 => ?_) (fun q0 => ?_)
    · exact absurd q0 (nI_pos (by omega))
    · refine ev_aload_n 0 d_M_second_145 rfl rfl ?_
      refine ev_get f_M_46 d_M_second_146 rfl rfl ?_
      refine ev_iload_n 3 d_M_second_149 rfl rfl ?_
      refine ev_iload d_M_second_150 rfl ?_
      refine ev_iadd d_M_second_152 ?_
      rw [nI_add]
      refine ev_lald d_M_second_153 rfl (vp_in_nI (by omega) (by omega)) ?_
      rw [nI_clamp (by omega)]
      refine ev_lconst (v := 0) d_M_second_154 (by decide) ?_
      refine ev_lcmp d_M_second_155 ?_
      refine ev_if_eq 164 d_M_second_156 (by decide) (fun q1 => ?_) (fun q1 => ?_)
      · refine ev_iload d_M_second_164 rfl ?_
        exact k2 le (by rw [if_pos ((lg_cmp_eq _ _).mp q1)])
      · refine ev_iload d_M_second_159 rfl ?_
        refine ev_goto 166 d_M_second_161 (by decide) ?_
        exact k2 i (by rw [if_neg (fun w => q1 ((lg_cmp_eq _ _).mpr w))])
theorem lp_M_second4 {e s order : Nat} (hs : s < 255) (ho : order ≤ 8) {r : Option Value} {wf : zW} : ∀ k c (mr : Nat → Int64), c + k = order → Ev M_M_second none r wf 115 [(0, .ref 25), (1, .int (nI e)), (2, .int (nI order)), (3, .int (nI s)), (4, .int (nI (onN s 0 8 0))), (5, .int (nI order))] [] (kM X me mp mc md mo mw ml mv my mt ms mq mh ma mz mk mn (itN (sxI mk mn s) c k mr) mx) 0 0 → Ev M_M_second none r wf 85 [(0, .ref 25), (1, .int (nI e)), (2, .int (nI order)), (3, .int (nI s)), (4, .int (nI (onN s 0 8 0))), (5, .int (nI c))] [] (kM X me mp mc md mo mw ml mv my mt ms mq mh ma mz mk mn mr mx) 0 0 := by
  have hon := on_lt s hs
  intro k
  induction k with
  | zero =>
    intro c mr hc kk
    rw [itN_0] at kk
    refine ev_iload d_M_second_85 rfl ?_
    refine ev_iload_n 2 d_M_second_87 rfl rfl ?_
    refine ev_icmp_ge 115 d_M_second_88 (by decide) (fun h => ?_) (fun h => ?_)
    · rw [show c = order by omega]
      exact kk
    · exact absurd (nI_le (by omega) (by omega)) h
  | succ k ih =>
    intro c mr hc kk
    rw [itN_s] at kk
    refine ev_iload d_M_second_85 rfl ?_
    refine ev_iload_n 2 d_M_second_87 rfl rfl ?_
    refine ev_icmp_ge 115 d_M_second_88 (by decide) (fun h => ?_) (fun h => ?_)
    · exact absurd h (nI_ge (by omega) (by omega))
    · refine ev_iload_n 3 d_M_second_91 rfl rfl ?_
      refine ev_iload d_M_second_92 rfl ?_
      refine ev_ishr d_M_second_94 ?_
      rw [z_shrk (by omega) (by omega)]
      refine ev_iconst (v := 1) d_M_second_95 (by decide) ?_
      refine ev_iand d_M_second_96 ?_
      rw [z_and1 (by have := Nat.div_le_self s (2 ^ c); omega)]
      refine ev_if_ne 109 d_M_second_97 (by decide) (fun q1 => ?_) (fun q1 => ?_)
      · have e1 : sxI mk mn s c mr = mr := by unfold sxI; rw [if_neg (fun w => q1 ((z_nz (by omega)).mpr w))]
        rw [e1] at kk
        refine ev_iinc (v := _ + 1) d_M_second_109 rfl rfl (Nat.le_of_ble_eq_true rfl) rfl ?_
        rw [nI_1]
        refine ev_goto 85 d_M_second_112 (by decide) ?_
        exact ih (c + 1) mr (by omega) kk
      · have e1 : sxI mk mn s c mr = xpM mk mn s (onN s 0 8 0) c mr := by unfold sxI; rw [if_pos ((z_nz (by omega)).mp q1)]
        rw [e1] at kk
        refine ev_aload_n 0 d_M_second_100 rfl rfl ?_
        refine ev_iload_n 3 d_M_second_101 rfl rfl ?_
        refine ev_iload d_M_second_102 rfl ?_
        refine ev_iload d_M_second_104 rfl ?_
        refine ev_callV M_M_expand [_, _, _] (sp_M_expand (s := s) (row := onN s 0 8 0) (col := c) (by omega) hon (by omega)) c_M_150 d_M_second_106 rfl rfl (by decide) (Nat.le_of_ble_eq_true rfl) ⟨rfl, rfl⟩ rfl ?_
        refine ev_iinc (v := _ + 1) d_M_second_109 rfl rfl (Nat.le_of_ble_eq_true rfl) rfl ?_
        rw [nI_1]
        refine ev_goto 85 d_M_second_112 (by decide) ?_
        exact ih (c + 1) _ (by omega) kk
theorem lp_M_second3 {e order : Nat} (ho : order ≤ 8) {r : Option Value} {wf : zW} : ∀ k s (mr : Nat → Int64) (ex : List (Nat × Value)), (ex = [] ∨ ∃ a b : Int32, ex = [(4, .int a), (5, .int b)]) → s + k = 2 ^ order - 1 → (∀ ex : List (Nat × Value), Ev M_M_second none r wf 121 ([(0, .ref 25), (1, .int (nI e)), (2, .int (nI order)), (3, .int (nI (2 ^ order - 1)))] ++ ex) [] (kM X me mp mc md mo mw ml mv my mt ms mq mh ma mz mk mn (itN (sxS mk mn order) s k mr) mx) 0 0) → Ev M_M_second none r wf 67 ([(0, .ref 25), (1, .int (nI e)), (2, .int (nI order)), (3, .int (nI s))] ++ ex) [] (kM X me mp mc md mo mw ml mv my mt ms mq mh ma mz mk mn mr mx) 0 0 := by
  have hp := p2_le order (by omega)
  have hp1 : 1 ≤ 2 ^ order := Nat.one_le_two_pow
  have e9 : (1 : Int32) <<< (nI order &&& 31) - 1 = nI (2 ^ order - 1) := by
    rw [z_shl1 order (by omega), show nI (2 ^ order) - 1 = nI (2 ^ order - 1) by rw [show 2 ^ order = 2 ^ order - 1 + 1 by omega, nI_pred]; rfl]
  intro k
  induction k with
  | zero =>
    intro s mr ex hex hs kk
    rw [itN_0] at kk
    have k1 := kk []
    refine ev_drop (lv' := [(0, .ref 25), (1, .int (nI e)), (2, .int (nI order)), (3, .int (nI s))]) ?_
    refine ev_iload_n 3 d_M_second_67 rfl rfl ?_
    refine ev_iconst (v := 1) d_M_second_68 (by decide) ?_
    refine ev_iload_n 2 d_M_second_69 rfl rfl ?_
    refine ev_ishl d_M_second_70 ?_
    refine ev_iconst (v := 1) d_M_second_71 (by decide) ?_
    refine ev_isub d_M_second_72 ?_
    rw [e9]
    refine ev_icmp_ge 121 d_M_second_73 (by decide) (fun h => ?_) (fun h => ?_)
    · rw [show s = 2 ^ order - 1 by omega]
      exact k1
    · exact absurd (nI_le (by omega) (by omega)) h
  | succ k ih =>
    intro s mr ex hex hs kk
    rw [itN_s] at kk
    refine ev_drop (lv' := [(0, .ref 25), (1, .int (nI e)), (2, .int (nI order)), (3, .int (nI s))]) ?_
    refine ev_iload_n 3 d_M_second_67 rfl rfl ?_
    refine ev_iconst (v := 1) d_M_second_68 (by decide) ?_
    refine ev_iload_n 2 d_M_second_69 rfl rfl ?_
    refine ev_ishl d_M_second_70 ?_
    refine ev_iconst (v := 1) d_M_second_71 (by decide) ?_
    refine ev_isub d_M_second_72 ?_
    rw [e9]
    refine ev_icmp_ge 121 d_M_second_73 (by decide) (fun h => ?_) (fun h => ?_)
    · exact absurd h (nI_ge (by omega) (by omega))
    · refine ev_iload_n 3 d_M_second_76 rfl rfl ?_
      refine ev_callS M_M_ones [_] (sp_M_ones _ (s := s) (by omega)) c_M_147 d_M_second_77 rfl (by decide) (Nat.le_of_ble_eq_true rfl) ⟨rfl, rfl⟩ rfl ?_
      refine ev_istore d_M_second_80 (Nat.le_of_ble_eq_true rfl) rfl ?_
      refine ev_iconst (v := 0) d_M_second_82 (by decide) ?_
      refine ev_istore d_M_second_83 (Nat.le_of_ble_eq_true rfl) rfl ?_
      refine lp_M_second4 (s := s) (by omega) ho order 0 mr (by omega) ?_
      refine ev_iinc (v := _ + 1) d_M_second_115 rfl rfl (Nat.le_of_ble_eq_true rfl) rfl ?_
      rw [nI_1]
      refine ev_goto 67 d_M_second_118 (by decide) ?_
      exact ih (s + 1) (sxS mk mn order s mr) [(4, .int (nI (onN s 0 8 0))), (5, .int (nI order))] (Or.inr ⟨_, _, rfl⟩) (by omega) kk
theorem lp_M_second2 {e order : Nat} {r : Option Value} {wf : zW} : ∀ k i (mr : Nat → Int64), i + k = 2560 → Ev M_M_second none r wf 58 [(0, .ref 25), (1, .int (nI e)), (2, .int (nI order)), (3, .int (nI 2560))] [] (kM X me mp mc md mo mw ml mv my mt ms mq mh ma mz mk mn ((fun t => if i ≤ t ∧ t < 2560 then 0 else mr t)) mx) 0 0 → Ev M_M_second none r wf 38 [(0, .ref 25), (1, .int (nI e)), (2, .int (nI order)), (3, .int (nI i))] [] (kM X me mp mc md mo mw ml mv my mt ms mq mh ma mz mk mn mr mx) 0 0 := by
  intro k
  induction k with
  | zero =>
    intro i mr hi kk
    have e1 : (fun t => if i ≤ t ∧ t < 2560 then 0 else mr t) = mr := by
      funext t
      rw [if_neg (by omega)]
    rw [e1] at kk
    refine ev_iload_n 3 d_M_second_38 rfl rfl ?_
    refine ev_sipush (v := 2560) d_M_second_39 (by decide) ?_
    refine ev_icmp_ge 58 d_M_second_42 (by decide) (fun h => ?_) (fun h => ?_)
    · rw [show i = 2560 by omega]
      exact kk
    · exact absurd (nI_le (a := 2560) (b := i) (by omega) (by omega)) h
  | succ k ih =>
    intro i mr hi kk
    refine ev_iload_n 3 d_M_second_38 rfl rfl ?_
    refine ev_sipush (v := 2560) d_M_second_39 (by decide) ?_
    refine ev_icmp_ge 58 d_M_second_42 (by decide) (fun h => ?_) (fun h => ?_)
    · exact absurd h (nI_ge (b := 2560) (by omega) (by omega))
    · refine ev_aload_n 0 d_M_second_45 rfl rfl ?_
      refine ev_get f_M_46 d_M_second_46 rfl rfl ?_
      refine ev_iload_n 3 d_M_second_49 rfl rfl ?_
      refine ev_lconst (v := 0) d_M_second_50 (by decide) ?_
      refine ev_last d_M_second_51 rfl (vp_in_nI (by omega) (by omega)) ?_
      refine ev_iinc (v := _ + 1) d_M_second_52 rfl rfl (Nat.le_of_ble_eq_true rfl) rfl ?_
      rw [nI_clamp (by omega), nI_1]
      refine ev_goto 38 d_M_second_55 (by decide) ?_
      refine ih (i + 1) (vp_updL mr i 0) (by omega) ?_
      have e1 : (fun t => if i + 1 ≤ t ∧ t < 2560 then 0 else vp_updL mr i 0 t) = (fun t => if i ≤ t ∧ t < 2560 then 0 else mr t) := by
        funext t
        by_cases h5 : t = i
        · subst h5
          rw [if_neg (by omega), if_pos (by omega)]
          exact pk_uLs
        · rw [pk_uLn h5]
          by_cases h6 : i + 1 ≤ t ∧ t < 2560
          · rw [if_pos h6, if_pos (by omega)]
          · rw [if_neg h6, if_neg (by omega)]
      rw [e1]
      exact kk
def sZ (me ma : Nat → Int32) (n mo : Nat) : Nat := (nuN me ma n).2 + mo
theorem sp_M_second_no {p : Int32} (hn : mc ≤ 8) (hf : edg (4 * mc) me) (h0 : 1 ≤ sZ me ma mc mo) (hz : sZ me ma mc mo < 2000000) (hno : p < 0 ∨ 9 < p ∨ mc < sZ me ma mc mo - 1) : Sp M_M_second [.ref 25, .int p] (kM X me mp mc md mo mw ml mv my mt ms mq mh ma mz mk mn mr mx) (some (.long 0)) (kM X me mp mc md mo mw ml mv my mt ms mq mh ((nuN me ma mc).1) (sZ me ma mc mo) mk mn mr mx) := by
  refine Sp.of (by decide) (Nat.le_of_ble_eq_true rfl) ?_
  refine ev_aload_n 0 d_M_second_0 rfl rfl ?_
  refine ev_callV M_M_number [] (sp_M_number hn hf) c_M_141 d_M_second_1 rfl rfl (by decide) (Nat.le_of_ble_eq_true rfl) ⟨rfl, rfl⟩ (by rw [kM_len, kM_len]) ?_
  refine ev_aload_n 0 d_M_second_4 rfl rfl ?_
  refine ev_get f_M_133 d_M_second_5 rfl rfl ?_
  refine ev_iconst (v := 1) d_M_second_8 (by decide) ?_
  refine ev_isub d_M_second_9 ?_
  rw [show nI ((nuN me ma mc).2 + mo) - 1 = nI (sZ me ma mc mo - 1) by
    rw [show (nuN me ma mc).2 + mo = sZ me ma mc mo - 1 + 1 by unfold sZ at h0 ⊢; omega, nI_pred]]
  refine ev_istore_n 2 d_M_second_10 rfl (Nat.le_of_ble_eq_true rfl) rfl ?_
  refine ev_iload_n 2 d_M_second_11 rfl rfl ?_
  refine ev_aload_n 0 d_M_second_12 rfl rfl ?_
  refine ev_get f_M_66 d_M_second_13 rfl rfl ?_
  refine ev_icmp_gt 29 d_M_second_16 (by decide) (fun q1 => ?_) (fun q1 => ?_)
  · refine ev_lconst (v := 0) d_M_second_29 (by decide) ?_
    exact ev_lret d_M_second_30 rfl (Nat.le_of_ble_eq_true rfl) (Nat.le_of_ble_eq_true rfl)
  · refine ev_iload_n 1 d_M_second_19 rfl rfl ?_
    refine ev_if_lt 29 d_M_second_20 (by decide) (fun q2 => ?_) (fun q2 => ?_)
    · refine ev_lconst (v := 0) d_M_second_29 (by decide) ?_
      exact ev_lret d_M_second_30 rfl (Nat.le_of_ble_eq_true rfl) (Nat.le_of_ble_eq_true rfl)
    · refine ev_iload_n 1 d_M_second_23 rfl rfl ?_
      refine ev_bipush (v := 9) d_M_second_24 (by decide) ?_
      refine ev_icmp_le 31 d_M_second_26 (by decide) (fun q3 => ?_) (fun q3 => ?_)
      · have h4 : ¬ mc < sZ me ma mc mo - 1 := fun w => q1 (nI_lt w (by omega))
        have h5 := (hno.resolve_left q2).resolve_right h4
        exact absurd q3 (by rw [Int32.le_iff_toInt_le]; rw [Int32.lt_iff_toInt_lt] at h5; omega)
      · refine ev_lconst (v := 0) d_M_second_29 (by decide) ?_
        exact ev_lret d_M_second_30 rfl (Nat.le_of_ble_eq_true rfl) (Nat.le_of_ble_eq_true rfl)
theorem sp_M_second {p order : Nat} (hp : p ≤ 9) (hn : mc ≤ 8) (hf : edg (4 * mc) me) {B : Nat} (hB : B ≤ 1000) (hs : sml B 33 (nuN me ma mc).1) (h0 : 1 ≤ sZ me ma mc mo) (hor : order = sZ me ma mc mo - 1) (hle : order ≤ mc) : Sp M_M_second [.ref 25, .int (nI p)] (kM X me mp mc md mo mw ml mv my mt ms mq mh ma mz mk mn mr mx) (some (.long (seR (sxM (enM (aN (nuN me ma mc).1 me) mp order (mk, mn)).1 (enM (aN (nuN me ma mc).1 me) mp order (mk, mn)).2 order mr) (10 * (2 ^ order - 1)) p))) (kM X me mp mc md mo mw ml mv my mt ms mq mh ((nuN me ma mc).1) (sZ me ma mc mo) ((enM (aN (nuN me ma mc).1 me) mp order (mk, mn)).1) ((enM (aN (nuN me ma mc).1 me) mp order (mk, mn)).2) (sxM (enM (aN (nuN me ma mc).1 me) mp order (mk, mn)).1 (enM (aN (nuN me ma mc).1 me) mp order (mk, mn)).2 order mr) mx) := by
  refine Sp.of (by decide) (Nat.le_of_ble_eq_true rfl) ?_
  have hp2 := p2_le order (by omega)
  have hp1 : 1 ≤ 2 ^ order := Nat.one_le_two_pow
  refine ev_aload_n 0 d_M_second_0 rfl rfl ?_
  refine ev_callV M_M_number [] (sp_M_number hn hf) c_M_141 d_M_second_1 rfl rfl (by decide) (Nat.le_of_ble_eq_true rfl) ⟨rfl, rfl⟩ (by rw [kM_len, kM_len]) ?_
  refine ev_aload_n 0 d_M_second_4 rfl rfl ?_
  refine ev_get f_M_133 d_M_second_5 rfl rfl ?_
  refine ev_iconst (v := 1) d_M_second_8 (by decide) ?_
  refine ev_isub d_M_second_9 ?_
  rw [show nI ((nuN me ma mc).2 + mo) - 1 = nI order by
    rw [show (nuN me ma mc).2 + mo = order + 1 by rw [hor]; unfold sZ at h0 ⊢; omega, nI_pred]]
  refine ev_istore_n 2 d_M_second_10 rfl (Nat.le_of_ble_eq_true rfl) rfl ?_
  refine ev_iload_n 2 d_M_second_11 rfl rfl ?_
  refine ev_aload_n 0 d_M_second_12 rfl rfl ?_
  refine ev_get f_M_66 d_M_second_13 rfl rfl ?_
  refine ev_icmp_gt 29 d_M_second_16 (by decide) (fun q1 => ?_) (fun q1 => ?_)
  · exact absurd q1 (nI_nlt hle (by omega))
  · refine ev_iload_n 1 d_M_second_19 rfl rfl ?_
    refine ev_if_lt 29 d_M_second_20 (by decide) (fun q2 => ?_) (fun q2 => ?_)
    · exact absurd q2 (nI_pos (by omega))
    · refine ev_iload_n 1 d_M_second_23 rfl rfl ?_
      refine ev_bipush (v := 9) d_M_second_24 (by decide) ?_
      refine ev_icmp_le 31 d_M_second_26 (by decide) (fun q3 => ?_) (fun q3 => ?_)
      · refine ev_aload_n 0 d_M_second_31 rfl rfl ?_
        refine ev_iload_n 2 d_M_second_32 rfl rfl ?_
        refine ev_callV M_M_entries [_] (sp_M_entries (ma := (nuN me ma mc).1) hn hf hB hs hle) c_M_144 d_M_second_33 rfl rfl (by decide) (Nat.le_of_ble_eq_true rfl) ⟨rfl, rfl⟩ (by rw [kM_len, kM_len]) ?_
        refine ev_iconst (v := 0) d_M_second_36 (by decide) ?_
        refine ev_istore_n 3 d_M_second_37 rfl (Nat.le_of_ble_eq_true rfl) rfl ?_
        refine lp_M_second2 2560 0 mr (by omega) ?_
        have e1 : (fun t => if 0 ≤ t ∧ t < 2560 then 0 else mr t) = (fun t => if t < 2560 then 0 else mr t) := by
          funext t
          congr 1
          simp
        rw [e1]
        refine ev_aload_n 0 d_M_second_58 rfl rfl ?_
        refine ev_get f_M_46 d_M_second_59 rfl rfl ?_
        refine ev_iconst (v := 0) d_M_second_62 (by decide) ?_
        refine ev_lconst (v := 1) d_M_second_63 (by decide) ?_
        refine ev_last d_M_second_64 rfl (vp_in_nI (n := 0) (by omega) (by omega)) ?_
        refine ev_iconst (v := 0) d_M_second_65 (by decide) ?_
        refine ev_istore_n 3 d_M_second_66 rfl (Nat.le_of_ble_eq_true rfl) rfl ?_
        refine lp_M_second3 (by omega) (2 ^ order - 1) 0 _ [] (Or.inl rfl) (by omega) (fun ex => ?_)
        refine ev_drop (lv' := [(0, .ref 25), (1, .int (nI p)), (2, .int (nI order)), (3, .int (nI (2 ^ order - 1)))]) ?_
        refine ev_bipush (v := 10) d_M_second_121 (by decide) ?_
        refine ev_iconst (v := 1) d_M_second_123 (by decide) ?_
        refine ev_iload_n 2 d_M_second_124 rfl rfl ?_
        refine ev_ishl d_M_second_125 ?_
        refine ev_iconst (v := 1) d_M_second_126 (by decide) ?_
        refine ev_isub d_M_second_127 ?_
        rw [z_shl1 order (by omega), show nI (2 ^ order) - 1 = nI (2 ^ order - 1) by rw [show 2 ^ order = 2 ^ order - 1 + 1 by omega, nI_pred]; rfl]
        refine ev_imul d_M_second_128 ?_
        rw [show (10 : Int32) * nI (2 ^ order - 1) = nI (10 * (2 ^ order - 1)) from pk_mul 10 _]
        refine ev_istore_n 3 d_M_second_129 rfl (Nat.le_of_ble_eq_true rfl) rfl ?_
        refine ev_iconst (v := 0) d_M_second_130 (by decide) ?_
        refine ev_istore d_M_second_131 (Nat.le_of_ble_eq_true rfl) rfl ?_
        refine ev_iconst (v := -1) d_M_second_133 (by decide) ?_
        refine ev_istore d_M_second_134 (Nat.le_of_ble_eq_true rfl) rfl ?_
        refine ev_bipush (v := 9) d_M_second_136 (by decide) ?_
        refine ev_istore d_M_second_138 (Nat.le_of_ble_eq_true rfl) rfl ?_
        exact lp_M_second5 hp (by omega) rfl 10 0 none (by omega) (by omega) (fun x hx => by cases hx) rfl
      · exact absurd (nI_le (b := 9) hp (by omega)) q3
end Md
