def onN (s : Nat) : Nat → Nat → Nat → Nat
  | _, 0, c => c
  | i, k + 1, c => onN s (i + 1) k (c + s / 2 ^ i % 2)
def bhN (s : Nat) : Nat → Nat → Nat → Nat
  | _, 0, c => c
  | i, k + 1, c => bhN s (i + 1) k (if s / 2 ^ i % 2 = 1 then c + 1 else c)
def sgM (s col : Nat) : Int64 := if bhN s (col + 1) (7 - col) 0 % 2 = 0 then 1 else -1
def xpS (sg c l : Int64) (s to i : Nat) (m : Nat → Int64) : Nat → Int64 := vp_updL (vp_updL m (to + i) (m (to + i) + sg * m (10 * s + i) * c)) (to + i + 1) (vp_updL m (to + i) (m (to + i) + sg * m (10 * s + i) * c) (to + i + 1) + sg * m (10 * s + i) * l)
def xpM (mk mn : Nat → Int32) (s row col : Nat) (m : Nat → Int64) : Nat → Int64 := itN (xpS (sgM s col) (mk (8 * row + col)).toInt64 (mn (8 * row + col)).toInt64 s (10 * (s ||| 2 ^ col))) 0 9 m
def sxI (mk mn : Nat → Int32) (s : Nat) (col : Nat) (m : Nat → Int64) : Nat → Int64 := if s / 2 ^ col % 2 = 0 then xpM mk mn s (onN s 0 8 0) col m else m
def sxS (mk mn : Nat → Int32) (order s : Nat) (m : Nat → Int64) : Nat → Int64 := itN (sxI mk mn s) 0 order m
def sxM (mk mn : Nat → Int32) (order : Nat) (mr : Nat → Int64) : Nat → Int64 := itN (sxS mk mn order) 0 (2 ^ order - 1) (vp_updL (fun t => if t < 2560 then 0 else mr t) 0 1)
/-- least and most: over i - 1 down to 0 -/
def lmM (m : Nat → Int64) (base : Nat) : Nat → Nat → Option Nat → Nat × Option Nat
  | 0, le, mo => (le, mo)
  | i + 1, le, mo => lmM m base i (if m (base + i) = 0 then le else i) (if mo = none ∧ ¬ m (base + i) = 0 then some i else mo)
def seR (m : Nat → Int64) (base e : Nat) : Int64 := match (lmM m base 10 0 none).2 with
  | none => 0
  | some mo => if (lmM m base 10 0 none).1 + e ≤ 9 then (if m (base + mo) < 0 then -m (base + (lmM m base 10 0 none).1 + e) else m (base + (lmM m base 10 0 none).1 + e)) else 0
theorem lmM_lt {m : Nat → Int64} {base : Nat} : ∀ i le mo, i ≤ 10 → le < 10 → (∀ x, mo = some x → x < 10) → (lmM m base i le mo).1 < 10 ∧ ∀ x, (lmM m base i le mo).2 = some x → x < 10 := by
  intro i
  induction i with
  | zero => intro le mo _ h1 h2; rw [lmM]; exact ⟨h1, h2⟩
  | succ i ih =>
    intro le mo hi h1 h2
    rw [lmM]
    apply ih _ _ (by omega)
    · split <;> omega
    · intro x hx
      split at hx
      · cases hx; omega
      · exact h2 x hx
theorem z_or : ∀ s, s < 256 → ∀ c, c < 8 → nI s ||| ((1 : Int32) <<< (nI c &&& 31)) = nI (s ||| 2 ^ c) := by decide +kernel
theorem z_orlt : ∀ s, s < 256 → ∀ c, c < 8 → s ||| 2 ^ c < 256 := by decide +kernel
theorem onN_le {s : Nat} : ∀ k i c, onN s i k c ≤ c + k := by
  intro k
  induction k with
  | zero => intro i c; rw [onN]; omega
  | succ k ih => intro i c; rw [onN]; have := ih (i + 1) (c + s / 2 ^ i % 2); omega
theorem on_lt : ∀ s, s < 255 → onN s 0 8 0 ≤ 7 := by decide +kernel
theorem bhN_le {s : Nat} : ∀ k i c, bhN s i k c ≤ c + k := by
  intro k
  induction k with
  | zero => intro i c; rw [bhN]; omega
  | succ k ih =>
    intro i c
    rw [bhN]
    split
    · have := ih (i + 1) (c + 1); omega
    · have := ih (i + 1) c; omega
section Md
variable {X : Nat → zE} {me mp : Nat → Int32} {mc md mo : Nat} {mw : Nat → Int32} {ml mv my : Nat} {mt : Nat → Int32} {ms mq mh : Nat → Int64} {ma : Nat → Int32} {mz : Nat} {mk mn : Nat → Int32} {mr : Nat → Int64} {mx : Nat → Int32}
theorem lp_M_ones (w : zW) {s : Nat} (hs : s < 256) : ∀ k i c, i + k = 8 → Ev M_M_ones none (some (.int (nI (onN s i k c)))) w 4 [(0, .int (nI s)), (1, .int (nI c)), (2, .int (nI i))] [] w 0 0 := by
  intro k
  induction k with
  | zero =>
    intro i c hi
    have e0 : onN s i 0 c = c := by rw [onN]
    rw [e0]
    refine ev_iload_n 2 d_M_ones_4 rfl rfl ?_
    refine ev_bipush (v := 8) d_M_ones_5 (by decide) ?_
    refine ev_icmp_ge 24 d_M_ones_7 (by decide) (fun h => ?_) (fun h => ?_)
    · refine ev_iload_n 1 d_M_ones_24 rfl rfl ?_
      exact ev_iret d_M_ones_25 rfl rfl (Nat.le_of_ble_eq_true rfl) (Nat.le_of_ble_eq_true rfl)
    · exact absurd (nI_le (a := 8) (b := i) (by omega) (by omega)) h
  | succ k ih =>
    intro i c hi
    have e0 : onN s i (k + 1) c = onN s (i + 1) k (c + s / 2 ^ i % 2) := by rw [onN]
    rw [e0]
    refine ev_iload_n 2 d_M_ones_4 rfl rfl ?_
    refine ev_bipush (v := 8) d_M_ones_5 (by decide) ?_
    refine ev_icmp_ge 24 d_M_ones_7 (by decide) (fun h => ?_) (fun h => ?_)
    · exact absurd h (nI_ge (b := 8) (by omega) (by omega))
    · refine ev_iload_n 1 d_M_ones_10 rfl rfl ?_
      refine ev_iload_n 0 d_M_ones_11 rfl rfl ?_
      refine ev_iload_n 2 d_M_ones_12 rfl rfl ?_
      refine ev_ishr d_M_ones_13 ?_
      rw [z_shrk (by omega) (by omega)]
      refine ev_iconst (v := 1) d_M_ones_14 (by decide) ?_
      refine ev_iand d_M_ones_15 ?_
      rw [z_and1 (by have := Nat.div_le_self s (2 ^ i); omega)]
      refine ev_iadd d_M_ones_16 ?_
      rw [nI_add]
      refine ev_istore_n 1 d_M_ones_17 rfl (Nat.le_of_ble_eq_true rfl) rfl ?_
      refine ev_iinc (v := _ + 1) d_M_ones_18 rfl rfl (Nat.le_of_ble_eq_true rfl) rfl ?_
      rw [nI_1]
      refine ev_goto 4 d_M_ones_21 (by decide) ?_
      exact ih (i + 1) (c + s / 2 ^ i % 2) (by omega)
theorem sp_M_ones (w : zW) {s : Nat} (hs : s < 256) : Sp M_M_ones [.int (nI s)] w (some (.int (nI (onN s 0 8 0)))) w := by
  refine Sp.of (by decide) (Nat.le_of_ble_eq_true rfl) ?_
  refine ev_iconst (v := 0) d_M_ones_0 (by decide) ?_
  refine ev_istore_n 1 d_M_ones_1 rfl (Nat.le_of_ble_eq_true rfl) rfl ?_
  refine ev_iconst (v := 0) d_M_ones_2 (by decide) ?_
  refine ev_istore_n 2 d_M_ones_3 rfl (Nat.le_of_ble_eq_true rfl) rfl ?_
  exact lp_M_ones w hs 8 0 0 (by omega)
theorem lp_M_expand1 {s row col : Nat} (hs : s < 256) {r : Option Value} {wf : zW} : ∀ k i c, i + k = 8 → (bhN s (col + 1) (7 - col) 0 = bhN s i k c) → Ev M_M_expand none r wf 42 [(0, .ref 25), (1, .int (nI s)), (2, .int (nI row)), (3, .int (nI col)), (4, .int (nI (bhN s (col + 1) (7 - col) 0))), (5, .int (nI 8))] [] (kM X me mp mc md mo mw ml mv my mt ms mq mh ma mz mk mn mr mx) 0 0 → Ev M_M_expand none r wf 8 [(0, .ref 25), (1, .int (nI s)), (2, .int (nI row)), (3, .int (nI col)), (4, .int (nI c)), (5, .int (nI i))] [] (kM X me mp mc md mo mw ml mv my mt ms mq mh ma mz mk mn mr mx) 0 0 := by
  intro k
  induction k with
  | zero =>
    intro i c hi hb kk
    rw [hb, bhN] at kk
    refine ev_iload d_M_expand_8 rfl ?_
    refine ev_bipush (v := 8) d_M_expand_10 (by decide) ?_
    refine ev_icmp_ge 42 d_M_expand_12 (by decide) (fun h => ?_) (fun h => ?_)
    · rw [show i = 8 by omega]
      exact kk
    · exact absurd (nI_le (a := 8) (b := i) (by omega) (by omega)) h
  | succ k ih =>
    intro i c hi hb kk
    have k2 : ∀ c' : Nat, c' = (if s / 2 ^ i % 2 = 1 then c + 1 else c) → Ev M_M_expand none r wf 34 [(0, .ref 25), (1, .int (nI s)), (2, .int (nI row)), (3, .int (nI col)), (4, .int (nI c)), (5, .int (nI i))] [.int (nI c')] (kM X me mp mc md mo mw ml mv my mt ms mq mh ma mz mk mn mr mx) 0 0 := by
      intro c' hc
      refine ev_istore d_M_expand_34 (Nat.le_of_ble_eq_true rfl) rfl ?_
      refine ev_iinc (v := _ + 1) d_M_expand_36 rfl rfl (Nat.le_of_ble_eq_true rfl) rfl ?_
      rw [nI_1]
      refine ev_goto 8 d_M_expand_39 (by decide) ?_
      exact ih (i + 1) c' (by omega) (by rw [hb, bhN, hc]) kk
    refine ev_iload d_M_expand_8 rfl ?_
    refine ev_bipush (v := 8) d_M_expand_10 (by decide) ?_
    refine ev_icmp_ge 42 d_M_expand_12 (by decide) (fun h => ?_) (fun h => ?_)
    · exact absurd h (nI_ge (b := 8) (by omega) (by omega))
    · refine ev_iload_n 1 d_M_expand_15 rfl rfl ?_
      refine ev_iload d_M_expand_16 rfl ?_
      refine ev_ishr d_M_expand_18 ?_
      rw [z_shrk (by omega) (by omega)]
      refine ev_iconst (v := 1) d_M_expand_19 (by decide) ?_
      refine ev_iand d_M_expand_20 ?_
      rw [z_and1 (by have := Nat.div_le_self s (2 ^ i); omega)]
      refine ev_iconst (v := 1) d_M_expand_21 (by decide) ?_
      refine ev_icmp_ne 32 d_M_expand_22 (by decide) (fun q1 => ?_) (fun q1 => ?_)
      · refine ev_iload d_M_expand_32 rfl ?_
        exact k2 c (by rw [if_neg (fun w => q1 ((z_n1 (by omega)).mpr w))])
      · refine ev_iload d_M_expand_25 rfl ?_
        refine ev_iconst (v := 1) d_M_expand_27 (by decide) ?_
        refine ev_iadd d_M_expand_28 ?_
        rw [nI_1]
        refine ev_goto 34 d_M_expand_29 (by decide) ?_
        exact k2 (c + 1) (by rw [if_pos ((z_n1 (by omega)).mp q1)])
theorem lp_M_expand2 {s row col to : Nat} {sg : Int64} {v4 : Int32} (hs : s < 256) (hr : row ≤ 7) (hc : col < 8) (hto : to ≤ 2550) : ∀ k i (mr : Nat → Int64) (ex : List (Nat × Value)), (ex = [] ∨ ∃ v : Int64, ex = [(9, .long v)]) → i + k = 9 → Ev M_M_expand none none (kM X me mp mc md mo mw ml mv my mt ms mq mh ma mz mk mn (itN (xpS sg (mk (8 * row + col)).toInt64 (mn (8 * row + col)).toInt64 s to) i k mr) mx) 71 ([(0, .ref 25), (1, .int (nI s)), (2, .int (nI row)), (3, .int (nI col)), (4, .int v4), (5, .long sg), (7, .int (nI to)), (8, .int (nI i))] ++ ex) [] (kM X me mp mc md mo mw ml mv my mt ms mq mh ma mz mk mn mr mx) 0 0 := by
  intro k
  induction k with
  | zero =>
    intro i mr ex hex hi
    rw [itN_0]
    refine ev_drop (lv' := [(0, .ref 25), (1, .int (nI s)), (2, .int (nI row)), (3, .int (nI col)), (4, .int v4), (5, .long sg), (7, .int (nI to)), (8, .int (nI i))]) ?_
    refine ev_iload d_M_expand_71 rfl ?_
    refine ev_bipush (v := 9) d_M_expand_73 (by decide) ?_
    refine ev_icmp_ge 177 d_M_expand_75 (by decide) (fun h => ?_) (fun h => ?_)
    · exact ev_ret d_M_expand_177 rfl (Nat.le_of_ble_eq_true rfl) (Nat.le_of_ble_eq_true rfl)
    · exact absurd (nI_le (a := 9) (b := i) (by omega) (by omega)) h
  | succ k ih =>
    intro i mr ex hex hi
    rw [itN_s]
    refine ev_drop (lv' := [(0, .ref 25), (1, .int (nI s)), (2, .int (nI row)), (3, .int (nI col)), (4, .int v4), (5, .long sg), (7, .int (nI to)), (8, .int (nI i))]) ?_
    refine ev_iload d_M_expand_71 rfl ?_
    refine ev_bipush (v := 9) d_M_expand_73 (by decide) ?_
    refine ev_icmp_ge 177 d_M_expand_75 (by decide) (fun h => ?_) (fun h => ?_)
    · exact absurd h (nI_ge (b := 9) (by omega) (by omega))
    · refine ev_lload d_M_expand_78 rfl ?_
      refine ev_aload_n 0 d_M_expand_80 rfl rfl ?_
      refine ev_get f_M_46 d_M_expand_81 rfl rfl ?_
      refine ev_bipush (v := 10) d_M_expand_84 (by decide) ?_
      refine ev_iload_n 1 d_M_expand_86 rfl rfl ?_
      refine ev_imul d_M_expand_87 ?_
      refine ev_iload d_M_expand_88 rfl ?_
      refine ev_iadd d_M_expand_90 ?_
      rw [show (10 : Int32) * nI s = nI (10 * s) from pk_mul 10 s, nI_add]
      refine ev_lald d_M_expand_91 rfl (vp_in_nI (by omega) (by omega)) ?_
      rw [nI_clamp (by omega)]
      refine ev_lmul d_M_expand_92 ?_
      refine ev_lstore d_M_expand_93 (Nat.le_of_ble_eq_true rfl) rfl ?_
      refine ev_aload_n 0 d_M_expand_95 rfl rfl ?_
      refine ev_get f_M_46 d_M_expand_96 rfl rfl ?_
      refine ev_iload d_M_expand_99 rfl ?_
      refine ev_iload d_M_expand_101 rfl ?_
      refine ev_iadd d_M_expand_103 ?_
      rw [nI_add]
      refine ev_aload_n 0 d_M_expand_104 rfl rfl ?_
      refine ev_get f_M_46 d_M_expand_105 rfl rfl ?_
      refine ev_iload d_M_expand_108 rfl ?_
      refine ev_iload d_M_expand_110 rfl ?_
      refine ev_iadd d_M_expand_112 ?_
      rw [nI_add]
      refine ev_lald d_M_expand_113 rfl (vp_in_nI (by omega) (by omega)) ?_
      rw [nI_clamp (by omega)]
      refine ev_lload d_M_expand_114 rfl ?_
      refine ev_aload_n 0 d_M_expand_116 rfl rfl ?_
      refine ev_get f_M_40 d_M_expand_117 rfl rfl ?_
      refine ev_bipush (v := 8) d_M_expand_120 (by decide) ?_
      refine ev_iload_n 2 d_M_expand_122 rfl rfl ?_
      refine ev_imul d_M_expand_123 ?_
      refine ev_iload_n 3 d_M_expand_124 rfl rfl ?_
      refine ev_iadd d_M_expand_125 ?_
      rw [z_8x]
      refine ev_iald d_M_expand_126 rfl (vp_in_nI (by omega) (by omega)) ?_
      rw [nI_clamp (by omega)]
      refine ev_i2l d_M_expand_127 rfl ?_
      refine ev_lmul d_M_expand_128 ?_
      refine ev_ladd d_M_expand_129 ?_
      refine ev_last d_M_expand_130 rfl (vp_in_nI (by omega) (by omega)) ?_
      rw [nI_clamp (by omega)]
      refine ev_aload_n 0 d_M_expand_131 rfl rfl ?_
      refine ev_get f_M_46 d_M_expand_132 rfl rfl ?_
      refine ev_iload d_M_expand_135 rfl ?_
      refine ev_iload d_M_expand_137 rfl ?_
      refine ev_iadd d_M_expand_139 ?_
      refine ev_iconst (v := 1) d_M_expand_140 (by decide) ?_
      refine ev_iadd d_M_expand_141 ?_
      rw [nI_add, nI_1]
      refine ev_aload_n 0 d_M_expand_142 rfl rfl ?_
      refine ev_get f_M_46 d_M_expand_143 rfl rfl ?_
      refine ev_iload d_M_expand_146 rfl ?_
      refine ev_iload d_M_expand_148 rfl ?_
      refine ev_iadd d_M_expand_150 ?_
      refine ev_iconst (v := 1) d_M_expand_151 (by decide) ?_
      refine ev_iadd d_M_expand_152 ?_
      rw [nI_add, nI_1]
      refine ev_lald d_M_expand_153 rfl (vp_in_nI (by omega) (by omega)) ?_
      rw [nI_clamp (by omega)]
      refine ev_lload d_M_expand_154 rfl ?_
      refine ev_aload_n 0 d_M_expand_156 rfl rfl ?_
      refine ev_get f_M_43 d_M_expand_157 rfl rfl ?_
      refine ev_bipush (v := 8) d_M_expand_160 (by decide) ?_
      refine ev_iload_n 2 d_M_expand_162 rfl rfl ?_
      refine ev_imul d_M_expand_163 ?_
      refine ev_iload_n 3 d_M_expand_164 rfl rfl ?_
      refine ev_iadd d_M_expand_165 ?_
      rw [z_8x]
      refine ev_iald d_M_expand_166 rfl (vp_in_nI (by omega) (by omega)) ?_
      rw [nI_clamp (by omega)]
      refine ev_i2l d_M_expand_167 rfl ?_
      refine ev_lmul d_M_expand_168 ?_
      refine ev_ladd d_M_expand_169 ?_
      refine ev_last d_M_expand_170 rfl (vp_in_nI (by omega) (by omega)) ?_
      rw [nI_clamp (by omega)]
      refine ev_iinc (v := _ + 1) d_M_expand_171 rfl rfl (Nat.le_of_ble_eq_true rfl) rfl ?_
      rw [nI_1]
      refine ev_goto 71 d_M_expand_174 (by decide) ?_
      exact ih (i + 1) (xpS sg (mk (8 * row + col)).toInt64 (mn (8 * row + col)).toInt64 s to i mr) [(9, .long (sg * mr (10 * s + i)))] (Or.inr ⟨_, rfl⟩) (by omega)
theorem sp_M_expand {s row col : Nat} (hs : s < 256) (hr : row ≤ 7) (hc : col < 8) : Sp M_M_expand [.ref 25, .int (nI s), .int (nI row), .int (nI col)] (kM X me mp mc md mo mw ml mv my mt ms mq mh ma mz mk mn mr mx) none (kM X me mp mc md mo mw ml mv my mt ms mq mh ma mz mk mn (xpM mk mn s row col mr) mx) := by
  refine Sp.of (by decide) (Nat.le_of_ble_eq_true rfl) ?_
  have ho := z_orlt s hs col hc
  have hb := bhN_le (s := s) (7 - col) (col + 1) 0
  have k5 : Ev M_M_expand none none (kM X me mp mc md mo mw ml mv my mt ms mq mh ma mz mk mn (xpM mk mn s row col mr) mx) 56 [(0, .ref 25), (1, .int (nI s)), (2, .int (nI row)), (3, .int (nI col)), (4, .int (nI (bhN s (col + 1) (7 - col) 0)))] [.long (sgM s col)] (kM X me mp mc md mo mw ml mv my mt ms mq mh ma mz mk mn mr mx) 0 0 := by
    refine ev_lstore d_M_expand_56 (Nat.le_of_ble_eq_true rfl) rfl ?_
    refine ev_bipush (v := 10) d_M_expand_58 (by decide) ?_
    refine ev_iload_n 1 d_M_expand_60 rfl rfl ?_
    refine ev_iconst (v := 1) d_M_expand_61 (by decide) ?_
    refine ev_iload_n 3 d_M_expand_62 rfl rfl ?_
    refine ev_ishl d_M_expand_63 ?_
    refine ev_ior d_M_expand_64 ?_
    rw [z_or s hs col hc]
    refine ev_imul d_M_expand_65 ?_
    rw [show (10 : Int32) * nI (s ||| 2 ^ col) = nI (10 * (s ||| 2 ^ col)) from pk_mul 10 _]
    refine ev_istore d_M_expand_66 (Nat.le_of_ble_eq_true rfl) rfl ?_
    refine ev_iconst (v := 0) d_M_expand_68 (by decide) ?_
    refine ev_istore d_M_expand_69 (Nat.le_of_ble_eq_true rfl) rfl ?_
    exact lp_M_expand2 hs hr hc (by omega) 9 0 mr [] (Or.inl rfl) (by omega)
  refine ev_iconst (v := 0) d_M_expand_0 (by decide) ?_
  refine ev_istore d_M_expand_1 (Nat.le_of_ble_eq_true rfl) rfl ?_
  refine ev_iload_n 3 d_M_expand_3 rfl rfl ?_
  refine ev_iconst (v := 1) d_M_expand_4 (by decide) ?_
  refine ev_iadd d_M_expand_5 ?_
  rw [nI_1]
  refine ev_istore d_M_expand_6 (Nat.le_of_ble_eq_true rfl) rfl ?_
  refine lp_M_expand1 hs (7 - col) (col + 1) 0 (by omega) rfl ?_
  refine ev_iload d_M_expand_42 rfl ?_
  refine ev_iconst (v := 2) d_M_expand_44 (by decide) ?_
  refine ev_irem d_M_expand_45 (by decide) ?_
  rw [z_rem2 (by omega)]
  refine ev_if_ne 53 d_M_expand_46 (by decide) (fun h => ?_) (fun h => ?_)
  · have e1 : sgM s col = -1 := by unfold sgM; rw [if_neg (fun w => h ((z_nz (by omega)).mpr w))]
    rw [e1] at k5
    refine ev_sub (lv' := [(0, .ref 25), (1, .int (nI s)), (2, .int (nI row)), (3, .int (nI col)), (4, .int (nI (bhN s (col + 1) (7 - col) 0)))]) (fun x hx => List.mem_append_left [(5, Value.int (nI 8))] hx) ?_
    refine ev_ldc2 (v := -1) k_M_139 d_M_expand_53 ?_
    exact k5
  · have e1 : sgM s col = 1 := by unfold sgM; rw [if_pos ((z_nz (by omega)).mp h)]
    rw [e1] at k5
    refine ev_sub (lv' := [(0, .ref 25), (1, .int (nI s)), (2, .int (nI row)), (3, .int (nI col)), (4, .int (nI (bhN s (col + 1) (7 - col) 0)))]) (fun x hx => List.mem_append_left [(5, Value.int (nI 8))] hx) ?_
    refine ev_lconst (v := 1) d_M_expand_49 (by decide) ?_
    refine ev_goto 56 d_M_expand_50 (by decide) ?_
    exact k5
end Md
