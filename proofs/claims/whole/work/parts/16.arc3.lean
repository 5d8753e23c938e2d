theorem z_smod : ∀ c, c < 9 → ((nI c &&& 31).toBitVec.smod 32).toNat = c := by decide +kernel
theorem z_shrk {s c : Nat} (hs : s < 2 ^ 31) (hc : c < 9) : nI s >>> (nI c &&& 31) = nI (s / 2 ^ c) := pk_shrN hs _ c (z_smod c hc)
theorem z_xor : ∀ s, s < 256 → ∀ c, c < 8 → nI s ^^^ ((1 : Int32) <<< (nI c &&& 31)) = nI (s ^^^ 2 ^ c) := by decide +kernel
theorem z_xorlt : ∀ s, s < 256 → ∀ c, c < 8 → s ^^^ 2 ^ c < 256 := by decide +kernel
theorem pc8_pos : ∀ s, s < 256 → s ≠ 0 → 1 ≤ pc8 s := by decide +kernel
def sgI (s c : Nat) : Int32 := if pc8 (s / 2 ^ (c + 1)) % 2 = 0 then 1 else -1
def apS (cst lin : Int64) (to fr i : Nat) (m : Nat → Int64) : Nat → Int64 := vp_updL (vp_updL m (to + i) (m (to + i) + cst * m (fr + i))) (to + i + 1) (vp_updL m (to + i) (m (to + i) + cst * m (fr + i)) (to + i + 1) + lin * vp_updL m (to + i) (m (to + i) + cst * m (fr + i)) (fr + i))
def apM (c ln : Nat → Int32) (s row col : Nat) (m : Nat → Int64) : Nat → Int64 := itN (apS (sgI s col * c (row * 8 + col)).toInt64 (sgI s col * ln (row * 8 + col)).toInt64 (s * 9) ((s ^^^ 2 ^ col) * 9)) 0 (row + 1) m
def exI (c ln : Nat → Int32) (s : Nat) (col : Nat) (m : Nat → Int64) : Nat → Int64 := if s / 2 ^ col % 2 = 1 then apM c ln s (pc8 s - 1) col m else m
def exS (c ln : Nat → Int32) (order : Nat) (s : Nat) (m : Nat → Int64) : Nat → Int64 := itN (exI c ln s) 0 order m
def exM (c ln : Nat → Int32) (order : Nat) (mi : Nat → Int64) : Nat → Int64 := itN (exS c ln order) 1 (2 ^ order - 1) (vp_updL (fl0L mi 2304) 0 1)
def lwF (m : Nat → Int64) (at_ : Nat) : Nat → Nat → Nat
  | i, 0 => i
  | i, k + 1 => if m (at_ + i) = 0 then lwF m at_ (i + 1) k else i
def hgF (m : Nat → Int64) (at_ : Nat) : Nat → Nat
  | 0 => 0
  | h + 1 => if m (at_ + (h + 1)) = 0 then hgF m at_ h else h + 1
def nrC (m : Nat → Int64) (at_ p : Nat) : Int64 := if lwF m at_ 0 8 + p ≤ hgF m at_ 8 then (if m (at_ + hgF m at_ 8) < 0 then -m (at_ + lwF m at_ 0 8 + p) else m (at_ + lwF m at_ 0 8 + p)) else 0
theorem lwF_le {m : Nat → Int64} {at_ : Nat} : ∀ k i, lwF m at_ i k ≤ i + k := by
  intro k
  induction k with
  | zero => intro i; rw [lwF]; omega
  | succ k ih =>
    intro i
    rw [lwF]
    split
    · have := ih (i + 1); omega
    · omega
theorem hgF_le {m : Nat → Int64} {at_ : Nat} : ∀ h, hgF m at_ h ≤ h := by
  intro h
  induction h with
  | zero => rw [hgF]; omega
  | succ h ih =>
    rw [hgF]
    split
    · omega
    · omega
section Ar
variable {j je jg n jR jl ju jc jn jM : Nat} {f g l u c ln : Nat → Int32} {mi : Nat → Int64}
theorem zCr_aL {w : zW} {i N : Nat} {x x' : Nat → Int64} (hC : zCr w j je jg n f g) (h : w[i]? = some (aL N x)) : zCr (w.set i (aL N x')) j je jg n f g :=
  zCr_set hC (z_ne h hC.1 (by intro h; cases h)) (z_ne h hC.2.1 (by intro h; cases h)) (z_ne h hC.2.2.1 (by intro h; cases h))
theorem lp_R_addProduct {s row : Nat} {v1 v2 v3 v4 : Int32} {cst lin : Int64} {to fr : Nat} (hr : row ≤ 7) (hto : to ≤ 2295) (hfr : fr ≤ 2295) : ∀ k i (w : zW) (m : Nat → Int64), i + k = row + 1 → zAr w jR jl ju jc jn jM l u c ln m → Ev M_R_addProduct none none (w.set jM (aL 2304 (itN (apS cst lin to fr) i k m))) 73 [(0, .ref jR), (1, .int v1), (2, .int (nI row)), (3, .int v3), (4, .int v4), (5, .long cst), (7, .long lin), (9, .int (nI to)), (10, .int (nI fr)), (11, .int (nI i))] [] w 0 0 := by
  intro k
  induction k with
  | zero =>
    intro i w m hi hA
    rw [itN_0, z_set_self hA.2.2.2.2.2.1]
    refine ev_iload d_R_addProduct_73 rfl ?_
    refine ev_iload_n 2 d_R_addProduct_75 rfl rfl ?_
    refine ev_icmp_gt 139 d_R_addProduct_76 (by decide) (fun h => ?_) (fun h => ?_)
    · exact ev_ret d_R_addProduct_139 rfl (Nat.le_of_ble_eq_true rfl) (Nat.le_of_ble_eq_true rfl)
    · exact absurd (nI_lt (by omega) (by omega)) h
  | succ k ih =>
    intro i w m hi hA
    rw [itN_s]
    refine ev_iload d_R_addProduct_73 rfl ?_
    refine ev_iload_n 2 d_R_addProduct_75 rfl rfl ?_
    refine ev_icmp_gt 139 d_R_addProduct_76 (by decide) (fun h => ?_) (fun h => ?_)
    · exact absurd h (nI_nlt (by omega) (by omega))
    · refine ev_aload_n 0 d_R_addProduct_79 rfl rfl ?_
      refine ev_get f_R_24 d_R_addProduct_80 hA.1 rfl ?_
      refine ev_iload d_R_addProduct_83 rfl ?_
      refine ev_iload d_R_addProduct_85 rfl ?_
      refine ev_iadd d_R_addProduct_87 ?_
      rw [nI_add]
      refine ev_dup2 d_R_addProduct_88 rfl rfl ?_
      refine ev_lald d_R_addProduct_89 hA.2.2.2.2.2.1 (vp_in_nI (by omega) (by omega)) ?_
      rw [nI_clamp (by omega)]
      refine ev_lload d_R_addProduct_90 rfl ?_
      refine ev_aload_n 0 d_R_addProduct_92 rfl rfl ?_
      refine ev_get f_R_24 d_R_addProduct_93 hA.1 rfl ?_
      refine ev_iload d_R_addProduct_96 rfl ?_
      refine ev_iload d_R_addProduct_98 rfl ?_
      refine ev_iadd d_R_addProduct_100 ?_
      rw [nI_add]
      refine ev_lald d_R_addProduct_101 hA.2.2.2.2.2.1 (vp_in_nI (by omega) (by omega)) ?_
      rw [nI_clamp (by omega)]
      refine ev_lmul d_R_addProduct_102 ?_
      refine ev_ladd d_R_addProduct_103 ?_
      refine ev_last d_R_addProduct_104 hA.2.2.2.2.2.1 (vp_in_nI (by omega) (by omega)) ?_
      rw [nI_clamp (by omega)]
      have hA1 := zAr_m (m' := vp_updL m (to + i) (m (to + i) + cst * m (fr + i))) hA
      refine ev_aload_n 0 d_R_addProduct_105 rfl rfl ?_
      refine ev_get f_R_24 d_R_addProduct_106 hA1.1 rfl ?_
      refine ev_iload d_R_addProduct_109 rfl ?_
      refine ev_iload d_R_addProduct_111 rfl ?_
      refine ev_iadd d_R_addProduct_113 ?_
      refine ev_iconst (v := 1) d_R_addProduct_114 (by decide) ?_
      refine ev_iadd d_R_addProduct_115 ?_
      rw [nI_add, nI_1]
      refine ev_dup2 d_R_addProduct_116 rfl rfl ?_
      refine ev_lald d_R_addProduct_117 hA1.2.2.2.2.2.1 (vp_in_nI (by omega) (by omega)) ?_
      rw [nI_clamp (by omega)]
      refine ev_lload d_R_addProduct_118 rfl ?_
      refine ev_aload_n 0 d_R_addProduct_120 rfl rfl ?_
      refine ev_get f_R_24 d_R_addProduct_121 hA1.1 rfl ?_
      refine ev_iload d_R_addProduct_124 rfl ?_
      refine ev_iload d_R_addProduct_126 rfl ?_
      refine ev_iadd d_R_addProduct_128 ?_
      rw [nI_add]
      refine ev_lald d_R_addProduct_129 hA1.2.2.2.2.2.1 (vp_in_nI (by omega) (by omega)) ?_
      rw [nI_clamp (by omega)]
      refine ev_lmul d_R_addProduct_130 ?_
      refine ev_ladd d_R_addProduct_131 ?_
      refine ev_last d_R_addProduct_132 hA1.2.2.2.2.2.1 (vp_in_nI (by omega) (by omega)) ?_
      rw [nI_clamp (by omega), List.set_set]
      refine ev_iinc (v := _ + 1) d_R_addProduct_133 rfl rfl (Nat.le_of_ble_eq_true rfl) rfl ?_
      rw [nI_1]
      refine ev_goto 73 d_R_addProduct_136 (by decide) ?_
      have h4 := ih (i + 1) _ _ (by omega) (zAr_m (m' := apS cst lin to fr i m) hA)
      rw [List.set_set] at h4
      exact h4
theorem sp_R_addProduct {w : zW} {s row col : Nat} (hs : s < 256) (hr : row ≤ 7) (hc : col < 8) (hA : zAr w jR jl ju jc jn jM l u c ln mi) : Sp M_R_addProduct [.ref jR, .int (nI s), .int (nI row), .int (nI col)] w none (w.set jM (aL 2304 (apM c ln s row col mi))) := by
  refine Sp.of (by decide) (Nat.le_of_ble_eq_true rfl) ?_
  have hsd : s / 2 ^ (col + 1) < 256 := Nat.lt_of_le_of_lt (Nat.div_le_self _ _) hs
  have hx := z_xorlt s hs col hc
  have key : Ev M_R_addProduct none none (w.set jM (aL 2304 (apM c ln s row col mi))) 18 [(0, .ref jR), (1, .int (nI s)), (2, .int (nI row)), (3, .int (nI col))] [.int (sgI s col)] w 0 0 := by
    have e1 : nI row * (8 : Int32) + nI col = nI (row * 8 + col) := by
      rw [show nI row * (8 : Int32) = nI (row * 8) from pk_mul row 8, nI_add]
    refine ev_istore d_R_addProduct_18 (Nat.le_of_ble_eq_true rfl) rfl ?_
    refine ev_iload d_R_addProduct_20 rfl ?_
    refine ev_aload_n 0 d_R_addProduct_22 rfl rfl ?_
    refine ev_get f_R_18 d_R_addProduct_23 hA.1 rfl ?_
    refine ev_iload_n 2 d_R_addProduct_26 rfl rfl ?_
    refine ev_bipush (v := 8) d_R_addProduct_27 (by decide) ?_
    refine ev_imul d_R_addProduct_29 ?_
    refine ev_iload_n 3 d_R_addProduct_30 rfl rfl ?_
    refine ev_iadd d_R_addProduct_31 ?_
    rw [e1]
    refine ev_iald d_R_addProduct_32 hA.2.2.2.1 (vp_in_nI (by omega) (by omega)) ?_
    rw [nI_clamp (by omega)]
    refine ev_imul d_R_addProduct_33 ?_
    refine ev_i2l d_R_addProduct_34 rfl ?_
    refine ev_lstore d_R_addProduct_35 (Nat.le_of_ble_eq_true rfl) rfl ?_
    refine ev_iload d_R_addProduct_37 rfl ?_
    refine ev_aload_n 0 d_R_addProduct_39 rfl rfl ?_
    refine ev_get f_R_21 d_R_addProduct_40 hA.1 rfl ?_
    refine ev_iload_n 2 d_R_addProduct_43 rfl rfl ?_
    refine ev_bipush (v := 8) d_R_addProduct_44 (by decide) ?_
    refine ev_imul d_R_addProduct_46 ?_
    refine ev_iload_n 3 d_R_addProduct_47 rfl rfl ?_
    refine ev_iadd d_R_addProduct_48 ?_
    rw [e1]
    refine ev_iald d_R_addProduct_49 hA.2.2.2.2.1 (vp_in_nI (by omega) (by omega)) ?_
    rw [nI_clamp (by omega)]
    refine ev_imul d_R_addProduct_50 ?_
    refine ev_i2l d_R_addProduct_51 rfl ?_
    refine ev_lstore d_R_addProduct_52 (Nat.le_of_ble_eq_true rfl) rfl ?_
    refine ev_iload_n 1 d_R_addProduct_54 rfl rfl ?_
    refine ev_bipush (v := 9) d_R_addProduct_55 (by decide) ?_
    refine ev_imul d_R_addProduct_57 ?_
    rw [show nI s * (9 : Int32) = nI (s * 9) from pk_mul s 9]
    refine ev_istore d_R_addProduct_58 (Nat.le_of_ble_eq_true rfl) rfl ?_
    refine ev_iload_n 1 d_R_addProduct_60 rfl rfl ?_
    refine ev_iconst (v := 1) d_R_addProduct_61 (by decide) ?_
    refine ev_iload_n 3 d_R_addProduct_62 rfl rfl ?_
    refine ev_ishl d_R_addProduct_63 ?_
    refine ev_ixor d_R_addProduct_64 ?_
    rw [z_xor s hs col hc]
    refine ev_bipush (v := 9) d_R_addProduct_65 (by decide) ?_
    refine ev_imul d_R_addProduct_67 ?_
    rw [show nI (s ^^^ 2 ^ col) * (9 : Int32) = nI ((s ^^^ 2 ^ col) * 9) from pk_mul _ 9]
    refine ev_istore d_R_addProduct_68 (Nat.le_of_ble_eq_true rfl) rfl ?_
    refine ev_iconst (v := 0) d_R_addProduct_70 (by decide) ?_
    refine ev_istore d_R_addProduct_71 (Nat.le_of_ble_eq_true rfl) rfl ?_
    exact lp_R_addProduct (s := s) (v2 := 0) hr (by omega) (by omega) (row + 1) 0 w mi (by omega) hA
  refine ev_iload_n 1 d_R_addProduct_0 rfl rfl ?_
  refine ev_iload_n 3 d_R_addProduct_1 rfl rfl ?_
  refine ev_iconst (v := 1) d_R_addProduct_2 (by decide) ?_
  refine ev_iadd d_R_addProduct_3 ?_
  rw [nI_1]
  refine ev_ishr d_R_addProduct_4 ?_
  rw [z_shrk (by omega) (by omega)]
  refine ev_callS M_I_bitCount [_] (sp_I_bitCount w _) c_R_90 d_R_addProduct_5 rfl (by decide) (Nat.le_of_ble_eq_true rfl) ⟨rfl, rfl⟩ rfl ?_
  rw [bc_pc _ hsd]
  have hp := pc8_le (s / 2 ^ (col + 1))
  refine ev_iconst (v := 2) d_R_addProduct_8 (by decide) ?_
  refine ev_irem d_R_addProduct_9 (by decide) ?_
  rw [show nI (pc8 (s / 2 ^ (col + 1))) - nI (pc8 (s / 2 ^ (col + 1))) / (2 : Int32) * (2 : Int32) = nI (pc8 (s / 2 ^ (col + 1)) % 2) from pk_rem (d := 2) (by omega) (by omega) (by omega)]
  refine ev_if_ne 17 d_R_addProduct_10 (by decide) (fun h => ?_) (fun h => ?_)
  · have h1 : sgI s col = -1 := by unfold sgI; rw [if_neg (fun q => h ((z_nz (by omega)).mpr q))]
    rw [h1] at key
    refine ev_iconst (v := -1) d_R_addProduct_17 (by decide) ?_
    exact key
  · have h1 : sgI s col = 1 := by unfold sgI; rw [if_pos ((z_nz (by omega)).mp h)]
    rw [h1] at key
    refine ev_iconst (v := 1) d_R_addProduct_13 (by decide) ?_
    refine ev_goto 18 d_R_addProduct_14 (by decide) ?_
    exact key
theorem lp_R_expand2 {order s : Nat} (ho : order ≤ 8) (hs : s < 256) (hs0 : s ≠ 0) : ∀ k i (w : zW) (m : Nat → Int64), i + k = order → zAr w jR jl ju jc jn jM l u c ln m → (∀ (w1 : zW) (m1 : Nat → Int64), w1 = w.set jM (aL 2304 m1) → m1 = itN (exI c ln s) i k m → zAr w1 jR jl ju jc jn jM l u c ln m1 → Ev M_R_expandMinors none none (w1.set jM (aL 2304 (itN (exS c ln order) (s + 1) (2 ^ order - 1 - s) m1))) 64 [(0, .ref jR), (1, .int (nI order)), (2, .int (nI s)), (3, .int (nI (pc8 s - 1))), (4, .int (nI order))] [] w1 0 0) → Ev M_R_expandMinors none none (w.set jM (aL 2304 (itN (exS c ln order) (s + 1) (2 ^ order - 1 - s) (itN (exI c ln s) i k m)))) 34 [(0, .ref jR), (1, .int (nI order)), (2, .int (nI s)), (3, .int (nI (pc8 s - 1))), (4, .int (nI i))] [] w 0 0 := by
  intro k
  induction k with
  | zero =>
    intro i w m hi hA kk
    have k1 := kk w m (z_set_self hA.2.2.2.2.2.1).symm (by rw [itN_0]) hA
    rw [itN_0]
    refine ev_iload d_R_expandMinors_34 rfl ?_
    refine ev_iload_n 1 d_R_expandMinors_36 rfl rfl ?_
    refine ev_icmp_ge 64 d_R_expandMinors_37 (by decide) (fun h => ?_) (fun h => ?_)
    · rw [show i = order by omega]
      exact k1
    · exact absurd (nI_le (by omega) (by omega)) h
  | succ k ih =>
    intro i w m hi hA kk
    have hp := pc8_le s
    rw [itN_s] at *
    refine ev_iload d_R_expandMinors_34 rfl ?_
    refine ev_iload_n 1 d_R_expandMinors_36 rfl rfl ?_
    refine ev_icmp_ge 64 d_R_expandMinors_37 (by decide) (fun h => ?_) (fun h => ?_)
    · exact absurd h (nI_ge (by omega) (by omega))
    · refine ev_iload_n 2 d_R_expandMinors_40 rfl rfl ?_
      refine ev_iload d_R_expandMinors_41 rfl ?_
      refine ev_ishr d_R_expandMinors_43 ?_
      rw [z_shrk (by omega) (by omega)]
      refine ev_iconst (v := 1) d_R_expandMinors_44 (by decide) ?_
      refine ev_iand d_R_expandMinors_45 ?_
      rw [z_and1 (by have := Nat.div_le_self s (2 ^ i); omega)]
      refine ev_iconst (v := 1) d_R_expandMinors_46 (by decide) ?_
      refine ev_icmp_ne 58 d_R_expandMinors_47 (by decide) (fun h2 => ?_) (fun h2 => ?_)
      · have e1 : exI c ln s i m = m := by unfold exI; rw [if_neg (fun q => h2 ((z_n1 (by omega)).mpr q))]
        rw [e1] at kk ⊢
        refine ev_iinc (v := _ + 1) d_R_expandMinors_58 rfl rfl (Nat.le_of_ble_eq_true rfl) rfl ?_
        rw [nI_1]
        refine ev_goto 34 d_R_expandMinors_61 (by decide) ?_
        exact ih (i + 1) w m (by omega) hA kk
      · have e1 : exI c ln s i m = apM c ln s (pc8 s - 1) i m := by unfold exI; rw [if_pos ((z_n1 (by omega)).mp h2)]
        rw [e1] at kk ⊢
        refine ev_aload_n 0 d_R_expandMinors_50 rfl rfl ?_
        refine ev_iload_n 2 d_R_expandMinors_51 rfl rfl ?_
        refine ev_iload_n 3 d_R_expandMinors_52 rfl rfl ?_
        refine ev_iload d_R_expandMinors_53 rfl ?_
        refine ev_callV M_R_addProduct [_, _, _] (sp_R_addProduct hs (by omega) (by omega) hA) c_R_95 d_R_expandMinors_55 hA.1 rfl (by decide) (Nat.le_of_ble_eq_true rfl) ⟨rfl, rfl⟩ (List.length_set) ?_
        refine ev_iinc (v := _ + 1) d_R_expandMinors_58 rfl rfl (Nat.le_of_ble_eq_true rfl) rfl ?_
        rw [nI_1]
        refine ev_goto 34 d_R_expandMinors_61 (by decide) ?_
        have h4 := ih (i + 1) _ _ (by omega) (zAr_m (m' := apM c ln s (pc8 s - 1) i m) hA) (fun w1 m1 h5 h6 h7 => kk w1 m1 (by rw [h5, List.set_set]) h6 h7)
        rw [List.set_set] at h4
        exact h4
theorem lp_R_expand1 {order : Nat} (ho : order ≤ 8) : ∀ k s (w : zW) (m : Nat → Int64), s + k = 2 ^ order → 1 ≤ s → zAr w jR jl ju jc jn jM l u c ln m → Ev M_R_expandMinors none none (w.set jM (aL 2304 (itN (exS c ln order) s k m))) 17 [(0, .ref jR), (1, .int (nI order)), (2, .int (nI s))] [] w 0 0 := by
  intro k
  induction k with
  | zero =>
    intro s w m hi h1 hA
    have hp := p2_le order (by omega)
    rw [itN_0, z_set_self hA.2.2.2.2.2.1]
    refine ev_iload_n 2 d_R_expandMinors_17 rfl rfl ?_
    refine ev_iconst (v := 1) d_R_expandMinors_18 (by decide) ?_
    refine ev_iload_n 1 d_R_expandMinors_19 rfl rfl ?_
    refine ev_ishl d_R_expandMinors_20 ?_
    rw [z_shl1 order (by omega)]
    refine ev_icmp_ge 70 d_R_expandMinors_21 (by decide) (fun h => ?_) (fun h => ?_)
    · exact ev_ret d_R_expandMinors_70 rfl (Nat.le_of_ble_eq_true rfl) (Nat.le_of_ble_eq_true rfl)
    · exact absurd (nI_le (by omega) (by omega)) h
  | succ k ih =>
    intro s w m hi h1 hA
    have hp := p2_le order (by omega)
    have hq := pc8_pos s (by omega) (by omega)
    rw [itN_s]
    refine ev_iload_n 2 d_R_expandMinors_17 rfl rfl ?_
    refine ev_iconst (v := 1) d_R_expandMinors_18 (by decide) ?_
    refine ev_iload_n 1 d_R_expandMinors_19 rfl rfl ?_
    refine ev_ishl d_R_expandMinors_20 ?_
    rw [z_shl1 order (by omega)]
    refine ev_icmp_ge 70 d_R_expandMinors_21 (by decide) (fun h => ?_) (fun h => ?_)
    · exact absurd h (nI_ge (by omega) (by omega))
    · refine ev_iload_n 2 d_R_expandMinors_24 rfl rfl ?_
      refine ev_callS M_I_bitCount [_] (sp_I_bitCount w _) c_R_90 d_R_expandMinors_25 rfl (by decide) (Nat.le_of_ble_eq_true rfl) ⟨rfl, rfl⟩ rfl ?_
      rw [bc_pc s (by omega)]
      refine ev_iconst (v := 1) d_R_expandMinors_28 (by decide) ?_
      refine ev_isub d_R_expandMinors_29 ?_
      rw [show nI (pc8 s) - 1 = nI (pc8 s - 1) by rw [show pc8 s = pc8 s - 1 + 1 by omega, nI_pred]; rfl]
      refine ev_istore_n 3 d_R_expandMinors_30 rfl (Nat.le_of_ble_eq_true rfl) rfl ?_
      refine ev_iconst (v := 0) d_R_expandMinors_31 (by decide) ?_
      refine ev_istore d_R_expandMinors_32 (Nat.le_of_ble_eq_true rfl) rfl ?_
      have h4 := lp_R_expand2 (order := order) (s := s) ho (by omega) (by omega) order 0 w m (by omega) hA (fun w1 m1 h5 h6 h7 => by
        refine ev_iinc (v := _ + 1) d_R_expandMinors_64 rfl rfl (Nat.le_of_ble_eq_true rfl) rfl ?_
        rw [nI_1]
        refine ev_goto 17 d_R_expandMinors_67 (by decide) ?_
        have h8 := ih (s + 1) w1 m1 (by omega) (by omega) h7
        rw [show 2 ^ order - 1 - s = k by omega]
        exact ev_drop (lv' := [(0, .ref jR), (1, .int (nI order)), (2, .int (nI (s + 1)))]) (ext := [_, _]) h8)
      rw [show 2 ^ order - 1 - s = k by omega] at h4
      exact h4
theorem sp_R_expandMinors {w : zW} {order : Nat} (ho : order ≤ 8) (hA : zAr w jR jl ju jc jn jM l u c ln mi) : Sp M_R_expandMinors [.ref jR, .int (nI order)] w none (w.set jM (aL 2304 (exM c ln order mi))) := by
  refine Sp.of (by decide) (Nat.le_of_ble_eq_true rfl) ?_
  have hA1 := zAr_m (m' := fl0L mi 2304) hA
  have hp : 1 ≤ 2 ^ order := Nat.one_le_two_pow
  refine ev_aload_n 0 d_R_expandMinors_0 rfl rfl ?_
  refine ev_get f_R_24 d_R_expandMinors_1 hA.1 rfl ?_
  refine ev_lconst (v := 0) d_R_expandMinors_4 (by decide) ?_
  refine ev_callS M_F_fillL [_, _] (sp_F_fillL (by omega) hA.2.2.2.2.2.1 0) c_R_87 d_R_expandMinors_5 rfl (by decide) (Nat.le_of_ble_eq_true rfl) ⟨rfl, rfl⟩ (List.length_set) ?_
  refine ev_aload_n 0 d_R_expandMinors_8 rfl rfl ?_
  refine ev_get f_R_24 d_R_expandMinors_9 hA1.1 rfl ?_
  refine ev_iconst (v := 0) d_R_expandMinors_12 (by decide) ?_
  refine ev_lconst (v := 1) d_R_expandMinors_13 (by decide) ?_
  refine ev_last d_R_expandMinors_14 hA1.2.2.2.2.2.1 (vp_in_nI (n := 0) (by omega) (by omega)) ?_
  rw [List.set_set]
  refine ev_iconst (v := 1) d_R_expandMinors_15 (by decide) ?_
  refine ev_istore_n 2 d_R_expandMinors_16 rfl (Nat.le_of_ble_eq_true rfl) rfl ?_
  have h4 := lp_R_expand1 ho (2 ^ order - 1) 1 _ _ (by omega) (by omega) (zAr_m (m' := vp_updL (fl0L mi 2304) 0 1) hA)
  rw [List.set_set] at h4
  exact h4
theorem lp_R_norm2 {w : zW} (hA : zAr w jR jl ju jc jn jM l u c ln mi) {at_ p lo : Nat} (ha : at_ + 8 < 2304) (hp : p ≤ 8) (hlo : lo ≤ 8) : ∀ h, h ≤ 8 → Ev M_R_normalCoefficient none (some (.long (if lo + p ≤ hgF mi at_ h then (if mi (at_ + hgF mi at_ h) < 0 then -mi (at_ + lo + p) else mi (at_ + lo + p)) else 0))) w 31 [(0, .ref jR), (1, .int (nI at_)), (2, .int (nI p)), (3, .int (nI lo)), (4, .int (nI h))] [] w 0 0 := by
  have fin : ∀ h, h ≤ 8 → Ev M_R_normalCoefficient none (some (.long (if lo + p ≤ h then (if mi (at_ + h) < 0 then -mi (at_ + lo + p) else mi (at_ + lo + p)) else 0))) w 56 [(0, .ref jR), (1, .int (nI at_)), (2, .int (nI p)), (3, .int (nI lo)), (4, .int (nI h))] [] w 0 0 := by
    intro h hh
    refine ev_iload_n 3 d_R_normalCoefficient_56 rfl rfl ?_
    refine ev_iload_n 2 d_R_normalCoefficient_57 rfl rfl ?_
    refine ev_iadd d_R_normalCoefficient_58 ?_
    rw [nI_add]
    refine ev_iload d_R_normalCoefficient_59 rfl ?_
    refine ev_icmp_le 66 d_R_normalCoefficient_61 (by decide) (fun h1 => ?_) (fun h1 => ?_)
    · have h2 : lo + p ≤ h := (nI_leI (by omega) (by omega)).mp h1
      rw [if_pos h2]
      refine ev_aload_n 0 d_R_normalCoefficient_66 rfl rfl ?_
      refine ev_get f_R_24 d_R_normalCoefficient_67 hA.1 rfl ?_
      refine ev_iload_n 1 d_R_normalCoefficient_70 rfl rfl ?_
      refine ev_iload_n 3 d_R_normalCoefficient_71 rfl rfl ?_
      refine ev_iadd d_R_normalCoefficient_72 ?_
      refine ev_iload_n 2 d_R_normalCoefficient_73 rfl rfl ?_
      refine ev_iadd d_R_normalCoefficient_74 ?_
      rw [nI_add, nI_add]
      refine ev_lald d_R_normalCoefficient_75 hA.2.2.2.2.2.1 (vp_in_nI (by omega) (by omega)) ?_
      rw [nI_clamp (by omega)]
      refine ev_lstore d_R_normalCoefficient_76 (Nat.le_of_ble_eq_true rfl) rfl ?_
      refine ev_aload_n 0 d_R_normalCoefficient_78 rfl rfl ?_
      refine ev_get f_R_24 d_R_normalCoefficient_79 hA.1 rfl ?_
      refine ev_iload_n 1 d_R_normalCoefficient_82 rfl rfl ?_
      refine ev_iload d_R_normalCoefficient_83 rfl ?_
      refine ev_iadd d_R_normalCoefficient_85 ?_
      rw [nI_add]
      refine ev_lald d_R_normalCoefficient_86 hA.2.2.2.2.2.1 (vp_in_nI (by omega) (by omega)) ?_
      rw [nI_clamp (by omega)]
      refine ev_lconst (v := 0) d_R_normalCoefficient_87 (by decide) ?_
      refine ev_lcmp d_R_normalCoefficient_88 ?_
      refine ev_if_ge 98 d_R_normalCoefficient_89 (by decide) (fun h3 => ?_) (fun h3 => ?_)
      · rw [if_neg (fun q => absurd h3 (by rw [lg_cmp_ge]; exact Int64.not_le.mpr q))]
        refine ev_lload d_R_normalCoefficient_98 rfl ?_
        exact ev_lret d_R_normalCoefficient_100 rfl (Nat.le_of_ble_eq_true rfl) (Nat.le_of_ble_eq_true rfl)
      · rw [if_pos (Int64.not_le.mp (fun q => h3 ((lg_cmp_ge _ _).mpr q)))]
        refine ev_lload d_R_normalCoefficient_92 rfl ?_
        refine ev_lneg d_R_normalCoefficient_94 ?_
        refine ev_goto 100 d_R_normalCoefficient_95 (by decide) ?_
        exact ev_lret d_R_normalCoefficient_100 rfl (Nat.le_of_ble_eq_true rfl) (Nat.le_of_ble_eq_true rfl)
    · have h2 : ¬ lo + p ≤ h := fun q => h1 (nI_le q (by omega))
      rw [if_neg h2]
      refine ev_lconst (v := 0) d_R_normalCoefficient_64 (by decide) ?_
      exact ev_lret d_R_normalCoefficient_65 rfl (Nat.le_of_ble_eq_true rfl) (Nat.le_of_ble_eq_true rfl)
  intro h
  induction h with
  | zero =>
    intro hh
    have e0 : hgF mi at_ 0 = 0 := by rw [hgF]
    rw [e0]
    refine ev_iload d_R_normalCoefficient_31 rfl ?_
    refine ev_if_le 56 d_R_normalCoefficient_33 (by decide) (fun h1 => ?_) (fun h1 => ?_)
    · exact fin 0 hh
    · exact absurd (by decide) h1
  | succ h ih =>
    intro hh
    refine ev_iload d_R_normalCoefficient_31 rfl ?_
    refine ev_if_le 56 d_R_normalCoefficient_33 (by decide) (fun h1 => ?_) (fun h1 => ?_)
    · exact absurd h1 (nI_nle (by omega) (by omega))
    · refine ev_aload_n 0 d_R_normalCoefficient_36 rfl rfl ?_
      refine ev_get f_R_24 d_R_normalCoefficient_37 hA.1 rfl ?_
      refine ev_iload_n 1 d_R_normalCoefficient_40 rfl rfl ?_
      refine ev_iload d_R_normalCoefficient_41 rfl ?_
      refine ev_iadd d_R_normalCoefficient_43 ?_
      rw [nI_add]
      refine ev_lald d_R_normalCoefficient_44 hA.2.2.2.2.2.1 (vp_in_nI (by omega) (by omega)) ?_
      rw [nI_clamp (by omega)]
      refine ev_lconst (v := 0) d_R_normalCoefficient_45 (by decide) ?_
      refine ev_lcmp d_R_normalCoefficient_46 ?_
      refine ev_if_ne 56 d_R_normalCoefficient_47 (by decide) (fun h2 => ?_) (fun h2 => ?_)
      · have e0 : hgF mi at_ (h + 1) = h + 1 := by rw [hgF, if_neg (fun q => h2 ((lg_cmp_eq _ _).mpr q))]
        rw [e0]
        exact fin (h + 1) hh
      · have e0 : hgF mi at_ (h + 1) = hgF mi at_ h := by rw [hgF, if_pos ((lg_cmp_eq _ _).mp h2)]
        rw [e0]
        refine ev_iinc (v := _ + (-1)) d_R_normalCoefficient_50 rfl rfl (Nat.le_of_ble_eq_true rfl) rfl ?_
        rw [pk_m1]
        refine ev_goto 31 d_R_normalCoefficient_53 (by decide) ?_
        exact ih (by omega)
theorem lp_R_norm1 {w : zW} (hA : zAr w jR jl ju jc jn jM l u c ln mi) {at_ p : Nat} (ha : at_ + 8 < 2304) (hp : p ≤ 8) : ∀ k i, i + k = 8 → Ev M_R_normalCoefficient none (some (.long (if lwF mi at_ i k + p ≤ hgF mi at_ 8 then (if mi (at_ + hgF mi at_ 8) < 0 then -mi (at_ + lwF mi at_ i k + p) else mi (at_ + lwF mi at_ i k + p)) else 0))) w 2 [(0, .ref jR), (1, .int (nI at_)), (2, .int (nI p)), (3, .int (nI i))] [] w 0 0 := by
  intro k
  induction k with
  | zero =>
    intro i hi
    have e0 : lwF mi at_ i 0 = i := by rw [lwF]
    rw [e0]
    refine ev_iload_n 3 d_R_normalCoefficient_2 rfl rfl ?_
    refine ev_bipush (v := 8) d_R_normalCoefficient_3 (by decide) ?_
    refine ev_icmp_ge 27 d_R_normalCoefficient_5 (by decide) (fun h => ?_) (fun h => ?_)
    · refine ev_bipush (v := 8) d_R_normalCoefficient_27 (by decide) ?_
      refine ev_istore d_R_normalCoefficient_29 (Nat.le_of_ble_eq_true rfl) rfl ?_
      exact lp_R_norm2 hA ha hp (by omega) 8 (by omega)
    · exact absurd (nI_le (a := 8) (b := i) (by omega) (by omega)) h
  | succ k ih =>
    intro i hi
    refine ev_iload_n 3 d_R_normalCoefficient_2 rfl rfl ?_
    refine ev_bipush (v := 8) d_R_normalCoefficient_3 (by decide) ?_
    refine ev_icmp_ge 27 d_R_normalCoefficient_5 (by decide) (fun h => ?_) (fun h => ?_)
    · exact absurd h (nI_ge (b := 8) (by omega) (by omega))
    · refine ev_aload_n 0 d_R_normalCoefficient_8 rfl rfl ?_
      refine ev_get f_R_24 d_R_normalCoefficient_9 hA.1 rfl ?_
      refine ev_iload_n 1 d_R_normalCoefficient_12 rfl rfl ?_
      refine ev_iload_n 3 d_R_normalCoefficient_13 rfl rfl ?_
      refine ev_iadd d_R_normalCoefficient_14 ?_
      rw [nI_add]
      refine ev_lald d_R_normalCoefficient_15 hA.2.2.2.2.2.1 (vp_in_nI (by omega) (by omega)) ?_
      rw [nI_clamp (by omega)]
      refine ev_lconst (v := 0) d_R_normalCoefficient_16 (by decide) ?_
      refine ev_lcmp d_R_normalCoefficient_17 ?_
      refine ev_if_ne 27 d_R_normalCoefficient_18 (by decide) (fun h2 => ?_) (fun h2 => ?_)
      · have e0 : lwF mi at_ i (k + 1) = i := by rw [lwF, if_neg (fun q => h2 ((lg_cmp_eq _ _).mpr q))]
        rw [e0]
        refine ev_bipush (v := 8) d_R_normalCoefficient_27 (by decide) ?_
        refine ev_istore d_R_normalCoefficient_29 (Nat.le_of_ble_eq_true rfl) rfl ?_
        exact lp_R_norm2 hA ha hp (by omega) 8 (by omega)
      · have e0 : lwF mi at_ i (k + 1) = lwF mi at_ (i + 1) k := by rw [lwF, if_pos ((lg_cmp_eq _ _).mp h2)]
        rw [e0]
        refine ev_iinc (v := _ + 1) d_R_normalCoefficient_21 rfl rfl (Nat.le_of_ble_eq_true rfl) rfl ?_
        rw [nI_1]
        refine ev_goto 2 d_R_normalCoefficient_24 (by decide) ?_
        exact ih (i + 1) (by omega)
theorem sp_R_normal {w : zW} (hA : zAr w jR jl ju jc jn jM l u c ln mi) {at_ p : Nat} (ha : at_ + 8 < 2304) (hp : p ≤ 8) : Sp M_R_normalCoefficient [.ref jR, .int (nI at_), .int (nI p)] w (some (.long (nrC mi at_ p))) w := by
  refine Sp.of (by decide) (Nat.le_of_ble_eq_true rfl) ?_
  refine ev_iconst (v := 0) d_R_normalCoefficient_0 (by decide) ?_
  refine ev_istore_n 3 d_R_normalCoefficient_1 rfl (Nat.le_of_ble_eq_true rfl) rfl ?_
  exact lp_R_norm1 hA ha hp 8 0 (by omega)
def rL (f : Nat → Int32) (n : Nat) (l : Nat → Int32) : Nat → Int32 := arM f (piI l 0 33) 0 n
def rA (f : Nat → Int32) (n : Nat) (l u : Nat → Int32) : Nat := (nuA f n (rL f n l) 1 32 u 0).1
def rU (f : Nat → Int32) (n : Nat) (l u : Nat → Int32) : Nat → Int32 := (nuA f n (rL f n l) 1 32 u 0).2
def rCo (f g : Nat → Int32) (n : Nat) (l u c : Nat → Int32) (order : Nat) : Nat → Int32 := itN (fmS (clN f (rL f n l) (rU f n l u)) g order 1 0 (-1)) 0 order (fl0 c 64)
def rLi (f g : Nat → Int32) (n : Nat) (l u ln : Nat → Int32) (order : Nat) : Nat → Int32 := itN (fmS (clN f (rL f n l) (rU f n l u)) g order (-1) 1 0) 0 order (fl0 ln 64)
theorem sml_rL {f : Nat → Int32} {n : Nat} {l : Nat → Int32} (hf : edg (4 * n) f) : sml 33 33 (rL f n l) := sml_arM hf n 0 _ (by omega) (sml_piI 33 0 l (by omega) (fun d hd h => absurd h (by omega)))
theorem rA_le {f : Nat → Int32} {n : Nat} {l u : Nat → Int32} : rA f n l u ≤ 32 := by
  have : (nuA f n (rL f n l) 1 32 u 0).1 ≤ 0 + 32 := by
    have key : ∀ k i u a, (nuA f n (rL f n l) i k u a).1 ≤ a + k := by
      intro k
      induction k with
      | zero => intro i u a; rw [nuA]; exact Nat.le_refl _
      | succ k ih =>
        intro i u a
        rw [nuA]
        split
        · have := ih (i + 1) (upd u i (nI a)) (a + 1); omega
        · have := ih (i + 1) u a; omega
    exact key 32 1 u 0
  unfold rA
  omega
theorem sml_rU {f : Nat → Int32} {n : Nat} {l u : Nat → Int32} (hu : sml 100 33 u) : sml 100 33 (rU f n l u) := (sml_nuA 32 1 u 0 (by omega) hu).1
theorem sp_R_coefficient_no {w : zW} (hf : edg (4 * n) f) (hC : zCr w j je jg n f g) (hA : zAr w jR jl ju jc jn jM l u c ln mi) {cc : Nat} (hcc : cc < 1000000) {p : Int32} (h0 : 1 ≤ rA f n l u + cc) (hno : p < 0 ∨ 8 < p ∨ n < rA f n l u + cc - 1) : Sp M_R_coefficient [.ref jR, .ref j, .int (nI cc), .int p] w (some (.long 0)) ((w.set jl (aI 33 (rL f n l))).set ju (aI 33 (rU f n l u))) := by
  refine Sp.of (by decide) (Nat.le_of_ble_eq_true rfl) ?_
  have hC1 := zCr_a33 (x' := rU f n l u) (zCr_a33 (x' := rL f n l) hC hA.2.1) (zAr_l hA).2.2.1
  have hra := rA_le (f := f) (n := n) (l := l) (u := u)
  have hn := hC.2.2.2
  refine ev_aload_n 0 d_R_coefficient_0 rfl rfl ?_
  refine ev_aload_n 1 d_R_coefficient_1 rfl rfl ?_
  refine ev_callV M_R_numberArcs [_] (sp_R_numberArcs hf hC hA) c_R_28 d_R_coefficient_2 hA.1 rfl (by decide) (Nat.le_of_ble_eq_true rfl) ⟨rfl, rfl⟩ (by rw [List.length_set, List.length_set]) ?_
  refine ev_iload_n 2 d_R_coefficient_5 rfl rfl ?_
  refine ev_iadd d_R_coefficient_6 ?_
  refine ev_iconst (v := 1) d_R_coefficient_7 (by decide) ?_
  refine ev_isub d_R_coefficient_8 ?_
  rw [show nI (nuA f n (arM f (piI l 0 33) 0 n) 1 32 u 0).1 + nI cc - 1 = nI (rA f n l u + cc - 1) by
    rw [show (nuA f n (arM f (piI l 0 33) 0 n) 1 32 u 0).1 = rA f n l u from rfl, nI_add, show rA f n l u + cc = rA f n l u + cc - 1 + 1 by omega, nI_pred]; rfl]
  refine ev_istore d_R_coefficient_9 (Nat.le_of_ble_eq_true rfl) rfl ?_
  refine ev_iload_n 3 d_R_coefficient_11 rfl rfl ?_
  refine ev_if_lt 35 d_R_coefficient_12 (by decide) (fun h => ?_) (fun h => ?_)
  · refine ev_lconst (v := 0) d_R_coefficient_35 (by decide) ?_
    exact ev_lret d_R_coefficient_36 rfl (Nat.le_of_ble_eq_true rfl) (Nat.le_of_ble_eq_true rfl)
  · refine ev_iload_n 3 d_R_coefficient_15 rfl rfl ?_
    refine ev_bipush (v := 8) d_R_coefficient_16 (by decide) ?_
    refine ev_icmp_gt 35 d_R_coefficient_18 (by decide) (fun h1 => ?_) (fun h1 => ?_)
    · refine ev_lconst (v := 0) d_R_coefficient_35 (by decide) ?_
      exact ev_lret d_R_coefficient_36 rfl (Nat.le_of_ble_eq_true rfl) (Nat.le_of_ble_eq_true rfl)
    · refine ev_iload d_R_coefficient_21 rfl ?_
      refine ev_if_lt 35 d_R_coefficient_23 (by decide) (fun h2 => ?_) (fun h2 => ?_)
      · exact absurd h2 (nI_pos (by omega))
      · refine ev_iload d_R_coefficient_26 rfl ?_
        refine ev_aload_n 1 d_R_coefficient_28 rfl rfl ?_
        refine ev_callV M_C_size [] (sp_C_size hC1.1) c_R_32 d_R_coefficient_29 hC1.1 rfl (by decide) (Nat.le_of_ble_eq_true rfl) ⟨rfl, rfl⟩ rfl ?_
        refine ev_icmp_le 37 d_R_coefficient_32 (by decide) (fun h3 => ?_) (fun h3 => ?_)
        · have h4 := (nI_leI (by omega) (by omega)).mp h3
          rcases hno with q | q | q
          · exact absurd q h
          · exact absurd q h1
          · omega
        · refine ev_lconst (v := 0) d_R_coefficient_35 (by decide) ?_
          exact ev_lret d_R_coefficient_36 rfl (Nat.le_of_ble_eq_true rfl) (Nat.le_of_ble_eq_true rfl)
theorem z_shl1m (k : Nat) (hk : k ≤ 8) : ((1 : Int32) <<< (nI k &&& 31) - 1) * 9 = nI ((2 ^ k - 1) * 9) := by
  have hp : 1 ≤ 2 ^ k := Nat.one_le_two_pow
  rw [z_shl1 k (by omega), show nI (2 ^ k) - 1 = nI (2 ^ k - 1) by rw [show 2 ^ k = 2 ^ k - 1 + 1 by omega, nI_pred]; rfl]
  exact pk_mul _ 9
theorem sp_R_coefficient {w : zW} (hf : edg (4 * n) f) (hu : sml 100 33 u) (hC : zCr w j je jg n f g) (hA : zAr w jR jl ju jc jn jM l u c ln mi) {cc p order : Nat} (hcc : cc < 1000000) (hp : p ≤ 8) (h0 : 1 ≤ rA f n l u + cc) (hor : order = rA f n l u + cc - 1) (hle : order ≤ n) : Sp M_R_coefficient [.ref jR, .ref j, .int (nI cc), .int (nI p)] w (some (.long (nrC (exM (rCo f g n l u c order) (rLi f g n l u ln order) order mi) ((2 ^ order - 1) * 9) p))) (((((w.set jl (aI 33 (rL f n l))).set ju (aI 33 (rU f n l u))).set jc (aI 64 (rCo f g n l u c order))).set jn (aI 64 (rLi f g n l u ln order))).set jM (aL 2304 (exM (rCo f g n l u c order) (rLi f g n l u ln order) order mi))) := by
  refine Sp.of (by decide) (Nat.le_of_ble_eq_true rfl) ?_
  have hn := hC.2.2.2
  have hp2 := p2_le order (by omega)
  have hC1 := zCr_a33 (x' := rU f n l u) (zCr_a33 (x' := rL f n l) hC hA.2.1) (zAr_l hA).2.2.1
  have hA1 := zAr_u (u' := rU f n l u) (zAr_l (l' := rL f n l) hA)
  have hC2 := zCr_a64 (x' := rLi f g n l u ln order) (zCr_a64 (x' := rCo f g n l u c order) hC1 hA1.2.2.2.1) (zAr_c hA1).2.2.2.2.1
  have hA2 := zAr_n (n' := rLi f g n l u ln order) (zAr_c (c' := rCo f g n l u c order) hA1)
  have hA3 := zAr_m (m' := exM (rCo f g n l u c order) (rLi f g n l u ln order) order mi) hA2
  have hra := rA_le (f := f) (n := n) (l := l) (u := u)
  refine ev_aload_n 0 d_R_coefficient_0 rfl rfl ?_
  refine ev_aload_n 1 d_R_coefficient_1 rfl rfl ?_
  refine ev_callV M_R_numberArcs [_] (sp_R_numberArcs hf hC hA) c_R_28 d_R_coefficient_2 hA.1 rfl (by decide) (Nat.le_of_ble_eq_true rfl) ⟨rfl, rfl⟩ (by rw [List.length_set, List.length_set]) ?_
  refine ev_iload_n 2 d_R_coefficient_5 rfl rfl ?_
  refine ev_iadd d_R_coefficient_6 ?_
  refine ev_iconst (v := 1) d_R_coefficient_7 (by decide) ?_
  refine ev_isub d_R_coefficient_8 ?_
  rw [show nI (nuA f n (arM f (piI l 0 33) 0 n) 1 32 u 0).1 + nI cc - 1 = nI order by
    rw [hor, show (nuA f n (arM f (piI l 0 33) 0 n) 1 32 u 0).1 = rA f n l u from rfl, nI_add, show rA f n l u + cc = rA f n l u + cc - 1 + 1 by omega, nI_pred]; rfl]
  refine ev_istore d_R_coefficient_9 (Nat.le_of_ble_eq_true rfl) rfl ?_
  refine ev_iload_n 3 d_R_coefficient_11 rfl rfl ?_
  refine ev_if_lt 35 d_R_coefficient_12 (by decide) (fun h => ?_) (fun h => ?_)
  · exact absurd h (nI_pos (by omega))
  · refine ev_iload_n 3 d_R_coefficient_15 rfl rfl ?_
    refine ev_bipush (v := 8) d_R_coefficient_16 (by decide) ?_
    refine ev_icmp_gt 35 d_R_coefficient_18 (by decide) (fun h1 => ?_) (fun h1 => ?_)
    · exact absurd h1 (nI_nlt (a := 8) (b := p) (by omega) (by omega))
    · refine ev_iload d_R_coefficient_21 rfl ?_
      refine ev_if_lt 35 d_R_coefficient_23 (by decide) (fun h2 => ?_) (fun h2 => ?_)
      · exact absurd h2 (nI_pos (by omega))
      · refine ev_iload d_R_coefficient_26 rfl ?_
        refine ev_aload_n 1 d_R_coefficient_28 rfl rfl ?_
        refine ev_callV M_C_size [] (sp_C_size hC1.1) c_R_32 d_R_coefficient_29 hC1.1 rfl (by decide) (Nat.le_of_ble_eq_true rfl) ⟨rfl, rfl⟩ rfl ?_
        refine ev_icmp_le 37 d_R_coefficient_32 (by decide) (fun h3 => ?_) (fun h3 => ?_)
        · refine ev_aload_n 0 d_R_coefficient_37 rfl rfl ?_
          refine ev_aload_n 1 d_R_coefficient_38 rfl rfl ?_
          refine ev_iload d_R_coefficient_39 rfl ?_
          refine ev_callV M_R_fillMatrix [_, _] (sp_R_fillMatrix hf (sml_rL hf) (by omega) (sml_rU hu) hle hC1 hA1) c_R_38 d_R_coefficient_41 hA1.1 rfl (by decide) (Nat.le_of_ble_eq_true rfl) ⟨rfl, rfl⟩ (by rw [List.length_set, List.length_set]) ?_
          refine ev_aload_n 0 d_R_coefficient_44 rfl rfl ?_
          refine ev_iload d_R_coefficient_45 rfl ?_
          refine ev_callV M_R_expandMinors [_] (sp_R_expandMinors (by omega) hA2) c_R_42 d_R_coefficient_47 hA2.1 rfl (by decide) (Nat.le_of_ble_eq_true rfl) ⟨rfl, rfl⟩ (List.length_set) ?_
          refine ev_aload_n 0 d_R_coefficient_50 rfl rfl ?_
          refine ev_iconst (v := 1) d_R_coefficient_51 (by decide) ?_
          refine ev_iload d_R_coefficient_52 rfl ?_
          refine ev_ishl d_R_coefficient_54 ?_
          refine ev_iconst (v := 1) d_R_coefficient_55 (by decide) ?_
          refine ev_isub d_R_coefficient_56 ?_
          refine ev_bipush (v := 9) d_R_coefficient_57 (by decide) ?_
          refine ev_imul d_R_coefficient_59 ?_
          rw [z_shl1m order (by omega)]
          refine ev_iload_n 3 d_R_coefficient_60 rfl rfl ?_
          refine ev_callV M_R_normalCoefficient [_, _] (sp_R_normal hA3 (by omega) hp) c_R_46 d_R_coefficient_61 hA3.1 rfl (by decide) (Nat.le_of_ble_eq_true rfl) ⟨rfl, rfl⟩ rfl ?_
          exact ev_lret d_R_coefficient_64 rfl (Nat.le_of_ble_eq_true rfl) (Nat.le_of_ble_eq_true rfl)
        · exact absurd (nI_le hle (by omega)) h3
end Ar
