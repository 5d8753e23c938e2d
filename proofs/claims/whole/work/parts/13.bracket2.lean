theorem z_shl1 : ∀ n, n < 9 → (1 : Int32) <<< (nI n &&& 31) = nI (2 ^ n) := by decide +kernel
theorem p2_le : ∀ n, n < 9 → 2 ^ n ≤ 256 := by decide
def oeF (f : Nat → Int32) (n : Nat) (oe : Nat → Int32) : Nat → Int32 := fun e => if e < 4 * n then nI (oth f n e) else oe e
def fl0L (m : Nat → Int64) (N : Nat) : Nat → Int64 := fun t => if t < N then 0 else m t
section Br
variable {j je jg n jB jo jt jm : Nat} {f g oe : Nat → Int32} {m : Nat → Int64}
theorem oth_lt4 {e : Nat} (he : e < 4 * n) : oth f n e < 4 * n := oEnd_lt he _ _ (by omega)
theorem lp_B_tally2 (ho : ∀ e, e < 4 * n → oe e = nI (oth f n e) ∧ oth f n e < 4 * n) {cc : Nat} (hcc : cc < 1000000) : ∀ k i (w : zW) (t : Nat → Int32), i + k = 2 ^ n → zCr w j je jg n f g → zBr w jB jo jt jm oe t m → Ev M_B_tallyStates none none (w.set jt (aI 261 (tal (oth f n) n cc i k t))) 37 [(0, .ref jB), (1, .ref j), (2, .int (nI cc)), (3, .int (nI i))] [] w 0 0 := by
  intro k
  induction k with
  | zero =>
    intro i w t hi hC hB
    have hn := hC.2.2.2
    have hp := p2_le n (by omega)
    have e0 : tal (oth f n) n cc i 0 t = t := by rw [tal]
    rw [e0, z_set_self hB.2.2.1]
    refine ev_iload_n 3 d_B_tallyStates_37 rfl rfl ?_
    refine ev_iconst (v := 1) d_B_tallyStates_38 (by decide) ?_
    refine ev_aload_n 1 d_B_tallyStates_39 rfl rfl ?_
    refine ev_callV M_C_size [] (sp_C_size hC.1) c_B_39 d_B_tallyStates_40 hC.1 rfl (by decide) (Nat.le_of_ble_eq_true rfl) ⟨rfl, rfl⟩ rfl ?_
    refine ev_ishl d_B_tallyStates_43 ?_
    rw [z_shl1 n (by omega)]
    refine ev_icmp_ge 92 d_B_tallyStates_44 (by decide) (fun h => ?_) (fun h => ?_)
    · exact ev_ret d_B_tallyStates_92 rfl (Nat.le_of_ble_eq_true rfl) (Nat.le_of_ble_eq_true rfl)
    · exact absurd (nI_le (by omega) (by omega)) h
  | succ k ih =>
    intro i w t hi hC hB
    have hn := hC.2.2.2
    have hp := p2_le n (by omega)
    have hcv := cvs_le (o := oth f n) (st := nI i) (4 * n) 0 0 0
    have hpc := pc8_le i
    refine ev_iload_n 3 d_B_tallyStates_37 rfl rfl ?_
    refine ev_iconst (v := 1) d_B_tallyStates_38 (by decide) ?_
    refine ev_aload_n 1 d_B_tallyStates_39 rfl rfl ?_
    refine ev_callV M_C_size [] (sp_C_size hC.1) c_B_39 d_B_tallyStates_40 hC.1 rfl (by decide) (Nat.le_of_ble_eq_true rfl) ⟨rfl, rfl⟩ rfl ?_
    refine ev_ishl d_B_tallyStates_43 ?_
    rw [z_shl1 n (by omega)]
    refine ev_icmp_ge 92 d_B_tallyStates_44 (by decide) (fun h => ?_) (fun h => ?_)
    · exact absurd h (nI_ge (by omega) (by omega))
    · refine ev_aload_n 0 d_B_tallyStates_47 rfl rfl ?_
      refine ev_iload_n 3 d_B_tallyStates_48 rfl rfl ?_
      refine ev_aload_n 1 d_B_tallyStates_49 rfl rfl ?_
      refine ev_callV M_C_ends [] (sp_C_ends hC.1) c_B_52 d_B_tallyStates_50 hC.1 rfl (by decide) (Nat.le_of_ble_eq_true rfl) ⟨rfl, rfl⟩ rfl ?_
      refine ev_callV M_B_curvesOf [_, _] (sp_B_curvesOf hB (o := oth f n) (N := 4 * n) (by omega) (by omega) ho (nI i)) c_B_59 d_B_tallyStates_53 hB.1 rfl (by decide) (Nat.le_of_ble_eq_true rfl) ⟨rfl, rfl⟩ rfl ?_
      refine ev_iload_n 2 d_B_tallyStates_56 rfl rfl ?_
      refine ev_iadd d_B_tallyStates_57 ?_
      rw [nI_add]
      refine ev_istore d_B_tallyStates_58 (Nat.le_of_ble_eq_true rfl) rfl ?_
      refine ev_iload d_B_tallyStates_60 rfl ?_
      refine ev_bipush (v := 28) d_B_tallyStates_62 (by decide) ?_
      refine ev_icmp_gt 86 d_B_tallyStates_64 (by decide) (fun h2 => ?_) (fun h2 => ?_)
      · have h3 : ¬ cvs (oth f n) (nI i) 0 (4 * n) 0 0 + cc ≤ 28 := fun q => absurd h2 (nI_nlt (b := cvs (oth f n) (nI i) 0 (4 * n) 0 0 + cc) (a := 28) q (by omega))
        have e0 : tal (oth f n) n cc i (k + 1) t = tal (oth f n) n cc (i + 1) k t := by rw [tal, if_neg h3]
        rw [e0]
        refine ev_iinc (v := _ + 1) d_B_tallyStates_86 rfl rfl (Nat.le_of_ble_eq_true rfl) rfl ?_
        rw [nI_1]
        refine ev_goto 37 d_B_tallyStates_89 (by decide) ?_
        exact ev_drop (lv' := [(0, .ref jB), (1, .ref j), (2, .int (nI cc)), (3, .int (nI (i + 1)))]) (ext := [_]) (ih (i + 1) w t (by omega) hC hB)
      · have h3 : cvs (oth f n) (nI i) 0 (4 * n) 0 0 + cc ≤ 28 := Nat.not_lt.mp (fun q => h2 (nI_lt (a := 28) q (by omega)))
        have e0 : tal (oth f n) n cc i (k + 1) t = tal (oth f n) n cc (i + 1) k (upd t ((cvs (oth f n) (nI i) 0 (4 * n) 0 0 + cc) * 9 + pc8 i) (t ((cvs (oth f n) (nI i) 0 (4 * n) 0 0 + cc) * 9 + pc8 i) + 1)) := by rw [tal, if_pos h3]
        rw [e0]
        generalize hcv2 : cvs (oth f n) (nI i) 0 (4 * n) 0 0 + cc = cv at h3 ⊢
        refine ev_aload_n 0 d_B_tallyStates_67 rfl rfl ?_
        refine ev_get f_B_15 d_B_tallyStates_68 hB.1 rfl ?_
        refine ev_iload d_B_tallyStates_71 rfl ?_
        refine ev_bipush (v := 9) d_B_tallyStates_73 (by decide) ?_
        refine ev_imul d_B_tallyStates_75 ?_
        refine ev_iload_n 3 d_B_tallyStates_76 rfl rfl ?_
        refine ev_callS M_I_bitCount [_] (sp_I_bitCount w (nI i)) c_B_63 d_B_tallyStates_77 rfl (by decide) (Nat.le_of_ble_eq_true rfl) ⟨rfl, rfl⟩ rfl ?_
        rw [bc_pc i (by omega)]
        have e2 : nI cv * (9 : Int32) + nI (pc8 i) = nI (cv * 9 + pc8 i) := by
          rw [show nI cv * (9 : Int32) = nI (cv * 9) from pk_mul cv 9, nI_add]
        refine ev_iadd d_B_tallyStates_80 ?_
        rw [e2]
        refine ev_dup2 d_B_tallyStates_81 rfl rfl ?_
        refine ev_iald d_B_tallyStates_82 hB.2.2.1 (vp_in_nI (by omega) (by omega)) ?_
        rw [nI_clamp (by omega)]
        refine ev_iconst (v := 1) d_B_tallyStates_83 (by decide) ?_
        refine ev_iadd d_B_tallyStates_84 ?_
        refine ev_iast d_B_tallyStates_85 hB.2.2.1 (vp_in_nI (by omega) (by omega)) ?_
        rw [nI_clamp (by omega)]
        refine ev_iinc (v := _ + 1) d_B_tallyStates_86 rfl rfl (Nat.le_of_ble_eq_true rfl) rfl ?_
        rw [nI_1]
        refine ev_goto 37 d_B_tallyStates_89 (by decide) ?_
        have h4 := ih (i + 1) _ _ (by omega) (zCr_t (t' := upd t (cv * 9 + pc8 i) (t (cv * 9 + pc8 i) + 1)) hC hB) (zBr_t hB)
        rw [List.set_set] at h4
        exact ev_drop (lv' := [(0, .ref jB), (1, .ref j), (2, .int (nI cc)), (3, .int (nI (i + 1)))]) (ext := [_]) h4
theorem lp_B_tally1 (hne : jo ≠ je) {t : Nat → Int32} {cc : Nat} (hcc : cc < 1000000) : ∀ k i (w : zW) (oe : Nat → Int32), i + k = 4 * n → (∀ e, e < i → oe e = nI (oth f n e)) → zCr w j je jg n f g → zBr w jB jo jt jm oe t m → Ev M_B_tallyStates none none ((w.set jo (aI 32 (fun e => if i ≤ e ∧ e < 4 * n then nI (oth f n e) else oe e))).set jt (aI 261 (tal (oth f n) n cc 0 (2 ^ n) t))) 10 [(0, .ref jB), (1, .ref j), (2, .int (nI cc)), (3, .int (nI i))] [] w 0 0 := by
  intro k
  induction k with
  | zero =>
    intro i w oe hi hoe hC hB
    have hn := hC.2.2.2
    have e0 : (fun e => if i ≤ e ∧ e < 4 * n then nI (oth f n e) else oe e) = oe := by
      funext e
      rw [if_neg (by omega)]
    rw [e0, z_set_self hB.2.1]
    refine ev_iload_n 3 d_B_tallyStates_10 rfl rfl ?_
    refine ev_aload_n 1 d_B_tallyStates_11 rfl rfl ?_
    refine ev_callV M_C_ends [] (sp_C_ends hC.1) c_B_52 d_B_tallyStates_12 hC.1 rfl (by decide) (Nat.le_of_ble_eq_true rfl) ⟨rfl, rfl⟩ rfl ?_
    refine ev_icmp_ge 35 d_B_tallyStates_15 (by decide) (fun h => ?_) (fun h => ?_)
    · refine ev_iconst (v := 0) d_B_tallyStates_35 (by decide) ?_
      refine ev_istore_n 3 d_B_tallyStates_36 rfl (Nat.le_of_ble_eq_true rfl) rfl ?_
      exact lp_B_tally2 (fun e he => ⟨hoe e (by omega), oth_lt4 he⟩) hcc (2 ^ n) 0 w t (by omega) hC hB
    · exact absurd (nI_le (by omega) (by omega)) h
  | succ k ih =>
    intro i w oe hi hoe hC hB
    have hn := hC.2.2.2
    refine ev_iload_n 3 d_B_tallyStates_10 rfl rfl ?_
    refine ev_aload_n 1 d_B_tallyStates_11 rfl rfl ?_
    refine ev_callV M_C_ends [] (sp_C_ends hC.1) c_B_52 d_B_tallyStates_12 hC.1 rfl (by decide) (Nat.le_of_ble_eq_true rfl) ⟨rfl, rfl⟩ rfl ?_
    refine ev_icmp_ge 35 d_B_tallyStates_15 (by decide) (fun h => ?_) (fun h => ?_)
    · exact absurd h (nI_ge (by omega) (by omega))
    · refine ev_aload_n 0 d_B_tallyStates_18 rfl rfl ?_
      refine ev_get f_B_11 d_B_tallyStates_19 hB.1 rfl ?_
      refine ev_iload_n 3 d_B_tallyStates_22 rfl rfl ?_
      refine ev_aload_n 1 d_B_tallyStates_23 rfl rfl ?_
      refine ev_iload_n 3 d_B_tallyStates_24 rfl rfl ?_
      refine ev_callV M_C_otherEnd [_] (sp_C_otherEnd hC.1 hC.2.1 hn (by omega)) c_B_55 d_B_tallyStates_25 hC.1 rfl (by decide) (Nat.le_of_ble_eq_true rfl) ⟨rfl, rfl⟩ rfl ?_
      refine ev_iast d_B_tallyStates_28 hB.2.1 (vp_in_nI (by omega) (by omega)) ?_
      rw [nI_clamp (by omega)]
      refine ev_iinc (v := _ + 1) d_B_tallyStates_29 rfl rfl (Nat.le_of_ble_eq_true rfl) rfl ?_
      rw [nI_1]
      refine ev_goto 10 d_B_tallyStates_32 (by decide) ?_
      have h4 := ih (i + 1) _ (upd oe i (nI (oth f n i))) (by omega) (by
        intro e he
        by_cases h5 : e = i
        · rw [h5, pk_us]
        · rw [pk_un h5]; exact hoe e (by omega)) (zCr_oe (oe' := upd oe i (nI (oth f n i))) hC hB hne) (zBr_oe hB)
      rw [List.set_set] at h4
      have e1 : (fun e => if i + 1 ≤ e ∧ e < 4 * n then nI (oth f n e) else upd oe i (nI (oth f n i)) e) = (fun e => if i ≤ e ∧ e < 4 * n then nI (oth f n e) else oe e) := by
        funext e
        by_cases h5 : e = i
        · subst h5
          rw [if_neg (by omega), if_pos (by omega)]
          exact pk_us
        · rw [pk_un h5]
          by_cases h6 : i + 1 ≤ e ∧ e < 4 * n
          · rw [if_pos h6, if_pos (by omega)]
          · rw [if_neg h6, if_neg (by omega)]
      rw [e1] at h4
      exact h4
theorem sp_B_tallyStates {w : zW} (hne : jo ≠ je) {t : Nat → Int32} {cc : Nat} (hcc : cc < 1000000) (hC : zCr w j je jg n f g) (hB : zBr w jB jo jt jm oe t m) : Sp M_B_tallyStates [.ref jB, .ref j, .int (nI cc)] w none ((w.set jo (aI 32 (oeF f n oe))).set jt (aI 261 (tal (oth f n) n cc 0 (2 ^ n) (fl0 t 261)))) := by
  refine Sp.of (by decide) (Nat.le_of_ble_eq_true rfl) ?_
  refine ev_aload_n 0 d_B_tallyStates_0 rfl rfl ?_
  refine ev_get f_B_15 d_B_tallyStates_1 hB.1 rfl ?_
  refine ev_iconst (v := 0) d_B_tallyStates_4 (by decide) ?_
  refine ev_callS M_F_fillI [_, _] (sp_F_fillI (by omega) hB.2.2.1 0) c_B_49 d_B_tallyStates_5 rfl (by decide) (Nat.le_of_ble_eq_true rfl) ⟨rfl, rfl⟩ (List.length_set) ?_
  refine ev_iconst (v := 0) d_B_tallyStates_8 (by decide) ?_
  refine ev_istore_n 3 d_B_tallyStates_9 rfl (Nat.le_of_ble_eq_true rfl) rfl ?_
  have h4 := lp_B_tally1 hne hcc (4 * n) 0 _ oe (by omega) (fun e he => absurd he (by omega)) (zCr_t (t' := fl0 t 261) hC hB) (zBr_t hB)
  have e1 : (fun e => if 0 ≤ e ∧ e < 4 * n then nI (oth f n e) else oe e) = oeF f n oe := by
    funext e
    unfold oeF
    congr 1
    simp
  rw [e1] at h4
  have e2 : (((w.set jt (aI 261 (fl0 t 261))).set jo (aI 32 (oeF f n oe))).set jt (aI 261 (tal (oth f n) n cc 0 (2 ^ n) (fl0 t 261)))) = ((w.set jo (aI 32 (oeF f n oe))).set jt (aI 261 (tal (oth f n) n cc 0 (2 ^ n) (fl0 t 261)))) := by
    rw [List.set_comm _ _ (z_ne hB.2.2.1 hB.2.1 (by intro h; cases h)), List.set_set]
  rw [e2] at h4
  exact h4
theorem lp_B_coefficient {t : Nat → Int32} {cc : Int32} {p : Int64} (hp : vp_in (62 + p.toInt32) 125) : ∀ c (w : zW) (m : Nat → Int64), c ≤ 28 → zCr w j je jg n f g → zBr w jB jo jt jm oe t m → Ev M_B_coefficient none (some (.long (hor t n c m (62 + p.toInt32).toNatClampNeg))) (w.set jm (aL 125 (hor t n c m))) 36 [(0, .ref jB), (1, .ref j), (2, .int cc), (3, .long p), (5, .int (nI c))] [] w 0 0 := by
  intro c
  induction c with
  | zero =>
    intro w m hc hC hB
    have e0 : hor t n 0 m = m := by rw [hor]
    rw [e0, z_set_self hB.2.2.2]
    refine ev_iload d_B_coefficient_36 rfl ?_
    refine ev_iconst (v := 1) d_B_coefficient_38 (by decide) ?_
    refine ev_icmp_lt 62 d_B_coefficient_39 (by decide) (fun h => ?_) (fun h => ?_)
    · refine ev_aload_n 0 d_B_coefficient_62 rfl rfl ?_
      refine ev_get f_B_18 d_B_coefficient_63 hB.1 rfl ?_
      refine ev_bipush (v := 62) d_B_coefficient_66 (by decide) ?_
      refine ev_lload_n 3 d_B_coefficient_68 rfl rfl ?_
      refine ev_l2i d_B_coefficient_69 rfl ?_
      refine ev_iadd d_B_coefficient_70 ?_
      refine ev_lald d_B_coefficient_71 hB.2.2.2 hp ?_
      exact ev_lret d_B_coefficient_72 rfl (Nat.le_of_ble_eq_true rfl) (Nat.le_of_ble_eq_true rfl)
    · exact absurd (by decide) h
  | succ c ih =>
    intro w m hc hC hB
    have hn := hC.2.2.2
    have e0 : hor t n (c + 1) m = hor t n c (ads t (c + 1) n 0 (n + 1) (mbc 0 125 m 0 0)) := by rw [hor]
    rw [e0]
    have hC1 := zCr_m (m' := mbc 0 125 m 0 0) hC hB
    have hB1 := zBr_m (m' := mbc 0 125 m 0 0) hB
    refine ev_iload d_B_coefficient_36 rfl ?_
    refine ev_iconst (v := 1) d_B_coefficient_38 (by decide) ?_
    refine ev_icmp_lt 62 d_B_coefficient_39 (by decide) (fun h => ?_) (fun h => ?_)
    · exact absurd h (nI_nlt (a := c + 1) (b := 1) (by omega) (by omega))
    · refine ev_aload_n 0 d_B_coefficient_42 rfl rfl ?_
      refine ev_callV M_B_multiplyByCurve [] (sp_B_multiplyByCurve hB) c_B_36 d_B_coefficient_43 hB.1 rfl (by decide) (Nat.le_of_ble_eq_true rfl) ⟨rfl, rfl⟩ (List.length_set) ?_
      refine ev_aload_n 0 d_B_coefficient_46 rfl rfl ?_
      refine ev_iload d_B_coefficient_47 rfl ?_
      refine ev_aload_n 1 d_B_coefficient_49 rfl rfl ?_
      refine ev_callV M_C_size [] (sp_C_size hC1.1) c_B_39 d_B_coefficient_50 hC1.1 rfl (by decide) (Nat.le_of_ble_eq_true rfl) ⟨rfl, rfl⟩ rfl ?_
      refine ev_callV M_B_addStates [_, _] (sp_B_addStates hc hn hB1) c_B_45 d_B_coefficient_53 hB1.1 rfl (by decide) (Nat.le_of_ble_eq_true rfl) ⟨rfl, rfl⟩ (List.length_set) ?_
      rw [List.set_set]
      refine ev_iinc (v := _ + (-1)) d_B_coefficient_56 rfl rfl (Nat.le_of_ble_eq_true rfl) rfl ?_
      rw [pk_m1]
      refine ev_goto 36 d_B_coefficient_59 (by decide) ?_
      have h4 := ih _ _ (by omega) (zCr_m (m' := ads t (c + 1) n 0 (n + 1) (mbc 0 125 m 0 0)) hC hB) (zBr_m hB)
      rw [List.set_set] at h4
      exact h4
theorem z_l2i {x : Int64} (h1 : ¬ x < -62) (h2 : x ≤ 62) : vp_in (62 + x.toInt32) 125 ∧ ((62 + x.toInt32).toNatClampNeg : Int) = 62 + x.toInt := by
  rw [Int64.lt_iff_toInt_lt] at h1
  rw [Int64.le_iff_toInt_le] at h2
  have a1 : (-62 : Int64).toInt = -62 := by decide
  have a2 : (62 : Int64).toInt = 62 := by decide
  have a3 : (62 : Int32).toInt = 62 := by decide
  rw [a1] at h1
  rw [a2] at h2
  have e1 : x.toInt32.toInt = x.toInt := by
    rw [Int64.toInt_toInt32]
    exact Int.bmod_eq_of_le (by omega) (by omega)
  have e2 : (62 + x.toInt32).toInt = 62 + x.toInt := by
    rw [Int32.toInt_add, a3, e1]
    exact Int.bmod_eq_of_le (by omega) (by omega)
  have e3 : ((62 + x.toInt32).toNatClampNeg : Int) = 62 + x.toInt := by
    rw [Int32.toNatClampNeg, e2]
    omega
  refine ⟨?_, e3⟩
  intro h
  rcases h with h | h
  · rw [Int32.lt_iff_toInt_lt, e2, Int32.toInt_zero] at h
    omega
  · omega
theorem sp_B_coefficient_no {w : zW} {p : Int64} (hp : p < -62 ∨ 62 < p) (jx jy : Nat) (cc : Int32) : Sp M_B_coefficient [.ref jx, .ref jy, .int cc, .long p] w (some (.long 0)) w := by
  refine Sp.of (by decide) (Nat.le_of_ble_eq_true rfl) ?_
  refine ev_lload_n 3 d_B_coefficient_0 rfl rfl ?_
  refine ev_ldc2 (v := -62) k_B_22 d_B_coefficient_1 ?_
  refine ev_lcmp d_B_coefficient_4 ?_
  refine ev_if_lt 16 d_B_coefficient_5 (by decide) (fun h => ?_) (fun h => ?_)
  · refine ev_lconst (v := 0) d_B_coefficient_16 (by decide) ?_
    exact ev_lret d_B_coefficient_17 rfl (Nat.le_of_ble_eq_true rfl) (Nat.le_of_ble_eq_true rfl)
  · refine ev_lload_n 3 d_B_coefficient_8 rfl rfl ?_
    refine ev_ldc2 (v := 62) k_B_24 d_B_coefficient_9 ?_
    refine ev_lcmp d_B_coefficient_12 ?_
    refine ev_if_le 18 d_B_coefficient_13 (by decide) (fun h2 => ?_) (fun h2 => ?_)
    · have h1 : ¬ p < -62 := fun q => h ((lg_cmp_lt _ _).mpr q)
      have h3 := (lg_cmp_le _ _).mp h2
      exact absurd (hp.resolve_left h1) (Int64.not_lt.mpr h3)
    · refine ev_lconst (v := 0) d_B_coefficient_16 (by decide) ?_
      exact ev_lret d_B_coefficient_17 rfl (Nat.le_of_ble_eq_true rfl) (Nat.le_of_ble_eq_true rfl)
theorem sp_B_coefficient {w : zW} (hne : jo ≠ je) {t : Nat → Int32} {cc : Nat} (hcc : cc < 1000000) (hC : zCr w j je jg n f g) (hB : zBr w jB jo jt jm oe t m) {p : Int64} (h1 : ¬ p < -62) (h2 : p ≤ 62) : Sp M_B_coefficient [.ref jB, .ref j, .int (nI cc), .long p] w (some (.long (hor (tal (oth f n) n cc 0 (2 ^ n) (fl0 t 261)) n 28 (fl0L m 125) (62 + p.toInt32).toNatClampNeg))) (((w.set jo (aI 32 (oeF f n oe))).set jt (aI 261 (tal (oth f n) n cc 0 (2 ^ n) (fl0 t 261)))).set jm (aL 125 (hor (tal (oth f n) n cc 0 (2 ^ n) (fl0 t 261)) n 28 (fl0L m 125)))) := by
  refine Sp.of (by decide) (Nat.le_of_ble_eq_true rfl) ?_
  have hC1 := zCr_oe (oe' := oeF f n oe) hC hB hne
  have hB1 := zBr_oe (oe' := oeF f n oe) hB
  have hC2 := zCr_t (t' := tal (oth f n) n cc 0 (2 ^ n) (fl0 t 261)) hC1 hB1
  have hB2 := zBr_t (t' := tal (oth f n) n cc 0 (2 ^ n) (fl0 t 261)) hB1
  have go : Ev M_B_coefficient none (some (.long (hor (tal (oth f n) n cc 0 (2 ^ n) (fl0 t 261)) n 28 (fl0L m 125) (62 + p.toInt32).toNatClampNeg))) (((w.set jo (aI 32 (oeF f n oe))).set jt (aI 261 (tal (oth f n) n cc 0 (2 ^ n) (fl0 t 261)))).set jm (aL 125 (hor (tal (oth f n) n cc 0 (2 ^ n) (fl0 t 261)) n 28 (fl0L m 125)))) 18 [(0, .ref jB), (1, .ref j), (2, .int (nI cc)), (3, .long p)] [] w 0 0 := by
    refine ev_aload_n 0 d_B_coefficient_18 rfl rfl ?_
    refine ev_aload_n 1 d_B_coefficient_19 rfl rfl ?_
    refine ev_iload_n 2 d_B_coefficient_20 rfl rfl ?_
    refine ev_callV M_B_tallyStates [_, _] (sp_B_tallyStates hne hcc hC hB) c_B_26 d_B_coefficient_21 hB.1 rfl (by decide) (Nat.le_of_ble_eq_true rfl) ⟨rfl, rfl⟩ (by rw [List.length_set, List.length_set]) ?_
    refine ev_aload_n 0 d_B_coefficient_24 rfl rfl ?_
    refine ev_get f_B_18 d_B_coefficient_25 hB2.1 rfl ?_
    refine ev_lconst (v := 0) d_B_coefficient_28 (by decide) ?_
    refine ev_callS M_F_fillL [_, _] (sp_F_fillL (by omega) hB2.2.2.2 0) c_B_30 d_B_coefficient_29 rfl (by decide) (Nat.le_of_ble_eq_true rfl) ⟨rfl, rfl⟩ (List.length_set) ?_
    refine ev_bipush (v := 28) d_B_coefficient_32 (by decide) ?_
    refine ev_istore d_B_coefficient_34 (Nat.le_of_ble_eq_true rfl) rfl ?_
    have h4 := lp_B_coefficient (cc := nI cc) (z_l2i h1 h2).1 28 _ (fl0L m 125) (by omega) (zCr_m (m' := fl0L m 125) hC2 hB2) (zBr_m hB2)
    rw [List.set_set] at h4
    exact h4
  refine ev_lload_n 3 d_B_coefficient_0 rfl rfl ?_
  refine ev_ldc2 (v := -62) k_B_22 d_B_coefficient_1 ?_
  refine ev_lcmp d_B_coefficient_4 ?_
  refine ev_if_lt 16 d_B_coefficient_5 (by decide) (fun h => ?_) (fun h => ?_)
  · exact absurd ((lg_cmp_lt _ _).mp h) h1
  · refine ev_lload_n 3 d_B_coefficient_8 rfl rfl ?_
    refine ev_ldc2 (v := 62) k_B_24 d_B_coefficient_9 ?_
    refine ev_lcmp d_B_coefficient_12 ?_
    refine ev_if_le 18 d_B_coefficient_13 (by decide) (fun h3 => ?_) (fun h3 => ?_)
    · exact go
    · exact absurd ((lg_cmp_le _ _).mpr h2) h3
end Br
