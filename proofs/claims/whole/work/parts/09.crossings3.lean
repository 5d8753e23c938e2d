theorem z_p2 (a : Nat) : nI a + 2 = nI (a + 2) := nI_add a 2
theorem z_p3 (a : Nat) : nI a + 3 = nI (a + 3) := nI_add a 3
theorem z_p4 (a : Nat) : nI a + 4 = nI (a + 4) := nI_add a 4
def sgn (b : Bool) : Int32 := match b with
  | true => 1
  | false => -1
def apE (f : Nat → Int32) (n : Nat) (a b c d : Int32) : Nat → Int32 := upd (upd (upd (upd f (4 * n) a) (4 * n + 1) b) (4 * n + 2) c) (4 * n + 3) d
def rmE (f : Nat → Int32) (n k : Nat) : Nat → Int32 := va_cpy f f (4 * k + 4) (4 * k) (4 * (n - k - 1))
def rmS (g : Nat → Int32) (n k : Nat) : Nat → Int32 := va_cpy g g (k + 1) k (n - k - 1)
section LDC
variable {M : zM} {X : Option (Nat × (Nat → Int32))} {r : Option Value} {wf : zW} {pc : Nat} {lv : List (Nat × Value)} {st : List Value} {w : zW} {nc ns : Nat}
theorem ev_ldcw {index : Nat} {v : Int32} (hw : Cond.constant M.1.cls index v ∈ zG) (hd : decode M.2.1 pc = .ok (.ldc_w index, 3)) (k : Ev M X r wf (pc + 3) lv (.int v :: st) w nc ns) : Ev M X r wf pc lv st w nc ns := fun p l e s m args below meth c Q D dA b A ad0 C E H locs ad ls B hl => lv_ldcw C.1 C.2.1 C.2.2.2.2.1 (C.2.2.2.1 _ hw) hd (k p l e s m args below meth c Q D dA b A ad0 C E H locs ad ls B hl)
end LDC
section Cr
variable {w : zW} {j je jg n : Nat} {f g : Nat → Int32}
theorem sp_C_append (hO : w[j]? = some (oC je jg n)) (hE : w[je]? = some (aI 32 f)) (hS : w[jg]? = some (aI 8 g)) (hn : n < 8) (a b c d : Int32) (pos : Bool) : Sp M_C_append [.ref j, .int a, .int b, .int c, .int d, .int (zb pos)] w none (((w.set je (aI 32 (apE f n a b c d))).set jg (aI 8 (upd g n (sgn pos)))).set j (oC je jg (n + 1))) := by
  refine Sp.of (by decide) (Nat.le_of_ble_eq_true rfl) ?_
  have n1 : je ≠ j := z_ne hE hO (by intro h; cases h)
  have n2 : jg ≠ j := z_ne hS hO (by intro h; cases h)
  have n3 : je ≠ jg := z_ne hE hS (by intro h; cases h)
  refine ev_aload_n 0 d_C_append_0 rfl rfl ?_
  refine ev_callV M_C_isFull [] (sp_C_isFull hO (by omega)) c_C_22 d_C_append_1 hO rfl (by decide) (Nat.le_of_ble_eq_true rfl) ⟨rfl, rfl⟩ rfl ?_
  refine ev_if_eq 8 d_C_append_4 (by decide) (fun h => ?_) (fun h => ?_)
  · refine ev_iconst (v := 4) d_C_append_8 (by decide) ?_
    refine ev_aload_n 0 d_C_append_9 rfl rfl ?_
    refine ev_get f_C_18 d_C_append_10 hO rfl ?_
    refine ev_imul d_C_append_13 ?_
    rw [z_m4]
    refine ev_istore d_C_append_14 (Nat.le_of_ble_eq_true rfl) rfl ?_
    refine ev_aload_n 0 d_C_append_16 rfl rfl ?_
    refine ev_get f_C_9 d_C_append_17 hO rfl ?_
    refine ev_iload d_C_append_20 rfl ?_
    refine ev_iload_n 1 d_C_append_22 rfl rfl ?_
    refine ev_iast d_C_append_23 hE (vp_in_nI (by omega) (by omega)) ?_
    rw [nI_clamp (by omega)]
    refine ev_aload_n 0 d_C_append_24 rfl rfl ?_
    refine ev_get f_C_9 d_C_append_25 (zs_ne (by assumption) hO) rfl ?_
    refine ev_iload d_C_append_28 rfl ?_
    refine ev_iconst (v := 1) d_C_append_30 (by decide) ?_
    refine ev_iadd d_C_append_31 ?_
    rw [nI_1]
    refine ev_iload_n 2 d_C_append_32 rfl rfl ?_
    refine ev_iast d_C_append_33 (zs_self hE) (vp_in_nI (by omega) (by omega)) ?_
    rw [nI_clamp (by omega), List.set_set]
    refine ev_aload_n 0 d_C_append_34 rfl rfl ?_
    refine ev_get f_C_9 d_C_append_35 (zs_ne n1 hO) rfl ?_
    refine ev_iload d_C_append_38 rfl ?_
    refine ev_iconst (v := 2) d_C_append_40 (by decide) ?_
    refine ev_iadd d_C_append_41 ?_
    rw [z_p2]
    refine ev_iload_n 3 d_C_append_42 rfl rfl ?_
    refine ev_iast d_C_append_43 (zs_self hE) (vp_in_nI (by omega) (by omega)) ?_
    rw [nI_clamp (by omega), List.set_set]
    refine ev_aload_n 0 d_C_append_44 rfl rfl ?_
    refine ev_get f_C_9 d_C_append_45 (zs_ne n1 hO) rfl ?_
    refine ev_iload d_C_append_48 rfl ?_
    refine ev_iconst (v := 3) d_C_append_50 (by decide) ?_
    refine ev_iadd d_C_append_51 ?_
    rw [z_p3]
    refine ev_iload d_C_append_52 rfl ?_
    refine ev_iast d_C_append_54 (zs_self hE) (vp_in_nI (by omega) (by omega)) ?_
    rw [nI_clamp (by omega), List.set_set]
    have key : Ev M_C_append none none (((w.set je (aI 32 (apE f n a b c d))).set jg (aI 8 (upd g n (sgn pos)))).set j (oC je jg (n + 1))) 73 [(0, .ref j), (1, .int a), (2, .int b), (3, .int c), (4, .int d), (5, .int (zb pos)), (6, .int (nI (4 * n)))] [.int (sgn pos), .int (nI n), .ref jg] (w.set je (aI 32 (apE f n a b c d))) 0 0 := by
      have hO1 : (w.set je (aI 32 (apE f n a b c d)))[j]? = some (oC je jg n) := zs_ne n1 hO
      have hS1 : (w.set je (aI 32 (apE f n a b c d)))[jg]? = some (aI 8 g) := zs_ne n3 hS
      refine ev_iast d_C_append_73 hS1 (vp_in_nI (by omega) (by omega)) ?_
      rw [nI_clamp (by omega)]
      refine ev_aload_n 0 d_C_append_74 rfl rfl ?_
      refine ev_dup d_C_append_75 rfl ?_
      refine ev_get f_C_18 d_C_append_76 (zs_ne (by assumption) hO1) rfl ?_
      refine ev_iconst (v := 1) d_C_append_79 (by decide) ?_
      refine ev_iadd d_C_append_80 ?_
      rw [nI_1]
      refine ev_put p_C_18 d_C_append_81 (zs_ne (by assumption) hO1) (fun _ _ => ⟨rfl, rfl⟩) (Nat.le_of_ble_eq_true rfl) ?_
      exact ev_ret d_C_append_84 rfl (Nat.le_of_ble_eq_true rfl) (Nat.le_of_ble_eq_true rfl)
    refine ev_aload_n 0 d_C_append_55 rfl rfl ?_
    refine ev_get f_C_15 d_C_append_56 (zs_ne n1 hO) rfl ?_
    refine ev_aload_n 0 d_C_append_59 rfl rfl ?_
    refine ev_get f_C_18 d_C_append_60 (zs_ne n1 hO) rfl ?_
    refine ev_iload d_C_append_63 rfl ?_
    refine ev_if_eq 72 d_C_append_65 (by decide) (fun h2 => ?_) (fun h2 => ?_)
    · have h3 : pos = false := (zb_0 _).mp h2
      subst h3
      refine ev_iconst (v := -1) d_C_append_72 (by decide) ?_
      exact key
    · have h3 : pos = true := (zb_n0 _).mp h2
      subst h3
      refine ev_iconst (v := 1) d_C_append_68 (by decide) ?_
      refine ev_goto 73 d_C_append_69 (by decide) ?_
      exact key
  · rw [decide_eq_false (by omega)] at h
    exact absurd rfl h
theorem sp_C_remove_no (hO : w[j]? = some (oC je jg n)) {x : Int32} (hx : ¬ (¬ x < 0 ∧ x < nI n)) : Sp M_C_remove [.ref j, .int x] w none w := by
  refine Sp.of (by decide) (Nat.le_of_ble_eq_true rfl) ?_
  refine ev_aload_n 0 d_C_remove_0 rfl rfl ?_
  refine ev_iload_n 1 d_C_remove_1 rfl rfl ?_
  refine ev_callV M_C_has [_] (sp_C_has hO x) c_C_26 d_C_remove_2 hO rfl (by decide) (Nat.le_of_ble_eq_true rfl) ⟨rfl, rfl⟩ rfl ?_
  rw [decide_eq_false hx]
  refine ev_if_ne 9 d_C_remove_5 (by decide) (fun h => ?_) (fun h => ?_)
  · exact absurd rfl h
  · exact ev_ret d_C_remove_8 rfl (Nat.le_of_ble_eq_true rfl) (Nat.le_of_ble_eq_true rfl)
theorem sp_C_remove (hO : w[j]? = some (oC je jg n)) (hE : w[je]? = some (aI 32 f)) (hS : w[jg]? = some (aI 8 g)) (hn : n ≤ 8) {k : Nat} (hk : k < n) : Sp M_C_remove [.ref j, .int (nI k)] w none (((w.set je (aI 32 (rmE f n k))).set jg (aI 8 (rmS g n k))).set j (oC je jg (n - 1))) := by
  refine Sp.of (by decide) (Nat.le_of_ble_eq_true rfl) ?_
  have n1 : je ≠ j := z_ne hE hO (by intro h; cases h)
  have n2 : jg ≠ j := z_ne hS hO (by intro h; cases h)
  have n3 : je ≠ jg := z_ne hE hS (by intro h; cases h)
  refine ev_aload_n 0 d_C_remove_0 rfl rfl ?_
  refine ev_iload_n 1 d_C_remove_1 rfl rfl ?_
  refine ev_callV M_C_has [_] (sp_C_has hO (nI k)) c_C_26 d_C_remove_2 hO rfl (by decide) (Nat.le_of_ble_eq_true rfl) ⟨rfl, rfl⟩ rfl ?_
  rw [decide_eq_true ⟨nI_pos (by omega), nI_lt hk (by omega)⟩]
  refine ev_if_ne 9 d_C_remove_5 (by decide) (fun h => ?_) (fun h => ?_)
  · refine ev_aload_n 0 d_C_remove_9 rfl rfl ?_
    refine ev_get f_C_18 d_C_remove_10 hO rfl ?_
    refine ev_iload_n 1 d_C_remove_13 rfl rfl ?_
    refine ev_isub d_C_remove_14 ?_
    refine ev_iconst (v := 1) d_C_remove_15 (by decide) ?_
    refine ev_isub d_C_remove_16 ?_
    have e1 : nI n - nI k - 1 = nI (n - k - 1) := by
      rw [pk_sub (by omega), show n - k = n - k - 1 + 1 by omega, nI_pred]
      rfl
    rw [e1]
    refine ev_istore_n 2 d_C_remove_17 rfl (Nat.le_of_ble_eq_true rfl) rfl ?_
    refine ev_aload_n 0 d_C_remove_18 rfl rfl ?_
    refine ev_get f_C_9 d_C_remove_19 hO rfl ?_
    refine ev_iconst (v := 4) d_C_remove_22 (by decide) ?_
    refine ev_iload_n 1 d_C_remove_23 rfl rfl ?_
    refine ev_imul d_C_remove_24 ?_
    rw [z_m4]
    refine ev_iconst (v := 4) d_C_remove_25 (by decide) ?_
    refine ev_iadd d_C_remove_26 ?_
    rw [z_p4]
    refine ev_aload_n 0 d_C_remove_27 rfl rfl ?_
    refine ev_get f_C_9 d_C_remove_28 hO rfl ?_
    refine ev_iconst (v := 4) d_C_remove_31 (by decide) ?_
    refine ev_iload_n 1 d_C_remove_32 rfl rfl ?_
    refine ev_imul d_C_remove_33 ?_
    rw [z_m4]
    refine ev_iconst (v := 4) d_C_remove_34 (by decide) ?_
    refine ev_iload_n 2 d_C_remove_35 rfl rfl ?_
    refine ev_imul d_C_remove_36 ?_
    rw [z_m4]
    refine ev_copyi c_C_30 wc_n wc_s wc_i d_C_remove_37 hE hE (nI_pos (by omega)) (nI_pos (by omega)) (nI_pos (by omega)) (by rw [nI_clamp (by omega), nI_clamp (by omega)]; omega) (by rw [nI_clamp (by omega), nI_clamp (by omega)]; omega) (by decide) (by decide) ?_
    rw [nI_clamp (by omega), nI_clamp (by omega), nI_clamp (by omega)]
    have hO1 : (w.set je (aI 32 (rmE f n k)))[j]? = some (oC je jg n) := zs_ne n1 hO
    have hS1 : (w.set je (aI 32 (rmE f n k)))[jg]? = some (aI 8 g) := zs_ne n3 hS
    show Ev _ _ _ _ _ _ _ (w.set je (aI 32 (rmE f n k))) _ _
    refine ev_aload_n 0 d_C_remove_40 rfl rfl ?_
    refine ev_get f_C_15 d_C_remove_41 hO1 rfl ?_
    refine ev_iload_n 1 d_C_remove_44 rfl rfl ?_
    refine ev_iconst (v := 1) d_C_remove_45 (by decide) ?_
    refine ev_iadd d_C_remove_46 ?_
    rw [nI_1]
    refine ev_aload_n 0 d_C_remove_47 rfl rfl ?_
    refine ev_get f_C_15 d_C_remove_48 hO1 rfl ?_
    refine ev_iload_n 1 d_C_remove_51 rfl rfl ?_
    refine ev_iload_n 2 d_C_remove_52 rfl rfl ?_
    refine ev_copyi c_C_30 wc_n wc_s wc_i d_C_remove_53 hS1 hS1 (nI_pos (by omega)) (nI_pos (by omega)) (nI_pos (by omega)) (by rw [nI_clamp (by omega), nI_clamp (by omega)]; omega) (by rw [nI_clamp (by omega), nI_clamp (by omega)]; omega) (by decide) (by decide) ?_
    rw [nI_clamp (by omega), nI_clamp (by omega), nI_clamp (by omega)]
    have hO2 : ((w.set je (aI 32 (rmE f n k))).set jg (aI 8 (rmS g n k)))[j]? = some (oC je jg n) := zs_ne n2 hO1
    show Ev _ _ _ _ _ _ _ ((w.set je (aI 32 (rmE f n k))).set jg (aI 8 (rmS g n k))) _ _
    refine ev_aload_n 0 d_C_remove_56 rfl rfl ?_
    refine ev_dup d_C_remove_57 rfl ?_
    refine ev_get f_C_18 d_C_remove_58 hO2 rfl ?_
    refine ev_iconst (v := 1) d_C_remove_61 (by decide) ?_
    refine ev_isub d_C_remove_62 ?_
    have e2 : nI n - 1 = nI (n - 1) := by
      rw [show n = n - 1 + 1 by omega, nI_pred]
      rfl
    rw [e2]
    refine ev_put p_C_18 d_C_remove_63 hO2 (fun _ _ => ⟨rfl, rfl⟩) (Nat.le_of_ble_eq_true rfl) ?_
    exact ev_ret d_C_remove_66 rfl (Nat.le_of_ble_eq_true rfl) (Nat.le_of_ble_eq_true rfl)
  · exact absurd h (by decide)
theorem sp_C_copyFrom {k ke kg m : Nat} {f2 g2 : Nat → Int32} (hO : w[j]? = some (oC je jg n)) (hE : w[je]? = some (aI 32 f)) (hS : w[jg]? = some (aI 8 g)) (hO2 : w[k]? = some (oC ke kg m)) (hE2 : w[ke]? = some (aI 32 f2)) (hS2 : w[kg]? = some (aI 8 g2)) : Sp M_C_copyFrom [.ref j, .ref k] w none (((w.set je (aI 32 (va_cpy f2 f 0 0 32))).set jg (aI 8 (va_cpy g2 g 0 0 8))).set j (oC je jg m)) := by
  refine Sp.of (by decide) (Nat.le_of_ble_eq_true rfl) ?_
  have n1 : je ≠ j := z_ne hE hO (by intro h; cases h)
  have n2 : jg ≠ j := z_ne hS hO (by intro h; cases h)
  have n3 : je ≠ jg := z_ne hE hS (by intro h; cases h)
  have n4 : je ≠ k := z_ne hE hO2 (by intro h; cases h)
  have n5 : jg ≠ k := z_ne hS hO2 (by intro h; cases h)
  have n6 : je ≠ kg := z_ne hE hS2 (by intro h; cases h)
  refine ev_aload_n 1 d_C_copyFrom_0 rfl rfl ?_
  refine ev_get f_C_9 d_C_copyFrom_1 hO2 rfl ?_
  refine ev_iconst (v := 0) d_C_copyFrom_4 (by decide) ?_
  refine ev_aload_n 0 d_C_copyFrom_5 rfl rfl ?_
  refine ev_get f_C_9 d_C_copyFrom_6 hO rfl ?_
  refine ev_iconst (v := 0) d_C_copyFrom_9 (by decide) ?_
  refine ev_bipush (v := 32) d_C_copyFrom_10 (by decide) ?_
  refine ev_copyi c_C_30 wc_n wc_s wc_i d_C_copyFrom_12 hE2 hE (by decide) (by decide) (by decide) (by decide) (by decide) (by decide) (by decide) ?_
  have hO' := zs_ne (c := aI 32 (va_cpy f2 f 0 0 32)) n1 hO
  have hOo := zs_ne (c := aI 32 (va_cpy f2 f 0 0 32)) n4 hO2
  have hS' := zs_ne (c := aI 32 (va_cpy f2 f 0 0 32)) n3 hS
  have hSo := zs_ne (c := aI 32 (va_cpy f2 f 0 0 32)) n6 hS2
  show Ev _ _ _ _ _ _ _ (w.set je (aI 32 (va_cpy f2 f 0 0 32))) _ _
  refine ev_aload_n 1 d_C_copyFrom_15 rfl rfl ?_
  refine ev_get f_C_15 d_C_copyFrom_16 hOo rfl ?_
  refine ev_iconst (v := 0) d_C_copyFrom_19 (by decide) ?_
  refine ev_aload_n 0 d_C_copyFrom_20 rfl rfl ?_
  refine ev_get f_C_15 d_C_copyFrom_21 hO' rfl ?_
  refine ev_iconst (v := 0) d_C_copyFrom_24 (by decide) ?_
  refine ev_bipush (v := 8) d_C_copyFrom_25 (by decide) ?_
  refine ev_copyi c_C_30 wc_n wc_s wc_i d_C_copyFrom_27 hSo hS' (by decide) (by decide) (by decide) (by decide) (by decide) (by decide) (by decide) ?_
  have hO3 := zs_ne (c := aI 8 (va_cpy g2 g 0 0 8)) n2 hO'
  have hO4 := zs_ne (c := aI 8 (va_cpy g2 g 0 0 8)) n5 hOo
  show Ev _ _ _ _ _ _ _ ((w.set je (aI 32 (va_cpy f2 f 0 0 32))).set jg (aI 8 (va_cpy g2 g 0 0 8))) _ _
  refine ev_aload_n 0 d_C_copyFrom_30 rfl rfl ?_
  refine ev_aload_n 1 d_C_copyFrom_31 rfl rfl ?_
  refine ev_get f_C_18 d_C_copyFrom_32 hO4 rfl ?_
  refine ev_put p_C_18 d_C_copyFrom_35 hO3 (fun _ _ => ⟨rfl, rfl⟩) (Nat.le_of_ble_eq_true rfl) ?_
  exact ev_ret d_C_copyFrom_38 rfl (Nat.le_of_ble_eq_true rfl) (Nat.le_of_ble_eq_true rfl)
end Cr
-- Arrays.fill
theorem lp_F_fillI {ja N : Nat} (hN : N < 2 ^ 31) (v : Int32) : ∀ k i (w : zW) (h : Nat → Int32), i + k = N → w[ja]? = some (aI N h) → Ev M_F_fillI none none (w.set ja (aI N (fun t => if i ≤ t ∧ t < N then v else h t))) 5 [(0, .ref ja), (1, .int v), (2, .int (nI i)), (3, .int (nI N))] [] w 0 0 := by
  intro k
  induction k with
  | zero =>
    intro i w h hi hA
    have e1 : (fun t => if i ≤ t ∧ t < N then v else h t) = h := by
      funext t
      rw [if_neg (by omega)]
    rw [e1, z_set_self hA]
    refine ev_iload_n 2 d_F_fillI_5 rfl rfl ?_
    refine ev_iload_n 3 d_F_fillI_6 rfl rfl ?_
    refine ev_icmp_ge 20 d_F_fillI_7 (by decide) (fun h1 => ?_) (fun h1 => ?_)
    · exact ev_ret d_F_fillI_20 rfl (Nat.le_of_ble_eq_true rfl) (Nat.le_of_ble_eq_true rfl)
    · exact absurd (nI_le (by omega) (by omega)) h1
  | succ k ih =>
    intro i w h hi hA
    refine ev_iload_n 2 d_F_fillI_5 rfl rfl ?_
    refine ev_iload_n 3 d_F_fillI_6 rfl rfl ?_
    refine ev_icmp_ge 20 d_F_fillI_7 (by decide) (fun h1 => ?_) (fun h1 => ?_)
    · exact absurd h1 (nI_ge (by omega) (by omega))
    · refine ev_aload_n 0 d_F_fillI_10 rfl rfl ?_
      refine ev_iload_n 2 d_F_fillI_11 rfl rfl ?_
      refine ev_iload_n 1 d_F_fillI_12 rfl rfl ?_
      refine ev_iast d_F_fillI_13 hA (vp_in_nI (by omega) (by omega)) ?_
      refine ev_iinc (v := _ + 1) d_F_fillI_14 rfl rfl (Nat.le_of_ble_eq_true rfl) rfl ?_
      rw [nI_clamp (by omega), nI_1]
      refine ev_goto 5 d_F_fillI_17 (by decide) ?_
      have h4 := ih (i + 1) (w.set ja (aI N (upd h i v))) (upd h i v) (by omega) (zs_self hA)
      rw [List.set_set] at h4
      have e1 : (fun t => if i + 1 ≤ t ∧ t < N then v else upd h i v t) = (fun t => if i ≤ t ∧ t < N then v else h t) := by
        funext t
        by_cases h5 : t = i
        · subst h5
          rw [if_neg (by omega), if_pos (by omega)]
          exact pk_us
        · rw [pk_un h5]
          by_cases h6 : i + 1 ≤ t ∧ t < N
          · rw [if_pos h6, if_pos (by omega)]
          · rw [if_neg h6, if_neg (by omega)]
      rw [e1] at h4
      exact h4
theorem sp_F_fillI {w : zW} {ja N : Nat} {h : Nat → Int32} (hN : N < 2 ^ 31) (hA : w[ja]? = some (aI N h)) (v : Int32) : Sp M_F_fillI [.ref ja, .int v] w none (w.set ja (aI N (fun t => if t < N then v else h t))) := by
  refine Sp.of (by decide) (Nat.le_of_ble_eq_true rfl) ?_
  refine ev_iconst (v := 0) d_F_fillI_0 (by decide) ?_
  refine ev_istore_n 2 d_F_fillI_1 rfl (Nat.le_of_ble_eq_true rfl) rfl ?_
  refine ev_aload_n 0 d_F_fillI_2 rfl rfl ?_
  refine ev_alen d_F_fillI_3 hA rfl ?_
  refine ev_istore_n 3 d_F_fillI_4 rfl (Nat.le_of_ble_eq_true rfl) rfl ?_
  have h1 := lp_F_fillI hN v N 0 w h (by omega) hA
  have e1 : (fun t => if 0 ≤ t ∧ t < N then v else h t) = (fun t => if t < N then v else h t) := by
    funext t
    congr 1
    simp
  rw [e1] at h1
  exact h1
theorem lp_F_fillL {ja N : Nat} (hN : N < 2 ^ 31) (v : Int64) : ∀ k i (w : zW) (h : Nat → Int64), i + k = N → w[ja]? = some (aL N h) → Ev M_F_fillL none none (w.set ja (aL N (fun t => if i ≤ t ∧ t < N then v else h t))) 6 [(0, .ref ja), (1, .long v), (3, .int (nI i)), (4, .int (nI N))] [] w 0 0 := by
  intro k
  induction k with
  | zero =>
    intro i w h hi hA
    have e1 : (fun t => if i ≤ t ∧ t < N then v else h t) = h := by
      funext t
      rw [if_neg (by omega)]
    rw [e1, z_set_self hA]
    refine ev_iload_n 3 d_F_fillL_6 rfl rfl ?_
    refine ev_iload d_F_fillL_7 rfl ?_
    refine ev_icmp_ge 22 d_F_fillL_9 (by decide) (fun h1 => ?_) (fun h1 => ?_)
    · exact ev_ret d_F_fillL_22 rfl (Nat.le_of_ble_eq_true rfl) (Nat.le_of_ble_eq_true rfl)
    · exact absurd (nI_le (by omega) (by omega)) h1
  | succ k ih =>
    intro i w h hi hA
    refine ev_iload_n 3 d_F_fillL_6 rfl rfl ?_
    refine ev_iload d_F_fillL_7 rfl ?_
    refine ev_icmp_ge 22 d_F_fillL_9 (by decide) (fun h1 => ?_) (fun h1 => ?_)
    · exact absurd h1 (nI_ge (by omega) (by omega))
    · refine ev_aload_n 0 d_F_fillL_12 rfl rfl ?_
      refine ev_iload_n 3 d_F_fillL_13 rfl rfl ?_
      refine ev_lload_n 1 d_F_fillL_14 rfl rfl ?_
      refine ev_last d_F_fillL_15 hA (vp_in_nI (by omega) (by omega)) ?_
      refine ev_iinc (v := _ + 1) d_F_fillL_16 rfl rfl (Nat.le_of_ble_eq_true rfl) rfl ?_
      rw [nI_clamp (by omega), nI_1]
      refine ev_goto 6 d_F_fillL_19 (by decide) ?_
      have h4 := ih (i + 1) (w.set ja (aL N (vp_updL h i v))) (vp_updL h i v) (by omega) (zs_self hA)
      rw [List.set_set] at h4
      have e1 : (fun t => if i + 1 ≤ t ∧ t < N then v else vp_updL h i v t) = (fun t => if i ≤ t ∧ t < N then v else h t) := by
        funext t
        by_cases h5 : t = i
        · subst h5
          rw [if_neg (by omega), if_pos (by omega)]
          exact pk_uLs
        · rw [pk_uLn h5]
          by_cases h6 : i + 1 ≤ t ∧ t < N
          · rw [if_pos h6, if_pos (by omega)]
          · rw [if_neg h6, if_neg (by omega)]
      rw [e1] at h4
      exact h4
theorem sp_F_fillL {w : zW} {ja N : Nat} {h : Nat → Int64} (hN : N < 2 ^ 31) (hA : w[ja]? = some (aL N h)) (v : Int64) : Sp M_F_fillL [.ref ja, .long v] w none (w.set ja (aL N (fun t => if t < N then v else h t))) := by
  refine Sp.of (by decide) (Nat.le_of_ble_eq_true rfl) ?_
  refine ev_iconst (v := 0) d_F_fillL_0 (by decide) ?_
  refine ev_istore_n 3 d_F_fillL_1 rfl (Nat.le_of_ble_eq_true rfl) rfl ?_
  refine ev_aload_n 0 d_F_fillL_2 rfl rfl ?_
  refine ev_alen d_F_fillL_3 hA rfl ?_
  refine ev_istore d_F_fillL_4 (Nat.le_of_ble_eq_true rfl) rfl ?_
  have h1 := lp_F_fillL hN v N 0 w h (by omega) hA
  have e1 : (fun t => if 0 ≤ t ∧ t < N then v else h t) = (fun t => if t < N then v else h t) := by
    funext t
    congr 1
    simp
  rw [e1] at h1
  exact h1
