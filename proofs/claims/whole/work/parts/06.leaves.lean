def zb (b : Bool) : Int32 := match b with
  | true => 1
  | false => 0
theorem zb_r (b : Bool) : narrow .boolean (.int (zb b)) = .int (zb b) := by cases b <;> decide
theorem zb_0 (b : Bool) : zb b = 0 ↔ b = false := by cases b <;> decide
theorem zb_n0 (b : Bool) : ¬ zb b = 0 ↔ b = true := by cases b <;> decide
theorem zb_eq (a b : Bool) : zb a = zb b ↔ a = b := by cases a <;> cases b <;> decide
theorem zr0 : narrow .boolean (.int 0) = .int 0 := by decide
theorem zr1 : narrow .boolean (.int 1) = .int 1 := by decide
theorem z_ne {w : zW} {i j : Nat} {a b : zE} (h1 : w[i]? = some a) (h2 : w[j]? = some b) (hab : a ≠ b) : i ≠ j := by
  intro h
  subst h
  exact hab (Option.some.inj (h1.symm.trans h2))
theorem z_shr2 {e : Nat} (h : e < 2 ^ 31) : nI e >>> ((2 : Int32) &&& 31) = nI (e / 4) := pk_shrN h _ 2 (by decide)
theorem z_and1 {e : Nat} (h : e < 2 ^ 31) : nI e &&& 1 = nI (e % 2) := pk_andN (Nat.lt_of_lt_of_le h (by decide)) 1 (by decide)
theorem z_and3 {e : Nat} (h : e < 2 ^ 31) : nI e &&& 3 = nI (e % 4) := pk_andN (Nat.lt_of_lt_of_le h (by decide)) 2 (by decide)
theorem z_n1 {e : Nat} (h : e < 2 ^ 31) : nI e = 1 ↔ e = 1 := nI_eq (b := 1) h (by decide)
theorem z_n3 {e : Nat} (h : e < 2 ^ 31) : nI e = 3 ↔ e = 3 := nI_eq (b := 3) h (by decide)
theorem z_nz {e : Nat} (h : e < 2 ^ 31) : nI e = 0 ↔ e = 0 := nI_eq (b := 0) h (by decide)
theorem z_m4 (n : Nat) : (4 : Int32) * nI n = nI (4 * n) := pk_mul 4 n
theorem z_opp : ∀ e, e < 32 → nI e ^^^ 2 = nI (e / 4 * 4 + (e + 2) % 4) := by decide +kernel
theorem z_turn (k : Nat) (hk : k < 4) : ∀ e, e < 32 → (nI e &&& (-4)) ||| ((nI e + nI k) &&& 3) = nI (e / 4 * 4 + (e + k) % 4) := by
  match k, hk with
  | 0, _ => decide +kernel
  | 1, _ => decide +kernel
  | 2, _ => decide +kernel
  | 3, _ => decide +kernel
-- the statics of the class
theorem sp_A_crossingOf (w : zW) {e : Nat} (he : e < 2 ^ 31) : Sp M_A_crossingOf [.int (nI e)] w (some (.int (nI (e / 4)))) w := by
  refine Sp.of (by decide) (Nat.le_of_ble_eq_true rfl) ?_
  refine ev_iload_n 0 d_A_crossingOf_0 rfl rfl ?_
  refine ev_iconst (v := 2) d_A_crossingOf_1 (by decide) ?_
  refine ev_ishr d_A_crossingOf_2 ?_
  rw [z_shr2 he]
  exact ev_iret d_A_crossingOf_3 rfl rfl (Nat.le_of_ble_eq_true rfl) (Nat.le_of_ble_eq_true rfl)
theorem sp_A_isUpper (w : zW) {e : Nat} (he : e < 2 ^ 31) : Sp M_A_isUpper [.int (nI e)] w (some (.int (zb (e % 2 == 1)))) w := by
  refine Sp.of (by decide) (Nat.le_of_ble_eq_true rfl) ?_
  refine ev_iload_n 0 d_A_isUpper_0 rfl rfl ?_
  refine ev_iconst (v := 1) d_A_isUpper_1 (by decide) ?_
  refine ev_iand d_A_isUpper_2 ?_
  rw [z_and1 he]
  refine ev_iconst (v := 1) d_A_isUpper_3 (by decide) ?_
  refine ev_icmp_ne 11 d_A_isUpper_4 (by decide) (fun h => ?_) (fun h => ?_)
  · have h1 : (e % 2 == 1) = false := by
      have := mt (z_n1 (e := e % 2) (by omega)).mpr h
      simpa using this
    rw [h1]
    refine ev_iconst (v := 0) d_A_isUpper_11 (by decide) ?_
    exact ev_iret d_A_isUpper_12 rfl zr0 (Nat.le_of_ble_eq_true rfl) (Nat.le_of_ble_eq_true rfl)
  · have h1 : (e % 2 == 1) = true := by
      have := (z_n1 (e := e % 2) (by omega)).mp h
      simpa using this
    rw [h1]
    refine ev_iconst (v := 1) d_A_isUpper_7 (by decide) ?_
    refine ev_goto 12 d_A_isUpper_8 (by decide) ?_
    exact ev_iret d_A_isUpper_12 rfl zr1 (Nat.le_of_ble_eq_true rfl) (Nat.le_of_ble_eq_true rfl)
theorem sp_A_opposite (w : zW) {e : Nat} (he : e < 32) : Sp M_A_opposite [.int (nI e)] w (some (.int (nI (e / 4 * 4 + (e + 2) % 4)))) w := by
  refine Sp.of (by decide) (Nat.le_of_ble_eq_true rfl) ?_
  refine ev_iload_n 0 d_A_opposite_0 rfl rfl ?_
  refine ev_iconst (v := 2) d_A_opposite_1 (by decide) ?_
  refine ev_ixor d_A_opposite_2 ?_
  rw [z_opp e he]
  exact ev_iret d_A_opposite_3 rfl rfl (Nat.le_of_ble_eq_true rfl) (Nat.le_of_ble_eq_true rfl)
theorem sp_A_turned (w : zW) {e k : Nat} (he : e < 32) (hk : k < 4) : Sp M_A_turned [.int (nI e), .int (nI k)] w (some (.int (nI (e / 4 * 4 + (e + k) % 4)))) w := by
  refine Sp.of (by decide) (Nat.le_of_ble_eq_true rfl) ?_
  refine ev_iload_n 0 d_A_turned_0 rfl rfl ?_
  refine ev_bipush (v := -4) d_A_turned_1 (by decide) ?_
  refine ev_iand d_A_turned_3 ?_
  refine ev_iload_n 0 d_A_turned_4 rfl rfl ?_
  refine ev_iload_n 1 d_A_turned_5 rfl rfl ?_
  refine ev_iadd d_A_turned_6 ?_
  refine ev_iconst (v := 3) d_A_turned_7 (by decide) ?_
  refine ev_iand d_A_turned_8 ?_
  refine ev_ior d_A_turned_9 ?_
  rw [z_turn k hk e he]
  exact ev_iret d_A_turned_10 rfl rfl (Nat.le_of_ble_eq_true rfl) (Nat.le_of_ble_eq_true rfl)
theorem sp_A_isEdge (w : zW) (x : Int32) : Sp M_A_isEdge [.int x] w (some (.int (zb (decide (1 ≤ x ∧ x ≤ 32))))) w := by
  refine Sp.of (by decide) (Nat.le_of_ble_eq_true rfl) ?_
  refine ev_iload_n 0 d_A_isEdge_0 rfl rfl ?_
  refine ev_iconst (v := 1) d_A_isEdge_1 (by decide) ?_
  refine ev_icmp_lt 15 d_A_isEdge_2 (by decide) (fun h => ?_) (fun h => ?_)
  · have h1 : decide (1 ≤ x ∧ x ≤ 32) = false := by
      apply decide_eq_false
      intro ⟨a, _⟩
      exact absurd a (by rw [Int32.le_iff_toInt_le]; rw [Int32.lt_iff_toInt_lt] at h; omega)
    rw [h1]
    refine ev_iconst (v := 0) d_A_isEdge_15 (by decide) ?_
    exact ev_iret d_A_isEdge_16 rfl zr0 (Nat.le_of_ble_eq_true rfl) (Nat.le_of_ble_eq_true rfl)
  · refine ev_iload_n 0 d_A_isEdge_5 rfl rfl ?_
    refine ev_bipush (v := 32) d_A_isEdge_6 (by decide) ?_
    refine ev_icmp_gt 15 d_A_isEdge_8 (by decide) (fun h2 => ?_) (fun h2 => ?_)
    · have h1 : decide (1 ≤ x ∧ x ≤ 32) = false := by
        apply decide_eq_false
        intro ⟨_, a⟩
        exact absurd a (by rw [Int32.le_iff_toInt_le]; rw [Int32.lt_iff_toInt_lt] at h2; omega)
      rw [h1]
      refine ev_iconst (v := 0) d_A_isEdge_15 (by decide) ?_
      exact ev_iret d_A_isEdge_16 rfl zr0 (Nat.le_of_ble_eq_true rfl) (Nat.le_of_ble_eq_true rfl)
    · have h1 : decide (1 ≤ x ∧ x ≤ 32) = true := by
        apply decide_eq_true
        rw [Int32.lt_iff_toInt_lt] at h h2
        rw [Int32.le_iff_toInt_le, Int32.le_iff_toInt_le]
        omega
      rw [h1]
      refine ev_iconst (v := 1) d_A_isEdge_11 (by decide) ?_
      refine ev_goto 16 d_A_isEdge_12 (by decide) ?_
      exact ev_iret d_A_isEdge_16 rfl zr1 (Nat.le_of_ble_eq_true rfl) (Nat.le_of_ble_eq_true rfl)
section Cr
variable {w : zW} {j je jg n : Nat} {f g : Nat → Int32}
theorem sp_C_size (hO : w[j]? = some (.inr (2, [.ref je, .ref jg, .int (nI n)]))) : Sp M_C_size [.ref j] w (some (.int (nI n))) w := by
  refine Sp.of (by decide) (Nat.le_of_ble_eq_true rfl) ?_
  refine ev_aload_n 0 d_C_size_0 rfl rfl ?_
  refine ev_get f_C_18 d_C_size_1 hO rfl ?_
  exact ev_iret d_C_size_4 rfl rfl (Nat.le_of_ble_eq_true rfl) (Nat.le_of_ble_eq_true rfl)
theorem sp_C_ends (hO : w[j]? = some (.inr (2, [.ref je, .ref jg, .int (nI n)]))) : Sp M_C_ends [.ref j] w (some (.int (nI (4 * n)))) w := by
  refine Sp.of (by decide) (Nat.le_of_ble_eq_true rfl) ?_
  refine ev_iconst (v := 4) d_C_ends_0 (by decide) ?_
  refine ev_aload_n 0 d_C_ends_1 rfl rfl ?_
  refine ev_get f_C_18 d_C_ends_2 hO rfl ?_
  refine ev_imul d_C_ends_5 ?_
  rw [z_m4]
  exact ev_iret d_C_ends_6 rfl rfl (Nat.le_of_ble_eq_true rfl) (Nat.le_of_ble_eq_true rfl)
theorem sp_C_isFull (hO : w[j]? = some (.inr (2, [.ref je, .ref jg, .int (nI n)]))) (hn : n ≤ 8) : Sp M_C_isFull [.ref j] w (some (.int (zb (decide (8 ≤ n))))) w := by
  refine Sp.of (by decide) (Nat.le_of_ble_eq_true rfl) ?_
  refine ev_aload_n 0 d_C_isFull_0 rfl rfl ?_
  refine ev_get f_C_18 d_C_isFull_1 hO rfl ?_
  refine ev_bipush (v := 8) d_C_isFull_4 (by decide) ?_
  refine ev_icmp_lt 13 d_C_isFull_6 (by decide) (fun h => ?_) (fun h => ?_)
  · have h1 : n < 8 := (nI_ltI (b := 8) (by omega) (by decide)).mp h
    rw [decide_eq_false (by omega)]
    refine ev_iconst (v := 0) d_C_isFull_13 (by decide) ?_
    exact ev_iret d_C_isFull_14 rfl zr0 (Nat.le_of_ble_eq_true rfl) (Nat.le_of_ble_eq_true rfl)
  · have h1 : ¬ n < 8 := fun q => h ((nI_ltI (b := 8) (by omega) (by decide)).mpr q)
    rw [decide_eq_true (by omega)]
    refine ev_iconst (v := 1) d_C_isFull_9 (by decide) ?_
    refine ev_goto 14 d_C_isFull_10 (by decide) ?_
    exact ev_iret d_C_isFull_14 rfl zr1 (Nat.le_of_ble_eq_true rfl) (Nat.le_of_ble_eq_true rfl)
theorem sp_C_has (hO : w[j]? = some (.inr (2, [.ref je, .ref jg, .int (nI n)]))) (x : Int32) : Sp M_C_has [.ref j, .int x] w (some (.int (zb (decide (¬ x < 0 ∧ x < nI n))))) w := by
  refine Sp.of (by decide) (Nat.le_of_ble_eq_true rfl) ?_
  refine ev_iload_n 1 d_C_has_0 rfl rfl ?_
  refine ev_if_lt 16 d_C_has_1 (by decide) (fun h => ?_) (fun h => ?_)
  · rw [decide_eq_false (fun q => q.1 h)]
    refine ev_iconst (v := 0) d_C_has_16 (by decide) ?_
    exact ev_iret d_C_has_17 rfl zr0 (Nat.le_of_ble_eq_true rfl) (Nat.le_of_ble_eq_true rfl)
  · refine ev_iload_n 1 d_C_has_4 rfl rfl ?_
    refine ev_aload_n 0 d_C_has_5 rfl rfl ?_
    refine ev_get f_C_18 d_C_has_6 hO rfl ?_
    refine ev_icmp_ge 16 d_C_has_9 (by decide) (fun h2 => ?_) (fun h2 => ?_)
    · rw [decide_eq_false (fun q => absurd q.2 (by rw [Int32.lt_iff_toInt_lt]; rw [Int32.le_iff_toInt_le] at h2; omega))]
      refine ev_iconst (v := 0) d_C_has_16 (by decide) ?_
      exact ev_iret d_C_has_17 rfl zr0 (Nat.le_of_ble_eq_true rfl) (Nat.le_of_ble_eq_true rfl)
    · rw [decide_eq_true ⟨h, by rw [Int32.lt_iff_toInt_lt]; rw [Int32.le_iff_toInt_le] at h2; omega⟩]
      refine ev_iconst (v := 1) d_C_has_12 (by decide) ?_
      refine ev_goto 17 d_C_has_13 (by decide) ?_
      exact ev_iret d_C_has_17 rfl zr1 (Nat.le_of_ble_eq_true rfl) (Nat.le_of_ble_eq_true rfl)
theorem sp_C_edgeAt (hO : w[j]? = some (.inr (2, [.ref je, .ref jg, .int (nI n)]))) (hE : w[je]? = some (.inl (.int, 32, .inl f))) {e : Nat} (he : e < 32) : Sp M_C_edgeAt [.ref j, .int (nI e)] w (some (.int (f e))) w := by
  refine Sp.of (by decide) (Nat.le_of_ble_eq_true rfl) ?_
  refine ev_aload_n 0 d_C_edgeAt_0 rfl rfl ?_
  refine ev_get f_C_9 d_C_edgeAt_1 hO rfl ?_
  refine ev_iload_n 1 d_C_edgeAt_4 rfl rfl ?_
  refine ev_iald d_C_edgeAt_5 hE (vp_in_nI (by omega) (by omega)) ?_
  rw [nI_clamp (by omega)]
  exact ev_iret d_C_edgeAt_6 rfl rfl (Nat.le_of_ble_eq_true rfl) (Nat.le_of_ble_eq_true rfl)
theorem sp_C_setEdge (hO : w[j]? = some (.inr (2, [.ref je, .ref jg, .int (nI n)]))) (hE : w[je]? = some (.inl (.int, 32, .inl f))) {e : Nat} (he : e < 32) (x : Int32) : Sp M_C_setEdge [.ref j, .int (nI e), .int x] w none (w.set je (.inl (.int, 32, .inl (upd f e x)))) := by
  refine Sp.of (by decide) (Nat.le_of_ble_eq_true rfl) ?_
  refine ev_aload_n 0 d_C_setEdge_0 rfl rfl ?_
  refine ev_get f_C_9 d_C_setEdge_1 hO rfl ?_
  refine ev_iload_n 1 d_C_setEdge_4 rfl rfl ?_
  refine ev_iload_n 2 d_C_setEdge_5 rfl rfl ?_
  refine ev_iast d_C_setEdge_6 hE (vp_in_nI (by omega) (by omega)) ?_
  rw [nI_clamp (by omega)]
  exact ev_ret d_C_setEdge_7 rfl (Nat.le_of_ble_eq_true rfl) (Nat.le_of_ble_eq_true rfl)
theorem sp_C_isPositive (hO : w[j]? = some (.inr (2, [.ref je, .ref jg, .int (nI n)]))) (hS : w[jg]? = some (.inl (.int, 8, .inl g))) {x : Nat} (hx : x < 8) : Sp M_C_isPositive [.ref j, .int (nI x)] w (some (.int (zb (decide (0 < g x))))) w := by
  refine Sp.of (by decide) (Nat.le_of_ble_eq_true rfl) ?_
  refine ev_aload_n 0 d_C_isPositive_0 rfl rfl ?_
  refine ev_get f_C_15 d_C_isPositive_1 hO rfl ?_
  refine ev_iload_n 1 d_C_isPositive_4 rfl rfl ?_
  refine ev_iald d_C_isPositive_5 hS (vp_in_nI (by omega) (by omega)) ?_
  rw [nI_clamp (by omega)]
  refine ev_if_le 13 d_C_isPositive_6 (by decide) (fun h => ?_) (fun h => ?_)
  · rw [decide_eq_false (fun q => absurd q (by rw [Int32.lt_iff_toInt_lt]; rw [Int32.le_iff_toInt_le] at h; omega))]
    refine ev_iconst (v := 0) d_C_isPositive_13 (by decide) ?_
    exact ev_iret d_C_isPositive_14 rfl zr0 (Nat.le_of_ble_eq_true rfl) (Nat.le_of_ble_eq_true rfl)
  · rw [decide_eq_true (show 0 < g x by rw [Int32.lt_iff_toInt_lt]; rw [Int32.le_iff_toInt_le] at h; omega)]
    refine ev_iconst (v := 1) d_C_isPositive_9 (by decide) ?_
    refine ev_goto 14 d_C_isPositive_10 (by decide) ?_
    exact ev_iret d_C_isPositive_14 rfl zr1 (Nat.le_of_ble_eq_true rfl) (Nat.le_of_ble_eq_true rfl)
theorem sp_C_clear (hO : w[j]? = some (.inr (2, [.ref je, .ref jg, .int (nI n)]))) : Sp M_C_clear [.ref j] w none (w.set j (.inr (2, [.ref je, .ref jg, .int (nI 0)]))) := by
  refine Sp.of (by decide) (Nat.le_of_ble_eq_true rfl) ?_
  refine ev_aload_n 0 d_C_clear_0 rfl rfl ?_
  refine ev_iconst (v := 0) d_C_clear_1 (by decide) ?_
  refine ev_put p_C_18 d_C_clear_2 hO (fun _ _ => ⟨rfl, rfl⟩) (Nat.le_of_ble_eq_true rfl) ?_
  exact ev_ret d_C_clear_5 rfl (Nat.le_of_ble_eq_true rfl) (Nat.le_of_ble_eq_true rfl)
end Cr
