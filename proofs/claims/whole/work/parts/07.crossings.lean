def wrI (g : Nat → Int32) : Nat → Nat → Int32 → Int32
  | _, 0, acc => acc
  | i, k + 1, acc => wrI g (i + 1) k (acc + g i)
def cin (g : Nat → Int32) (e : Nat) : Bool := if e % 2 = 1 then decide (e % 4 = 3) == decide (0 < g (e / 4)) else decide (e % 4 = 0)
def occ (f : Nat → Int32) (x : Int32) : Nat → Nat → Bool
  | _, 0 => false
  | i, k + 1 => if f i = x then true else occ f x (i + 1) k
def oEnd (f : Nat → Int32) (e : Nat) : Nat → Nat → Nat
  | _, 0 => e
  | i, k + 1 => if i ≠ e ∧ f i = f e then i else oEnd f e (i + 1) k
def fol (f : Nat → Int32) (n e : Nat) : Nat := oEnd f e 0 (4 * n) / 4 * 4 + (oEnd f e 0 (4 * n) + 3) % 4
def opp (e : Nat) : Nat := e / 4 * 4 + (e + 2) % 4
def eOn (f g : Nat → Int32) (x : Int32) (b : Bool) : Nat → Nat → Option Nat
  | _, 0 => none
  | i, k + 1 => if f i = x ∧ cin g i = b then some i else eOn f g x b (i + 1) k
def oI (o : Option Nat) : Int32 := match o with
  | none => -1
  | some i => nI i
def renA (a b : Int32) : (Nat → Int32) → Nat → Nat → Nat → Int32
  | f, _, 0 => f
  | f, i, k + 1 => renA a b (if f i = a then upd f i b else f) (i + 1) k
theorem oEnd_lt {f : Nat → Int32} {e N : Nat} (he : e < N) : ∀ k i, i + k ≤ N → oEnd f e i k < N := by
  intro k
  induction k with
  | zero => intro i _; exact he
  | succ k ih =>
    intro i hi
    unfold oEnd
    split
    · omega
    · exact ih (i + 1) (by omega)
theorem opp_lt {e : Nat} (h : e < 32) : opp e < 32 := by unfold opp; omega
theorem fol_lt {f : Nat → Int32} {n e : Nat} (hn : n ≤ 8) (he : e < 32) : fol f n e < 32 := by
  have := oEnd_lt (f := f) (N := 32) he (4 * n) 0 (by omega)
  unfold fol
  omega
theorem eOn_lt {f g : Nat → Int32} {x : Int32} {b : Bool} {N : Nat} : ∀ k i e, i + k ≤ N → eOn f g x b i k = some e → e < N := by
  intro k
  induction k with
  | zero => intro i e _ h; cases h
  | succ k ih =>
    intro i e hi h
    unfold eOn at h
    split at h
    · cases h; omega
    · exact ih (i + 1) e (by omega) h
section Cr
variable {w : zW} {j je jg n : Nat} {f g : Nat → Int32}
theorem lp_C_writhe (hO : w[j]? = some (.inr (2, [.ref je, .ref jg, .int (nI n)]))) (hS : w[jg]? = some (.inl (.int, 8, .inl g))) (hn : n ≤ 8) : ∀ k i acc, i + k = n → Ev M_C_writhe none (some (.int (wrI g i k acc))) w 4 [(0, .ref j), (1, .int acc), (2, .int (nI i))] [] w 0 0 := by
  intro k
  induction k with
  | zero =>
    intro i acc hi
    refine ev_iload_n 2 d_C_writhe_4 rfl rfl ?_
    refine ev_aload_n 0 d_C_writhe_5 rfl rfl ?_
    refine ev_get f_C_18 d_C_writhe_6 hO rfl ?_
    refine ev_icmp_ge 27 d_C_writhe_9 (by decide) (fun h => ?_) (fun h => ?_)
    · refine ev_iload_n 1 d_C_writhe_27 rfl rfl ?_
      exact ev_iret d_C_writhe_28 rfl rfl (Nat.le_of_ble_eq_true rfl) (Nat.le_of_ble_eq_true rfl)
    · exact absurd (nI_le (by omega) (by omega)) h
  | succ k ih =>
    intro i acc hi
    refine ev_iload_n 2 d_C_writhe_4 rfl rfl ?_
    refine ev_aload_n 0 d_C_writhe_5 rfl rfl ?_
    refine ev_get f_C_18 d_C_writhe_6 hO rfl ?_
    refine ev_icmp_ge 27 d_C_writhe_9 (by decide) (fun h => ?_) (fun h => ?_)
    · exact absurd h (nI_ge (by omega) (by omega))
    · refine ev_iload_n 1 d_C_writhe_12 rfl rfl ?_
      refine ev_aload_n 0 d_C_writhe_13 rfl rfl ?_
      refine ev_get f_C_15 d_C_writhe_14 hO rfl ?_
      refine ev_iload_n 2 d_C_writhe_17 rfl rfl ?_
      refine ev_iald d_C_writhe_18 hS (vp_in_nI (by omega) (by omega)) ?_
      refine ev_iadd d_C_writhe_19 ?_
      refine ev_istore_n 1 d_C_writhe_20 rfl (Nat.le_of_ble_eq_true rfl) rfl ?_
      refine ev_iinc (v := _ + 1) d_C_writhe_21 rfl rfl (Nat.le_of_ble_eq_true rfl) rfl ?_
      rw [nI_clamp (by omega), nI_1]
      refine ev_goto 4 d_C_writhe_24 (by decide) ?_
      exact ih (i + 1) (acc + g i) (by omega)
theorem sp_C_writhe (hO : w[j]? = some (.inr (2, [.ref je, .ref jg, .int (nI n)]))) (hS : w[jg]? = some (.inl (.int, 8, .inl g))) (hn : n ≤ 8) : Sp M_C_writhe [.ref j] w (some (.int (wrI g 0 n 0))) w := by
  refine Sp.of (by decide) (Nat.le_of_ble_eq_true rfl) ?_
  refine ev_iconst (v := 0) d_C_writhe_0 (by decide) ?_
  refine ev_istore_n 1 d_C_writhe_1 rfl (Nat.le_of_ble_eq_true rfl) rfl ?_
  refine ev_iconst (v := 0) d_C_writhe_2 (by decide) ?_
  refine ev_istore_n 2 d_C_writhe_3 rfl (Nat.le_of_ble_eq_true rfl) rfl ?_
  exact lp_C_writhe hO hS hn n 0 0 (by omega)
theorem sp_C_comesIn (hO : w[j]? = some (.inr (2, [.ref je, .ref jg, .int (nI n)]))) (hS : w[jg]? = some (.inl (.int, 8, .inl g))) {e : Nat} (he : e < 32) : Sp M_C_comesIn [.ref j, .int (nI e)] w (some (.int (zb (cin g e)))) w := by
  refine Sp.of (by decide) (Nat.le_of_ble_eq_true rfl) ?_
  refine ev_iload_n 1 d_C_comesIn_0 rfl rfl ?_
  refine ev_iconst (v := 3) d_C_comesIn_1 (by decide) ?_
  refine ev_iand d_C_comesIn_2 ?_
  rw [z_and3 (by omega)]
  refine ev_istore_n 2 d_C_comesIn_3 rfl (Nat.le_of_ble_eq_true rfl) rfl ?_
  refine ev_iload_n 2 d_C_comesIn_4 rfl rfl ?_
  refine ev_callS M_A_isUpper [_] (sp_A_isUpper w (by omega)) c_C_36 d_C_comesIn_5 rfl (by decide) (Nat.le_of_ble_eq_true rfl) ⟨rfl, rfl⟩ rfl ?_
  have key : e % 2 = 1 → ∀ b : Bool, b = decide (e % 4 = 3) → Ev M_C_comesIn none (some (.int (zb (cin g e)))) w 21 [(0, .ref j), (1, .int (nI e)), (2, .int (nI (e % 4)))] [.int (zb b)] w 0 0 := by
    intro h2 b hb
    have hc : cin g e = (b == decide (0 < g (e / 4))) := by unfold cin; rw [if_pos h2, hb]
    rw [hc]
    refine ev_aload_n 0 d_C_comesIn_21 rfl rfl ?_
    refine ev_iload_n 1 d_C_comesIn_22 rfl rfl ?_
    refine ev_callS M_A_crossingOf [_] (sp_A_crossingOf w (by omega)) c_C_39 d_C_comesIn_23 rfl (by decide) (Nat.le_of_ble_eq_true rfl) ⟨rfl, rfl⟩ rfl ?_
    refine ev_callV M_C_isPositive [_] (sp_C_isPositive hO hS (by omega)) c_C_43 d_C_comesIn_26 hO rfl (by decide) (Nat.le_of_ble_eq_true rfl) ⟨rfl, rfl⟩ rfl ?_
    refine ev_icmp_ne 36 d_C_comesIn_29 (by decide) (fun h3 => ?_) (fun h3 => ?_)
    · have h4 : (b == decide (0 < g (e / 4))) = false := by
        have := mt (zb_eq _ _).mpr h3
        simpa using this
      rw [h4]
      refine ev_iconst (v := 0) d_C_comesIn_36 (by decide) ?_
      exact ev_iret d_C_comesIn_37 rfl zr0 (Nat.le_of_ble_eq_true rfl) (Nat.le_of_ble_eq_true rfl)
    · have h4 : (b == decide (0 < g (e / 4))) = true := by
        have := (zb_eq _ _).mp h3
        simpa using this
      rw [h4]
      refine ev_iconst (v := 1) d_C_comesIn_32 (by decide) ?_
      refine ev_goto 37 d_C_comesIn_33 (by decide) ?_
      exact ev_iret d_C_comesIn_37 rfl zr1 (Nat.le_of_ble_eq_true rfl) (Nat.le_of_ble_eq_true rfl)
  refine ev_if_eq 38 d_C_comesIn_8 (by decide) (fun h => ?_) (fun h => ?_)
  · have h2 : ¬ e % 2 = 1 := by
      have := (zb_0 _).mp h
      have h5 : e % 4 % 2 = e % 2 := by omega
      rw [h5] at this
      simpa using this
    have hc : cin g e = decide (e % 4 = 0) := by unfold cin; rw [if_neg h2]
    rw [hc]
    refine ev_iload_n 2 d_C_comesIn_38 rfl rfl ?_
    refine ev_if_ne 46 d_C_comesIn_39 (by decide) (fun h3 => ?_) (fun h3 => ?_)
    · rw [decide_eq_false (fun q => h3 ((z_nz (by omega)).mpr q))]
      refine ev_iconst (v := 0) d_C_comesIn_46 (by decide) ?_
      exact ev_iret d_C_comesIn_47 rfl zr0 (Nat.le_of_ble_eq_true rfl) (Nat.le_of_ble_eq_true rfl)
    · rw [decide_eq_true ((z_nz (by omega)).mp h3)]
      refine ev_iconst (v := 1) d_C_comesIn_42 (by decide) ?_
      refine ev_goto 47 d_C_comesIn_43 (by decide) ?_
      exact ev_iret d_C_comesIn_47 rfl zr1 (Nat.le_of_ble_eq_true rfl) (Nat.le_of_ble_eq_true rfl)
  · have h2 : e % 2 = 1 := by
      have := (zb_n0 _).mp h
      have h5 : e % 4 % 2 = e % 2 := by omega
      rw [h5] at this
      simpa using this
    refine ev_iload_n 2 d_C_comesIn_11 rfl rfl ?_
    refine ev_iconst (v := 3) d_C_comesIn_12 (by decide) ?_
    refine ev_icmp_ne 20 d_C_comesIn_13 (by decide) (fun h3 => ?_) (fun h3 => ?_)
    · refine ev_iconst (v := 0) d_C_comesIn_20 (by decide) ?_
      exact key h2 false (decide_eq_false (fun q => h3 ((z_n3 (by omega)).mpr q))).symm
    · refine ev_iconst (v := 1) d_C_comesIn_16 (by decide) ?_
      refine ev_goto 21 d_C_comesIn_17 (by decide) ?_
      exact key h2 true (decide_eq_true ((z_n3 (by omega)).mp h3)).symm
theorem lp_C_occurs (hO : w[j]? = some (.inr (2, [.ref je, .ref jg, .int (nI n)]))) (hE : w[je]? = some (.inl (.int, 32, .inl f))) (hn : n ≤ 8) (x : Int32) : ∀ k i, i + k = 4 * n → Ev M_C_occurs none (some (.int (zb (occ f x i k)))) w 2 [(0, .ref j), (1, .int x), (2, .int (nI i))] [] w 0 0 := by
  intro k
  induction k with
  | zero =>
    intro i hi
    refine ev_iload_n 2 d_C_occurs_2 rfl rfl ?_
    refine ev_aload_n 0 d_C_occurs_3 rfl rfl ?_
    refine ev_callV M_C_ends [] (sp_C_ends hO) c_C_46 d_C_occurs_4 hO rfl (by decide) (Nat.le_of_ble_eq_true rfl) ⟨rfl, rfl⟩ rfl ?_
    refine ev_icmp_ge 28 d_C_occurs_7 (by decide) (fun h => ?_) (fun h => ?_)
    · refine ev_iconst (v := 0) d_C_occurs_28 (by decide) ?_
      exact ev_iret d_C_occurs_29 rfl zr0 (Nat.le_of_ble_eq_true rfl) (Nat.le_of_ble_eq_true rfl)
    · exact absurd (nI_le (by omega) (by omega)) h
  | succ k ih =>
    intro i hi
    refine ev_iload_n 2 d_C_occurs_2 rfl rfl ?_
    refine ev_aload_n 0 d_C_occurs_3 rfl rfl ?_
    refine ev_callV M_C_ends [] (sp_C_ends hO) c_C_46 d_C_occurs_4 hO rfl (by decide) (Nat.le_of_ble_eq_true rfl) ⟨rfl, rfl⟩ rfl ?_
    refine ev_icmp_ge 28 d_C_occurs_7 (by decide) (fun h => ?_) (fun h => ?_)
    · exact absurd h (nI_ge (by omega) (by omega))
    · refine ev_aload_n 0 d_C_occurs_10 rfl rfl ?_
      refine ev_get f_C_9 d_C_occurs_11 hO rfl ?_
      refine ev_iload_n 2 d_C_occurs_14 rfl rfl ?_
      refine ev_iald d_C_occurs_15 hE (vp_in_nI (by omega) (by omega)) ?_
      rw [nI_clamp (by omega)]
      refine ev_iload_n 1 d_C_occurs_16 rfl rfl ?_
      refine ev_icmp_ne 22 d_C_occurs_17 (by decide) (fun h2 => ?_) (fun h2 => ?_)
      · unfold occ
        rw [if_neg h2]
        refine ev_iinc (v := _ + 1) d_C_occurs_22 rfl rfl (Nat.le_of_ble_eq_true rfl) rfl ?_
        rw [nI_1]
        refine ev_goto 2 d_C_occurs_25 (by decide) ?_
        exact ih (i + 1) (by omega)
      · unfold occ
        rw [if_pos h2]
        refine ev_iconst (v := 1) d_C_occurs_20 (by decide) ?_
        exact ev_iret d_C_occurs_21 rfl zr1 (Nat.le_of_ble_eq_true rfl) (Nat.le_of_ble_eq_true rfl)
theorem sp_C_occurs (hO : w[j]? = some (.inr (2, [.ref je, .ref jg, .int (nI n)]))) (hE : w[je]? = some (.inl (.int, 32, .inl f))) (hn : n ≤ 8) (x : Int32) : Sp M_C_occurs [.ref j, .int x] w (some (.int (zb (occ f x 0 (4 * n))))) w := by
  refine Sp.of (by decide) (Nat.le_of_ble_eq_true rfl) ?_
  refine ev_iconst (v := 0) d_C_occurs_0 (by decide) ?_
  refine ev_istore_n 2 d_C_occurs_1 rfl (Nat.le_of_ble_eq_true rfl) rfl ?_
  exact lp_C_occurs hO hE hn x (4 * n) 0 (by omega)
theorem lp_C_otherEnd (hO : w[j]? = some (.inr (2, [.ref je, .ref jg, .int (nI n)]))) (hE : w[je]? = some (.inl (.int, 32, .inl f))) (hn : n ≤ 8) {e : Nat} (he : e < 32) : ∀ k i, i + k = 4 * n → Ev M_C_otherEnd none (some (.int (nI (oEnd f e i k)))) w 2 [(0, .ref j), (1, .int (nI e)), (2, .int (nI i))] [] w 0 0 := by
  intro k
  induction k with
  | zero =>
    intro i hi
    refine ev_iload_n 2 d_C_otherEnd_2 rfl rfl ?_
    refine ev_aload_n 0 d_C_otherEnd_3 rfl rfl ?_
    refine ev_callV M_C_ends [] (sp_C_ends hO) c_C_46 d_C_otherEnd_4 hO rfl (by decide) (Nat.le_of_ble_eq_true rfl) ⟨rfl, rfl⟩ rfl ?_
    refine ev_icmp_ge 38 d_C_otherEnd_7 (by decide) (fun h => ?_) (fun h => ?_)
    · refine ev_iload_n 1 d_C_otherEnd_38 rfl rfl ?_
      exact ev_iret d_C_otherEnd_39 rfl rfl (Nat.le_of_ble_eq_true rfl) (Nat.le_of_ble_eq_true rfl)
    · exact absurd (nI_le (by omega) (by omega)) h
  | succ k ih =>
    intro i hi
    have step : ¬ (i ≠ e ∧ f i = f e) → Ev M_C_otherEnd none (some (.int (nI (oEnd f e i (k + 1))))) w 32 [(0, .ref j), (1, .int (nI e)), (2, .int (nI i))] [] w 0 0 := by
      intro h3
      unfold oEnd
      rw [if_neg h3]
      refine ev_iinc (v := _ + 1) d_C_otherEnd_32 rfl rfl (Nat.le_of_ble_eq_true rfl) rfl ?_
      rw [nI_1]
      refine ev_goto 2 d_C_otherEnd_35 (by decide) ?_
      exact ih (i + 1) (by omega)
    refine ev_iload_n 2 d_C_otherEnd_2 rfl rfl ?_
    refine ev_aload_n 0 d_C_otherEnd_3 rfl rfl ?_
    refine ev_callV M_C_ends [] (sp_C_ends hO) c_C_46 d_C_otherEnd_4 hO rfl (by decide) (Nat.le_of_ble_eq_true rfl) ⟨rfl, rfl⟩ rfl ?_
    refine ev_icmp_ge 38 d_C_otherEnd_7 (by decide) (fun h => ?_) (fun h => ?_)
    · exact absurd h (nI_ge (by omega) (by omega))
    · refine ev_iload_n 2 d_C_otherEnd_10 rfl rfl ?_
      refine ev_iload_n 1 d_C_otherEnd_11 rfl rfl ?_
      refine ev_icmp_eq 32 d_C_otherEnd_12 (by decide) (fun h2 => ?_) (fun h2 => ?_)
      · exact step (fun q => q.1 ((nI_eq (by omega) (by omega)).mp h2))
      · refine ev_aload_n 0 d_C_otherEnd_15 rfl rfl ?_
        refine ev_get f_C_9 d_C_otherEnd_16 hO rfl ?_
        refine ev_iload_n 2 d_C_otherEnd_19 rfl rfl ?_
        refine ev_iald d_C_otherEnd_20 hE (vp_in_nI (by omega) (by omega)) ?_
        refine ev_aload_n 0 d_C_otherEnd_21 rfl rfl ?_
        refine ev_get f_C_9 d_C_otherEnd_22 hO rfl ?_
        refine ev_iload_n 1 d_C_otherEnd_25 rfl rfl ?_
        refine ev_iald d_C_otherEnd_26 hE (vp_in_nI (by omega) (by omega)) ?_
        rw [nI_clamp (by omega), nI_clamp (by omega)]
        refine ev_icmp_ne 32 d_C_otherEnd_27 (by decide) (fun h3 => ?_) (fun h3 => ?_)
        · exact step (fun q => h3 q.2)
        · unfold oEnd
          rw [if_pos ⟨fun q => h2 (by rw [q]), h3⟩]
          refine ev_iload_n 2 d_C_otherEnd_30 rfl rfl ?_
          exact ev_iret d_C_otherEnd_31 rfl rfl (Nat.le_of_ble_eq_true rfl) (Nat.le_of_ble_eq_true rfl)
theorem sp_C_otherEnd (hO : w[j]? = some (.inr (2, [.ref je, .ref jg, .int (nI n)]))) (hE : w[je]? = some (.inl (.int, 32, .inl f))) (hn : n ≤ 8) {e : Nat} (he : e < 32) : Sp M_C_otherEnd [.ref j, .int (nI e)] w (some (.int (nI (oEnd f e 0 (4 * n))))) w := by
  refine Sp.of (by decide) (Nat.le_of_ble_eq_true rfl) ?_
  refine ev_iconst (v := 0) d_C_otherEnd_0 (by decide) ?_
  refine ev_istore_n 2 d_C_otherEnd_1 rfl (Nat.le_of_ble_eq_true rfl) rfl ?_
  exact lp_C_otherEnd hO hE hn he (4 * n) 0 (by omega)
theorem sp_C_follow (hO : w[j]? = some (.inr (2, [.ref je, .ref jg, .int (nI n)]))) (hE : w[je]? = some (.inl (.int, 32, .inl f))) (hn : n ≤ 8) {e : Nat} (he : e < 32) : Sp M_C_follow [.ref j, .int (nI e)] w (some (.int (nI (fol f n e)))) w := by
  refine Sp.of (by decide) (Nat.le_of_ble_eq_true rfl) ?_
  refine ev_aload_n 0 d_C_follow_0 rfl rfl ?_
  refine ev_iload_n 1 d_C_follow_1 rfl rfl ?_
  refine ev_callV M_C_otherEnd [_] (sp_C_otherEnd hO hE hn he) c_C_50 d_C_follow_2 hO rfl (by decide) (Nat.le_of_ble_eq_true rfl) ⟨rfl, rfl⟩ rfl ?_
  refine ev_iconst (v := 3) d_C_follow_5 (by decide) ?_
  refine ev_callS M_A_turned [_, _] (sp_A_turned w (k := 3) (oEnd_lt he (4 * n) 0 (by omega)) (by decide)) c_C_53 d_C_follow_6 rfl (by decide) (Nat.le_of_ble_eq_true rfl) ⟨rfl, rfl⟩ rfl ?_
  exact ev_iret d_C_follow_9 rfl rfl (Nat.le_of_ble_eq_true rfl) (Nat.le_of_ble_eq_true rfl)
end Cr
