abbrev aI (N : Nat) (f : Nat → Int32) : zE := .inl (.int, N, .inl f)
abbrev aZ (N : Nat) (f : Nat → Int32) : zE := .inl (.boolean, N, .inl f)
abbrev aL (N : Nat) (f : Nat → Int64) : zE := .inl (.long, N, .inr (.inl f))
abbrev oC (je jg n : Nat) : zE := .inr (2, [.ref je, .ref jg, .int (nI n)])
theorem z_set_self {w : zW} {j : Nat} {c : zE} (h : w[j]? = some c) : w.set j c = w := by
  apply List.ext_getElem?
  intro k
  rw [List.getElem?_set]
  by_cases hk : j = k
  · subst hk
    rw [if_pos rfl, if_pos (List.getElem?_eq_some_iff.mp h).1, h]
  · rw [if_neg hk]
def inc (f g : Nat → Int32) (n e : Nat) : Nat := if cin g e = true then e else oEnd f e 0 (4 * n)
def outg (f g : Nat → Int32) (n e : Nat) : Nat := if cin g e = true then oEnd f e 0 (4 * n) else e
theorem inc_lt {f g : Nat → Int32} {n e : Nat} (hn : n ≤ 8) (he : e < 32) : inc f g n e < 32 := by
  have := oEnd_lt (f := f) (N := 32) he (4 * n) 0 (by omega)
  unfold inc
  split <;> omega
theorem outg_lt {f g : Nat → Int32} {n e : Nat} (hn : n ≤ 8) (he : e < 32) : outg f g n e < 32 := by
  have := oEnd_lt (f := f) (N := 32) he (4 * n) 0 (by omega)
  unfold outg
  split <;> omega
def brA (f g : Nat → Int32) (n : Nat) (p q : Int32) : Nat → Int32 := match eOn f g q true 0 (4 * n) with
  | none => f
  | some i => upd f i p
section Cr
variable {w : zW} {j je jg n : Nat} {f g : Nat → Int32}
theorem sp_C_incoming (hO : w[j]? = some (oC je jg n)) (hE : w[je]? = some (aI 32 f)) (hS : w[jg]? = some (aI 8 g)) (hn : n ≤ 8) {e : Nat} (he : e < 32) : Sp M_C_incoming [.ref j, .int (nI e)] w (some (.int (nI (inc f g n e)))) w := by
  refine Sp.of (by decide) (Nat.le_of_ble_eq_true rfl) ?_
  refine ev_aload_n 0 d_C_incoming_0 rfl rfl ?_
  refine ev_iload_n 1 d_C_incoming_1 rfl rfl ?_
  refine ev_callV M_C_comesIn [_] (sp_C_comesIn hO hS he) c_C_57 d_C_incoming_2 hO rfl (by decide) (Nat.le_of_ble_eq_true rfl) ⟨rfl, rfl⟩ rfl ?_
  refine ev_if_eq 12 d_C_incoming_5 (by decide) (fun h => ?_) (fun h => ?_)
  · have h1 : inc f g n e = oEnd f e 0 (4 * n) := by unfold inc; rw [(zb_0 _).mp h]; rfl
    rw [h1]
    refine ev_aload_n 0 d_C_incoming_12 rfl rfl ?_
    refine ev_iload_n 1 d_C_incoming_13 rfl rfl ?_
    refine ev_callV M_C_otherEnd [_] (sp_C_otherEnd hO hE hn he) c_C_50 d_C_incoming_14 hO rfl (by decide) (Nat.le_of_ble_eq_true rfl) ⟨rfl, rfl⟩ rfl ?_
    exact ev_iret d_C_incoming_17 rfl rfl (Nat.le_of_ble_eq_true rfl) (Nat.le_of_ble_eq_true rfl)
  · have h1 : inc f g n e = e := by unfold inc; rw [(zb_n0 _).mp h]; rfl
    rw [h1]
    refine ev_iload_n 1 d_C_incoming_8 rfl rfl ?_
    refine ev_goto 17 d_C_incoming_9 (by decide) ?_
    exact ev_iret d_C_incoming_17 rfl rfl (Nat.le_of_ble_eq_true rfl) (Nat.le_of_ble_eq_true rfl)
theorem sp_C_outgoing (hO : w[j]? = some (oC je jg n)) (hE : w[je]? = some (aI 32 f)) (hS : w[jg]? = some (aI 8 g)) (hn : n ≤ 8) {e : Nat} (he : e < 32) : Sp M_C_outgoing [.ref j, .int (nI e)] w (some (.int (nI (outg f g n e)))) w := by
  refine Sp.of (by decide) (Nat.le_of_ble_eq_true rfl) ?_
  refine ev_aload_n 0 d_C_outgoing_0 rfl rfl ?_
  refine ev_iload_n 1 d_C_outgoing_1 rfl rfl ?_
  refine ev_callV M_C_comesIn [_] (sp_C_comesIn hO hS he) c_C_57 d_C_outgoing_2 hO rfl (by decide) (Nat.le_of_ble_eq_true rfl) ⟨rfl, rfl⟩ rfl ?_
  refine ev_if_eq 16 d_C_outgoing_5 (by decide) (fun h => ?_) (fun h => ?_)
  · have h1 : outg f g n e = e := by unfold outg; rw [(zb_0 _).mp h]; rfl
    rw [h1]
    refine ev_iload_n 1 d_C_outgoing_16 rfl rfl ?_
    exact ev_iret d_C_outgoing_17 rfl rfl (Nat.le_of_ble_eq_true rfl) (Nat.le_of_ble_eq_true rfl)
  · have h1 : outg f g n e = oEnd f e 0 (4 * n) := by unfold outg; rw [(zb_n0 _).mp h]; rfl
    rw [h1]
    refine ev_aload_n 0 d_C_outgoing_8 rfl rfl ?_
    refine ev_iload_n 1 d_C_outgoing_9 rfl rfl ?_
    refine ev_callV M_C_otherEnd [_] (sp_C_otherEnd hO hE hn he) c_C_50 d_C_outgoing_10 hO rfl (by decide) (Nat.le_of_ble_eq_true rfl) ⟨rfl, rfl⟩ rfl ?_
    refine ev_goto 17 d_C_outgoing_13 (by decide) ?_
    exact ev_iret d_C_outgoing_17 rfl rfl (Nat.le_of_ble_eq_true rfl) (Nat.le_of_ble_eq_true rfl)
theorem sp_C_edgeBefore (hO : w[j]? = some (oC je jg n)) (hE : w[je]? = some (aI 32 f)) (hS : w[jg]? = some (aI 8 g)) (hn : n ≤ 8) {e : Nat} (he : e < 32) : Sp M_C_edgeBefore [.ref j, .int (nI e)] w (some (.int (f (opp (outg f g n e))))) w := by
  refine Sp.of (by decide) (Nat.le_of_ble_eq_true rfl) ?_
  have h1 := outg_lt (f := f) (g := g) hn he
  have h2 : opp (outg f g n e) < 32 := opp_lt h1
  refine ev_aload_n 0 d_C_edgeBefore_0 rfl rfl ?_
  refine ev_get f_C_9 d_C_edgeBefore_1 hO rfl ?_
  refine ev_aload_n 0 d_C_edgeBefore_4 rfl rfl ?_
  refine ev_iload_n 1 d_C_edgeBefore_5 rfl rfl ?_
  refine ev_callV M_C_outgoing [_] (sp_C_outgoing hO hE hS hn he) c_C_60 d_C_edgeBefore_6 hO rfl (by decide) (Nat.le_of_ble_eq_true rfl) ⟨rfl, rfl⟩ rfl ?_
  refine ev_callS M_A_opposite [_] (sp_A_opposite w h1) c_C_63 d_C_edgeBefore_9 rfl (by decide) (Nat.le_of_ble_eq_true rfl) ⟨rfl, rfl⟩ rfl ?_
  refine ev_iald d_C_edgeBefore_12 hE (vp_in_nI (n := opp (outg f g n e)) h2 (by omega)) ?_
  rw [nI_clamp (n := outg f g n e / 4 * 4 + (outg f g n e + 2) % 4) (by unfold opp at h2; omega)]
  exact ev_iret d_C_edgeBefore_13 rfl rfl (Nat.le_of_ble_eq_true rfl) (Nat.le_of_ble_eq_true rfl)
theorem sp_C_edgeBehind (hO : w[j]? = some (oC je jg n)) (hE : w[je]? = some (aI 32 f)) (hS : w[jg]? = some (aI 8 g)) (hn : n ≤ 8) {e : Nat} (he : e < 32) : Sp M_C_edgeBehind [.ref j, .int (nI e)] w (some (.int (f (opp (inc f g n e))))) w := by
  refine Sp.of (by decide) (Nat.le_of_ble_eq_true rfl) ?_
  have h1 := inc_lt (f := f) (g := g) hn he
  have h2 : opp (inc f g n e) < 32 := opp_lt h1
  refine ev_aload_n 0 d_C_edgeBehind_0 rfl rfl ?_
  refine ev_get f_C_9 d_C_edgeBehind_1 hO rfl ?_
  refine ev_aload_n 0 d_C_edgeBehind_4 rfl rfl ?_
  refine ev_iload_n 1 d_C_edgeBehind_5 rfl rfl ?_
  refine ev_callV M_C_incoming [_] (sp_C_incoming hO hE hS hn he) c_C_66 d_C_edgeBehind_6 hO rfl (by decide) (Nat.le_of_ble_eq_true rfl) ⟨rfl, rfl⟩ rfl ?_
  refine ev_callS M_A_opposite [_] (sp_A_opposite w h1) c_C_63 d_C_edgeBehind_9 rfl (by decide) (Nat.le_of_ble_eq_true rfl) ⟨rfl, rfl⟩ rfl ?_
  refine ev_iald d_C_edgeBehind_12 hE (vp_in_nI (n := opp (inc f g n e)) h2 (by omega)) ?_
  rw [nI_clamp (n := inc f g n e / 4 * 4 + (inc f g n e + 2) % 4) (by unfold opp at h2; omega)]
  exact ev_iret d_C_edgeBehind_13 rfl rfl (Nat.le_of_ble_eq_true rfl) (Nat.le_of_ble_eq_true rfl)
theorem lp_C_endOn (hO : w[j]? = some (oC je jg n)) (hE : w[je]? = some (aI 32 f)) (hS : w[jg]? = some (aI 8 g)) (hn : n ≤ 8) (x : Int32) (b : Bool) : ∀ k i, i + k = 4 * n → Ev M_C_endOn none (some (.int (oI (eOn f g x b i k)))) w 2 [(0, .ref j), (1, .int x), (2, .int (zb b)), (3, .int (nI i))] [] w 0 0 := by
  intro k
  induction k with
  | zero =>
    intro i hi
    refine ev_iload_n 3 d_C_endOn_2 rfl rfl ?_
    refine ev_aload_n 0 d_C_endOn_3 rfl rfl ?_
    refine ev_callV M_C_ends [] (sp_C_ends hO) c_C_46 d_C_endOn_4 hO rfl (by decide) (Nat.le_of_ble_eq_true rfl) ⟨rfl, rfl⟩ rfl ?_
    refine ev_icmp_ge 37 d_C_endOn_7 (by decide) (fun h => ?_) (fun h => ?_)
    · refine ev_iconst (v := -1) d_C_endOn_37 (by decide) ?_
      exact ev_iret d_C_endOn_38 rfl rfl (Nat.le_of_ble_eq_true rfl) (Nat.le_of_ble_eq_true rfl)
    · exact absurd (nI_le (by omega) (by omega)) h
  | succ k ih =>
    intro i hi
    have step : ¬ (f i = x ∧ cin g i = b) → Ev M_C_endOn none (some (.int (oI (eOn f g x b i (k + 1))))) w 31 [(0, .ref j), (1, .int x), (2, .int (zb b)), (3, .int (nI i))] [] w 0 0 := by
      intro h3
      unfold eOn
      rw [if_neg h3]
      refine ev_iinc (v := _ + 1) d_C_endOn_31 rfl rfl (Nat.le_of_ble_eq_true rfl) rfl ?_
      rw [nI_1]
      refine ev_goto 2 d_C_endOn_34 (by decide) ?_
      exact ih (i + 1) (by omega)
    refine ev_iload_n 3 d_C_endOn_2 rfl rfl ?_
    refine ev_aload_n 0 d_C_endOn_3 rfl rfl ?_
    refine ev_callV M_C_ends [] (sp_C_ends hO) c_C_46 d_C_endOn_4 hO rfl (by decide) (Nat.le_of_ble_eq_true rfl) ⟨rfl, rfl⟩ rfl ?_
    refine ev_icmp_ge 37 d_C_endOn_7 (by decide) (fun h => ?_) (fun h => ?_)
    · exact absurd h (nI_ge (by omega) (by omega))
    · refine ev_aload_n 0 d_C_endOn_10 rfl rfl ?_
      refine ev_get f_C_9 d_C_endOn_11 hO rfl ?_
      refine ev_iload_n 3 d_C_endOn_14 rfl rfl ?_
      refine ev_iald d_C_endOn_15 hE (vp_in_nI (by omega) (by omega)) ?_
      rw [nI_clamp (by omega)]
      refine ev_iload_n 1 d_C_endOn_16 rfl rfl ?_
      refine ev_icmp_ne 31 d_C_endOn_17 (by decide) (fun h2 => ?_) (fun h2 => ?_)
      · exact step (fun q => h2 q.1)
      · refine ev_aload_n 0 d_C_endOn_20 rfl rfl ?_
        refine ev_iload_n 3 d_C_endOn_21 rfl rfl ?_
        refine ev_callV M_C_comesIn [_] (sp_C_comesIn hO hS (by omega)) c_C_57 d_C_endOn_22 hO rfl (by decide) (Nat.le_of_ble_eq_true rfl) ⟨rfl, rfl⟩ rfl ?_
        refine ev_iload_n 2 d_C_endOn_25 rfl rfl ?_
        refine ev_icmp_ne 31 d_C_endOn_26 (by decide) (fun h3 => ?_) (fun h3 => ?_)
        · exact step (fun q => h3 (by rw [q.2]))
        · unfold eOn
          rw [if_pos ⟨h2, (zb_eq _ _).mp h3⟩]
          refine ev_iload_n 3 d_C_endOn_29 rfl rfl ?_
          exact ev_iret d_C_endOn_30 rfl rfl (Nat.le_of_ble_eq_true rfl) (Nat.le_of_ble_eq_true rfl)
theorem sp_C_endOn (hO : w[j]? = some (oC je jg n)) (hE : w[je]? = some (aI 32 f)) (hS : w[jg]? = some (aI 8 g)) (hn : n ≤ 8) (x : Int32) (b : Bool) : Sp M_C_endOn [.ref j, .int x, .int (zb b)] w (some (.int (oI (eOn f g x b 0 (4 * n))))) w := by
  refine Sp.of (by decide) (Nat.le_of_ble_eq_true rfl) ?_
  refine ev_iconst (v := 0) d_C_endOn_0 (by decide) ?_
  refine ev_istore_n 3 d_C_endOn_1 rfl (Nat.le_of_ble_eq_true rfl) rfl ?_
  exact lp_C_endOn hO hE hS hn x b (4 * n) 0 (by omega)
theorem nI_nm1 {i : Nat} (h : i < 2 ^ 31) : ¬ nI i = -1 := by
  intro q
  have h1 := nI_toInt h
  rw [q] at h1
  have h2 : (-1 : Int32).toInt = -1 := by decide
  omega
theorem sp_C_bringIn (hO : w[j]? = some (oC je jg n)) (hE : w[je]? = some (aI 32 f)) (hS : w[jg]? = some (aI 8 g)) (hn : n ≤ 8) (p q : Int32) : Sp M_C_bringIn [.ref j, .int p, .int q] w none (w.set je (aI 32 (brA f g n p q))) := by
  refine Sp.of (by decide) (Nat.le_of_ble_eq_true rfl) ?_
  refine ev_aload_n 0 d_C_bringIn_0 rfl rfl ?_
  refine ev_iload_n 2 d_C_bringIn_1 rfl rfl ?_
  refine ev_iconst (v := 1) d_C_bringIn_2 (by decide) ?_
  refine ev_callV M_C_endOn [_, _] (sp_C_endOn hO hE hS hn q true) c_C_69 d_C_bringIn_3 hO rfl (by decide) (Nat.le_of_ble_eq_true rfl) ⟨rfl, rfl⟩ rfl ?_
  cases ho : eOn f g q true 0 (4 * n) with
  | none =>
    have h1 : brA f g n p q = f := by unfold brA; rw [ho]
    rw [h1, z_set_self hE]
    refine ev_istore_n 3 d_C_bringIn_6 rfl (Nat.le_of_ble_eq_true rfl) rfl ?_
    refine ev_iload_n 3 d_C_bringIn_7 rfl rfl ?_
    refine ev_iconst (v := -1) d_C_bringIn_8 (by decide) ?_
    refine ev_icmp_eq 19 d_C_bringIn_9 (by decide) (fun h => ?_) (fun h => ?_)
    · exact ev_ret d_C_bringIn_19 rfl (Nat.le_of_ble_eq_true rfl) (Nat.le_of_ble_eq_true rfl)
    · exact absurd rfl h
  | some i =>
    have h1 : brA f g n p q = upd f i p := by unfold brA; rw [ho]
    have h2 := eOn_lt (N := 32) _ _ _ (by omega) ho
    rw [h1]
    refine ev_istore_n 3 d_C_bringIn_6 rfl (Nat.le_of_ble_eq_true rfl) rfl ?_
    refine ev_iload_n 3 d_C_bringIn_7 rfl rfl ?_
    refine ev_iconst (v := -1) d_C_bringIn_8 (by decide) ?_
    refine ev_icmp_eq 19 d_C_bringIn_9 (by decide) (fun h => ?_) (fun h => ?_)
    · exact absurd h (nI_nm1 (by omega))
    · refine ev_aload_n 0 d_C_bringIn_12 rfl rfl ?_
      refine ev_get f_C_9 d_C_bringIn_13 hO rfl ?_
      refine ev_iload_n 3 d_C_bringIn_16 rfl rfl ?_
      refine ev_iload_n 1 d_C_bringIn_17 rfl rfl ?_
      refine ev_iast d_C_bringIn_18 hE (vp_in_nI h2 (by omega)) ?_
      show Ev _ _ _ _ _ _ _ (w.set je (aI 32 (upd f (nI i).toNatClampNeg p))) _ _
      rw [nI_clamp (by omega)]
      exact ev_ret d_C_bringIn_19 rfl (Nat.le_of_ble_eq_true rfl) (Nat.le_of_ble_eq_true rfl)
theorem lp_C_rename (hn : n ≤ 8) (a b : Int32) : ∀ k i (w : zW) (f : Nat → Int32), i + k = 4 * n → w[j]? = some (oC je jg n) → w[je]? = some (aI 32 f) → Ev M_C_rename none none (w.set je (aI 32 (renA a b f i k))) 2 [(0, .ref j), (1, .int a), (2, .int b), (3, .int (nI i))] [] w 0 0 := by
  intro k
  induction k with
  | zero =>
    intro i w f hi hO hE
    have h1 : renA a b f i 0 = f := by unfold renA; rfl
    rw [h1, z_set_self hE]
    refine ev_iload_n 3 d_C_rename_2 rfl rfl ?_
    refine ev_aload_n 0 d_C_rename_3 rfl rfl ?_
    refine ev_callV M_C_ends [] (sp_C_ends hO) c_C_46 d_C_rename_4 hO rfl (by decide) (Nat.le_of_ble_eq_true rfl) ⟨rfl, rfl⟩ rfl ?_
    refine ev_icmp_ge 33 d_C_rename_7 (by decide) (fun h => ?_) (fun h => ?_)
    · exact ev_ret d_C_rename_33 rfl (Nat.le_of_ble_eq_true rfl) (Nat.le_of_ble_eq_true rfl)
    · exact absurd (nI_le (by omega) (by omega)) h
  | succ k ih =>
    intro i w f hi hO hE
    refine ev_iload_n 3 d_C_rename_2 rfl rfl ?_
    refine ev_aload_n 0 d_C_rename_3 rfl rfl ?_
    refine ev_callV M_C_ends [] (sp_C_ends hO) c_C_46 d_C_rename_4 hO rfl (by decide) (Nat.le_of_ble_eq_true rfl) ⟨rfl, rfl⟩ rfl ?_
    refine ev_icmp_ge 33 d_C_rename_7 (by decide) (fun h => ?_) (fun h => ?_)
    · exact absurd h (nI_ge (by omega) (by omega))
    · refine ev_aload_n 0 d_C_rename_10 rfl rfl ?_
      refine ev_get f_C_9 d_C_rename_11 hO rfl ?_
      refine ev_iload_n 3 d_C_rename_14 rfl rfl ?_
      refine ev_iald d_C_rename_15 hE (vp_in_nI (by omega) (by omega)) ?_
      rw [nI_clamp (by omega)]
      refine ev_iload_n 1 d_C_rename_16 rfl rfl ?_
      refine ev_icmp_ne 27 d_C_rename_17 (by decide) (fun h2 => ?_) (fun h2 => ?_)
      · have h3 : renA a b f i (k + 1) = renA a b f (i + 1) k := by rw [renA, if_neg h2]
        rw [h3]
        refine ev_iinc (v := _ + 1) d_C_rename_27 rfl rfl (Nat.le_of_ble_eq_true rfl) rfl ?_
        rw [nI_1]
        refine ev_goto 2 d_C_rename_30 (by decide) ?_
        exact ih (i + 1) w f (by omega) hO hE
      · have h3 : renA a b f i (k + 1) = renA a b (upd f i b) (i + 1) k := by rw [renA, if_pos h2]
        rw [h3]
        refine ev_aload_n 0 d_C_rename_20 rfl rfl ?_
        refine ev_get f_C_9 d_C_rename_21 hO rfl ?_
        refine ev_iload_n 3 d_C_rename_24 rfl rfl ?_
        refine ev_iload_n 2 d_C_rename_25 rfl rfl ?_
        refine ev_iast d_C_rename_26 hE (vp_in_nI (by omega) (by omega)) ?_
        refine ev_iinc (v := _ + 1) d_C_rename_27 rfl rfl (Nat.le_of_ble_eq_true rfl) rfl ?_
        rw [nI_clamp (by omega), nI_1]
        refine ev_goto 2 d_C_rename_30 (by decide) ?_
        have h4 := ih (i + 1) (w.set je (aI 32 (upd f i b))) (upd f i b) (by omega) (zs_ne (z_ne hE hO (by intro h; cases h)) hO) (zs_self hE)
        rw [List.set_set] at h4
        exact h4
theorem sp_C_rename (hO : w[j]? = some (oC je jg n)) (hE : w[je]? = some (aI 32 f)) (hn : n ≤ 8) (a b : Int32) : Sp M_C_rename [.ref j, .int a, .int b] w none (w.set je (aI 32 (renA a b f 0 (4 * n)))) := by
  refine Sp.of (by decide) (Nat.le_of_ble_eq_true rfl) ?_
  refine ev_iconst (v := 0) d_C_rename_0 (by decide) ?_
  refine ev_istore_n 3 d_C_rename_1 rfl (Nat.le_of_ble_eq_true rfl) rfl ?_
  exact lp_C_rename hn a b (4 * n) 0 w f (by omega) hO hE
end Cr
