def eOM (me mp : Nat → Int32) (x : Int32) (b : Bool) : Nat → Nat → Option Nat
  | _, 0 => none
  | i, k + 1 => if me i = x ∧ inM mp i = b then some i else eOM me mp x b (i + 1) k
theorem eOM_lt {f g : Nat → Int32} {x : Int32} {b : Bool} {N : Nat} : ∀ k i e, i + k ≤ N → eOM f g x b i k = some e → e < N := by
  intro k
  induction k with
  | zero => intro i e _ h; cases h
  | succ k ih =>
    intro i e hi h
    unfold eOM at h
    split at h
    · cases h; omega
    · exact ih (i + 1) e (by omega) h
def inA (me mp : Nat → Int32) (n : Nat) (p q : Int32) : Nat → Int32 := match eOM me mp q true 0 (4 * n) with
  | none => me
  | some i => upd me i p
def joM (n : Nat) (mp : Nat → Int32) (p q : Int32) (S : (Nat → Int32) × Nat) : (Nat → Int32) × Nat := if p = q then (S.1, S.2 + 1) else (inA S.1 mp n p q, S.2)
def toE (h : Nat) (e : Nat → Int32) : Nat → Int32 := upd e h (e (h + 4))
def toP (y : Nat) (p : Nat → Int32) : Nat → Int32 := upd p y (vp_nar .boolean (p (y + 1)))
def tE (me : Nat → Int32) (x : Nat) : Nat → Int32 := itN toE (4 * x) (28 - 4 * x) me
def tP (mp : Nat → Int32) (x : Nat) : Nat → Int32 := itN toP x (7 - x) mp
def uwB (me : Nat → Int32) (x k : Nat) : Bool := decide (me (4 * x + k) = me (4 * x + (k + 1) % 4))
def uwP (me mp : Nat → Int32) (x k : Nat) : Int32 := if inM mp (4 * x + (k + 2) % 4) = true then me (4 * x + (k + 2) % 4) else me (4 * x + (k + 3) % 4)
def uwQ (me mp : Nat → Int32) (x k : Nat) : Int32 := if inM mp (4 * x + (k + 2) % 4) = true then me (4 * x + (k + 3) % 4) else me (4 * x + (k + 2) % 4)
section Md
variable {X : Nat → zE} {me mp : Nat → Int32} {mc md mo : Nat} {mw : Nat → Int32} {ml mv my : Nat} {mt : Nat → Int32} {ms mq mh : Nat → Int64} {ma : Nat → Int32} {mz : Nat} {mk mn : Nat → Int32} {mr : Nat → Int64} {mx : Nat → Int32}
theorem lp_M_free (hn : mc ≤ 8) (v : Int32) : ∀ k i b (ex : List (Nat × Value)), (ex = [] ∨ ∃ v, ex = [(4, .int v)]) → i + k = 33 → b < 100 → Ev M_M_free none (some (.int (nI (frE me mc i k b)))) (kM X me mp mc md mo mw ml mv my mt ms mq mh ma mz mk mn mr mx) 4 ([(0, .ref 25), (1, .int v), (2, .int (nI b)), (3, .int (nI i))] ++ ex) [] (kM X me mp mc md mo mw ml mv my mt ms mq mh ma mz mk mn mr mx) 0 0 := by
  intro k
  induction k with
  | zero =>
    intro i b ex hex hi hb
    have e0 : frE me mc i 0 b = 0 := by rw [frE]
    rw [e0]
    refine ev_drop (lv' := [(0, .ref 25), (1, .int v), (2, .int (nI b)), (3, .int (nI i))]) ?_
    refine ev_iload_n 3 d_M_free_4 rfl rfl ?_
    refine ev_bipush (v := 33) d_M_free_5 (by decide) ?_
    refine ev_icmp_ge 47 d_M_free_7 (by decide) (fun h => ?_) (fun h => ?_)
    · refine ev_iconst (v := 0) d_M_free_47 (by decide) ?_
      exact ev_iret d_M_free_48 rfl rfl (Nat.le_of_ble_eq_true rfl) (Nat.le_of_ble_eq_true rfl)
    · exact absurd (nI_le (a := 33) (b := i) (by omega) (by omega)) h
  | succ k ih =>
    intro i b ex hex hi hb
    refine ev_drop (lv' := [(0, .ref 25), (1, .int v), (2, .int (nI b)), (3, .int (nI i))]) ?_
    have k2 : ∀ (t : Bool) (b' : Nat), b' < 100 → frE me mc i (k + 1) b = frE me mc (i + 1) k b' → Ev M_M_free none (some (.int (nI (frE me mc i (k + 1) b)))) (kM X me mp mc md mo mw ml mv my mt ms mq mh ma mz mk mn mr mx) 40 [(0, .ref 25), (1, .int v), (2, .int (nI b)), (3, .int (nI i)), (4, .int (zb t))] [.int (nI b')] (kM X me mp mc md mo mw ml mv my mt ms mq mh ma mz mk mn mr mx) 0 0 := by
      intro t b' hb' e
      rw [e]
      refine ev_istore_n 2 d_M_free_40 rfl (Nat.le_of_ble_eq_true rfl) rfl ?_
      refine ev_iinc (v := _ + 1) d_M_free_41 rfl rfl (Nat.le_of_ble_eq_true rfl) rfl ?_
      rw [nI_1]
      refine ev_goto 4 d_M_free_44 (by decide) ?_
      exact ih (i + 1) b' [(4, .int (zb t))] (Or.inr ⟨_, rfl⟩) (by omega) hb'
    refine ev_iload_n 3 d_M_free_4 rfl rfl ?_
    refine ev_bipush (v := 33) d_M_free_5 (by decide) ?_
    refine ev_icmp_ge 47 d_M_free_7 (by decide) (fun h => ?_) (fun h => ?_)
    · exact absurd h (nI_ge (b := 33) (by omega) (by omega))
    · refine ev_aload_n 0 d_M_free_10 rfl rfl ?_
      refine ev_iload_n 3 d_M_free_11 rfl rfl ?_
      refine ev_callV M_M_occurs [_] (sp_M_occurs hn (nI i)) c_M_136 d_M_free_12 rfl rfl (by decide) (Nat.le_of_ble_eq_true rfl) ⟨rfl, rfl⟩ rfl ?_
      cases ho : occ me (nI i) 0 (4 * mc) with
      | true =>
        have e1 : frE me mc i (k + 1) b = frE me mc (i + 1) k b := by rw [frE, if_pos ho]
        refine ev_istore d_M_free_15 (Nat.le_of_ble_eq_true rfl) rfl ?_
        refine ev_iload d_M_free_17 rfl ?_
        refine ev_if_ne 28 d_M_free_19 (by decide) (fun q1 => ?_) (fun q1 => ?_)
        · refine ev_iload d_M_free_28 rfl ?_
          refine ev_if_eq 37 d_M_free_30 (by decide) (fun q2 => ?_) (fun q2 => ?_)
          · exact absurd q2 (by decide)
          · refine ev_iload_n 2 d_M_free_33 rfl rfl ?_
            refine ev_goto 40 d_M_free_34 (by decide) ?_
            exact k2 true b hb e1
        · exact absurd q1 (by decide)
      | false =>
        have h3 : ¬ occ me (nI i) 0 (4 * mc) = true := by rw [ho]; decide
        refine ev_istore d_M_free_15 (Nat.le_of_ble_eq_true rfl) rfl ?_
        refine ev_iload d_M_free_17 rfl ?_
        refine ev_if_ne 28 d_M_free_19 (by decide) (fun q1 => ?_) (fun q1 => ?_)
        · exact absurd rfl q1
        · refine ev_iload_n 2 d_M_free_22 rfl rfl ?_
          refine ev_if_ne 28 d_M_free_23 (by decide) (fun q2 => ?_) (fun q2 => ?_)
          · have h5 : ¬ b = 0 := fun z => q2 ((z_nz (by omega)).mpr z)
            have e1 : frE me mc i (k + 1) b = frE me mc (i + 1) k (b - 1) := by rw [frE, if_neg h3, if_neg h5]
            refine ev_iload d_M_free_28 rfl ?_
            refine ev_if_eq 37 d_M_free_30 (by decide) (fun q3 => ?_) (fun q3 => ?_)
            · refine ev_iload_n 2 d_M_free_37 rfl rfl ?_
              refine ev_iconst (v := 1) d_M_free_38 (by decide) ?_
              refine ev_isub d_M_free_39 ?_
              rw [show nI b - 1 = nI (b - 1) by rw [show b = b - 1 + 1 by omega, nI_pred]; rfl]
              exact k2 false (b - 1) (by omega) e1
            · exact absurd rfl q3
          · have e1 : frE me mc i (k + 1) b = i := by rw [frE, if_neg h3, if_pos ((z_nz (by omega)).mp q2)]
            rw [e1]
            refine ev_iload_n 3 d_M_free_26 rfl rfl ?_
            exact ev_iret d_M_free_27 rfl rfl (Nat.le_of_ble_eq_true rfl) (Nat.le_of_ble_eq_true rfl)
theorem sp_M_free (hn : mc ≤ 8) {b : Nat} (hb : b < 100) : Sp M_M_free [.ref 25, .int (nI b)] (kM X me mp mc md mo mw ml mv my mt ms mq mh ma mz mk mn mr mx) (some (.int (frI me mc b))) (kM X me mp mc md mo mw ml mv my mt ms mq mh ma mz mk mn mr mx) := by
  refine Sp.of (by decide) (Nat.le_of_ble_eq_true rfl) ?_
  refine ev_iload_n 1 d_M_free_0 rfl rfl ?_
  refine ev_istore_n 2 d_M_free_1 rfl (Nat.le_of_ble_eq_true rfl) rfl ?_
  refine ev_iconst (v := 1) d_M_free_2 (by decide) ?_
  refine ev_istore_n 3 d_M_free_3 rfl (Nat.le_of_ble_eq_true rfl) rfl ?_
  exact lp_M_free hn (nI b) 32 1 b [] (Or.inl rfl) (by omega) hb
theorem lp_M_endOf (hn : mc ≤ 8) (x : Int32) (b : Bool) : ∀ k i, i + k = 4 * mc → Ev M_M_endOf none (some (.int (oI (eOM me mp x b i k)))) (kM X me mp mc md mo mw ml mv my mt ms mq mh ma mz mk mn mr mx) 2 [(0, .ref 25), (1, .int x), (2, .int (zb b)), (3, .int (nI i))] [] (kM X me mp mc md mo mw ml mv my mt ms mq mh ma mz mk mn mr mx) 0 0 := by
  intro k
  induction k with
  | zero =>
    intro i hi
    refine ev_iload_n 3 d_M_endOf_2 rfl rfl ?_
    refine ev_iconst (v := 4) d_M_endOf_3 (by decide) ?_
    refine ev_aload_n 0 d_M_endOf_4 rfl rfl ?_
    refine ev_get f_M_66 d_M_endOf_5 rfl rfl ?_
    refine ev_imul d_M_endOf_8 ?_
    rw [z_m4]
    refine ev_icmp_ge 39 d_M_endOf_9 (by decide) (fun h => ?_) (fun h => ?_)
    · refine ev_iconst (v := -1) d_M_endOf_39 (by decide) ?_
      exact ev_iret d_M_endOf_40 rfl rfl (Nat.le_of_ble_eq_true rfl) (Nat.le_of_ble_eq_true rfl)
    · exact absurd (nI_le (by omega) (by omega)) h
  | succ k ih =>
    intro i hi
    have step : ¬ (me i = x ∧ inM mp i = b) → Ev M_M_endOf none (some (.int (oI (eOM me mp x b i (k + 1))))) (kM X me mp mc md mo mw ml mv my mt ms mq mh ma mz mk mn mr mx) 33 [(0, .ref 25), (1, .int x), (2, .int (zb b)), (3, .int (nI i))] [] (kM X me mp mc md mo mw ml mv my mt ms mq mh ma mz mk mn mr mx) 0 0 := by
      intro h3
      have e1 : eOM me mp x b i (k + 1) = eOM me mp x b (i + 1) k := by rw [eOM, if_neg h3]
      rw [e1]
      refine ev_iinc (v := _ + 1) d_M_endOf_33 rfl rfl (Nat.le_of_ble_eq_true rfl) rfl ?_
      rw [nI_1]
      refine ev_goto 2 d_M_endOf_36 (by decide) ?_
      exact ih (i + 1) (by omega)
    refine ev_iload_n 3 d_M_endOf_2 rfl rfl ?_
    refine ev_iconst (v := 4) d_M_endOf_3 (by decide) ?_
    refine ev_aload_n 0 d_M_endOf_4 rfl rfl ?_
    refine ev_get f_M_66 d_M_endOf_5 rfl rfl ?_
    refine ev_imul d_M_endOf_8 ?_
    rw [z_m4]
    refine ev_icmp_ge 39 d_M_endOf_9 (by decide) (fun h => ?_) (fun h => ?_)
    · exact absurd h (nI_ge (by omega) (by omega))
    · refine ev_aload_n 0 d_M_endOf_12 rfl rfl ?_
      refine ev_get f_M_7 d_M_endOf_13 rfl rfl ?_
      refine ev_iload_n 3 d_M_endOf_16 rfl rfl ?_
      refine ev_iald d_M_endOf_17 rfl (vp_in_nI (by omega) (by omega)) ?_
      rw [nI_clamp (by omega)]
      refine ev_iload_n 1 d_M_endOf_18 rfl rfl ?_
      refine ev_icmp_ne 33 d_M_endOf_19 (by decide) (fun h2 => ?_) (fun h2 => ?_)
      · exact step (fun q => h2 q.1)
      · refine ev_aload_n 0 d_M_endOf_22 rfl rfl ?_
        refine ev_iload_n 3 d_M_endOf_23 rfl rfl ?_
        refine ev_callV M_M_in [_] (sp_M_in (h := i) (by omega)) c_M_76 d_M_endOf_24 rfl rfl (by decide) (Nat.le_of_ble_eq_true rfl) ⟨rfl, rfl⟩ rfl ?_
        refine ev_iload_n 2 d_M_endOf_27 rfl rfl ?_
        refine ev_icmp_ne 33 d_M_endOf_28 (by decide) (fun h3 => ?_) (fun h3 => ?_)
        · exact step (fun q => h3 (by rw [q.2]))
        · have e1 : eOM me mp x b i (k + 1) = some i := by rw [eOM, if_pos ⟨h2, (zb_eq _ _).mp h3⟩]
          rw [e1]
          refine ev_iload_n 3 d_M_endOf_31 rfl rfl ?_
          exact ev_iret d_M_endOf_32 rfl rfl (Nat.le_of_ble_eq_true rfl) (Nat.le_of_ble_eq_true rfl)
theorem sp_M_endOf (hn : mc ≤ 8) (x : Int32) (b : Bool) : Sp M_M_endOf [.ref 25, .int x, .int (zb b)] (kM X me mp mc md mo mw ml mv my mt ms mq mh ma mz mk mn mr mx) (some (.int (oI (eOM me mp x b 0 (4 * mc))))) (kM X me mp mc md mo mw ml mv my mt ms mq mh ma mz mk mn mr mx) := by
  refine Sp.of (by decide) (Nat.le_of_ble_eq_true rfl) ?_
  refine ev_iconst (v := 0) d_M_endOf_0 (by decide) ?_
  refine ev_istore_n 3 d_M_endOf_1 rfl (Nat.le_of_ble_eq_true rfl) rfl ?_
  exact lp_M_endOf hn x b (4 * mc) 0 (by omega)
theorem sp_M_instead (hn : mc ≤ 8) (p q : Int32) : Sp M_M_instead [.ref 25, .int p, .int q] (kM X me mp mc md mo mw ml mv my mt ms mq mh ma mz mk mn mr mx) none (kM X (inA me mp mc p q) mp mc md mo mw ml mv my mt ms mq mh ma mz mk mn mr mx) := by
  refine Sp.of (by decide) (Nat.le_of_ble_eq_true rfl) ?_
  refine ev_aload_n 0 d_M_instead_0 rfl rfl ?_
  refine ev_iload_n 2 d_M_instead_1 rfl rfl ?_
  refine ev_iconst (v := 1) d_M_instead_2 (by decide) ?_
  refine ev_callV M_M_endOf [_, _] (sp_M_endOf hn q true) c_M_154 d_M_instead_3 rfl rfl (by decide) (Nat.le_of_ble_eq_true rfl) ⟨rfl, rfl⟩ rfl ?_
  cases ho : eOM me mp q true 0 (4 * mc) with
  | none =>
    have h1 : inA me mp mc p q = me := by unfold inA; rw [ho]
    rw [h1]
    refine ev_istore_n 3 d_M_instead_6 rfl (Nat.le_of_ble_eq_true rfl) rfl ?_
    refine ev_iload_n 3 d_M_instead_7 rfl rfl ?_
    refine ev_if_lt 18 d_M_instead_8 (by decide) (fun h => ?_) (fun h => ?_)
    · exact ev_ret d_M_instead_18 rfl (Nat.le_of_ble_eq_true rfl) (Nat.le_of_ble_eq_true rfl)
    · exact absurd (by decide) h
  | some i =>
    have h1 : inA me mp mc p q = upd me i p := by unfold inA; rw [ho]
    have h2 := eOM_lt (N := 32) _ _ _ (by omega) ho
    rw [h1]
    refine ev_istore_n 3 d_M_instead_6 rfl (Nat.le_of_ble_eq_true rfl) rfl ?_
    refine ev_iload_n 3 d_M_instead_7 rfl rfl ?_
    refine ev_if_lt 18 d_M_instead_8 (by decide) (fun h => ?_) (fun h => ?_)
    · exact absurd h (nI_pos (by omega))
    · refine ev_aload_n 0 d_M_instead_11 rfl rfl ?_
      refine ev_get f_M_7 d_M_instead_12 rfl rfl ?_
      refine ev_iload_n 3 d_M_instead_15 rfl rfl ?_
      refine ev_iload_n 1 d_M_instead_16 rfl rfl ?_
      refine ev_iast d_M_instead_17 rfl (vp_in_nI (n := i) (by omega) (by omega)) ?_
      rw [show oI (some i) = nI i from rfl, nI_clamp (by omega)]
      exact ev_ret d_M_instead_18 rfl (Nat.le_of_ble_eq_true rfl) (Nat.le_of_ble_eq_true rfl)
theorem sp_M_join (hn : mc ≤ 8) (p q : Int32) : Sp M_M_join [.ref 25, .int p, .int q] (kM X me mp mc md mo mw ml mv my mt ms mq mh ma mz mk mn mr mx) none (kM X ((joM mc mp p q (me, mo)).1) mp mc md ((joM mc mp p q (me, mo)).2) mw ml mv my mt ms mq mh ma mz mk mn mr mx) := by
  refine Sp.of (by decide) (Nat.le_of_ble_eq_true rfl) ?_
  refine ev_iload_n 1 d_M_join_0 rfl rfl ?_
  refine ev_iload_n 2 d_M_join_1 rfl rfl ?_
  refine ev_icmp_ne 18 d_M_join_2 (by decide) (fun h => ?_) (fun h => ?_)
  · have e1 : joM mc mp p q (me, mo) = (inA me mp mc p q, mo) := by unfold joM; rw [if_neg h]
    rw [e1]
    refine ev_aload_n 0 d_M_join_18 rfl rfl ?_
    refine ev_iload_n 1 d_M_join_19 rfl rfl ?_
    refine ev_iload_n 2 d_M_join_20 rfl rfl ?_
    refine ev_callV M_M_instead [_, _] (sp_M_instead hn p q) c_M_158 d_M_join_21 rfl rfl (by decide) (Nat.le_of_ble_eq_true rfl) ⟨rfl, rfl⟩ rfl ?_
    exact ev_ret d_M_join_24 rfl (Nat.le_of_ble_eq_true rfl) (Nat.le_of_ble_eq_true rfl)
  · have e1 : joM mc mp p q (me, mo) = (me, mo + 1) := by unfold joM; rw [if_pos h]
    rw [e1]
    refine ev_aload_n 0 d_M_join_5 rfl rfl ?_
    refine ev_dup d_M_join_6 rfl ?_
    refine ev_get f_M_17 d_M_join_7 rfl rfl ?_
    refine ev_iconst (v := 1) d_M_join_10 (by decide) ?_
    refine ev_iadd d_M_join_11 ?_
    rw [nI_1]
    refine ev_put p_M_17 d_M_join_12 rfl (fun _ _ => ⟨rfl, rfl⟩) (Nat.le_of_ble_eq_true rfl) ?_
    refine ev_goto 24 d_M_join_15 (by decide) ?_
    exact ev_ret d_M_join_24 rfl (Nat.le_of_ble_eq_true rfl) (Nat.le_of_ble_eq_true rfl)
theorem lp_M_takeOut2 {x : Nat} : ∀ k y (mp : Nat → Int32), y + k = 7 → Ev M_M_takeOut none none (kM X me (itN toP y k mp) (mc) md mo mw ml mv my mt ms mq mh ma mz mk mn mr mx) 32 [(0, .ref 25), (1, .int (nI x)), (2, .int (nI y))] [] (kM X me mp (mc + 1) md mo mw ml mv my mt ms mq mh ma mz mk mn mr mx) 0 0 := by
  intro k
  induction k with
  | zero =>
    intro y mp hy
    rw [itN_0]
    refine ev_iload_n 2 d_M_takeOut_32 rfl rfl ?_
    refine ev_bipush (v := 7) d_M_takeOut_33 (by decide) ?_
    refine ev_icmp_ge 58 d_M_takeOut_35 (by decide) (fun h => ?_) (fun h => ?_)
    · refine ev_aload_n 0 d_M_takeOut_58 rfl rfl ?_
      refine ev_dup d_M_takeOut_59 rfl ?_
      refine ev_get f_M_66 d_M_takeOut_60 rfl rfl ?_
      refine ev_iconst (v := 1) d_M_takeOut_63 (by decide) ?_
      refine ev_isub d_M_takeOut_64 ?_
      rw [nI_pred]
      refine ev_put p_M_66 d_M_takeOut_65 rfl (fun _ _ => ⟨rfl, rfl⟩) (Nat.le_of_ble_eq_true rfl) ?_
      exact ev_ret d_M_takeOut_68 rfl (Nat.le_of_ble_eq_true rfl) (Nat.le_of_ble_eq_true rfl)
    · exact absurd (nI_le (a := 7) (b := y) (by omega) (by omega)) h
  | succ k ih =>
    intro y mp hy
    rw [itN_s]
    refine ev_iload_n 2 d_M_takeOut_32 rfl rfl ?_
    refine ev_bipush (v := 7) d_M_takeOut_33 (by decide) ?_
    refine ev_icmp_ge 58 d_M_takeOut_35 (by decide) (fun h => ?_) (fun h => ?_)
    · exact absurd h (nI_ge (b := 7) (by omega) (by omega))
    · refine ev_aload_n 0 d_M_takeOut_38 rfl rfl ?_
      refine ev_get f_M_13 d_M_takeOut_39 rfl rfl ?_
      refine ev_iload_n 2 d_M_takeOut_42 rfl rfl ?_
      refine ev_aload_n 0 d_M_takeOut_43 rfl rfl ?_
      refine ev_get f_M_13 d_M_takeOut_44 rfl rfl ?_
      refine ev_iload_n 2 d_M_takeOut_47 rfl rfl ?_
      refine ev_iconst (v := 1) d_M_takeOut_48 (by decide) ?_
      refine ev_iadd d_M_takeOut_49 ?_
      rw [nI_1]
      refine ev_zald d_M_takeOut_50 rfl (vp_in_nI (by omega) (by omega)) ?_
      rw [nI_clamp (by omega)]
      refine ev_zast d_M_takeOut_51 rfl (vp_in_nI (by omega) (by omega)) ?_
      refine ev_iinc (v := _ + 1) d_M_takeOut_52 rfl rfl (Nat.le_of_ble_eq_true rfl) rfl ?_
      rw [nI_clamp (by omega), nI_1]
      refine ev_goto 32 d_M_takeOut_55 (by decide) ?_
      exact ih (y + 1) (toP y mp) (by omega)
theorem lp_M_takeOut1 {x : Nat} (hx : x ≤ 7) : ∀ k h (me : Nat → Int32), h + k = 28 → Ev M_M_takeOut none none (kM X (itN toE h k me) (tP mp x) (mc) md mo mw ml mv my mt ms mq mh ma mz mk mn mr mx) 4 [(0, .ref 25), (1, .int (nI x)), (2, .int (nI h))] [] (kM X me mp (mc + 1) md mo mw ml mv my mt ms mq mh ma mz mk mn mr mx) 0 0 := by
  intro k
  induction k with
  | zero =>
    intro h me hh
    rw [itN_0]
    refine ev_iload_n 2 d_M_takeOut_4 rfl rfl ?_
    refine ev_bipush (v := 28) d_M_takeOut_5 (by decide) ?_
    refine ev_icmp_ge 30 d_M_takeOut_7 (by decide) (fun q0 => ?_) (fun q0 => ?_)
    · refine ev_iload_n 1 d_M_takeOut_30 rfl rfl ?_
      refine ev_istore_n 2 d_M_takeOut_31 rfl (Nat.le_of_ble_eq_true rfl) rfl ?_
      exact lp_M_takeOut2 (7 - x) x mp (by omega)
    · exact absurd (nI_le (a := 28) (b := h) (by omega) (by omega)) q0
  | succ k ih =>
    intro h me hh
    rw [itN_s]
    refine ev_iload_n 2 d_M_takeOut_4 rfl rfl ?_
    refine ev_bipush (v := 28) d_M_takeOut_5 (by decide) ?_
    refine ev_icmp_ge 30 d_M_takeOut_7 (by decide) (fun q0 => ?_) (fun q0 => ?_)
    · exact absurd q0 (nI_ge (b := 28) (by omega) (by omega))
    · refine ev_aload_n 0 d_M_takeOut_10 rfl rfl ?_
      refine ev_get f_M_7 d_M_takeOut_11 rfl rfl ?_
      refine ev_iload_n 2 d_M_takeOut_14 rfl rfl ?_
      refine ev_aload_n 0 d_M_takeOut_15 rfl rfl ?_
      refine ev_get f_M_7 d_M_takeOut_16 rfl rfl ?_
      refine ev_iload_n 2 d_M_takeOut_19 rfl rfl ?_
      refine ev_iconst (v := 4) d_M_takeOut_20 (by decide) ?_
      refine ev_iadd d_M_takeOut_21 ?_
      rw [z_p4]
      refine ev_iald d_M_takeOut_22 rfl (vp_in_nI (by omega) (by omega)) ?_
      rw [nI_clamp (by omega)]
      refine ev_iast d_M_takeOut_23 rfl (vp_in_nI (by omega) (by omega)) ?_
      refine ev_iinc (v := _ + 1) d_M_takeOut_24 rfl rfl (Nat.le_of_ble_eq_true rfl) rfl ?_
      rw [nI_clamp (by omega), nI_1]
      refine ev_goto 4 d_M_takeOut_27 (by decide) ?_
      exact ih (h + 1) (toE h me) (by omega)
theorem sp_M_takeOut {x : Nat} (hx : x ≤ 7) : Sp M_M_takeOut [.ref 25, .int (nI x)] (kM X me mp (mc + 1) md mo mw ml mv my mt ms mq mh ma mz mk mn mr mx) none (kM X (tE me x) (tP mp x) mc md mo mw ml mv my mt ms mq mh ma mz mk mn mr mx) := by
  refine Sp.of (by decide) (Nat.le_of_ble_eq_true rfl) ?_
  refine ev_iconst (v := 4) d_M_takeOut_0 (by decide) ?_
  refine ev_iload_n 1 d_M_takeOut_1 rfl rfl ?_
  refine ev_imul d_M_takeOut_2 ?_
  rw [z_m4]
  refine ev_istore_n 2 d_M_takeOut_3 rfl (Nat.le_of_ble_eq_true rfl) rfl ?_
  exact lp_M_takeOut1 hx (28 - 4 * x) (4 * x) me (by omega)
theorem sp_M_kink {k : Nat} (hk : k < 4) (hn : mc < 8) (e x y : Int32) : Sp M_M_kink [.ref 25, .int (nI k), .int e, .int x, .int y] (kM X me mp mc md mo mw ml mv my mt ms mq mh ma mz mk mn mr mx) none (kM X (kkE k me mc e x y) (upd mp mc (zb (kkB k))) (mc + 1) md mo mw ml mv my mt ms mq mh ma mz mk mn mr mx) := by
  refine Sp.of (by decide) (Nat.le_of_ble_eq_true rfl) ?_
  have fin : ∀ (me' mp' : Nat → Int32), Ev M_M_kink none none (kM X (me') (mp') (mc + 1) md mo mw ml mv my mt ms mq mh ma mz mk mn mr mx) 77 [(0, .ref 25), (1, .int (nI k)), (2, .int e), (3, .int x), (4, .int y), (5, .int (nI mc))] [] (kM X (me') (mp') mc md mo mw ml mv my mt ms mq mh ma mz mk mn mr mx) 0 0 := by
    intro me' mp'
    refine ev_aload_n 0 d_M_kink_77 rfl rfl ?_
    refine ev_dup d_M_kink_78 rfl ?_
    refine ev_get f_M_66 d_M_kink_79 rfl rfl ?_
    refine ev_iconst (v := 1) d_M_kink_82 (by decide) ?_
    refine ev_iadd d_M_kink_83 ?_
    rw [nI_1]
    refine ev_put p_M_66 d_M_kink_84 rfl (fun _ _ => ⟨rfl, rfl⟩) (Nat.le_of_ble_eq_true rfl) ?_
    exact ev_ret d_M_kink_87 rfl (Nat.le_of_ble_eq_true rfl) (Nat.le_of_ble_eq_true rfl)
  match k, hk with
  | 0, _ =>
    refine ev_aload_n 0 d_M_kink_0 rfl rfl ?_
    refine ev_get f_M_66 d_M_kink_1 rfl rfl ?_
    refine ev_istore d_M_kink_4 (Nat.le_of_ble_eq_true rfl) rfl ?_
    refine ev_iload_n 1 d_M_kink_6 rfl rfl ?_
    refine ev_if_ne 25 d_M_kink_7 (by decide) (fun q1 => ?_) (fun q1 => ?_)
    · exact absurd rfl q1
    · refine ev_aload_n 0 d_M_kink_10 rfl rfl ?_
      refine ev_iload d_M_kink_11 rfl ?_
      refine ev_iload_n 2 d_M_kink_13 rfl rfl ?_
      refine ev_iload d_M_kink_14 rfl ?_
      refine ev_iload_n 3 d_M_kink_16 rfl rfl ?_
      refine ev_iload_n 3 d_M_kink_17 rfl rfl ?_
      refine ev_iconst (v := 1) d_M_kink_18 (by decide) ?_
      refine ev_callV M_M_put [_, _, _, _, _, _] (sp_M_put (x := mc) (by omega) _ _ _ _ true) c_M_59 d_M_kink_19 rfl rfl (by decide) (Nat.le_of_ble_eq_true rfl) ⟨rfl, rfl⟩ rfl ?_
      refine ev_goto 77 d_M_kink_22 (by decide) ?_
      exact fin _ _
  | 1, _ =>
    refine ev_aload_n 0 d_M_kink_0 rfl rfl ?_
    refine ev_get f_M_66 d_M_kink_1 rfl rfl ?_
    refine ev_istore d_M_kink_4 (Nat.le_of_ble_eq_true rfl) rfl ?_
    refine ev_iload_n 1 d_M_kink_6 rfl rfl ?_
    refine ev_if_ne 25 d_M_kink_7 (by decide) (fun q1 => ?_) (fun q1 => ?_)
    · refine ev_iload_n 1 d_M_kink_25 rfl rfl ?_
      refine ev_iconst (v := 1) d_M_kink_26 (by decide) ?_
      refine ev_icmp_ne 45 d_M_kink_27 (by decide) (fun q2 => ?_) (fun q2 => ?_)
      · exact absurd rfl q2
      · refine ev_aload_n 0 d_M_kink_30 rfl rfl ?_
        refine ev_iload d_M_kink_31 rfl ?_
        refine ev_iload_n 2 d_M_kink_33 rfl rfl ?_
        refine ev_iload_n 3 d_M_kink_34 rfl rfl ?_
        refine ev_iload_n 3 d_M_kink_35 rfl rfl ?_
        refine ev_iload d_M_kink_36 rfl ?_
        refine ev_iconst (v := 0) d_M_kink_38 (by decide) ?_
        refine ev_callV M_M_put [_, _, _, _, _, _] (sp_M_put (x := mc) (by omega) _ _ _ _ false) c_M_59 d_M_kink_39 rfl rfl (by decide) (Nat.le_of_ble_eq_true rfl) ⟨rfl, rfl⟩ rfl ?_
        refine ev_goto 77 d_M_kink_42 (by decide) ?_
        exact fin _ _
    · exact absurd q1 (by decide)
  | 2, _ =>
    refine ev_aload_n 0 d_M_kink_0 rfl rfl ?_
    refine ev_get f_M_66 d_M_kink_1 rfl rfl ?_
    refine ev_istore d_M_kink_4 (Nat.le_of_ble_eq_true rfl) rfl ?_
    refine ev_iload_n 1 d_M_kink_6 rfl rfl ?_
    refine ev_if_ne 25 d_M_kink_7 (by decide) (fun q1 => ?_) (fun q1 => ?_)
    · refine ev_iload_n 1 d_M_kink_25 rfl rfl ?_
      refine ev_iconst (v := 1) d_M_kink_26 (by decide) ?_
      refine ev_icmp_ne 45 d_M_kink_27 (by decide) (fun q2 => ?_) (fun q2 => ?_)
      · refine ev_iload_n 1 d_M_kink_45 rfl rfl ?_
        refine ev_iconst (v := 2) d_M_kink_46 (by decide) ?_
        refine ev_icmp_ne 65 d_M_kink_47 (by decide) (fun q3 => ?_) (fun q3 => ?_)
        · exact absurd rfl q3
        · refine ev_aload_n 0 d_M_kink_50 rfl rfl ?_
          refine ev_iload d_M_kink_51 rfl ?_
          refine ev_iload_n 3 d_M_kink_53 rfl rfl ?_
          refine ev_iload_n 3 d_M_kink_54 rfl rfl ?_
          refine ev_iload d_M_kink_55 rfl ?_
          refine ev_iload_n 2 d_M_kink_57 rfl rfl ?_
          refine ev_iconst (v := 1) d_M_kink_58 (by decide) ?_
          refine ev_callV M_M_put [_, _, _, _, _, _] (sp_M_put (x := mc) (by omega) _ _ _ _ true) c_M_59 d_M_kink_59 rfl rfl (by decide) (Nat.le_of_ble_eq_true rfl) ⟨rfl, rfl⟩ rfl ?_
          refine ev_goto 77 d_M_kink_62 (by decide) ?_
          exact fin _ _
      · exact absurd q2 (by decide)
    · exact absurd q1 (by decide)
  | 3, _ =>
    refine ev_aload_n 0 d_M_kink_0 rfl rfl ?_
    refine ev_get f_M_66 d_M_kink_1 rfl rfl ?_
    refine ev_istore d_M_kink_4 (Nat.le_of_ble_eq_true rfl) rfl ?_
    refine ev_iload_n 1 d_M_kink_6 rfl rfl ?_
    refine ev_if_ne 25 d_M_kink_7 (by decide) (fun q1 => ?_) (fun q1 => ?_)
    · refine ev_iload_n 1 d_M_kink_25 rfl rfl ?_
      refine ev_iconst (v := 1) d_M_kink_26 (by decide) ?_
      refine ev_icmp_ne 45 d_M_kink_27 (by decide) (fun q2 => ?_) (fun q2 => ?_)
      · refine ev_iload_n 1 d_M_kink_45 rfl rfl ?_
        refine ev_iconst (v := 2) d_M_kink_46 (by decide) ?_
        refine ev_icmp_ne 65 d_M_kink_47 (by decide) (fun q3 => ?_) (fun q3 => ?_)
        · refine ev_aload_n 0 d_M_kink_65 rfl rfl ?_
          refine ev_iload d_M_kink_66 rfl ?_
          refine ev_iload_n 3 d_M_kink_68 rfl rfl ?_
          refine ev_iload_n 2 d_M_kink_69 rfl rfl ?_
          refine ev_iload d_M_kink_70 rfl ?_
          refine ev_iload_n 3 d_M_kink_72 rfl rfl ?_
          refine ev_iconst (v := 0) d_M_kink_73 (by decide) ?_
          refine ev_callV M_M_put [_, _, _, _, _, _] (sp_M_put (x := mc) (by omega) _ _ _ _ false) c_M_59 d_M_kink_74 rfl rfl (by decide) (Nat.le_of_ble_eq_true rfl) ⟨rfl, rfl⟩ rfl ?_
          exact fin _ _
        · exact absurd q3 (by decide)
      · exact absurd q2 (by decide)
    · exact absurd q1 (by decide)
theorem sp_M_twist_no {e k : Int32} (hn : mc ≤ 8) (hmo : mo < 1000000) (h : ¬ (mc < 8 ∧ ¬ k < 0 ∧ k ≤ 3 ∧ ((e = 0 ∧ ¬ mo = 0) ∨ (¬ e = 0 ∧ isE e = true ∧ occ me e 0 (4 * mc) = true)))) : Sp M_M_twist [.ref 25, .int e, .int k] (kM X me mp mc md mo mw ml mv my mt ms mq mh ma mz mk mn mr mx) (some (.int (zb false))) (kM X me mp mc md mo mw ml mv my mt ms mq mh ma mz mk mn mr mx) := by
  refine Sp.of (by decide) (Nat.le_of_ble_eq_true rfl) ?_
  refine ev_aload_n 0 d_M_twist_0 rfl rfl ?_
  refine ev_get f_M_66 d_M_twist_1 rfl rfl ?_
  refine ev_bipush (v := 8) d_M_twist_4 (by decide) ?_
  refine ev_icmp_eq 47 d_M_twist_6 (by decide) (fun h1 => ?_) (fun h1 => ?_)
  · refine ev_iconst (v := 0) d_M_twist_47 (by decide) ?_
    exact ev_iret d_M_twist_48 rfl zr0 (Nat.le_of_ble_eq_true rfl) (Nat.le_of_ble_eq_true rfl)
  · have h1' : mc < 8 := by
      have : ¬ mc = 8 := fun z => h1 (by rw [z]; rfl)
      omega
    refine ev_iload_n 2 d_M_twist_9 rfl rfl ?_
    refine ev_if_lt 47 d_M_twist_10 (by decide) (fun h2 => ?_) (fun h2 => ?_)
    · refine ev_iconst (v := 0) d_M_twist_47 (by decide) ?_
      exact ev_iret d_M_twist_48 rfl zr0 (Nat.le_of_ble_eq_true rfl) (Nat.le_of_ble_eq_true rfl)
    · refine ev_iload_n 2 d_M_twist_13 rfl rfl ?_
      refine ev_iconst (v := 3) d_M_twist_14 (by decide) ?_
      refine ev_icmp_gt 47 d_M_twist_15 (by decide) (fun h3 => ?_) (fun h3 => ?_)
      · refine ev_iconst (v := 0) d_M_twist_47 (by decide) ?_
        exact ev_iret d_M_twist_48 rfl zr0 (Nat.le_of_ble_eq_true rfl) (Nat.le_of_ble_eq_true rfl)
      · have h3' : k ≤ 3 := by rw [Int32.le_iff_toInt_le]; rw [Int32.lt_iff_toInt_lt] at h3; omega
        refine ev_iload_n 1 d_M_twist_18 rfl rfl ?_
        refine ev_if_ne 32 d_M_twist_19 (by decide) (fun h4 => ?_) (fun h4 => ?_)
        · refine ev_iload_n 1 d_M_twist_32 rfl rfl ?_
          refine ev_callS M_M_isEdge [_] (sp_M_isEdge _ e) c_M_55 d_M_twist_33 rfl (by decide) (Nat.le_of_ble_eq_true rfl) ⟨rfl, rfl⟩ rfl ?_
          refine ev_if_eq 47 d_M_twist_36 (by decide) (fun h5 => ?_) (fun h5 => ?_)
          · refine ev_iconst (v := 0) d_M_twist_47 (by decide) ?_
            exact ev_iret d_M_twist_48 rfl zr0 (Nat.le_of_ble_eq_true rfl) (Nat.le_of_ble_eq_true rfl)
          · refine ev_aload_n 0 d_M_twist_39 rfl rfl ?_
            refine ev_iload_n 1 d_M_twist_40 rfl rfl ?_
            refine ev_callV M_M_occurs [_] (sp_M_occurs hn e) c_M_136 d_M_twist_41 rfl rfl (by decide) (Nat.le_of_ble_eq_true rfl) ⟨rfl, rfl⟩ rfl ?_
            refine ev_if_ne 49 d_M_twist_44 (by decide) (fun h6 => ?_) (fun h6 => ?_)
            · exact absurd ⟨h1', h2, h3', Or.inr ⟨h4, (zb_n0 _).mp h5, (zb_n0 _).mp h6⟩⟩ h
            · refine ev_iconst (v := 0) d_M_twist_47 (by decide) ?_
              exact ev_iret d_M_twist_48 rfl zr0 (Nat.le_of_ble_eq_true rfl) (Nat.le_of_ble_eq_true rfl)
        · refine ev_aload_n 0 d_M_twist_22 rfl rfl ?_
          refine ev_get f_M_17 d_M_twist_23 rfl rfl ?_
          refine ev_if_ne 49 d_M_twist_26 (by decide) (fun h5 => ?_) (fun h5 => ?_)
          · exact absurd ⟨h1', h2, h3', Or.inl ⟨h4, fun z => h5 ((z_nz (by omega)).mpr z)⟩⟩ h
          · refine ev_goto 47 d_M_twist_29 (by decide) ?_
            refine ev_iconst (v := 0) d_M_twist_47 (by decide) ?_
            exact ev_iret d_M_twist_48 rfl zr0 (Nat.le_of_ble_eq_true rfl) (Nat.le_of_ble_eq_true rfl)
theorem sp_M_twist0 {k : Nat} (hn : mc < 8) (hk : k < 4) (hmo : mo < 1000000) : Sp M_M_twist [.ref 25, .int 0, .int (nI k)] (kM X me mp mc md (mo + 1) mw ml mv my mt ms mq mh ma mz mk mn mr mx) (some (.int (zb true))) (kM X (kkE k me mc (frI me mc 0) (frI me mc 1) (frI me mc 0)) (upd mp mc (zb (kkB k))) (mc + 1) md mo mw ml mv my mt ms mq mh ma mz mk mn mr mx) := by
  refine Sp.of (by decide) (Nat.le_of_ble_eq_true rfl) ?_
  refine ev_aload_n 0 d_M_twist_0 rfl rfl ?_
  refine ev_get f_M_66 d_M_twist_1 rfl rfl ?_
  refine ev_bipush (v := 8) d_M_twist_4 (by decide) ?_
  refine ev_icmp_eq 47 d_M_twist_6 (by decide) (fun h1 => ?_) (fun h1 => ?_)
  · exact absurd ((nI_eq (b := 8) (by omega) (by omega)).mp h1) (by omega)
  · refine ev_iload_n 2 d_M_twist_9 rfl rfl ?_
    refine ev_if_lt 47 d_M_twist_10 (by decide) (fun h2 => ?_) (fun h2 => ?_)
    · exact absurd h2 (nI_pos (by omega))
    · refine ev_iload_n 2 d_M_twist_13 rfl rfl ?_
      refine ev_iconst (v := 3) d_M_twist_14 (by decide) ?_
      refine ev_icmp_gt 47 d_M_twist_15 (by decide) (fun h3 => ?_) (fun h3 => ?_)
      · exact absurd h3 (nI_nlt (a := 3) (b := k) (by omega) (by omega))
      · refine ev_iload_n 1 d_M_twist_18 rfl rfl ?_
        refine ev_if_ne 32 d_M_twist_19 (by decide) (fun h4 => ?_) (fun h4 => ?_)
        · exact absurd rfl h4
        · refine ev_aload_n 0 d_M_twist_22 rfl rfl ?_
          refine ev_get f_M_17 d_M_twist_23 rfl rfl ?_
          refine ev_if_ne 49 d_M_twist_26 (by decide) (fun h5 => ?_) (fun h5 => ?_)
          · refine ev_aload_n 0 d_M_twist_49 rfl rfl ?_
            refine ev_iconst (v := 0) d_M_twist_50 (by decide) ?_
            refine ev_callV M_M_free [_] (sp_M_free (mo := mo + 1) (b := 0) (by omega) (by decide)) c_M_161 d_M_twist_51 rfl rfl (by decide) (Nat.le_of_ble_eq_true rfl) ⟨rfl, rfl⟩ rfl ?_
            refine ev_istore_n 3 d_M_twist_54 rfl (Nat.le_of_ble_eq_true rfl) rfl ?_
            refine ev_aload_n 0 d_M_twist_55 rfl rfl ?_
            refine ev_iconst (v := 1) d_M_twist_56 (by decide) ?_
            refine ev_callV M_M_free [_] (sp_M_free (mo := mo + 1) (b := 1) (by omega) (by decide)) c_M_161 d_M_twist_57 rfl rfl (by decide) (Nat.le_of_ble_eq_true rfl) ⟨rfl, rfl⟩ rfl ?_
            refine ev_istore d_M_twist_60 (Nat.le_of_ble_eq_true rfl) rfl ?_
            refine ev_iload_n 1 d_M_twist_62 rfl rfl ?_
            refine ev_if_ne 88 d_M_twist_63 (by decide) (fun h6 => ?_) (fun h6 => ?_)
            · exact absurd rfl h6
            · refine ev_aload_n 0 d_M_twist_66 rfl rfl ?_
              refine ev_dup d_M_twist_67 rfl ?_
              refine ev_get f_M_17 d_M_twist_68 rfl rfl ?_
              refine ev_iconst (v := 1) d_M_twist_71 (by decide) ?_
              refine ev_isub d_M_twist_72 ?_
              rw [nI_pred]
              refine ev_put p_M_17 d_M_twist_73 rfl (fun _ _ => ⟨rfl, rfl⟩) (Nat.le_of_ble_eq_true rfl) ?_
              refine ev_aload_n 0 d_M_twist_76 rfl rfl ?_
              refine ev_iload_n 2 d_M_twist_77 rfl rfl ?_
              refine ev_iload_n 3 d_M_twist_78 rfl rfl ?_
              refine ev_iload d_M_twist_79 rfl ?_
              refine ev_iload_n 3 d_M_twist_81 rfl rfl ?_
              refine ev_callV M_M_kink [_, _, _, _] (sp_M_kink hk hn _ _ _) c_M_164 d_M_twist_82 rfl rfl (by decide) (Nat.le_of_ble_eq_true rfl) ⟨rfl, rfl⟩ rfl ?_
              refine ev_goto 104 d_M_twist_85 (by decide) ?_
              refine ev_iconst (v := 1) d_M_twist_104 (by decide) ?_
              exact ev_iret d_M_twist_105 rfl zr1 (Nat.le_of_ble_eq_true rfl) (Nat.le_of_ble_eq_true rfl)
          · exact absurd h5 (nI_ne0 (by omega) (by omega))
theorem sp_M_twist {e : Int32} {k : Nat} (hn : mc < 8) (hk : k < 4) (he : ¬ e = 0) (hE : isE e = true) (ho : occ me e 0 (4 * mc) = true) : Sp M_M_twist [.ref 25, .int e, .int (nI k)] (kM X me mp mc md mo mw ml mv my mt ms mq mh ma mz mk mn mr mx) (some (.int (zb true))) (kM X (kkE k (inA me mp mc (frI me mc 1) e) mc e (frI me mc 0) (frI me mc 1)) (upd mp mc (zb (kkB k))) (mc + 1) md mo mw ml mv my mt ms mq mh ma mz mk mn mr mx) := by
  refine Sp.of (by decide) (Nat.le_of_ble_eq_true rfl) ?_
  refine ev_aload_n 0 d_M_twist_0 rfl rfl ?_
  refine ev_get f_M_66 d_M_twist_1 rfl rfl ?_
  refine ev_bipush (v := 8) d_M_twist_4 (by decide) ?_
  refine ev_icmp_eq 47 d_M_twist_6 (by decide) (fun h1 => ?_) (fun h1 => ?_)
  · exact absurd ((nI_eq (b := 8) (by omega) (by omega)).mp h1) (by omega)
  · refine ev_iload_n 2 d_M_twist_9 rfl rfl ?_
    refine ev_if_lt 47 d_M_twist_10 (by decide) (fun h2 => ?_) (fun h2 => ?_)
    · exact absurd h2 (nI_pos (by omega))
    · refine ev_iload_n 2 d_M_twist_13 rfl rfl ?_
      refine ev_iconst (v := 3) d_M_twist_14 (by decide) ?_
      refine ev_icmp_gt 47 d_M_twist_15 (by decide) (fun h3 => ?_) (fun h3 => ?_)
      · exact absurd h3 (nI_nlt (a := 3) (b := k) (by omega) (by omega))
      · refine ev_iload_n 1 d_M_twist_18 rfl rfl ?_
        refine ev_if_ne 32 d_M_twist_19 (by decide) (fun h4 => ?_) (fun h4 => ?_)
        · refine ev_iload_n 1 d_M_twist_32 rfl rfl ?_
          refine ev_callS M_M_isEdge [_] (sp_M_isEdge _ e) c_M_55 d_M_twist_33 rfl (by decide) (Nat.le_of_ble_eq_true rfl) ⟨rfl, rfl⟩ rfl ?_
          rw [hE]
          refine ev_if_eq 47 d_M_twist_36 (by decide) (fun h5 => ?_) (fun h5 => ?_)
          · exact absurd h5 (by decide)
          · refine ev_aload_n 0 d_M_twist_39 rfl rfl ?_
            refine ev_iload_n 1 d_M_twist_40 rfl rfl ?_
            refine ev_callV M_M_occurs [_] (sp_M_occurs (by omega) e) c_M_136 d_M_twist_41 rfl rfl (by decide) (Nat.le_of_ble_eq_true rfl) ⟨rfl, rfl⟩ rfl ?_
            rw [ho]
            refine ev_if_ne 49 d_M_twist_44 (by decide) (fun h6 => ?_) (fun h6 => ?_)
            · refine ev_aload_n 0 d_M_twist_49 rfl rfl ?_
              refine ev_iconst (v := 0) d_M_twist_50 (by decide) ?_
              refine ev_callV M_M_free [_] (sp_M_free (b := 0) (by omega) (by decide)) c_M_161 d_M_twist_51 rfl rfl (by decide) (Nat.le_of_ble_eq_true rfl) ⟨rfl, rfl⟩ rfl ?_
              refine ev_istore_n 3 d_M_twist_54 rfl (Nat.le_of_ble_eq_true rfl) rfl ?_
              refine ev_aload_n 0 d_M_twist_55 rfl rfl ?_
              refine ev_iconst (v := 1) d_M_twist_56 (by decide) ?_
              refine ev_callV M_M_free [_] (sp_M_free (b := 1) (by omega) (by decide)) c_M_161 d_M_twist_57 rfl rfl (by decide) (Nat.le_of_ble_eq_true rfl) ⟨rfl, rfl⟩ rfl ?_
              refine ev_istore d_M_twist_60 (Nat.le_of_ble_eq_true rfl) rfl ?_
              refine ev_iload_n 1 d_M_twist_62 rfl rfl ?_
              refine ev_if_ne 88 d_M_twist_63 (by decide) (fun h7 => ?_) (fun h7 => ?_)
              · refine ev_aload_n 0 d_M_twist_88 rfl rfl ?_
                refine ev_iload d_M_twist_89 rfl ?_
                refine ev_iload_n 1 d_M_twist_91 rfl rfl ?_
                refine ev_callV M_M_instead [_, _] (sp_M_instead (by omega) _ _) c_M_158 d_M_twist_92 rfl rfl (by decide) (Nat.le_of_ble_eq_true rfl) ⟨rfl, rfl⟩ rfl ?_
                refine ev_aload_n 0 d_M_twist_95 rfl rfl ?_
                refine ev_iload_n 2 d_M_twist_96 rfl rfl ?_
                refine ev_iload_n 1 d_M_twist_97 rfl rfl ?_
                refine ev_iload_n 3 d_M_twist_98 rfl rfl ?_
                refine ev_iload d_M_twist_99 rfl ?_
                refine ev_callV M_M_kink [_, _, _, _] (sp_M_kink hk hn _ _ _) c_M_164 d_M_twist_101 rfl rfl (by decide) (Nat.le_of_ble_eq_true rfl) ⟨rfl, rfl⟩ rfl ?_
                refine ev_iconst (v := 1) d_M_twist_104 (by decide) ?_
                exact ev_iret d_M_twist_105 rfl zr1 (Nat.le_of_ble_eq_true rfl) (Nat.le_of_ble_eq_true rfl)
              · exact absurd h7 he
            · exact absurd h6 (by decide)
        · exact absurd h4 he
theorem sp_M_isCrossing (x : Int32) : Sp M_M_isCrossing [.ref 25, .int x] (kM X me mp mc md mo mw ml mv my mt ms mq mh ma mz mk mn mr mx) (some (.int (zb (decide (¬ x < 0 ∧ x < nI mc))))) (kM X me mp mc md mo mw ml mv my mt ms mq mh ma mz mk mn mr mx) := by
  refine Sp.of (by decide) (Nat.le_of_ble_eq_true rfl) ?_
  refine ev_iload_n 1 d_M_isCrossing_0 rfl rfl ?_
  refine ev_if_lt 16 d_M_isCrossing_1 (by decide) (fun h => ?_) (fun h => ?_)
  · rw [decide_eq_false (fun q => q.1 h)]
    refine ev_iconst (v := 0) d_M_isCrossing_16 (by decide) ?_
    exact ev_iret d_M_isCrossing_17 rfl zr0 (Nat.le_of_ble_eq_true rfl) (Nat.le_of_ble_eq_true rfl)
  · refine ev_iload_n 1 d_M_isCrossing_4 rfl rfl ?_
    refine ev_aload_n 0 d_M_isCrossing_5 rfl rfl ?_
    refine ev_get f_M_66 d_M_isCrossing_6 rfl rfl ?_
    refine ev_icmp_ge 16 d_M_isCrossing_9 (by decide) (fun h2 => ?_) (fun h2 => ?_)
    · rw [decide_eq_false (fun q => absurd q.2 (by rw [Int32.lt_iff_toInt_lt]; rw [Int32.le_iff_toInt_le] at h2; omega))]
      refine ev_iconst (v := 0) d_M_isCrossing_16 (by decide) ?_
      exact ev_iret d_M_isCrossing_17 rfl zr0 (Nat.le_of_ble_eq_true rfl) (Nat.le_of_ble_eq_true rfl)
    · rw [decide_eq_true ⟨h, by rw [Int32.lt_iff_toInt_lt]; rw [Int32.le_iff_toInt_le] at h2; omega⟩]
      refine ev_iconst (v := 1) d_M_isCrossing_12 (by decide) ?_
      refine ev_goto 17 d_M_isCrossing_13 (by decide) ?_
      exact ev_iret d_M_isCrossing_17 rfl zr1 (Nat.le_of_ble_eq_true rfl) (Nat.le_of_ble_eq_true rfl)
end Md
