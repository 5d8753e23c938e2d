def dbF (mq : Nat → Int64) (e : Nat) : Int64 := -(if 2 ≤ e then mq (e - 2) else 0) - (if e ≤ 254 then mq (e + 2) else 0)
abbrev l2 : Type := (Nat → Int64) × (Nat → Int64)
def dbP (S : l2) : l2 := (fun t => if t < 257 then dbF S.1 t else S.1 t, fun t => if t < 257 then dbF S.1 t else S.2 t)
def adN (st : Int32) : Nat → Nat → Nat → Nat
  | _, 0, b => b
  | x, k + 1, b => adN st (x + 1) k (if (st >>> (nI x &&& 31)) &&& 1 = 1 then b + 1 else b - 1)
theorem adN_in {st : Int32} : ∀ k x b, adN st x k b ≤ b + k ∧ b - k ≤ adN st x k b := by
  intro k
  induction k with
  | zero => intro x b; rw [adN]; omega
  | succ k ih =>
    intro x b
    rw [adN]
    split
    · have := ih (x + 1) (b + 1); omega
    · have := ih (x + 1) (b - 1); omega
/-- the state of what first sums: sum, power, shifted, met -/
abbrev l4 : Type := (Nat → Int64) × (Nat → Int64) × (Nat → Int64) × (Nat → Int32)
def rdT (o : Nat → Nat) (way : Int32) (K n : Nat) (mt : Nat → Int32) : Nat × (Nat → Int32) := (rds o way K 0 (4 * n) (clM mt) 0).getD (0, mt)
def pw0 (mq : Nat → Int64) (i n : Nat) : Nat → Int64 := vp_updL (fun t => if t < 257 then 0 else mq t) (adN (nI i) 0 n 128) 1
def asS (o : Nat → Nat) (K n mo : Nat) (i : Nat) (S : l4) : l4 :=
  (fun t => if t < 257 then S.1 t + (itN (fun _ => dbP) 1 ((rdT o (nI (1 + i)) K n S.2.2.2).1 + mo - 1) (pw0 S.2.1 i n, S.2.2.1)).1 t else S.1 t,
   (itN (fun _ => dbP) 1 ((rdT o (nI (1 + i)) K n S.2.2.2).1 + mo - 1) (pw0 S.2.1 i n, S.2.2.1)).1,
   (itN (fun _ => dbP) 1 ((rdT o (nI (1 + i)) K n S.2.2.2).1 + mo - 1) (pw0 S.2.1 i n, S.2.2.1)).2,
   (rdT o (nI (1 + i)) K n S.2.2.2).2)
section Md
variable {X : Nat → zE} {me mp : Nat → Int32} {mc md mo : Nat} {mw : Nat → Int32} {ml mv my : Nat} {mt : Nat → Int32} {ms mq mh : Nat → Int64} {ma : Nat → Int32} {mz : Nat} {mk mn : Nat → Int32} {mr : Nat → Int64} {mx : Nat → Int32}
theorem lp_M_double2 : ∀ k i (mq : Nat → Int64), i + k = 257 → Ev M_M_doubleLoop none none (kM X me mp mc md mo mw ml mv my mt ms ((fun t => if i ≤ t ∧ t < 257 then mh t else mq t)) mh ma mz mk mn mr mx) 67 [(0, .ref 25), (1, .int (nI i))] [] (kM X me mp mc md mo mw ml mv my mt ms mq mh ma mz mk mn mr mx) 0 0 := by
  intro k
  induction k with
  | zero =>
    intro i mq hi
    have e1 : (fun t => if i ≤ t ∧ t < 257 then mh t else mq t) = mq := by
      funext t
      rw [if_neg (by omega)]
    rw [e1]
    refine ev_iload_n 1 d_M_doubleLoop_67 rfl rfl ?_
    refine ev_sipush (v := 257) d_M_doubleLoop_68 (by decide) ?_
    refine ev_icmp_ge 92 d_M_doubleLoop_71 (by decide) (fun h => ?_) (fun h => ?_)
    · exact ev_ret d_M_doubleLoop_92 rfl (Nat.le_of_ble_eq_true rfl) (Nat.le_of_ble_eq_true rfl)
    · exact absurd (nI_le (a := 257) (b := i) (by omega) (by omega)) h
  | succ k ih =>
    intro i mq hi
    refine ev_iload_n 1 d_M_doubleLoop_67 rfl rfl ?_
    refine ev_sipush (v := 257) d_M_doubleLoop_68 (by decide) ?_
    refine ev_icmp_ge 92 d_M_doubleLoop_71 (by decide) (fun h => ?_) (fun h => ?_)
    · exact absurd h (nI_ge (b := 257) (by omega) (by omega))
    · refine ev_aload_n 0 d_M_doubleLoop_74 rfl rfl ?_
      refine ev_get f_M_31 d_M_doubleLoop_75 rfl rfl ?_
      refine ev_iload_n 1 d_M_doubleLoop_78 rfl rfl ?_
      refine ev_aload_n 0 d_M_doubleLoop_79 rfl rfl ?_
      refine ev_get f_M_34 d_M_doubleLoop_80 rfl rfl ?_
      refine ev_iload_n 1 d_M_doubleLoop_83 rfl rfl ?_
      refine ev_lald d_M_doubleLoop_84 rfl (vp_in_nI (by omega) (by omega)) ?_
      rw [nI_clamp (by omega)]
      refine ev_last d_M_doubleLoop_85 rfl (vp_in_nI (by omega) (by omega)) ?_
      refine ev_iinc (v := _ + 1) d_M_doubleLoop_86 rfl rfl (Nat.le_of_ble_eq_true rfl) rfl ?_
      rw [nI_clamp (by omega), nI_1]
      refine ev_goto 67 d_M_doubleLoop_89 (by decide) ?_
      have h4 := ih (i + 1) (vp_updL mq i (mh i)) (by omega)
      have e1 : (fun t => if i + 1 ≤ t ∧ t < 257 then mh t else vp_updL mq i (mh i) t) = (fun t => if i ≤ t ∧ t < 257 then mh t else mq t) := by
        funext t
        by_cases h5 : t = i
        · subst h5
          rw [if_neg (by omega), if_pos (by omega)]
          exact pk_uLs
        · rw [pk_uLn h5]
          by_cases h6 : i + 1 ≤ t ∧ t < 257
          · rw [if_pos h6, if_pos (by omega)]
          · rw [if_neg h6, if_neg (by omega)]
      rw [e1] at h4
      exact h4
theorem lp_M_double1 : ∀ k i (mh : Nat → Int64) (ex : List (Nat × Value)), (ex = [] ∨ ∃ u v : Int64, ex = [(2, .long u), (4, .long v)]) → i + k = 257 → (∀ t, t < i → mh t = dbF mq t) → Ev M_M_doubleLoop none none (kM X me mp mc md mo mw ml mv my mt ms ((dbP (mq, mh)).1) ((dbP (mq, mh)).2) ma mz mk mn mr mx) 2 ([(0, .ref 25), (1, .int (nI i))] ++ ex) [] (kM X me mp mc md mo mw ml mv my mt ms mq mh ma mz mk mn mr mx) 0 0 := by
  intro k
  induction k with
  | zero =>
    intro i mh ex hex hi hm
    have e1 : (dbP (mq, mh)).2 = mh := by
      funext t
      show (if t < 257 then dbF mq t else mh t) = mh t
      by_cases h5 : t < 257
      · rw [if_pos h5, hm t (by omega)]
      · rw [if_neg h5]
    have e2 : (dbP (mq, mh)).1 = (fun t => if 0 ≤ t ∧ t < 257 then mh t else mq t) := by
      funext t
      show (if t < 257 then dbF mq t else mq t) = _
      by_cases h5 : t < 257
      · rw [if_pos h5, if_pos ⟨by omega, h5⟩, hm t (by omega)]
      · rw [if_neg h5, if_neg (by omega)]
    rw [e1, e2]
    refine ev_drop (lv' := [(0, .ref 25), (1, .int (nI i))]) ?_
    refine ev_iload_n 1 d_M_doubleLoop_2 rfl rfl ?_
    refine ev_sipush (v := 257) d_M_doubleLoop_3 (by decide) ?_
    refine ev_icmp_ge 65 d_M_doubleLoop_6 (by decide) (fun h => ?_) (fun h => ?_)
    · refine ev_iconst (v := 0) d_M_doubleLoop_65 (by decide) ?_
      refine ev_istore_n 1 d_M_doubleLoop_66 rfl (Nat.le_of_ble_eq_true rfl) rfl ?_
      exact lp_M_double2 257 0 mq (by omega)
    · exact absurd (nI_le (a := 257) (b := i) (by omega) (by omega)) h
  | succ k ih =>
    intro i mh ex hex hi hm
    have fin : ∀ hi' : Int64, hi' = (if i ≤ 254 then mq (i + 2) else 0) → Ev M_M_doubleLoop none none (kM X me mp mc md mo mw ml mv my mt ms ((dbP (mq, mh)).1) ((dbP (mq, mh)).2) ma mz mk mn mr mx) 46 [(0, .ref 25), (1, .int (nI i)), (2, .long (if 2 ≤ i then mq (i - 2) else 0))] [.long hi'] (kM X me mp mc md mo mw ml mv my mt ms mq mh ma mz mk mn mr mx) 0 0 := by
      intro hi' hh
      refine ev_lstore d_M_doubleLoop_46 (Nat.le_of_ble_eq_true rfl) rfl ?_
      refine ev_aload_n 0 d_M_doubleLoop_48 rfl rfl ?_
      refine ev_get f_M_34 d_M_doubleLoop_49 rfl rfl ?_
      refine ev_iload_n 1 d_M_doubleLoop_52 rfl rfl ?_
      refine ev_lload_n 2 d_M_doubleLoop_53 rfl rfl ?_
      refine ev_lneg d_M_doubleLoop_54 ?_
      refine ev_lload d_M_doubleLoop_55 rfl ?_
      refine ev_lsub d_M_doubleLoop_57 ?_
      refine ev_last d_M_doubleLoop_58 rfl (vp_in_nI (by omega) (by omega)) ?_
      rw [nI_clamp (by omega)]
      refine ev_iinc (v := _ + 1) d_M_doubleLoop_59 rfl rfl (Nat.le_of_ble_eq_true rfl) rfl ?_
      rw [nI_1]
      refine ev_goto 2 d_M_doubleLoop_62 (by decide) ?_
      have h4 := ih (i + 1) (vp_updL mh i (dbF mq i)) [(2, .long (if 2 ≤ i then mq (i - 2) else 0)), (4, .long hi')] (Or.inr ⟨_, _, rfl⟩) (by omega) (by
        intro t ht
        by_cases h5 : t = i
        · rw [h5]; exact pk_uLs
        · rw [pk_uLn h5]; exact hm t (by omega))
      have e1 : dbP (mq, vp_updL mh i (dbF mq i)) = dbP (mq, mh) := by
        unfold dbP
        congr 1
        funext t
        by_cases h6 : t < 257
        · rw [if_pos h6, if_pos h6]
        · rw [if_neg h6, if_neg h6]
          exact pk_uLn (by omega)
      rw [e1] at h4
      have e2 : -(if 2 ≤ i then mq (i - 2) else 0) - hi' = dbF mq i := by unfold dbF; rw [hh]
      rw [e2]
      exact h4
    have mid : ∀ lo : Int64, lo = (if 2 ≤ i then mq (i - 2) else 0) → Ev M_M_doubleLoop none none (kM X me mp mc md mo mw ml mv my mt ms ((dbP (mq, mh)).1) ((dbP (mq, mh)).2) ma mz mk mn mr mx) 26 [(0, .ref 25), (1, .int (nI i))] [.long lo] (kM X me mp mc md mo mw ml mv my mt ms mq mh ma mz mk mn mr mx) 0 0 := by
      intro lo hlo
      rw [hlo]
      refine ev_lstore_n 2 d_M_doubleLoop_26 rfl (Nat.le_of_ble_eq_true rfl) rfl ?_
      refine ev_iload_n 1 d_M_doubleLoop_27 rfl rfl ?_
      refine ev_sipush (v := 254) d_M_doubleLoop_28 (by decide) ?_
      refine ev_icmp_gt 45 d_M_doubleLoop_31 (by decide) (fun h => ?_) (fun h => ?_)
      · refine ev_lconst (v := 0) d_M_doubleLoop_45 (by decide) ?_
        exact fin 0 (by rw [if_neg (fun w => absurd h (nI_nlt (a := 254) (b := i) w (by omega)))])
      · have h2 : i ≤ 254 := Nat.not_lt.mp (fun w => h (nI_lt (a := 254) w (by omega)))
        refine ev_aload_n 0 d_M_doubleLoop_34 rfl rfl ?_
        refine ev_get f_M_31 d_M_doubleLoop_35 rfl rfl ?_
        refine ev_iload_n 1 d_M_doubleLoop_38 rfl rfl ?_
        refine ev_iconst (v := 2) d_M_doubleLoop_39 (by decide) ?_
        refine ev_iadd d_M_doubleLoop_40 ?_
        rw [z_p2]
        refine ev_lald d_M_doubleLoop_41 rfl (vp_in_nI (by omega) (by omega)) ?_
        rw [nI_clamp (by omega)]
        refine ev_goto 46 d_M_doubleLoop_42 (by decide) ?_
        exact fin (mq (i + 2)) (by rw [if_pos h2])
    refine ev_drop (lv' := [(0, .ref 25), (1, .int (nI i))]) ?_
    refine ev_iload_n 1 d_M_doubleLoop_2 rfl rfl ?_
    refine ev_sipush (v := 257) d_M_doubleLoop_3 (by decide) ?_
    refine ev_icmp_ge 65 d_M_doubleLoop_6 (by decide) (fun h => ?_) (fun h => ?_)
    · exact absurd h (nI_ge (b := 257) (by omega) (by omega))
    · refine ev_iload_n 1 d_M_doubleLoop_9 rfl rfl ?_
      refine ev_iconst (v := 2) d_M_doubleLoop_10 (by decide) ?_
      refine ev_icmp_lt 25 d_M_doubleLoop_11 (by decide) (fun q1 => ?_) (fun q1 => ?_)
      · refine ev_lconst (v := 0) d_M_doubleLoop_25 (by decide) ?_
        exact mid 0 (by rw [if_neg (fun w => absurd q1 (nI_nlt (a := i) (b := 2) w (by omega)))])
      · have h2 : 2 ≤ i := Nat.not_lt.mp (fun w => q1 (nI_lt (b := 2) w (by omega)))
        refine ev_aload_n 0 d_M_doubleLoop_14 rfl rfl ?_
        refine ev_get f_M_31 d_M_doubleLoop_15 rfl rfl ?_
        refine ev_iload_n 1 d_M_doubleLoop_18 rfl rfl ?_
        refine ev_iconst (v := 2) d_M_doubleLoop_19 (by decide) ?_
        refine ev_isub d_M_doubleLoop_20 ?_
        rw [show nI i - 2 = nI (i - 2) from pk_sub (b := 2) h2]
        refine ev_lald d_M_doubleLoop_21 rfl (vp_in_nI (by omega) (by omega)) ?_
        rw [nI_clamp (by omega)]
        refine ev_goto 26 d_M_doubleLoop_22 (by decide) ?_
        exact mid (mq (i - 2)) (by rw [if_pos h2])
theorem sp_M_doubleLoop : Sp M_M_doubleLoop [.ref 25] (kM X me mp mc md mo mw ml mv my mt ms mq mh ma mz mk mn mr mx) none (kM X me mp mc md mo mw ml mv my mt ms ((dbP (mq, mh)).1) ((dbP (mq, mh)).2) ma mz mk mn mr mx) := by
  refine Sp.of (by decide) (Nat.le_of_ble_eq_true rfl) ?_
  refine ev_iconst (v := 0) d_M_doubleLoop_0 (by decide) ?_
  refine ev_istore_n 1 d_M_doubleLoop_1 rfl (Nat.le_of_ble_eq_true rfl) rfl ?_
  exact lp_M_double1 257 0 mh [] (Or.inl rfl) (by omega) (fun t ht => absurd ht (by omega))
end Md
