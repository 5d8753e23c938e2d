section Md
variable {X : Nat → zE} {me mp : Nat → Int32} {mc md mo : Nat} {mw : Nat → Int32} {ml mv my : Nat} {mt : Nat → Int32} {ms mq mh : Nat → Int64} {ma : Nat → Int32} {mz : Nat} {mk mn : Nat → Int32} {mr : Nat → Int64} {mx : Nat → Int32}
theorem lp_M_add4 {a b c : Int32} : ∀ k i (ms : Nat → Int64), i + k = 257 → Ev M_M_addState none none (kM X me mp mc md mo mw ml mv my mt ((fun t => if i ≤ t ∧ t < 257 then ms t + mq t else ms t)) mq mh ma mz mk mn mr mx) 105 [(0, .ref 25), (1, .int a), (2, .int b), (3, .int c), (4, .int (nI i))] [] (kM X me mp mc md mo mw ml mv my mt ms mq mh ma mz mk mn mr mx) 0 0 := by
  intro k
  induction k with
  | zero =>
    intro i ms hi
    have e1 : (fun t => if i ≤ t ∧ t < 257 then ms t + mq t else ms t) = ms := by
      funext t
      rw [if_neg (by omega)]
    rw [e1]
    refine ev_iload d_M_addState_105 rfl ?_
    refine ev_sipush (v := 257) d_M_addState_107 (by decide) ?_
    refine ev_icmp_ge 141 d_M_addState_110 (by decide) (fun h => ?_) (fun h => ?_)
    · exact ev_ret d_M_addState_141 rfl (Nat.le_of_ble_eq_true rfl) (Nat.le_of_ble_eq_true rfl)
    · exact absurd (nI_le (a := 257) (b := i) (by omega) (by omega)) h
  | succ k ih =>
    intro i ms hi
    refine ev_iload d_M_addState_105 rfl ?_
    refine ev_sipush (v := 257) d_M_addState_107 (by decide) ?_
    refine ev_icmp_ge 141 d_M_addState_110 (by decide) (fun h => ?_) (fun h => ?_)
    · exact absurd h (nI_ge (b := 257) (by omega) (by omega))
    · refine ev_aload_n 0 d_M_addState_113 rfl rfl ?_
      refine ev_get f_M_27 d_M_addState_114 rfl rfl ?_
      refine ev_iload d_M_addState_117 rfl ?_
      refine ev_aload_n 0 d_M_addState_119 rfl rfl ?_
      refine ev_get f_M_27 d_M_addState_120 rfl rfl ?_
      refine ev_iload d_M_addState_123 rfl ?_
      refine ev_lald d_M_addState_125 rfl (vp_in_nI (by omega) (by omega)) ?_
      rw [nI_clamp (by omega)]
      refine ev_aload_n 0 d_M_addState_126 rfl rfl ?_
      refine ev_get f_M_31 d_M_addState_127 rfl rfl ?_
      refine ev_iload d_M_addState_130 rfl ?_
      refine ev_lald d_M_addState_132 rfl (vp_in_nI (by omega) (by omega)) ?_
      rw [nI_clamp (by omega)]
      refine ev_ladd d_M_addState_133 ?_
      refine ev_last d_M_addState_134 rfl (vp_in_nI (by omega) (by omega)) ?_
      refine ev_iinc (v := _ + 1) d_M_addState_135 rfl rfl (Nat.le_of_ble_eq_true rfl) rfl ?_
      rw [nI_clamp (by omega), nI_1]
      refine ev_goto 105 d_M_addState_138 (by decide) ?_
      have h4 := ih (i + 1) (vp_updL ms i (ms i + mq i)) (by omega)
      have e1 : (fun t => if i + 1 ≤ t ∧ t < 257 then vp_updL ms i (ms i + mq i) t + mq t else vp_updL ms i (ms i + mq i) t) = (fun t => if i ≤ t ∧ t < 257 then ms t + mq t else ms t) := by
        funext t
        by_cases h5 : t = i
        · subst h5
          rw [if_neg (by omega), if_pos (by omega)]
          exact pk_uLs
        · rw [pk_uLn h5]
          by_cases h6 : i + 1 ≤ t ∧ t < 257
          · rw [if_pos h6, if_pos (by omega)]
          · rw [if_neg h6, if_neg (by omega)]
      rw [e1] at h4
      exact h4
theorem lp_M_add3 {a b : Int32} {cv : Nat} (hcv : cv < 2000000) : ∀ k j (mq mh : Nat → Int64), ((k = 0 ∧ cv ≤ j ∧ j < 2000000) ∨ j + k = cv) → Ev M_M_addState none none (kM X me mp mc md mo mw ml mv my mt ((fun t => if t < 257 then ms t + (itN (fun _ => dbP) j k (mq, mh)).1 t else ms t)) ((itN (fun _ => dbP) j k (mq, mh)).1) ((itN (fun _ => dbP) j k (mq, mh)).2) ma mz mk mn mr mx) 86 [(0, .ref 25), (1, .int a), (2, .int b), (3, .int (nI cv)), (4, .int (nI j))] [] (kM X me mp mc md mo mw ml mv my mt ms mq mh ma mz mk mn mr mx) 0 0 := by
  intro k
  induction k with
  | zero =>
    intro j mq mh hj
    rw [itN_0]
    have hj2 : cv ≤ j ∧ j < 2000000 := by omega
    refine ev_iload d_M_addState_86 rfl ?_
    refine ev_iload_n 3 d_M_addState_88 rfl rfl ?_
    refine ev_icmp_ge 102 d_M_addState_89 (by decide) (fun h => ?_) (fun h => ?_)
    · refine ev_iconst (v := 0) d_M_addState_102 (by decide) ?_
      refine ev_istore d_M_addState_103 (Nat.le_of_ble_eq_true rfl) rfl ?_
      have h4 := lp_M_add4 (X := X) (me := me) (mp := mp) (mc := mc) (md := md) (mo := mo) (mw := mw) (ml := ml) (mv := mv) (my := my) (mt := mt) (mq := mq) (mh := mh) (ma := ma) (mz := mz) (mk := mk) (mn := mn) (mr := mr) (mx := mx) (a := a) (b := b) (c := nI cv) 257 0 ms (by omega)
      have e1 : (fun t => if 0 ≤ t ∧ t < 257 then ms t + mq t else ms t) = (fun t => if t < 257 then ms t + mq t else ms t) := by
        funext t
        congr 1
        simp
      rw [e1] at h4
      exact h4
    · exact absurd (nI_le hj2.1 (by omega)) h
  | succ k ih =>
    intro j mq mh hj
    have hj2 : j + (k + 1) = cv := by omega
    rw [itN_s]
    refine ev_iload d_M_addState_86 rfl ?_
    refine ev_iload_n 3 d_M_addState_88 rfl rfl ?_
    refine ev_icmp_ge 102 d_M_addState_89 (by decide) (fun h => ?_) (fun h => ?_)
    · exact absurd h (nI_ge (by omega) (by omega))
    · refine ev_aload_n 0 d_M_addState_92 rfl rfl ?_
      refine ev_callV M_M_doubleLoop [] sp_M_doubleLoop c_M_123 d_M_addState_93 rfl rfl (by decide) (Nat.le_of_ble_eq_true rfl) ⟨rfl, rfl⟩ rfl ?_
      refine ev_iinc (v := _ + 1) d_M_addState_96 rfl rfl (Nat.le_of_ble_eq_true rfl) rfl ?_
      rw [nI_1]
      refine ev_goto 86 d_M_addState_99 (by decide) ?_
      exact ih (j + 1) (dbP (mq, mh)).1 (dbP (mq, mh)).2 (by omega)
theorem lp_M_add2 (hn : mc ≤ 8) (hmo : mo < 1000000) {o : Nat → Nat} (hw : win me 0 mc o) {i K : Nat} (hi : i < 256) {R : Nat × (Nat → Int32)} (hR : rds o (nI (1 + i)) K 0 (4 * mc) (clM mt) 0 = some R) : ∀ k x b (a : Int32), x + k = mc → 128 + a = nI b → 128 ≤ b + x → b ≤ 128 + x → Ev M_M_addState none none (kM X me mp mc md mo mw ml (0) (mc) (R.2) ((fun t => if t < 257 then ms t + (itN (fun _ => dbP) 1 (R.1 + mo - 1) (vp_updL mq (adN (nI i) x k b) 1, mh)).1 t else ms t)) ((itN (fun _ => dbP) 1 (R.1 + mo - 1) (vp_updL mq (adN (nI i) x k b) 1, mh)).1) ((itN (fun _ => dbP) 1 (R.1 + mo - 1) (vp_updL mq (adN (nI i) x k b) 1, mh)).2) ma mz mk mn mr mx) 26 [(0, .ref 25), (1, .int (nI i)), (2, .int a), (3, .int (nI x))] [] (kM X me mp mc md mo mw ml mv my mt ms mq mh ma mz mk mn mr mx) 0 0 := by
  intro k
  induction k with
  | zero =>
    intro x b a hx ha h1 h2
    have hle := rds_le _ _ _ _ _ hR
    have e0 : adN (nI i) x 0 b = b := by rw [adN]
    rw [e0]
    refine ev_iload_n 3 d_M_addState_26 rfl rfl ?_
    refine ev_aload_n 0 d_M_addState_27 rfl rfl ?_
    refine ev_get f_M_66 d_M_addState_28 rfl rfl ?_
    refine ev_icmp_ge 59 d_M_addState_31 (by decide) (fun h => ?_) (fun h => ?_)
    · refine ev_aload_n 0 d_M_addState_59 rfl rfl ?_
      refine ev_get f_M_31 d_M_addState_60 rfl rfl ?_
      refine ev_sipush (v := 128) d_M_addState_63 (by decide) ?_
      refine ev_iload_n 2 d_M_addState_66 rfl rfl ?_
      refine ev_iadd d_M_addState_67 ?_
      rw [ha]
      refine ev_lconst (v := 1) d_M_addState_68 (by decide) ?_
      refine ev_last d_M_addState_69 rfl (vp_in_nI (by omega) (by omega)) ?_
      rw [nI_clamp (by omega)]
      refine ev_aload_n 0 d_M_addState_70 rfl rfl ?_
      refine ev_iconst (v := 1) d_M_addState_71 (by decide) ?_
      refine ev_iload_n 1 d_M_addState_72 rfl rfl ?_
      refine ev_iadd d_M_addState_73 ?_
      rw [show (1 : Int32) + nI i = nI (1 + i) from nI_add 1 i]
      refine ev_callV M_M_rounds [_] (sp_M_rounds hn hw hR) c_M_117 d_M_addState_74 rfl rfl (by decide) (Nat.le_of_ble_eq_true rfl) ⟨rfl, rfl⟩ rfl ?_
      refine ev_aload_n 0 d_M_addState_77 rfl rfl ?_
      refine ev_get f_M_17 d_M_addState_78 rfl rfl ?_
      refine ev_iadd d_M_addState_81 ?_
      rw [nI_add]
      refine ev_istore_n 3 d_M_addState_82 rfl (Nat.le_of_ble_eq_true rfl) rfl ?_
      refine ev_iconst (v := 1) d_M_addState_83 (by decide) ?_
      refine ev_istore d_M_addState_84 (Nat.le_of_ble_eq_true rfl) rfl ?_
      exact lp_M_add3 (mv := 0) (my := mc) (by omega) (R.1 + mo - 1) 1 (vp_updL mq b 1) mh (by omega)
    · exact absurd (nI_le (by omega) (by omega)) h
  | succ k ih =>
    intro x b a hx ha h1 h2
    have e0 : adN (nI i) x (k + 1) b = adN (nI i) (x + 1) k (if (nI i >>> (nI x &&& 31)) &&& 1 = 1 then b + 1 else b - 1) := by rw [adN]
    rw [e0]
    refine ev_iload_n 3 d_M_addState_26 rfl rfl ?_
    refine ev_aload_n 0 d_M_addState_27 rfl rfl ?_
    refine ev_get f_M_66 d_M_addState_28 rfl rfl ?_
    refine ev_icmp_ge 59 d_M_addState_31 (by decide) (fun h => ?_) (fun h => ?_)
    · exact absurd h (nI_ge (by omega) (by omega))
    · refine ev_iload_n 1 d_M_addState_34 rfl rfl ?_
      refine ev_iload_n 3 d_M_addState_35 rfl rfl ?_
      refine ev_ishr d_M_addState_36 ?_
      refine ev_iconst (v := 1) d_M_addState_37 (by decide) ?_
      refine ev_iand d_M_addState_38 ?_
      refine ev_iconst (v := 1) d_M_addState_39 (by decide) ?_
      refine ev_icmp_ne 49 d_M_addState_40 (by decide) (fun q1 => ?_) (fun q1 => ?_)
      · rw [if_neg q1]
        refine ev_iload_n 2 d_M_addState_49 rfl rfl ?_
        refine ev_iconst (v := 1) d_M_addState_50 (by decide) ?_
        refine ev_isub d_M_addState_51 ?_
        refine ev_istore_n 2 d_M_addState_52 rfl (Nat.le_of_ble_eq_true rfl) rfl ?_
        refine ev_iinc (v := _ + 1) d_M_addState_53 rfl rfl (Nat.le_of_ble_eq_true rfl) rfl ?_
        rw [nI_1]
        refine ev_goto 26 d_M_addState_56 (by decide) ?_
        refine ih (x + 1) (b - 1) (a - 1) (by omega) ?_ (by omega) (by omega)
        rw [Int32.sub_eq_add_neg, ← Int32.add_assoc, ha, ← Int32.sub_eq_add_neg, show b = b - 1 + 1 by omega, nI_pred]
        rfl
      · rw [if_pos q1]
        refine ev_iload_n 2 d_M_addState_43 rfl rfl ?_
        refine ev_iconst (v := 1) d_M_addState_44 (by decide) ?_
        refine ev_iadd d_M_addState_45 ?_
        refine ev_goto 52 d_M_addState_46 (by decide) ?_
        refine ev_istore_n 2 d_M_addState_52 rfl (Nat.le_of_ble_eq_true rfl) rfl ?_
        refine ev_iinc (v := _ + 1) d_M_addState_53 rfl rfl (Nat.le_of_ble_eq_true rfl) rfl ?_
        rw [nI_1]
        refine ev_goto 26 d_M_addState_56 (by decide) ?_
        refine ih (x + 1) (b + 1) (a + 1) (by omega) ?_ (by omega) (by omega)
        rw [← Int32.add_assoc, ha, nI_1]
theorem lp_M_add1 (hn : mc ≤ 8) (hmo : mo < 1000000) {o : Nat → Nat} (hw : win me 0 mc o) {i K : Nat} (hi : i < 256) {R : Nat × (Nat → Int32)} (hR : rds o (nI (1 + i)) K 0 (4 * mc) (clM mt) 0 = some R) : ∀ k x (mq : Nat → Int64), x + k = 257 → Ev M_M_addState none none (kM X me mp mc md mo mw ml (0) (mc) (R.2) ((fun t => if t < 257 then ms t + (itN (fun _ => dbP) 1 (R.1 + mo - 1) (vp_updL (fun t => if x ≤ t ∧ t < 257 then 0 else mq t) (adN (nI i) 0 mc 128) 1, mh)).1 t else ms t)) ((itN (fun _ => dbP) 1 (R.1 + mo - 1) (vp_updL (fun t => if x ≤ t ∧ t < 257 then 0 else mq t) (adN (nI i) 0 mc 128) 1, mh)).1) ((itN (fun _ => dbP) 1 (R.1 + mo - 1) (vp_updL (fun t => if x ≤ t ∧ t < 257 then 0 else mq t) (adN (nI i) 0 mc 128) 1, mh)).2) ma mz mk mn mr mx) 2 [(0, .ref 25), (1, .int (nI i)), (2, .int (nI x))] [] (kM X me mp mc md mo mw ml mv my mt ms mq mh ma mz mk mn mr mx) 0 0 := by
  intro k
  induction k with
  | zero =>
    intro x mq hx
    have e1 : (fun t => if x ≤ t ∧ t < 257 then 0 else mq t) = mq := by
      funext t
      rw [if_neg (by omega)]
    rw [e1]
    refine ev_iload_n 2 d_M_addState_2 rfl rfl ?_
    refine ev_sipush (v := 257) d_M_addState_3 (by decide) ?_
    refine ev_icmp_ge 22 d_M_addState_6 (by decide) (fun h => ?_) (fun h => ?_)
    · refine ev_iconst (v := 0) d_M_addState_22 (by decide) ?_
      refine ev_istore_n 2 d_M_addState_23 rfl (Nat.le_of_ble_eq_true rfl) rfl ?_
      refine ev_iconst (v := 0) d_M_addState_24 (by decide) ?_
      refine ev_istore_n 3 d_M_addState_25 rfl (Nat.le_of_ble_eq_true rfl) rfl ?_
      exact lp_M_add2 hn hmo hw hi hR mc 0 128 0 (by omega) (by decide) (by omega) (by omega)
    · exact absurd (nI_le (a := 257) (b := x) (by omega) (by omega)) h
  | succ k ih =>
    intro x mq hx
    refine ev_iload_n 2 d_M_addState_2 rfl rfl ?_
    refine ev_sipush (v := 257) d_M_addState_3 (by decide) ?_
    refine ev_icmp_ge 22 d_M_addState_6 (by decide) (fun h => ?_) (fun h => ?_)
    · exact absurd h (nI_ge (b := 257) (by omega) (by omega))
    · refine ev_aload_n 0 d_M_addState_9 rfl rfl ?_
      refine ev_get f_M_31 d_M_addState_10 rfl rfl ?_
      refine ev_iload_n 2 d_M_addState_13 rfl rfl ?_
      refine ev_lconst (v := 0) d_M_addState_14 (by decide) ?_
      refine ev_last d_M_addState_15 rfl (vp_in_nI (by omega) (by omega)) ?_
      refine ev_iinc (v := _ + 1) d_M_addState_16 rfl rfl (Nat.le_of_ble_eq_true rfl) rfl ?_
      rw [nI_clamp (by omega), nI_1]
      refine ev_goto 2 d_M_addState_19 (by decide) ?_
      have h4 := ih (x + 1) (vp_updL mq x 0) (by omega)
      have e1 : (fun t => if x + 1 ≤ t ∧ t < 257 then 0 else vp_updL mq x 0 t) = (fun t => if x ≤ t ∧ t < 257 then 0 else mq t) := by
        funext t
        by_cases h5 : t = x
        · subst h5
          rw [if_neg (by omega), if_pos (by omega)]
          exact pk_uLs
        · rw [pk_uLn h5]
          by_cases h6 : x + 1 ≤ t ∧ t < 257
          · rw [if_pos h6, if_pos (by omega)]
          · rw [if_neg h6, if_neg (by omega)]
      rw [e1] at h4
      exact h4
theorem sp_M_addState (hn : mc ≤ 8) (hmo : mo < 1000000) {o : Nat → Nat} (hw : win me 0 mc o) {i K : Nat} (hi : i < 256) (hs : (rds o (nI (1 + i)) K 0 (4 * mc) (clM mt) 0).isSome = true) : Sp M_M_addState [.ref 25, .int (nI i)] (kM X me mp mc md mo mw ml mv my mt ms mq mh ma mz mk mn mr mx) none (kM X me mp mc md mo mw ml (0) (mc) ((asS o K mc mo i (ms, mq, mh, mt)).2.2.2) ((asS o K mc mo i (ms, mq, mh, mt)).1) ((asS o K mc mo i (ms, mq, mh, mt)).2.1) ((asS o K mc mo i (ms, mq, mh, mt)).2.2.1) ma mz mk mn mr mx) := by
  refine Sp.of (by decide) (Nat.le_of_ble_eq_true rfl) ?_
  obtain ⟨R, hR⟩ := Option.isSome_iff_exists.mp hs
  have eR : rdT o (nI (1 + i)) K mc mt = R := by unfold rdT; rw [hR]; rfl
  unfold asS
  rw [eR]
  refine ev_iconst (v := 0) d_M_addState_0 (by decide) ?_
  refine ev_istore_n 2 d_M_addState_1 rfl (Nat.le_of_ble_eq_true rfl) rfl ?_
  have h4 := lp_M_add1 (X := X) (me := me) (mp := mp) (md := md) (mw := mw) (ml := ml) (mv := mv) (my := my) (ms := ms) (mh := mh) (ma := ma) (mz := mz) (mk := mk) (mn := mn) (mr := mr) (mx := mx) hn hmo hw hi hR 257 0 mq (by omega)
  have e1 : (fun t => if 0 ≤ t ∧ t < 257 then 0 else mq t) = (fun t => if t < 257 then 0 else mq t) := by
    funext t
    congr 1
    simp
  rw [e1] at h4
  exact h4
theorem lp_M_first2 (hn : mc ≤ 8) (hmo : mo < 1000000) {o : Nat → Nat} (hw : win me 0 mc o) {K : Nat} (hs : ∀ i mt, i < 2 ^ mc → (rds o (nI (1 + i)) K 0 (4 * mc) (clM mt) 0).isSome = true) {e : Int32} {r : Option Value} {wf : zW} : ∀ k i (ms mq mh : Nat → Int64) (mt : Nat → Int32) (mv my : Nat), i + k = 2 ^ mc → (∀ (S : l4) (mv' my' : Nat), S = itN (asS o K mc mo) i k (ms, mq, mh, mt) → (mv', my') = (if k = 0 then (mv, my) else (0, mc)) → Ev M_M_first none r wf 60 [(0, .ref 25), (1, .int e), (2, .int (nI (2 ^ mc)))] [] (kM X me mp mc md mo mw ml (mv') (my') (S.2.2.2) (S.1) (S.2.1) (S.2.2.1) ma mz mk mn mr mx) 0 0) → Ev M_M_first none r wf 39 [(0, .ref 25), (1, .int e), (2, .int (nI i))] [] (kM X me mp mc md mo mw ml mv my mt ms mq mh ma mz mk mn mr mx) 0 0 := by
  have hp := p2_le mc (by omega)
  intro k
  induction k with
  | zero =>
    intro i ms mq mh mt mv my hi kk
    have k1 := kk (ms, mq, mh, mt) mv my (by rw [itN_0]) (by rw [if_pos rfl])
    refine ev_iload_n 2 d_M_first_39 rfl rfl ?_
    refine ev_iconst (v := 1) d_M_first_40 (by decide) ?_
    refine ev_aload_n 0 d_M_first_41 rfl rfl ?_
    refine ev_get f_M_66 d_M_first_42 rfl rfl ?_
    refine ev_ishl d_M_first_45 ?_
    rw [z_shl1 mc (by omega)]
    refine ev_icmp_ge 60 d_M_first_46 (by decide) (fun h => ?_) (fun h => ?_)
    · rw [show i = 2 ^ mc by omega]
      exact k1
    · exact absurd (nI_le (by omega) (by omega)) h
  | succ k ih =>
    intro i ms mq mh mt mv my hi kk
    refine ev_iload_n 2 d_M_first_39 rfl rfl ?_
    refine ev_iconst (v := 1) d_M_first_40 (by decide) ?_
    refine ev_aload_n 0 d_M_first_41 rfl rfl ?_
    refine ev_get f_M_66 d_M_first_42 rfl rfl ?_
    refine ev_ishl d_M_first_45 ?_
    rw [z_shl1 mc (by omega)]
    refine ev_icmp_ge 60 d_M_first_46 (by decide) (fun h => ?_) (fun h => ?_)
    · exact absurd h (nI_ge (by omega) (by omega))
    · refine ev_aload_n 0 d_M_first_49 rfl rfl ?_
      refine ev_iload_n 2 d_M_first_50 rfl rfl ?_
      refine ev_callV M_M_addState [_] (sp_M_addState hn hmo hw (by omega) (hs i mt (by omega))) c_M_126 d_M_first_51 rfl rfl (by decide) (Nat.le_of_ble_eq_true rfl) ⟨rfl, rfl⟩ rfl ?_
      refine ev_iinc (v := _ + 1) d_M_first_54 rfl rfl (Nat.le_of_ble_eq_true rfl) rfl ?_
      rw [nI_1]
      refine ev_goto 39 d_M_first_57 (by decide) ?_
      refine ih (i + 1) (asS o K mc mo i (ms, mq, mh, mt)).1 (asS o K mc mo i (ms, mq, mh, mt)).2.1 (asS o K mc mo i (ms, mq, mh, mt)).2.2.1 (asS o K mc mo i (ms, mq, mh, mt)).2.2.2 0 mc (by omega) (fun S mv' my' hS hv => kk S mv' my' ?_ ?_)
      · rw [hS, itN_s]
      · rw [hv, if_neg (show ¬ k + 1 = 0 by omega)]
        split <;> rfl
theorem lp_M_first1 {e : Int32} {r : Option Value} {wf : zW} : ∀ k i (ms : Nat → Int64), i + k = 257 → Ev M_M_first none r wf 37 [(0, .ref 25), (1, .int e), (2, .int (nI 257))] [] (kM X me mp mc md mo mw ml mv my mt ((fun t => if i ≤ t ∧ t < 257 then 0 else ms t)) mq mh ma mz mk mn mr mx) 0 0 → Ev M_M_first none r wf 17 [(0, .ref 25), (1, .int e), (2, .int (nI i))] [] (kM X me mp mc md mo mw ml mv my mt ms mq mh ma mz mk mn mr mx) 0 0 := by
  intro k
  induction k with
  | zero =>
    intro i ms hi kk
    have e1 : (fun t => if i ≤ t ∧ t < 257 then 0 else ms t) = ms := by
      funext t
      rw [if_neg (by omega)]
    rw [e1] at kk
    refine ev_iload_n 2 d_M_first_17 rfl rfl ?_
    refine ev_sipush (v := 257) d_M_first_18 (by decide) ?_
    refine ev_icmp_ge 37 d_M_first_21 (by decide) (fun h => ?_) (fun h => ?_)
    · rw [show i = 257 by omega]
      exact kk
    · exact absurd (nI_le (a := 257) (b := i) (by omega) (by omega)) h
  | succ k ih =>
    intro i ms hi kk
    refine ev_iload_n 2 d_M_first_17 rfl rfl ?_
    refine ev_sipush (v := 257) d_M_first_18 (by decide) ?_
    refine ev_icmp_ge 37 d_M_first_21 (by decide) (fun h => ?_) (fun h => ?_)
    · exact absurd h (nI_ge (b := 257) (by omega) (by omega))
    · refine ev_aload_n 0 d_M_first_24 rfl rfl ?_
      refine ev_get f_M_27 d_M_first_25 rfl rfl ?_
      refine ev_iload_n 2 d_M_first_28 rfl rfl ?_
      refine ev_lconst (v := 0) d_M_first_29 (by decide) ?_
      refine ev_last d_M_first_30 rfl (vp_in_nI (by omega) (by omega)) ?_
      refine ev_iinc (v := _ + 1) d_M_first_31 rfl rfl (Nat.le_of_ble_eq_true rfl) rfl ?_
      rw [nI_clamp (by omega), nI_1]
      refine ev_goto 17 d_M_first_34 (by decide) ?_
      refine ih (i + 1) (vp_updL ms i 0) (by omega) ?_
      have e1 : (fun t => if i + 1 ≤ t ∧ t < 257 then 0 else vp_updL ms i 0 t) = (fun t => if i ≤ t ∧ t < 257 then 0 else ms t) := by
        funext t
        by_cases h5 : t = i
        · subst h5
          rw [if_neg (by omega), if_pos (by omega)]
          exact pk_uLs
        · rw [pk_uLn h5]
          by_cases h6 : i + 1 ≤ t ∧ t < 257
          · rw [if_pos h6, if_pos (by omega)]
          · rw [if_neg h6, if_neg (by omega)]
      rw [e1]
      exact kk
theorem sp_M_first_no {e : Int32} (h : e < -128 ∨ 128 < e) : Sp M_M_first [.ref 25, .int e] (kM X me mp mc md mo mw ml mv my mt ms mq mh ma mz mk mn mr mx) (some (.long 0)) (kM X me mp mc md mo mw ml mv my mt ms mq mh ma mz mk mn mr mx) := by
  refine Sp.of (by decide) (Nat.le_of_ble_eq_true rfl) ?_
  refine ev_iload_n 1 d_M_first_0 rfl rfl ?_
  refine ev_bipush (v := -128) d_M_first_1 (by decide) ?_
  refine ev_icmp_lt 13 d_M_first_3 (by decide) (fun q1 => ?_) (fun q1 => ?_)
  · refine ev_lconst (v := 0) d_M_first_13 (by decide) ?_
    exact ev_lret d_M_first_14 rfl (Nat.le_of_ble_eq_true rfl) (Nat.le_of_ble_eq_true rfl)
  · refine ev_iload_n 1 d_M_first_6 rfl rfl ?_
    refine ev_sipush (v := 128) d_M_first_7 (by decide) ?_
    refine ev_icmp_le 15 d_M_first_10 (by decide) (fun q2 => ?_) (fun q2 => ?_)
    · have := h.resolve_left q1
      exact absurd q2 (by rw [Int32.le_iff_toInt_le]; rw [Int32.lt_iff_toInt_lt] at this; omega)
    · refine ev_lconst (v := 0) d_M_first_13 (by decide) ?_
      exact ev_lret d_M_first_14 rfl (Nat.le_of_ble_eq_true rfl) (Nat.le_of_ble_eq_true rfl)
def f0 (ms : Nat → Int64) : Nat → Int64 := fun t => if t < 257 then 0 else ms t
def fiM (o : Nat → Nat) (K n mo : Nat) (ms mq mh : Nat → Int64) (mt : Nat → Int32) : l4 := itN (asS o K n mo) 0 (2 ^ n) (f0 ms, mq, mh, mt)
/-- the place that first reads -/
def fiA (e : Int32) (mp : Nat → Int32) (n : Nat) : Int32 := e + 3 * wrM mp 0 n 0 + 128
def fiR (mp : Nat → Int32) (n : Nat) (x : Int64) : Int64 := if wrM mp 0 n 0 - wrM mp 0 n 0 / 2 * 2 = 0 then x else -x
theorem sp_M_first {e : Int32} (h1 : ¬ e < -128) (h2 : e ≤ 128) (hn : mc ≤ 8) (hmo : mo < 1000000) {o : Nat → Nat} (hw : win me 0 mc o) {K : Nat} (hs : ∀ i mt, i < 2 ^ mc → (rds o (nI (1 + i)) K 0 (4 * mc) (clM mt) 0).isSome = true) : Sp M_M_first [.ref 25, .int e] (kM X me mp mc md mo mw ml mv my mt ms mq mh ma mz mk mn mr mx) (some (.long (fiR mp mc (if fiA e mp mc < 0 ∨ 256 < fiA e mp mc then 0 else (fiM o K mc mo ms mq mh mt).1 (fiA e mp mc).toNatClampNeg)))) (kM X me mp mc md mo mw ml (0) (mc) ((fiM o K mc mo ms mq mh mt).2.2.2) ((fiM o K mc mo ms mq mh mt).1) ((fiM o K mc mo ms mq mh mt).2.1) ((fiM o K mc mo ms mq mh mt).2.2.1) ma mz mk mn mr mx) := by
  refine Sp.of (by decide) (Nat.le_of_ble_eq_true rfl) ?_
  have fin : ∀ x : Int64, Ev M_M_first none (some (.long (fiR mp mc x))) (kM X me mp mc md mo mw ml (0) (mc) ((fiM o K mc mo ms mq mh mt).2.2.2) ((fiM o K mc mo ms mq mh mt).1) ((fiM o K mc mo ms mq mh mt).2.1) ((fiM o K mc mo ms mq mh mt).2.2.1) ma mz mk mn mr mx) 96 [(0, .ref 25), (1, .int e), (2, .int (wrM mp 0 mc 0)), (3, .int (fiA e mp mc))] [.long x] (kM X me mp mc md mo mw ml (0) (mc) ((fiM o K mc mo ms mq mh mt).2.2.2) ((fiM o K mc mo ms mq mh mt).1) ((fiM o K mc mo ms mq mh mt).2.1) ((fiM o K mc mo ms mq mh mt).2.2.1) ma mz mk mn mr mx) 0 0 := by
    intro x
    unfold fiR
    refine ev_lstore d_M_first_96 (Nat.le_of_ble_eq_true rfl) rfl ?_
    refine ev_iload_n 2 d_M_first_98 rfl rfl ?_
    refine ev_iconst (v := 2) d_M_first_99 (by decide) ?_
    refine ev_irem d_M_first_100 (by decide) ?_
    refine ev_if_ne 109 d_M_first_101 (by decide) (fun q1 => ?_) (fun q1 => ?_)
    · rw [if_neg q1]
      refine ev_lload d_M_first_109 rfl ?_
      refine ev_lneg d_M_first_111 ?_
      exact ev_lret d_M_first_112 rfl (Nat.le_of_ble_eq_true rfl) (Nat.le_of_ble_eq_true rfl)
    · rw [if_pos q1]
      refine ev_lload d_M_first_104 rfl ?_
      refine ev_goto 112 d_M_first_106 (by decide) ?_
      exact ev_lret d_M_first_112 rfl (Nat.le_of_ble_eq_true rfl) (Nat.le_of_ble_eq_true rfl)
  refine ev_iload_n 1 d_M_first_0 rfl rfl ?_
  refine ev_bipush (v := -128) d_M_first_1 (by decide) ?_
  refine ev_icmp_lt 13 d_M_first_3 (by decide) (fun q1 => ?_) (fun q1 => ?_)
  · exact absurd q1 h1
  · refine ev_iload_n 1 d_M_first_6 rfl rfl ?_
    refine ev_sipush (v := 128) d_M_first_7 (by decide) ?_
    refine ev_icmp_le 15 d_M_first_10 (by decide) (fun q2 => ?_) (fun q2 => ?_)
    · refine ev_iconst (v := 0) d_M_first_15 (by decide) ?_
      refine ev_istore_n 2 d_M_first_16 rfl (Nat.le_of_ble_eq_true rfl) rfl ?_
      refine lp_M_first1 257 0 ms (by omega) ?_
      have e1 : (fun t => if 0 ≤ t ∧ t < 257 then 0 else ms t) = f0 ms := by
        funext t
        unfold f0
        congr 1
        simp
      rw [e1]
      refine ev_iconst (v := 0) d_M_first_37 (by decide) ?_
      refine ev_istore_n 2 d_M_first_38 rfl (Nat.le_of_ble_eq_true rfl) rfl ?_
      refine lp_M_first2 hn hmo hw hs (2 ^ mc) 0 (f0 ms) mq mh mt mv my (by omega) (fun S mv' my' hS hv => ?_)
      have hS' : S = fiM o K mc mo ms mq mh mt := hS
      subst hS'
      have hp : 1 ≤ 2 ^ mc := Nat.one_le_two_pow
      rw [if_neg (by omega)] at hv
      cases hv
      refine ev_aload_n 0 d_M_first_60 rfl rfl ?_
      refine ev_callV M_M_writhe [] (sp_M_writhe (mv := 0) (my := mc) hn) c_M_120 d_M_first_61 rfl rfl (by decide) (Nat.le_of_ble_eq_true rfl) ⟨rfl, rfl⟩ rfl ?_
      refine ev_istore_n 2 d_M_first_64 rfl (Nat.le_of_ble_eq_true rfl) rfl ?_
      refine ev_iload_n 1 d_M_first_65 rfl rfl ?_
      refine ev_iconst (v := 3) d_M_first_66 (by decide) ?_
      refine ev_iload_n 2 d_M_first_67 rfl rfl ?_
      refine ev_imul d_M_first_68 ?_
      refine ev_iadd d_M_first_69 ?_
      refine ev_sipush (v := 128) d_M_first_70 (by decide) ?_
      refine ev_iadd d_M_first_73 ?_
      refine ev_istore_n 3 d_M_first_74 rfl (Nat.le_of_ble_eq_true rfl) rfl ?_
      show Ev M_M_first none _ _ _ [(0, .ref 25), (1, .int e), (2, .int (wrM mp 0 mc 0)), (3, .int (fiA e mp mc))] [] _ _ _
      refine ev_iload_n 3 d_M_first_75 rfl rfl ?_
      refine ev_if_lt 86 d_M_first_76 (by decide) (fun q3 => ?_) (fun q3 => ?_)
      · rw [if_pos (Or.inl q3)]
        refine ev_lconst (v := 0) d_M_first_86 (by decide) ?_
        refine ev_goto 96 d_M_first_87 (by decide) ?_
        exact fin 0
      · refine ev_iload_n 3 d_M_first_79 rfl rfl ?_
        refine ev_sipush (v := 256) d_M_first_80 (by decide) ?_
        refine ev_icmp_le 90 d_M_first_83 (by decide) (fun q4 => ?_) (fun q4 => ?_)
        · rw [if_neg (fun w => w.elim q3 (fun z => absurd q4 (by rw [Int32.le_iff_toInt_le]; rw [Int32.lt_iff_toInt_lt] at z; omega)))]
          refine ev_aload_n 0 d_M_first_90 rfl rfl ?_
          refine ev_get f_M_27 d_M_first_91 rfl rfl ?_
          refine ev_iload_n 3 d_M_first_94 rfl rfl ?_
          refine ev_lald d_M_first_95 rfl (by intro w; rcases w with w | w; exact q3 w; rw [Int32.le_iff_toInt_le] at q4; have e5 : (256 : Int32).toInt = 256 := (by decide); rw [e5] at q4; unfold Int32.toNatClampNeg at w; omega) ?_
          exact fin _
        · rw [if_pos (Or.inr (by rw [Int32.lt_iff_toInt_lt]; rw [Int32.le_iff_toInt_le] at q4; omega))]
          refine ev_lconst (v := 0) d_M_first_86 (by decide) ?_
          refine ev_goto 96 d_M_first_87 (by decide) ?_
          exact fin 0
    · exact absurd h2 q2
end Md
