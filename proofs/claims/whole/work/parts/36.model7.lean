def mgM (a : Nat → Int32) (x y : Nat) : Nat → Int32 := itN (reS (if a x < a y then a y else a x) (if a x < a y then a x else a y)) 1 32 a
def nuI (e : Nat) (a : Nat → Int32) : Nat → Int32 := upd a e (nI (100 + e))
def nuS (me : Nat → Int32) (x : Nat) (a : Nat → Int32) : Nat → Int32 := mgM a (ed me (4 * x + 1)) (ed me (4 * x + 3))
def nuT (me : Nat → Int32) (n e : Nat) (S : (Nat → Int32) × Nat) : (Nat → Int32) × Nat := if S.1 e = nI (100 + e) ∧ occ me (nI e) 0 (4 * n) = true then (itN (reS (nI (100 + e)) (nI S.2)) e (33 - e) S.1, S.2 + 1) else S
def nuN (me ma : Nat → Int32) (n : Nat) : (Nat → Int32) × Nat := itN (nuT me n) 1 32 (itN (nuS me) 0 n (itN nuI 0 33 ma), 0)
section Md
variable {X : Nat → zE} {me mp : Nat → Int32} {mc md mo : Nat} {mw : Nat → Int32} {ml mv my : Nat} {mt : Nat → Int32} {ms mq mh : Nat → Int64} {ma : Nat → Int32} {mz : Nat} {mk mn : Nat → Int32} {mr : Nat → Int64} {mx : Nat → Int32}
theorem lp_M_merge {a b lo hi : Int32} : ∀ k e (ma : Nat → Int32), e + k = 33 → Ev M_M_merge none none (kM X me mp mc md mo mw ml mv my mt ms mq mh (itN (reS hi lo) e k ma) mz mk mn mr mx) 66 [(0, .ref 25), (1, .int a), (2, .int b), (3, .int lo), (4, .int hi), (5, .int (nI e))] [] (kM X me mp mc md mo mw ml mv my mt ms mq mh ma mz mk mn mr mx) 0 0 := by
  intro k
  induction k with
  | zero =>
    intro e ma he
    rw [itN_0]
    refine ev_iload d_M_merge_66 rfl ?_
    refine ev_bipush (v := 33) d_M_merge_68 (by decide) ?_
    refine ev_icmp_ge 109 d_M_merge_70 (by decide) (fun h => ?_) (fun h => ?_)
    · exact ev_ret d_M_merge_109 rfl (Nat.le_of_ble_eq_true rfl) (Nat.le_of_ble_eq_true rfl)
    · exact absurd (nI_le (a := 33) (b := e) (by omega) (by omega)) h
  | succ k ih =>
    intro e ma he
    rw [itN_s]
    have k2 : ∀ v : Int32, v = (if ma e = hi then lo else ma e) → Ev M_M_merge none none (kM X me mp mc md mo mw ml mv my mt ms mq mh (itN (reS hi lo) (e + 1) k (reS hi lo e ma)) mz mk mn mr mx) 102 [(0, .ref 25), (1, .int a), (2, .int b), (3, .int lo), (4, .int hi), (5, .int (nI e))] [.int v, .int (nI e), .ref 33] (kM X me mp mc md mo mw ml mv my mt ms mq mh ma mz mk mn mr mx) 0 0 := by
      intro v hv
      have e1 : reS hi lo e ma = upd ma e v := by unfold reS; rw [hv]
      rw [e1]
      refine ev_iast d_M_merge_102 rfl (vp_in_nI (by omega) (by omega)) ?_
      refine ev_iinc (v := _ + 1) d_M_merge_103 rfl rfl (Nat.le_of_ble_eq_true rfl) rfl ?_
      rw [nI_clamp (by omega), nI_1]
      refine ev_goto 66 d_M_merge_106 (by decide) ?_
      exact ih (e + 1) (upd ma e v) (by omega)
    refine ev_iload d_M_merge_66 rfl ?_
    refine ev_bipush (v := 33) d_M_merge_68 (by decide) ?_
    refine ev_icmp_ge 109 d_M_merge_70 (by decide) (fun h => ?_) (fun h => ?_)
    · exact absurd h (nI_ge (b := 33) (by omega) (by omega))
    · refine ev_aload_n 0 d_M_merge_73 rfl rfl ?_
      refine ev_get f_M_37 d_M_merge_74 rfl rfl ?_
      refine ev_iload d_M_merge_77 rfl ?_
      refine ev_aload_n 0 d_M_merge_79 rfl rfl ?_
      refine ev_get f_M_37 d_M_merge_80 rfl rfl ?_
      refine ev_iload d_M_merge_83 rfl ?_
      refine ev_iald d_M_merge_85 rfl (vp_in_nI (by omega) (by omega)) ?_
      rw [nI_clamp (by omega)]
      refine ev_iload d_M_merge_86 rfl ?_
      refine ev_icmp_ne 95 d_M_merge_88 (by decide) (fun q1 => ?_) (fun q1 => ?_)
      · refine ev_aload_n 0 d_M_merge_95 rfl rfl ?_
        refine ev_get f_M_37 d_M_merge_96 rfl rfl ?_
        refine ev_iload d_M_merge_99 rfl ?_
        refine ev_iald d_M_merge_101 rfl (vp_in_nI (by omega) (by omega)) ?_
        rw [nI_clamp (by omega)]
        exact k2 (ma e) (by rw [if_neg q1])
      · refine ev_iload_n 3 d_M_merge_91 rfl rfl ?_
        refine ev_goto 102 d_M_merge_92 (by decide) ?_
        exact k2 lo (by rw [if_pos q1])
theorem sp_M_merge {x y : Nat} (hx : x < 33) (hy : y < 33) : Sp M_M_merge [.ref 25, .int (nI x), .int (nI y)] (kM X me mp mc md mo mw ml mv my mt ms mq mh ma mz mk mn mr mx) none (kM X me mp mc md mo mw ml mv my mt ms mq mh (mgM ma x y) mz mk mn mr mx) := by
  refine Sp.of (by decide) (Nat.le_of_ble_eq_true rfl) ?_
  have k3 : ∀ hi : Int32, hi = (if ma x < ma y then ma y else ma x) → Ev M_M_merge none none (kM X me mp mc md mo mw ml mv my mt ms mq mh (mgM ma x y) mz mk mn mr mx) 61 [(0, .ref 25), (1, .int (nI x)), (2, .int (nI y)), (3, .int (if ma x < ma y then ma x else ma y))] [.int hi] (kM X me mp mc md mo mw ml mv my mt ms mq mh ma mz mk mn mr mx) 0 0 := by
    intro hi hh
    unfold mgM
    rw [← hh]
    refine ev_istore d_M_merge_61 (Nat.le_of_ble_eq_true rfl) rfl ?_
    refine ev_iconst (v := 1) d_M_merge_63 (by decide) ?_
    refine ev_istore d_M_merge_64 (Nat.le_of_ble_eq_true rfl) rfl ?_
    exact lp_M_merge 32 1 ma (by omega)
  have k2 : ∀ lo : Int32, lo = (if ma x < ma y then ma x else ma y) → Ev M_M_merge none none (kM X me mp mc md mo mw ml mv my mt ms mq mh (mgM ma x y) mz mk mn mr mx) 30 [(0, .ref 25), (1, .int (nI x)), (2, .int (nI y))] [.int lo] (kM X me mp mc md mo mw ml mv my mt ms mq mh ma mz mk mn mr mx) 0 0 := by
    intro lo hh
    rw [hh]
    refine ev_istore_n 3 d_M_merge_30 rfl (Nat.le_of_ble_eq_true rfl) rfl ?_
    refine ev_aload_n 0 d_M_merge_31 rfl rfl ?_
    refine ev_get f_M_37 d_M_merge_32 rfl rfl ?_
    refine ev_iload_n 1 d_M_merge_35 rfl rfl ?_
    refine ev_iald d_M_merge_36 rfl (vp_in_nI (by omega) (by omega)) ?_
    rw [nI_clamp (by omega)]
    refine ev_aload_n 0 d_M_merge_37 rfl rfl ?_
    refine ev_get f_M_37 d_M_merge_38 rfl rfl ?_
    refine ev_iload_n 2 d_M_merge_41 rfl rfl ?_
    refine ev_iald d_M_merge_42 rfl (vp_in_nI (by omega) (by omega)) ?_
    rw [nI_clamp (by omega)]
    refine ev_icmp_ge 55 d_M_merge_43 (by decide) (fun h => ?_) (fun h => ?_)
    · refine ev_aload_n 0 d_M_merge_55 rfl rfl ?_
      refine ev_get f_M_37 d_M_merge_56 rfl rfl ?_
      refine ev_iload_n 1 d_M_merge_59 rfl rfl ?_
      refine ev_iald d_M_merge_60 rfl (vp_in_nI (by omega) (by omega)) ?_
      rw [nI_clamp (by omega)]
      exact k3 (ma x) (by rw [if_neg (fun w => absurd h (by rw [Int32.le_iff_toInt_le]; rw [Int32.lt_iff_toInt_lt] at w; omega))])
    · refine ev_aload_n 0 d_M_merge_46 rfl rfl ?_
      refine ev_get f_M_37 d_M_merge_47 rfl rfl ?_
      refine ev_iload_n 2 d_M_merge_50 rfl rfl ?_
      refine ev_iald d_M_merge_51 rfl (vp_in_nI (by omega) (by omega)) ?_
      rw [nI_clamp (by omega)]
      refine ev_goto 61 d_M_merge_52 (by decide) ?_
      exact k3 (ma y) (by rw [if_pos (by rw [Int32.lt_iff_toInt_lt]; rw [Int32.le_iff_toInt_le] at h; omega)])
  refine ev_aload_n 0 d_M_merge_0 rfl rfl ?_
  refine ev_get f_M_37 d_M_merge_1 rfl rfl ?_
  refine ev_iload_n 1 d_M_merge_4 rfl rfl ?_
  refine ev_iald d_M_merge_5 rfl (vp_in_nI (by omega) (by omega)) ?_
  rw [nI_clamp (by omega)]
  refine ev_aload_n 0 d_M_merge_6 rfl rfl ?_
  refine ev_get f_M_37 d_M_merge_7 rfl rfl ?_
  refine ev_iload_n 2 d_M_merge_10 rfl rfl ?_
  refine ev_iald d_M_merge_11 rfl (vp_in_nI (by omega) (by omega)) ?_
  rw [nI_clamp (by omega)]
  refine ev_icmp_ge 24 d_M_merge_12 (by decide) (fun h => ?_) (fun h => ?_)
  · refine ev_aload_n 0 d_M_merge_24 rfl rfl ?_
    refine ev_get f_M_37 d_M_merge_25 rfl rfl ?_
    refine ev_iload_n 2 d_M_merge_28 rfl rfl ?_
    refine ev_iald d_M_merge_29 rfl (vp_in_nI (by omega) (by omega)) ?_
    rw [nI_clamp (by omega)]
    exact k2 (ma y) (by rw [if_neg (fun w => absurd h (by rw [Int32.le_iff_toInt_le]; rw [Int32.lt_iff_toInt_lt] at w; omega))])
  · refine ev_aload_n 0 d_M_merge_15 rfl rfl ?_
    refine ev_get f_M_37 d_M_merge_16 rfl rfl ?_
    refine ev_iload_n 1 d_M_merge_19 rfl rfl ?_
    refine ev_iald d_M_merge_20 rfl (vp_in_nI (by omega) (by omega)) ?_
    rw [nI_clamp (by omega)]
    refine ev_goto 30 d_M_merge_21 (by decide) ?_
    exact k2 (ma x) (by rw [if_pos (by rw [Int32.lt_iff_toInt_lt]; rw [Int32.le_iff_toInt_le] at h; omega)])
theorem lp_M_occurs (hn : mc ≤ 8) (x : Int32) : ∀ k i, i + k = 4 * mc → Ev M_M_occurs none (some (.int (zb (occ me x i k)))) (kM X me mp mc md mo mw ml mv my mt ms mq mh ma mz mk mn mr mx) 2 [(0, .ref 25), (1, .int x), (2, .int (nI i))] [] (kM X me mp mc md mo mw ml mv my mt ms mq mh ma mz mk mn mr mx) 0 0 := by
  intro k
  induction k with
  | zero =>
    intro i hi
    refine ev_iload_n 2 d_M_occurs_2 rfl rfl ?_
    refine ev_iconst (v := 4) d_M_occurs_3 (by decide) ?_
    refine ev_aload_n 0 d_M_occurs_4 rfl rfl ?_
    refine ev_get f_M_66 d_M_occurs_5 rfl rfl ?_
    refine ev_imul d_M_occurs_8 ?_
    rw [z_m4]
    refine ev_icmp_ge 30 d_M_occurs_9 (by decide) (fun h => ?_) (fun h => ?_)
    · refine ev_iconst (v := 0) d_M_occurs_30 (by decide) ?_
      exact ev_iret d_M_occurs_31 rfl zr0 (Nat.le_of_ble_eq_true rfl) (Nat.le_of_ble_eq_true rfl)
    · exact absurd (nI_le (by omega) (by omega)) h
  | succ k ih =>
    intro i hi
    refine ev_iload_n 2 d_M_occurs_2 rfl rfl ?_
    refine ev_iconst (v := 4) d_M_occurs_3 (by decide) ?_
    refine ev_aload_n 0 d_M_occurs_4 rfl rfl ?_
    refine ev_get f_M_66 d_M_occurs_5 rfl rfl ?_
    refine ev_imul d_M_occurs_8 ?_
    rw [z_m4]
    refine ev_icmp_ge 30 d_M_occurs_9 (by decide) (fun h => ?_) (fun h => ?_)
    · exact absurd h (nI_ge (by omega) (by omega))
    · refine ev_aload_n 0 d_M_occurs_12 rfl rfl ?_
      refine ev_get f_M_7 d_M_occurs_13 rfl rfl ?_
      refine ev_iload_n 2 d_M_occurs_16 rfl rfl ?_
      refine ev_iald d_M_occurs_17 rfl (vp_in_nI (by omega) (by omega)) ?_
      rw [nI_clamp (by omega)]
      refine ev_iload_n 1 d_M_occurs_18 rfl rfl ?_
      refine ev_icmp_ne 24 d_M_occurs_19 (by decide) (fun h2 => ?_) (fun h2 => ?_)
      · unfold occ
        rw [if_neg h2]
        refine ev_iinc (v := _ + 1) d_M_occurs_24 rfl rfl (Nat.le_of_ble_eq_true rfl) rfl ?_
        rw [nI_1]
        refine ev_goto 2 d_M_occurs_27 (by decide) ?_
        exact ih (i + 1) (by omega)
      · unfold occ
        rw [if_pos h2]
        refine ev_iconst (v := 1) d_M_occurs_22 (by decide) ?_
        exact ev_iret d_M_occurs_23 rfl zr1 (Nat.le_of_ble_eq_true rfl) (Nat.le_of_ble_eq_true rfl)
theorem sp_M_occurs (hn : mc ≤ 8) (x : Int32) : Sp M_M_occurs [.ref 25, .int x] (kM X me mp mc md mo mw ml mv my mt ms mq mh ma mz mk mn mr mx) (some (.int (zb (occ me x 0 (4 * mc))))) (kM X me mp mc md mo mw ml mv my mt ms mq mh ma mz mk mn mr mx) := by
  refine Sp.of (by decide) (Nat.le_of_ble_eq_true rfl) ?_
  refine ev_iconst (v := 0) d_M_occurs_0 (by decide) ?_
  refine ev_istore_n 2 d_M_occurs_1 rfl (Nat.le_of_ble_eq_true rfl) rfl ?_
  exact lp_M_occurs hn x (4 * mc) 0 (by omega)
theorem lp_M_number4 {e : Nat} (he : e < 33) (hz : mz < 1000) {r : Option Value} {wf : zW} : ∀ k j (ma : Nat → Int32), j + k = 33 → Ev M_M_number none r wf 144 [(0, .ref 25), (1, .int (nI e)), (2, .int (nI 33))] [] (kM X me mp mc md mo mw ml mv my mt ms mq mh (itN (reS (nI (100 + e)) (nI mz)) j k ma) mz mk mn mr mx) 0 0 → Ev M_M_number none r wf 100 [(0, .ref 25), (1, .int (nI e)), (2, .int (nI j))] [] (kM X me mp mc md mo mw ml mv my mt ms mq mh ma mz mk mn mr mx) 0 0 := by
  intro k
  induction k with
  | zero =>
    intro j ma hj kk
    rw [itN_0] at kk
    refine ev_iload_n 2 d_M_number_100 rfl rfl ?_
    refine ev_bipush (v := 33) d_M_number_101 (by decide) ?_
    refine ev_icmp_ge 144 d_M_number_103 (by decide) (fun h => ?_) (fun h => ?_)
    · rw [show j = 33 by omega]
      exact kk
    · exact absurd (nI_le (a := 33) (b := j) (by omega) (by omega)) h
  | succ k ih =>
    intro j ma hj kk
    rw [itN_s] at kk
    have k2 : ∀ v : Int32, v = (if ma j = nI (100 + e) then nI mz else ma j) → Ev M_M_number none r wf 137 [(0, .ref 25), (1, .int (nI e)), (2, .int (nI j))] [.int v, .int (nI j), .ref 33] (kM X me mp mc md mo mw ml mv my mt ms mq mh ma mz mk mn mr mx) 0 0 := by
      intro v hv
      have e1 : reS (nI (100 + e)) (nI mz) j ma = upd ma j v := by unfold reS; rw [hv]
      rw [e1] at kk
      refine ev_iast d_M_number_137 rfl (vp_in_nI (by omega) (by omega)) ?_
      refine ev_iinc (v := _ + 1) d_M_number_138 rfl rfl (Nat.le_of_ble_eq_true rfl) rfl ?_
      rw [nI_clamp (by omega), nI_1]
      refine ev_goto 100 d_M_number_141 (by decide) ?_
      exact ih (j + 1) (upd ma j v) (by omega) kk
    refine ev_iload_n 2 d_M_number_100 rfl rfl ?_
    refine ev_bipush (v := 33) d_M_number_101 (by decide) ?_
    refine ev_icmp_ge 144 d_M_number_103 (by decide) (fun h => ?_) (fun h => ?_)
    · exact absurd h (nI_ge (b := 33) (by omega) (by omega))
    · refine ev_aload_n 0 d_M_number_106 rfl rfl ?_
      refine ev_get f_M_37 d_M_number_107 rfl rfl ?_
      refine ev_iload_n 2 d_M_number_110 rfl rfl ?_
      refine ev_aload_n 0 d_M_number_111 rfl rfl ?_
      refine ev_get f_M_37 d_M_number_112 rfl rfl ?_
      refine ev_iload_n 2 d_M_number_115 rfl rfl ?_
      refine ev_iald d_M_number_116 rfl (vp_in_nI (by omega) (by omega)) ?_
      rw [nI_clamp (by omega)]
      refine ev_bipush (v := 100) d_M_number_117 (by decide) ?_
      refine ev_iload_n 1 d_M_number_119 rfl rfl ?_
      refine ev_iadd d_M_number_120 ?_
      rw [show (100 : Int32) + nI e = nI (100 + e) from nI_add 100 e]
      refine ev_icmp_ne 131 d_M_number_121 (by decide) (fun q1 => ?_) (fun q1 => ?_)
      · refine ev_aload_n 0 d_M_number_131 rfl rfl ?_
        refine ev_get f_M_37 d_M_number_132 rfl rfl ?_
        refine ev_iload_n 2 d_M_number_135 rfl rfl ?_
        refine ev_iald d_M_number_136 rfl (vp_in_nI (by omega) (by omega)) ?_
        rw [nI_clamp (by omega)]
        exact k2 (ma j) (by rw [if_neg q1])
      · refine ev_aload_n 0 d_M_number_124 rfl rfl ?_
        refine ev_get f_M_133 d_M_number_125 rfl rfl ?_
        refine ev_goto 137 d_M_number_128 (by decide) ?_
        exact k2 (nI mz) (by rw [if_pos q1])
theorem lp_M_number3 (hn : mc ≤ 8) : ∀ k e (ma : Nat → Int32) (mz : Nat) (ex : List (Nat × Value)), (ex = [] ∨ ∃ v, ex = [(2, .int v)]) → e + k = 33 → mz ≤ e → Ev M_M_number none none (kM X me mp mc md mo mw ml mv my mt ms mq mh ((itN (nuT me mc) e k (ma, mz)).1) ((itN (nuT me mc) e k (ma, mz)).2 + mo) mk mn mr mx) 71 ([(0, .ref 25), (1, .int (nI e))] ++ ex) [] (kM X me mp mc md mo mw ml mv my mt ms mq mh ma mz mk mn mr mx) 0 0 := by
  intro k
  induction k with
  | zero =>
    intro e ma mz ex hex he hz
    rw [itN_0]
    refine ev_drop (lv' := [(0, .ref 25), (1, .int (nI e))]) ?_
    refine ev_iload_n 1 d_M_number_71 rfl rfl ?_
    refine ev_bipush (v := 33) d_M_number_72 (by decide) ?_
    refine ev_icmp_ge 160 d_M_number_74 (by decide) (fun h => ?_) (fun h => ?_)
    · refine ev_aload_n 0 d_M_number_160 rfl rfl ?_
      refine ev_aload_n 0 d_M_number_161 rfl rfl ?_
      refine ev_get f_M_133 d_M_number_162 rfl rfl ?_
      refine ev_aload_n 0 d_M_number_165 rfl rfl ?_
      refine ev_get f_M_17 d_M_number_166 rfl rfl ?_
      refine ev_iadd d_M_number_169 ?_
      rw [nI_add]
      refine ev_put p_M_133 d_M_number_170 rfl (fun _ _ => ⟨rfl, rfl⟩) (Nat.le_of_ble_eq_true rfl) ?_
      exact ev_ret d_M_number_173 rfl (Nat.le_of_ble_eq_true rfl) (Nat.le_of_ble_eq_true rfl)
    · exact absurd (nI_le (a := 33) (b := e) (by omega) (by omega)) h
  | succ k ih =>
    intro e ma mz ex hex he hz
    rw [itN_s]
    have no : ¬ (ma e = nI (100 + e) ∧ occ me (nI e) 0 (4 * mc) = true) → Ev M_M_number none none (kM X me mp mc md mo mw ml mv my mt ms mq mh ((itN (nuT me mc) (e + 1) k (nuT me mc e (ma, mz))).1) ((itN (nuT me mc) (e + 1) k (nuT me mc e (ma, mz))).2 + mo) mk mn mr mx) 154 [(0, .ref 25), (1, .int (nI e))] [] (kM X me mp mc md mo mw ml mv my mt ms mq mh ma mz mk mn mr mx) 0 0 := by
      intro hq
      have e1 : nuT me mc e (ma, mz) = (ma, mz) := by unfold nuT; rw [if_neg hq]
      rw [e1]
      refine ev_iinc (v := _ + 1) d_M_number_154 rfl rfl (Nat.le_of_ble_eq_true rfl) rfl ?_
      rw [nI_1]
      refine ev_goto 71 d_M_number_157 (by decide) ?_
      exact ih (e + 1) ma mz [] (Or.inl rfl) (by omega) (by omega)
    refine ev_drop (lv' := [(0, .ref 25), (1, .int (nI e))]) ?_
    refine ev_iload_n 1 d_M_number_71 rfl rfl ?_
    refine ev_bipush (v := 33) d_M_number_72 (by decide) ?_
    refine ev_icmp_ge 160 d_M_number_74 (by decide) (fun h => ?_) (fun h => ?_)
    · exact absurd h (nI_ge (b := 33) (by omega) (by omega))
    · refine ev_aload_n 0 d_M_number_77 rfl rfl ?_
      refine ev_get f_M_37 d_M_number_78 rfl rfl ?_
      refine ev_iload_n 1 d_M_number_81 rfl rfl ?_
      refine ev_iald d_M_number_82 rfl (vp_in_nI (by omega) (by omega)) ?_
      rw [nI_clamp (by omega)]
      refine ev_bipush (v := 100) d_M_number_83 (by decide) ?_
      refine ev_iload_n 1 d_M_number_85 rfl rfl ?_
      refine ev_iadd d_M_number_86 ?_
      rw [show (100 : Int32) + nI e = nI (100 + e) from nI_add 100 e]
      refine ev_icmp_ne 154 d_M_number_87 (by decide) (fun q1 => ?_) (fun q1 => ?_)
      · exact no (fun w => q1 w.1)
      · refine ev_aload_n 0 d_M_number_90 rfl rfl ?_
        refine ev_iload_n 1 d_M_number_91 rfl rfl ?_
        refine ev_callV M_M_occurs [_] (sp_M_occurs hn (nI e)) c_M_136 d_M_number_92 rfl rfl (by decide) (Nat.le_of_ble_eq_true rfl) ⟨rfl, rfl⟩ rfl ?_
        refine ev_if_eq 154 d_M_number_95 (by decide) (fun q2 => ?_) (fun q2 => ?_)
        · exact no (fun w => by rw [(zb_0 _).mp q2] at w; exact absurd w.2 (by decide))
        · have e1 : nuT me mc e (ma, mz) = (itN (reS (nI (100 + e)) (nI mz)) e (33 - e) ma, mz + 1) := by unfold nuT; rw [if_pos ⟨q1, (zb_n0 _).mp q2⟩]
          rw [e1]
          refine ev_iload_n 1 d_M_number_98 rfl rfl ?_
          refine ev_istore_n 2 d_M_number_99 rfl (Nat.le_of_ble_eq_true rfl) rfl ?_
          refine lp_M_number4 (by omega) (by omega) (33 - e) e ma (by omega) ?_
          refine ev_aload_n 0 d_M_number_144 rfl rfl ?_
          refine ev_dup d_M_number_145 rfl ?_
          refine ev_get f_M_133 d_M_number_146 rfl rfl ?_
          refine ev_iconst (v := 1) d_M_number_149 (by decide) ?_
          refine ev_iadd d_M_number_150 ?_
          rw [nI_1]
          refine ev_put p_M_133 d_M_number_151 rfl (fun _ _ => ⟨rfl, rfl⟩) (Nat.le_of_ble_eq_true rfl) ?_
          refine ev_iinc (v := _ + 1) d_M_number_154 rfl rfl (Nat.le_of_ble_eq_true rfl) rfl ?_
          rw [nI_1]
          refine ev_goto 71 d_M_number_157 (by decide) ?_
          exact ih (e + 1) (itN (reS (nI (100 + e)) (nI mz)) e (33 - e) ma) (mz + 1) [(2, .int (nI 33))] (Or.inr ⟨_, rfl⟩) (by omega) (by omega)
theorem lp_M_number2 (hn : mc ≤ 8) (hf : edg (4 * mc) me) : ∀ k x (ma : Nat → Int32), x + k = mc → Ev M_M_number none none (kM X me mp mc md mo mw ml mv my mt ms mq mh ((itN (nuT me mc) 1 32 (itN (nuS me) x k ma, 0)).1) ((itN (nuT me mc) 1 32 (itN (nuS me) x k ma, 0)).2 + mo) mk mn mr mx) 26 [(0, .ref 25), (1, .int (nI x))] [] (kM X me mp mc md mo mw ml mv my mt ms mq mh ma mz mk mn mr mx) 0 0 := by
  intro k
  induction k with
  | zero =>
    intro x ma hx
    rw [itN_0]
    refine ev_iload_n 1 d_M_number_26 rfl rfl ?_
    refine ev_aload_n 0 d_M_number_27 rfl rfl ?_
    refine ev_get f_M_66 d_M_number_28 rfl rfl ?_
    refine ev_icmp_ge 64 d_M_number_31 (by decide) (fun h => ?_) (fun h => ?_)
    · refine ev_aload_n 0 d_M_number_64 rfl rfl ?_
      refine ev_iconst (v := 0) d_M_number_65 (by decide) ?_
      refine ev_put p_M_133 d_M_number_66 rfl (fun _ _ => ⟨rfl, rfl⟩) (Nat.le_of_ble_eq_true rfl) ?_
      refine ev_iconst (v := 1) d_M_number_69 (by decide) ?_
      refine ev_istore_n 1 d_M_number_70 rfl (Nat.le_of_ble_eq_true rfl) rfl ?_
      exact lp_M_number3 hn 32 1 ma 0 [] (Or.inl rfl) (by omega) (by omega)
    · exact absurd (nI_le (by omega) (by omega)) h
  | succ k ih =>
    intro x ma hx
    rw [itN_s (nuS me)]
    have h1 := edg_ed hf (e := 4 * x + 1) (by omega)
    have h3 := edg_ed hf (e := 4 * x + 3) (by omega)
    refine ev_iload_n 1 d_M_number_26 rfl rfl ?_
    refine ev_aload_n 0 d_M_number_27 rfl rfl ?_
    refine ev_get f_M_66 d_M_number_28 rfl rfl ?_
    refine ev_icmp_ge 64 d_M_number_31 (by decide) (fun h => ?_) (fun h => ?_)
    · exact absurd h (nI_ge (by omega) (by omega))
    · refine ev_aload_n 0 d_M_number_34 rfl rfl ?_
      refine ev_aload_n 0 d_M_number_35 rfl rfl ?_
      refine ev_get f_M_7 d_M_number_36 rfl rfl ?_
      refine ev_iconst (v := 4) d_M_number_39 (by decide) ?_
      refine ev_iload_n 1 d_M_number_40 rfl rfl ?_
      refine ev_imul d_M_number_41 ?_
      rw [z_m4]
      refine ev_iconst (v := 1) d_M_number_42 (by decide) ?_
      refine ev_iadd d_M_number_43 ?_
      rw [nI_1]
      refine ev_iald d_M_number_44 rfl (vp_in_nI (by omega) (by omega)) ?_
      rw [nI_clamp (by omega), h1.1]
      refine ev_aload_n 0 d_M_number_45 rfl rfl ?_
      refine ev_get f_M_7 d_M_number_46 rfl rfl ?_
      refine ev_iconst (v := 4) d_M_number_49 (by decide) ?_
      refine ev_iload_n 1 d_M_number_50 rfl rfl ?_
      refine ev_imul d_M_number_51 ?_
      rw [z_m4]
      refine ev_iconst (v := 3) d_M_number_52 (by decide) ?_
      refine ev_iadd d_M_number_53 ?_
      rw [z_p3]
      refine ev_iald d_M_number_54 rfl (vp_in_nI (by omega) (by omega)) ?_
      rw [nI_clamp (by omega), h3.1]
      refine ev_callV M_M_merge [_, _] (sp_M_merge (x := ed me (4 * x + 1)) (y := ed me (4 * x + 3)) (by omega) (by omega)) c_M_129 d_M_number_55 rfl rfl (by decide) (Nat.le_of_ble_eq_true rfl) ⟨rfl, rfl⟩ rfl ?_
      refine ev_iinc (v := _ + 1) d_M_number_58 rfl rfl (Nat.le_of_ble_eq_true rfl) rfl ?_
      rw [nI_1]
      refine ev_goto 26 d_M_number_61 (by decide) ?_
      exact ih (x + 1) (nuS me x ma) (by omega)
theorem lp_M_number1 (hn : mc ≤ 8) (hf : edg (4 * mc) me) : ∀ k e (ma : Nat → Int32), e + k = 33 → Ev M_M_number none none (kM X me mp mc md mo mw ml mv my mt ms mq mh ((itN (nuT me mc) 1 32 (itN (nuS me) 0 mc (itN nuI e k ma), 0)).1) ((itN (nuT me mc) 1 32 (itN (nuS me) 0 mc (itN nuI e k ma), 0)).2 + mo) mk mn mr mx) 2 [(0, .ref 25), (1, .int (nI e))] [] (kM X me mp mc md mo mw ml mv my mt ms mq mh ma mz mk mn mr mx) 0 0 := by
  intro k
  induction k with
  | zero =>
    intro e ma he
    rw [itN_0 nuI]
    refine ev_iload_n 1 d_M_number_2 rfl rfl ?_
    refine ev_bipush (v := 33) d_M_number_3 (by decide) ?_
    refine ev_icmp_ge 24 d_M_number_5 (by decide) (fun h => ?_) (fun h => ?_)
    · refine ev_iconst (v := 0) d_M_number_24 (by decide) ?_
      refine ev_istore_n 1 d_M_number_25 rfl (Nat.le_of_ble_eq_true rfl) rfl ?_
      exact lp_M_number2 hn hf mc 0 ma (by omega)
    · exact absurd (nI_le (a := 33) (b := e) (by omega) (by omega)) h
  | succ k ih =>
    intro e ma he
    rw [itN_s nuI]
    refine ev_iload_n 1 d_M_number_2 rfl rfl ?_
    refine ev_bipush (v := 33) d_M_number_3 (by decide) ?_
    refine ev_icmp_ge 24 d_M_number_5 (by decide) (fun h => ?_) (fun h => ?_)
    · exact absurd h (nI_ge (b := 33) (by omega) (by omega))
    · refine ev_aload_n 0 d_M_number_8 rfl rfl ?_
      refine ev_get f_M_37 d_M_number_9 rfl rfl ?_
      refine ev_iload_n 1 d_M_number_12 rfl rfl ?_
      refine ev_bipush (v := 100) d_M_number_13 (by decide) ?_
      refine ev_iload_n 1 d_M_number_15 rfl rfl ?_
      refine ev_iadd d_M_number_16 ?_
      rw [show (100 : Int32) + nI e = nI (100 + e) from nI_add 100 e]
      refine ev_iast d_M_number_17 rfl (vp_in_nI (by omega) (by omega)) ?_
      refine ev_iinc (v := _ + 1) d_M_number_18 rfl rfl (Nat.le_of_ble_eq_true rfl) rfl ?_
      rw [nI_clamp (by omega), nI_1]
      refine ev_goto 2 d_M_number_21 (by decide) ?_
      exact ih (e + 1) (nuI e ma) (by omega)
theorem sp_M_number (hn : mc ≤ 8) (hf : edg (4 * mc) me) : Sp M_M_number [.ref 25] (kM X me mp mc md mo mw ml mv my mt ms mq mh ma mz mk mn mr mx) none (kM X me mp mc md mo mw ml mv my mt ms mq mh ((nuN me ma mc).1) ((nuN me ma mc).2 + mo) mk mn mr mx) := by
  refine Sp.of (by decide) (Nat.le_of_ble_eq_true rfl) ?_
  refine ev_iconst (v := 0) d_M_number_0 (by decide) ?_
  refine ev_istore_n 1 d_M_number_1 rfl (Nat.le_of_ble_eq_true rfl) rfl ?_
  exact lp_M_number1 hn hf 33 0 ma (by omega)
end Md
