def bcI (x0 : Int32) : Int32 :=
  let x1 := x0 - ((x0.toUInt32 >>> ((1 : Int32).toUInt32 &&& Int32.toUInt32 31)).toInt32 &&& 1431655765)
  let x2 := (x1 &&& 858993459) + ((x1.toUInt32 >>> ((2 : Int32).toUInt32 &&& Int32.toUInt32 31)).toInt32 &&& 858993459)
  let x3 := (x2 + (x2.toUInt32 >>> ((4 : Int32).toUInt32 &&& Int32.toUInt32 31)).toInt32) &&& 252645135
  let x4 := x3 + (x3.toUInt32 >>> ((8 : Int32).toUInt32 &&& Int32.toUInt32 31)).toInt32
  let x5 := x4 + (x4.toUInt32 >>> ((16 : Int32).toUInt32 &&& Int32.toUInt32 31)).toInt32
  x5 &&& 63
def pc8 (i : Nat) : Nat := i % 2 + i / 2 % 2 + i / 4 % 2 + i / 8 % 2 + i / 16 % 2 + i / 32 % 2 + i / 64 % 2 + i / 128 % 2
theorem bc_pc : ∀ i, i < 256 → bcI (nI i) = nI (pc8 i) := by decide +kernel
theorem pc8_le (i : Nat) : pc8 i ≤ 8 := by unfold pc8; omega
theorem sp_I_bitCount (w : zW) (x : Int32) : Sp M_I_bitCount [.int x] w (some (.int (bcI x))) w := by
  refine Sp.of (by decide) (Nat.le_of_ble_eq_true rfl) ?_
  refine ev_iload_n 0 d_I_bitCount_0 rfl rfl ?_
  refine ev_iload_n 0 d_I_bitCount_1 rfl rfl ?_
  refine ev_iconst (v := 1) d_I_bitCount_2 (by decide) ?_
  refine ev_iushr d_I_bitCount_3 rfl ?_
  refine ev_ldcw (v := 1431655765) k_I_265 d_I_bitCount_4 ?_
  refine ev_iand d_I_bitCount_7 ?_
  refine ev_isub d_I_bitCount_8 ?_
  refine ev_istore_n 0 d_I_bitCount_9 rfl (Nat.le_of_ble_eq_true rfl) rfl ?_
  refine ev_iload_n 0 d_I_bitCount_10 rfl rfl ?_
  refine ev_ldcw (v := 858993459) k_I_266 d_I_bitCount_11 ?_
  refine ev_iand d_I_bitCount_14 ?_
  refine ev_iload_n 0 d_I_bitCount_15 rfl rfl ?_
  refine ev_iconst (v := 2) d_I_bitCount_16 (by decide) ?_
  refine ev_iushr d_I_bitCount_17 rfl ?_
  refine ev_ldcw (v := 858993459) k_I_266 d_I_bitCount_18 ?_
  refine ev_iand d_I_bitCount_21 ?_
  refine ev_iadd d_I_bitCount_22 ?_
  refine ev_istore_n 0 d_I_bitCount_23 rfl (Nat.le_of_ble_eq_true rfl) rfl ?_
  refine ev_iload_n 0 d_I_bitCount_24 rfl rfl ?_
  refine ev_iload_n 0 d_I_bitCount_25 rfl rfl ?_
  refine ev_iconst (v := 4) d_I_bitCount_26 (by decide) ?_
  refine ev_iushr d_I_bitCount_27 rfl ?_
  refine ev_iadd d_I_bitCount_28 ?_
  refine ev_ldcw (v := 252645135) k_I_267 d_I_bitCount_29 ?_
  refine ev_iand d_I_bitCount_32 ?_
  refine ev_istore_n 0 d_I_bitCount_33 rfl (Nat.le_of_ble_eq_true rfl) rfl ?_
  refine ev_iload_n 0 d_I_bitCount_34 rfl rfl ?_
  refine ev_iload_n 0 d_I_bitCount_35 rfl rfl ?_
  refine ev_bipush (v := 8) d_I_bitCount_36 (by decide) ?_
  refine ev_iushr d_I_bitCount_38 rfl ?_
  refine ev_iadd d_I_bitCount_39 ?_
  refine ev_istore_n 0 d_I_bitCount_40 rfl (Nat.le_of_ble_eq_true rfl) rfl ?_
  refine ev_iload_n 0 d_I_bitCount_41 rfl rfl ?_
  refine ev_iload_n 0 d_I_bitCount_42 rfl rfl ?_
  refine ev_bipush (v := 16) d_I_bitCount_43 (by decide) ?_
  refine ev_iushr d_I_bitCount_45 rfl ?_
  refine ev_iadd d_I_bitCount_46 ?_
  refine ev_istore_n 0 d_I_bitCount_47 rfl (Nat.le_of_ble_eq_true rfl) rfl ?_
  refine ev_iload_n 0 d_I_bitCount_48 rfl rfl ?_
  refine ev_bipush (v := 63) d_I_bitCount_49 (by decide) ?_
  refine ev_iand d_I_bitCount_51 ?_
  exact ev_iret d_I_bitCount_52 rfl rfl (Nat.le_of_ble_eq_true rfl) (Nat.le_of_ble_eq_true rfl)
def al (x : Nat) : Nat := x / 2 * 2 + (x + 1) % 2
def ac (x : Nat) : Nat := x / 4 * 4 + (3 - x % 4)
theorem z_al : ∀ x, x < 32 → nI x ^^^ 1 = nI (al x) := by decide +kernel
theorem z_ac : ∀ x, x < 32 → nI x ^^^ 3 = nI (ac x) := by decide +kernel
def thr (st : Int32) (x : Nat) : Nat := if (st >>> (nI (x / 4) &&& 31)) &&& 1 = 1 then al x else ac x
def swc (o : Nat → Nat) (st : Int32) : Nat → Int32 → Nat → Int32
  | 0, s, _ => s
  | k + 1, s, e => if (s >>> (nI e &&& 31)) &&& 1 = 0 then swc o st k (s ||| ((1 <<< (nI e &&& 31)) ||| (1 <<< (nI (o e) &&& 31)))) (thr st (o e)) else s
def cvs (o : Nat → Nat) (st : Int32) : Nat → Nat → Int32 → Nat → Nat
  | _, 0, _, c => c
  | i, k + 1, s, c => if (s >>> (nI i &&& 31)) &&& 1 = 0 then cvs o st (i + 1) k (swc o st 32 s i) (c + 1) else cvs o st (i + 1) k s c
def tal (o : Nat → Nat) (n cc : Nat) : Nat → Nat → (Nat → Int32) → Nat → Int32
  | _, 0, t => t
  | i, k + 1, t => tal o n cc (i + 1) k (if cvs o (nI i) 0 (4 * n) 0 0 + cc ≤ 28 then upd t ((cvs o (nI i) 0 (4 * n) 0 0 + cc) * 9 + pc8 i) (t ((cvs o (nI i) 0 (4 * n) 0 0 + cc) * 9 + pc8 i) + 1) else t)
def mbc : Nat → Nat → (Nat → Int64) → Int64 → Int64 → Nat → Int64
  | _, 0, m, _, _ => m
  | i, k + 1, m, tb, ob => mbc (i + 1) k (vp_updL m i (-tb - (if i + 2 < 125 then m (i + 2) else 0))) ob (m i)
def ads (t : Nat → Int32) (c n : Nat) : Nat → Nat → (Nat → Int64) → Nat → Int64
  | _, 0, m => m
  | i, k + 1, m => ads t c n (i + 1) k (vp_updL m (62 + 2 * i - n) (m (62 + 2 * i - n) + (t (c * 9 + i)).toInt64))
def hor (t : Nat → Int32) (n : Nat) : Nat → (Nat → Int64) → Nat → Int64
  | 0, m => m
  | c + 1, m => hor t n c (ads t (c + 1) n 0 (n + 1) (mbc 0 125 m 0 0))
theorem thr_lt {st : Int32} {x N : Nat} (h4 : N % 4 = 0) (hx : x < N) : thr st x < N := by
  unfold thr al ac
  split <;> omega
theorem cvs_le {o : Nat → Nat} {st : Int32} : ∀ k i s c, cvs o st i k s c ≤ c + k := by
  intro k
  induction k with
  | zero => intro i s c; rw [cvs]; omega
  | succ k ih =>
    intro i s c
    rw [cvs]
    split
    · have := ih (i + 1) (swc o st 32 s i) (c + 1); omega
    · have := ih (i + 1) s c; omega
abbrev oB (jo jt jm : Nat) : zE := .inr (1, [.ref jo, .ref jt, .ref jm])
abbrev zBr (w : zW) (jB jo jt jm : Nat) (oe t : Nat → Int32) (m : Nat → Int64) : Prop := w[jB]? = some (oB jo jt jm) ∧ w[jo]? = some (aI 32 oe) ∧ w[jt]? = some (aI 261 t) ∧ w[jm]? = some (aL 125 m)
theorem ev_drop {M : zM} {X : Option (Nat × (Nat → Int32))} {r : Option Value} {wf : zW} {pc : Nat} {st : List Value} {w : zW} {nc ns : Nat} {lv' ext : List (Nat × Value)} (k : Ev M X r wf pc lv' st w nc ns) : Ev M X r wf pc (lv' ++ ext) st w nc ns := ev_sub (fun _ hq => List.mem_append_left _ hq) k
section Br
variable {j je jg n jB jo jt jm : Nat} {f g oe t : Nat → Int32} {m : Nat → Int64}
theorem zBr_oe {w : zW} {oe' : Nat → Int32} (h : zBr w jB jo jt jm oe t m) : zBr (w.set jo (aI 32 oe')) jB jo jt jm oe' t m :=
  ⟨zs_ne (z_ne h.2.1 h.1 (by intro h; cases h)) h.1, zs_self h.2.1, zs_ne (z_ne h.2.1 h.2.2.1 (by intro h; cases h)) h.2.2.1, zs_ne (z_ne h.2.1 h.2.2.2 (by intro h; cases h)) h.2.2.2⟩
theorem zBr_t {w : zW} {t' : Nat → Int32} (h : zBr w jB jo jt jm oe t m) : zBr (w.set jt (aI 261 t')) jB jo jt jm oe t' m :=
  ⟨zs_ne (z_ne h.2.2.1 h.1 (by intro h; cases h)) h.1, zs_ne (z_ne h.2.2.1 h.2.1 (by intro h; cases h)) h.2.1, zs_self h.2.2.1, zs_ne (z_ne h.2.2.1 h.2.2.2 (by intro h; cases h)) h.2.2.2⟩
theorem zBr_m {w : zW} {m' : Nat → Int64} (h : zBr w jB jo jt jm oe t m) : zBr (w.set jm (aL 125 m')) jB jo jt jm oe t m' :=
  ⟨zs_ne (z_ne h.2.2.2 h.1 (by intro h; cases h)) h.1, zs_ne (z_ne h.2.2.2 h.2.1 (by intro h; cases h)) h.2.1, zs_ne (z_ne h.2.2.2 h.2.2.1 (by intro h; cases h)) h.2.2.1, zs_self h.2.2.2⟩
theorem zCr_oe {w : zW} {oe' : Nat → Int32} (hC : zCr w j je jg n f g) (h : zBr w jB jo jt jm oe t m) (hne : jo ≠ je) : zCr (w.set jo (aI 32 oe')) j je jg n f g :=
  zCr_set hC (z_ne h.2.1 hC.1 (by intro h; cases h)) hne (z_ne h.2.1 hC.2.2.1 (by intro h; cases h))
theorem zCr_t {w : zW} {t' : Nat → Int32} (hC : zCr w j je jg n f g) (h : zBr w jB jo jt jm oe t m) : zCr (w.set jt (aI 261 t')) j je jg n f g :=
  zCr_set hC (z_ne h.2.2.1 hC.1 (by intro h; cases h)) (z_ne h.2.2.1 hC.2.1 (by intro h; cases h)) (z_ne h.2.2.1 hC.2.2.1 (by intro h; cases h))
theorem zCr_m {w : zW} {m' : Nat → Int64} (hC : zCr w j je jg n f g) (h : zBr w jB jo jt jm oe t m) : zCr (w.set jm (aL 125 m')) j je jg n f g :=
  zCr_set hC (z_ne h.2.2.2 hC.1 (by intro h; cases h)) (z_ne h.2.2.2 hC.2.1 (by intro h; cases h)) (z_ne h.2.2.2 hC.2.2.1 (by intro h; cases h))
theorem lp_B_seen {w : zW} (hB : zBr w jB jo jt jm oe t m) {o : Nat → Nat} {N : Nat} (hN : N ≤ 32) (h4 : N % 4 = 0) (ho : ∀ e, e < N → oe e = nI (o e) ∧ o e < N) (st v1 v2 : Int32) : ∀ k (s : Int32) (e : Nat), k ≤ 32 → e < N → Ev M_B_seenWithCurve none (some (.int (swc o st k s e))) w 9 [(0, .ref jB), (1, .int v1), (2, .int v2), (3, .int st), (4, .int s), (5, .int (nI e)), (6, .int (nI (32 - k)))] [] w 0 0 := by
  intro k
  induction k with
  | zero =>
    intro s e hk he
    have e0 : swc o st 0 s e = s := by rw [swc]
    rw [e0]
    refine ev_iload d_B_seenWithCurve_9 rfl ?_
    refine ev_bipush (v := 32) d_B_seenWithCurve_11 (by decide) ?_
    refine ev_icmp_ge 93 d_B_seenWithCurve_13 (by decide) (fun h => ?_) (fun h => ?_)
    · refine ev_iload d_B_seenWithCurve_93 rfl ?_
      exact ev_iret d_B_seenWithCurve_95 rfl rfl (Nat.le_of_ble_eq_true rfl) (Nat.le_of_ble_eq_true rfl)
    · exact absurd (nI_le (a := 32) (b := 32) (by omega) (by omega)) h
  | succ k ih =>
    intro s e hk he
    refine ev_iload d_B_seenWithCurve_9 rfl ?_
    refine ev_bipush (v := 32) d_B_seenWithCurve_11 (by decide) ?_
    refine ev_icmp_ge 93 d_B_seenWithCurve_13 (by decide) (fun h => ?_) (fun h => ?_)
    · exact absurd h (nI_ge (b := 32) (by omega) (by omega))
    · refine ev_iload d_B_seenWithCurve_16 rfl ?_
      refine ev_iload d_B_seenWithCurve_18 rfl ?_
      refine ev_ishr d_B_seenWithCurve_20 ?_
      refine ev_iconst (v := 1) d_B_seenWithCurve_21 (by decide) ?_
      refine ev_iand d_B_seenWithCurve_22 ?_
      refine ev_if_ne 93 d_B_seenWithCurve_23 (by decide) (fun h2 => ?_) (fun h2 => ?_)
      · have e0 : swc o st (k + 1) s e = s := by rw [swc, if_neg h2]
        rw [e0]
        refine ev_iload d_B_seenWithCurve_93 rfl ?_
        exact ev_iret d_B_seenWithCurve_95 rfl rfl (Nat.le_of_ble_eq_true rfl) (Nat.le_of_ble_eq_true rfl)
      · have e0 : swc o st (k + 1) s e = swc o st k (s ||| ((1 <<< (nI e &&& 31)) ||| (1 <<< (nI (o e) &&& 31)))) (thr st (o e)) := by rw [swc, if_pos h2]
        rw [e0]
        obtain ⟨ho1, ho2⟩ := ho e he
        have key : ∀ v8 : Int32, Ev M_B_seenWithCurve none (some (.int (swc o st k (s ||| ((1 <<< (nI e &&& 31)) ||| (1 <<< (nI (o e) &&& 31)))) (thr st (o e))))) w 85 [(0, .ref jB), (1, .int v1), (2, .int v2), (3, .int st), (4, .int (s ||| ((1 <<< (nI e &&& 31)) ||| (1 <<< (nI (o e) &&& 31))))), (5, .int (nI e)), (6, .int (nI (32 - (k + 1)))), (7, .int (nI (o e))), (8, .int v8)] [.int (nI (thr st (o e)))] w 0 0 := by
          intro v8
          refine ev_istore d_B_seenWithCurve_85 (Nat.le_of_ble_eq_true rfl) rfl ?_
          refine ev_iinc (v := _ + 1) d_B_seenWithCurve_87 rfl rfl (Nat.le_of_ble_eq_true rfl) rfl ?_
          rw [nI_1, show 32 - (k + 1) + 1 = 32 - k by omega]
          refine ev_goto 9 d_B_seenWithCurve_90 (by decide) ?_
          exact ev_drop (lv' := [(0, .ref jB), (1, .int v1), (2, .int v2), (3, .int st), (4, .int (s ||| ((1 <<< (nI e &&& 31)) ||| (1 <<< (nI (o e) &&& 31))))), (5, .int (nI (thr st (o e)))), (6, .int (nI (32 - k)))]) (ext := [_, _]) (ih _ (thr st (o e)) (by omega) (thr_lt h4 ho2))
        refine ev_aload_n 0 d_B_seenWithCurve_26 rfl rfl ?_
        refine ev_get f_B_11 d_B_seenWithCurve_27 hB.1 rfl ?_
        refine ev_iload d_B_seenWithCurve_30 rfl ?_
        refine ev_iald d_B_seenWithCurve_32 hB.2.1 (vp_in_nI (by omega) (by omega)) ?_
        rw [nI_clamp (by omega), ho1]
        refine ev_istore d_B_seenWithCurve_33 (Nat.le_of_ble_eq_true rfl) rfl ?_
        refine ev_iload d_B_seenWithCurve_35 rfl ?_
        refine ev_iconst (v := 1) d_B_seenWithCurve_37 (by decide) ?_
        refine ev_iload d_B_seenWithCurve_38 rfl ?_
        refine ev_ishl d_B_seenWithCurve_40 ?_
        refine ev_iconst (v := 1) d_B_seenWithCurve_41 (by decide) ?_
        refine ev_iload d_B_seenWithCurve_42 rfl ?_
        refine ev_ishl d_B_seenWithCurve_44 ?_
        refine ev_ior d_B_seenWithCurve_45 ?_
        refine ev_ior d_B_seenWithCurve_46 ?_
        refine ev_istore d_B_seenWithCurve_47 (Nat.le_of_ble_eq_true rfl) rfl ?_
        refine ev_iload_n 3 d_B_seenWithCurve_49 rfl rfl ?_
        refine ev_iload d_B_seenWithCurve_50 rfl ?_
        refine ev_callS M_A_crossingOf [_] (sp_A_crossingOf w (by omega)) c_B_72 d_B_seenWithCurve_52 rfl (by decide) (Nat.le_of_ble_eq_true rfl) ⟨rfl, rfl⟩ rfl ?_
        refine ev_ishr d_B_seenWithCurve_55 ?_
        refine ev_iconst (v := 1) d_B_seenWithCurve_56 (by decide) ?_
        refine ev_iand d_B_seenWithCurve_57 ?_
        refine ev_iconst (v := 1) d_B_seenWithCurve_58 (by decide) ?_
        refine ev_icmp_ne 66 d_B_seenWithCurve_59 (by decide) (fun h3 => ?_) (fun h3 => ?_)
        · refine ev_iconst (v := 0) d_B_seenWithCurve_66 (by decide) ?_
          refine ev_istore d_B_seenWithCurve_67 (Nat.le_of_ble_eq_true rfl) rfl ?_
          refine ev_iload d_B_seenWithCurve_69 rfl ?_
          refine ev_if_eq 81 d_B_seenWithCurve_71 (by decide) (fun h5 => ?_) (fun h5 => ?_)
          · refine ev_iload d_B_seenWithCurve_81 rfl ?_
            refine ev_iconst (v := 3) d_B_seenWithCurve_83 (by decide) ?_
            refine ev_ixor d_B_seenWithCurve_84 ?_
            rw [z_ac _ (by omega)]
            have h6 : thr st (o e) = ac (o e) := by unfold thr; rw [if_neg h3]
            have k1 := key 0
            rw [h6] at k1 ⊢
            exact k1
          · exact absurd rfl h5
        · refine ev_iconst (v := 1) d_B_seenWithCurve_62 (by decide) ?_
          refine ev_goto 67 d_B_seenWithCurve_63 (by decide) ?_
          refine ev_istore d_B_seenWithCurve_67 (Nat.le_of_ble_eq_true rfl) rfl ?_
          refine ev_iload d_B_seenWithCurve_69 rfl ?_
          refine ev_if_eq 81 d_B_seenWithCurve_71 (by decide) (fun h5 => ?_) (fun h5 => ?_)
          · exact absurd h5 (by decide)
          · refine ev_iload d_B_seenWithCurve_74 rfl ?_
            refine ev_iconst (v := 1) d_B_seenWithCurve_76 (by decide) ?_
            refine ev_ixor d_B_seenWithCurve_77 ?_
            rw [z_al _ (by omega)]
            have h6 : thr st (o e) = al (o e) := by unfold thr; rw [if_pos h3]
            have k1 := key 1
            rw [h6] at k1 ⊢
            refine ev_goto 85 d_B_seenWithCurve_78 (by decide) ?_
            exact k1
theorem sp_B_seenWithCurve {w : zW} (hB : zBr w jB jo jt jm oe t m) {o : Nat → Nat} {N : Nat} (hN : N ≤ 32) (h4 : N % 4 = 0) (ho : ∀ e, e < N → oe e = nI (o e) ∧ o e < N) (s st : Int32) {e : Nat} (he : e < N) : Sp M_B_seenWithCurve [.ref jB, .int s, .int (nI e), .int st] w (some (.int (swc o st 32 s e))) w := by
  refine Sp.of (by decide) (Nat.le_of_ble_eq_true rfl) ?_
  refine ev_iload_n 1 d_B_seenWithCurve_0 rfl rfl ?_
  refine ev_istore d_B_seenWithCurve_1 (Nat.le_of_ble_eq_true rfl) rfl ?_
  refine ev_iload_n 2 d_B_seenWithCurve_3 rfl rfl ?_
  refine ev_istore d_B_seenWithCurve_4 (Nat.le_of_ble_eq_true rfl) rfl ?_
  refine ev_iconst (v := 0) d_B_seenWithCurve_6 (by decide) ?_
  refine ev_istore d_B_seenWithCurve_7 (Nat.le_of_ble_eq_true rfl) rfl ?_
  exact lp_B_seen hB hN h4 ho st s (nI e) 32 s e (by omega) he
theorem lp_B_curvesOf {w : zW} (hB : zBr w jB jo jt jm oe t m) {o : Nat → Nat} {N : Nat} (hN : N ≤ 32) (h4 : N % 4 = 0) (ho : ∀ e, e < N → oe e = nI (o e) ∧ o e < N) (st : Int32) : ∀ k i (s : Int32) (c : Nat), i + k = N → Ev M_B_curvesOf none (some (.int (nI (cvs o st i k s c)))) w 8 [(0, .ref jB), (1, .int st), (2, .int (nI N)), (3, .int (nI c)), (4, .int s), (5, .int (nI i))] [] w 0 0 := by
  intro k
  induction k with
  | zero =>
    intro i s c hi
    have e0 : cvs o st i 0 s c = c := by rw [cvs]
    rw [e0]
    refine ev_iload d_B_curvesOf_8 rfl ?_
    refine ev_iload_n 2 d_B_curvesOf_10 rfl rfl ?_
    refine ev_icmp_ge 44 d_B_curvesOf_11 (by decide) (fun h => ?_) (fun h => ?_)
    · refine ev_iload_n 3 d_B_curvesOf_44 rfl rfl ?_
      exact ev_iret d_B_curvesOf_45 rfl rfl (Nat.le_of_ble_eq_true rfl) (Nat.le_of_ble_eq_true rfl)
    · exact absurd (nI_le (by omega) (by omega)) h
  | succ k ih =>
    intro i s c hi
    refine ev_iload d_B_curvesOf_8 rfl ?_
    refine ev_iload_n 2 d_B_curvesOf_10 rfl rfl ?_
    refine ev_icmp_ge 44 d_B_curvesOf_11 (by decide) (fun h => ?_) (fun h => ?_)
    · exact absurd h (nI_ge (by omega) (by omega))
    · refine ev_iload d_B_curvesOf_14 rfl ?_
      refine ev_iload d_B_curvesOf_16 rfl ?_
      refine ev_ishr d_B_curvesOf_18 ?_
      refine ev_iconst (v := 1) d_B_curvesOf_19 (by decide) ?_
      refine ev_iand d_B_curvesOf_20 ?_
      refine ev_if_ne 38 d_B_curvesOf_21 (by decide) (fun h2 => ?_) (fun h2 => ?_)
      · have e0 : cvs o st i (k + 1) s c = cvs o st (i + 1) k s c := by rw [cvs, if_neg h2]
        rw [e0]
        refine ev_iinc (v := _ + 1) d_B_curvesOf_38 rfl rfl (Nat.le_of_ble_eq_true rfl) rfl ?_
        rw [nI_1]
        refine ev_goto 8 d_B_curvesOf_41 (by decide) ?_
        exact ih (i + 1) s c (by omega)
      · have e0 : cvs o st i (k + 1) s c = cvs o st (i + 1) k (swc o st 32 s i) (c + 1) := by rw [cvs, if_pos h2]
        rw [e0]
        refine ev_iinc (v := _ + 1) d_B_curvesOf_24 rfl rfl (Nat.le_of_ble_eq_true rfl) rfl ?_
        rw [nI_1]
        refine ev_aload_n 0 d_B_curvesOf_27 rfl rfl ?_
        refine ev_iload d_B_curvesOf_28 rfl ?_
        refine ev_iload d_B_curvesOf_30 rfl ?_
        refine ev_iload_n 1 d_B_curvesOf_32 rfl rfl ?_
        refine ev_callV M_B_seenWithCurve [_, _, _] (sp_B_seenWithCurve hB hN h4 ho s st (by omega)) c_B_68 d_B_curvesOf_33 hB.1 rfl (by decide) (Nat.le_of_ble_eq_true rfl) ⟨rfl, rfl⟩ rfl ?_
        refine ev_istore d_B_curvesOf_36 (Nat.le_of_ble_eq_true rfl) rfl ?_
        refine ev_iinc (v := _ + 1) d_B_curvesOf_38 rfl rfl (Nat.le_of_ble_eq_true rfl) rfl ?_
        rw [nI_1]
        refine ev_goto 8 d_B_curvesOf_41 (by decide) ?_
        exact ih (i + 1) (swc o st 32 s i) (c + 1) (by omega)
theorem sp_B_curvesOf {w : zW} (hB : zBr w jB jo jt jm oe t m) {o : Nat → Nat} {N : Nat} (hN : N ≤ 32) (h4 : N % 4 = 0) (ho : ∀ e, e < N → oe e = nI (o e) ∧ o e < N) (st : Int32) : Sp M_B_curvesOf [.ref jB, .int st, .int (nI N)] w (some (.int (nI (cvs o st 0 N 0 0)))) w := by
  refine Sp.of (by decide) (Nat.le_of_ble_eq_true rfl) ?_
  refine ev_iconst (v := 0) d_B_curvesOf_0 (by decide) ?_
  refine ev_istore_n 3 d_B_curvesOf_1 rfl (Nat.le_of_ble_eq_true rfl) rfl ?_
  refine ev_iconst (v := 0) d_B_curvesOf_2 (by decide) ?_
  refine ev_istore d_B_curvesOf_3 (Nat.le_of_ble_eq_true rfl) rfl ?_
  refine ev_iconst (v := 0) d_B_curvesOf_5 (by decide) ?_
  refine ev_istore d_B_curvesOf_6 (Nat.le_of_ble_eq_true rfl) rfl ?_
  exact lp_B_curvesOf hB hN h4 ho st N 0 0 0 (by omega)
theorem lp_B_mult : ∀ k i (w : zW) (m : Nat → Int64) (tb ob : Int64), i + k = 125 → zBr w jB jo jt jm oe t m → Ev M_B_multiplyByCurve none none (w.set jm (aL 125 (mbc i k m tb ob))) 7 [(0, .ref jB), (1, .long tb), (3, .long ob), (5, .int (nI i))] [] w 0 0 := by
  intro k
  induction k with
  | zero =>
    intro i w m tb ob hi hB
    have e0 : mbc i 0 m tb ob = m := by rw [mbc]
    rw [e0, z_set_self hB.2.2.2]
    refine ev_iload d_B_multiplyByCurve_7 rfl ?_
    refine ev_aload_n 0 d_B_multiplyByCurve_9 rfl rfl ?_
    refine ev_get f_B_18 d_B_multiplyByCurve_10 hB.1 rfl ?_
    refine ev_alen d_B_multiplyByCurve_13 hB.2.2.2 rfl ?_
    refine ev_icmp_ge 76 d_B_multiplyByCurve_14 (by decide) (fun h => ?_) (fun h => ?_)
    · exact ev_ret d_B_multiplyByCurve_76 rfl (Nat.le_of_ble_eq_true rfl) (Nat.le_of_ble_eq_true rfl)
    · exact absurd (nI_le (a := 125) (b := i) (by omega) (by omega)) h
  | succ k ih =>
    intro i w m tb ob hi hB
    have e0 : mbc i (k + 1) m tb ob = mbc (i + 1) k (vp_updL m i (-tb - (if i + 2 < 125 then m (i + 2) else 0))) ob (m i) := by rw [mbc]
    rw [e0]
    have key : ∀ ta : Int64, ta = (if i + 2 < 125 then m (i + 2) else 0) → Ev M_B_multiplyByCurve none none (w.set jm (aL 125 (mbc (i + 1) k (vp_updL m i (-tb - (if i + 2 < 125 then m (i + 2) else 0))) ob (m i)))) 51 [(0, .ref jB), (1, .long tb), (3, .long ob), (5, .int (nI i)), (6, .long (m i))] [.long ta] w 0 0 := by
      intro ta hta
      rw [← hta]
      refine ev_lstore d_B_multiplyByCurve_51 (Nat.le_of_ble_eq_true rfl) rfl ?_
      refine ev_aload_n 0 d_B_multiplyByCurve_53 rfl rfl ?_
      refine ev_get f_B_18 d_B_multiplyByCurve_54 hB.1 rfl ?_
      refine ev_iload d_B_multiplyByCurve_57 rfl ?_
      refine ev_lload_n 1 d_B_multiplyByCurve_59 rfl rfl ?_
      refine ev_lneg d_B_multiplyByCurve_60 ?_
      refine ev_lload d_B_multiplyByCurve_61 rfl ?_
      refine ev_lsub d_B_multiplyByCurve_63 ?_
      refine ev_last d_B_multiplyByCurve_64 hB.2.2.2 (vp_in_nI (by omega) (by omega)) ?_
      rw [nI_clamp (by omega)]
      refine ev_lload_n 3 d_B_multiplyByCurve_65 rfl rfl ?_
      refine ev_lstore_n 1 d_B_multiplyByCurve_66 rfl (Nat.le_of_ble_eq_true rfl) rfl ?_
      refine ev_lload d_B_multiplyByCurve_67 rfl ?_
      refine ev_lstore_n 3 d_B_multiplyByCurve_69 rfl (Nat.le_of_ble_eq_true rfl) rfl ?_
      refine ev_iinc (v := _ + 1) d_B_multiplyByCurve_70 rfl rfl (Nat.le_of_ble_eq_true rfl) rfl ?_
      rw [nI_1]
      refine ev_goto 7 d_B_multiplyByCurve_73 (by decide) ?_
      have h4 := ih (i + 1) _ (vp_updL m i (-tb - ta)) ob (m i) (by omega) (zBr_m (m' := vp_updL m i (-tb - ta)) hB)
      rw [List.set_set] at h4
      exact ev_drop (lv' := [(0, .ref jB), (1, .long ob), (3, .long (m i)), (5, .int (nI (i + 1)))]) (ext := [_, _]) h4
    refine ev_iload d_B_multiplyByCurve_7 rfl ?_
    refine ev_aload_n 0 d_B_multiplyByCurve_9 rfl rfl ?_
    refine ev_get f_B_18 d_B_multiplyByCurve_10 hB.1 rfl ?_
    refine ev_alen d_B_multiplyByCurve_13 hB.2.2.2 rfl ?_
    refine ev_icmp_ge 76 d_B_multiplyByCurve_14 (by decide) (fun h => ?_) (fun h => ?_)
    · exact absurd h (nI_ge (b := 125) (by omega) (by omega))
    · refine ev_aload_n 0 d_B_multiplyByCurve_17 rfl rfl ?_
      refine ev_get f_B_18 d_B_multiplyByCurve_18 hB.1 rfl ?_
      refine ev_iload d_B_multiplyByCurve_21 rfl ?_
      refine ev_lald d_B_multiplyByCurve_23 hB.2.2.2 (vp_in_nI (by omega) (by omega)) ?_
      rw [nI_clamp (by omega)]
      refine ev_lstore d_B_multiplyByCurve_24 (Nat.le_of_ble_eq_true rfl) rfl ?_
      refine ev_iload d_B_multiplyByCurve_26 rfl ?_
      refine ev_iconst (v := 2) d_B_multiplyByCurve_28 (by decide) ?_
      refine ev_iadd d_B_multiplyByCurve_29 ?_
      rw [z_p2]
      refine ev_aload_n 0 d_B_multiplyByCurve_30 rfl rfl ?_
      refine ev_get f_B_18 d_B_multiplyByCurve_31 hB.1 rfl ?_
      refine ev_alen d_B_multiplyByCurve_34 hB.2.2.2 rfl ?_
      refine ev_icmp_ge 50 d_B_multiplyByCurve_35 (by decide) (fun h2 => ?_) (fun h2 => ?_)
      · refine ev_lconst (v := 0) d_B_multiplyByCurve_50 (by decide) ?_
        refine key 0 ?_
        rw [if_neg (fun q => absurd h2 (nI_ge (b := 125) q (by omega)))]
      · have h3 : i + 2 < 125 := Nat.not_le.mp (fun q => h2 (nI_le (a := 125) q (by omega)))
        refine ev_aload_n 0 d_B_multiplyByCurve_38 rfl rfl ?_
        refine ev_get f_B_18 d_B_multiplyByCurve_39 hB.1 rfl ?_
        refine ev_iload d_B_multiplyByCurve_42 rfl ?_
        refine ev_iconst (v := 2) d_B_multiplyByCurve_44 (by decide) ?_
        refine ev_iadd d_B_multiplyByCurve_45 ?_
        rw [z_p2]
        refine ev_lald d_B_multiplyByCurve_46 hB.2.2.2 (vp_in_nI (by omega) (by omega)) ?_
        rw [nI_clamp (by omega)]
        refine ev_goto 51 d_B_multiplyByCurve_47 (by decide) ?_
        refine key (m (i + 2)) ?_
        rw [if_pos h3]
theorem sp_B_multiplyByCurve {w : zW} (hB : zBr w jB jo jt jm oe t m) : Sp M_B_multiplyByCurve [.ref jB] w none (w.set jm (aL 125 (mbc 0 125 m 0 0))) := by
  refine Sp.of (by decide) (Nat.le_of_ble_eq_true rfl) ?_
  refine ev_lconst (v := 0) d_B_multiplyByCurve_0 (by decide) ?_
  refine ev_lstore_n 1 d_B_multiplyByCurve_1 rfl (Nat.le_of_ble_eq_true rfl) rfl ?_
  refine ev_lconst (v := 0) d_B_multiplyByCurve_2 (by decide) ?_
  refine ev_lstore_n 3 d_B_multiplyByCurve_3 rfl (Nat.le_of_ble_eq_true rfl) rfl ?_
  refine ev_iconst (v := 0) d_B_multiplyByCurve_4 (by decide) ?_
  refine ev_istore d_B_multiplyByCurve_5 (Nat.le_of_ble_eq_true rfl) rfl ?_
  exact lp_B_mult 125 0 w m 0 0 (by omega) hB
theorem lp_B_addStates {c : Nat} (hc : c ≤ 28) (hn : n ≤ 8) : ∀ k i (w : zW) (m : Nat → Int64), i + k = n + 1 → zBr w jB jo jt jm oe t m → Ev M_B_addStates none none (w.set jm (aL 125 (ads t c n i k m))) 2 [(0, .ref jB), (1, .int (nI c)), (2, .int (nI n)), (3, .int (nI i))] [] w 0 0 := by
  intro k
  induction k with
  | zero =>
    intro i w m hi hB
    have e0 : ads t c n i 0 m = m := by rw [ads]
    rw [e0, z_set_self hB.2.2.2]
    refine ev_iload_n 3 d_B_addStates_2 rfl rfl ?_
    refine ev_iload_n 2 d_B_addStates_3 rfl rfl ?_
    refine ev_icmp_gt 41 d_B_addStates_4 (by decide) (fun h => ?_) (fun h => ?_)
    · exact ev_ret d_B_addStates_41 rfl (Nat.le_of_ble_eq_true rfl) (Nat.le_of_ble_eq_true rfl)
    · exact absurd (nI_lt (by omega) (by omega)) h
  | succ k ih =>
    intro i w m hi hB
    have e0 : ads t c n i (k + 1) m = ads t c n (i + 1) k (vp_updL m (62 + 2 * i - n) (m (62 + 2 * i - n) + (t (c * 9 + i)).toInt64)) := by rw [ads]
    rw [e0]
    have e1 : (62 : Int32) + 2 * nI i - nI n = nI (62 + 2 * i - n) := by
      rw [show (2 : Int32) * nI i = nI (2 * i) from pk_mul 2 i, show (62 : Int32) + nI (2 * i) = nI (62 + 2 * i) from nI_add 62 (2 * i), pk_sub (by omega)]
    have e2 : nI c * (9 : Int32) + nI i = nI (c * 9 + i) := by
      rw [show nI c * (9 : Int32) = nI (c * 9) from pk_mul c 9, nI_add]
    refine ev_iload_n 3 d_B_addStates_2 rfl rfl ?_
    refine ev_iload_n 2 d_B_addStates_3 rfl rfl ?_
    refine ev_icmp_gt 41 d_B_addStates_4 (by decide) (fun h => ?_) (fun h => ?_)
    · exact absurd h (nI_nlt (by omega) (by omega))
    · refine ev_aload_n 0 d_B_addStates_7 rfl rfl ?_
      refine ev_get f_B_18 d_B_addStates_8 hB.1 rfl ?_
      refine ev_bipush (v := 62) d_B_addStates_11 (by decide) ?_
      refine ev_iconst (v := 2) d_B_addStates_13 (by decide) ?_
      refine ev_iload_n 3 d_B_addStates_14 rfl rfl ?_
      refine ev_imul d_B_addStates_15 ?_
      refine ev_iadd d_B_addStates_16 ?_
      refine ev_iload_n 2 d_B_addStates_17 rfl rfl ?_
      refine ev_isub d_B_addStates_18 ?_
      rw [e1]
      refine ev_dup2 d_B_addStates_19 rfl rfl ?_
      refine ev_lald d_B_addStates_20 hB.2.2.2 (vp_in_nI (by omega) (by omega)) ?_
      rw [nI_clamp (by omega)]
      refine ev_aload_n 0 d_B_addStates_21 rfl rfl ?_
      refine ev_get f_B_15 d_B_addStates_22 hB.1 rfl ?_
      refine ev_iload_n 1 d_B_addStates_25 rfl rfl ?_
      refine ev_bipush (v := 9) d_B_addStates_26 (by decide) ?_
      refine ev_imul d_B_addStates_28 ?_
      refine ev_iload_n 3 d_B_addStates_29 rfl rfl ?_
      refine ev_iadd d_B_addStates_30 ?_
      rw [e2]
      refine ev_iald d_B_addStates_31 hB.2.2.1 (vp_in_nI (by omega) (by omega)) ?_
      rw [nI_clamp (by omega)]
      refine ev_i2l d_B_addStates_32 rfl ?_
      refine ev_ladd d_B_addStates_33 ?_
      refine ev_last d_B_addStates_34 hB.2.2.2 (vp_in_nI (by omega) (by omega)) ?_
      rw [nI_clamp (by omega)]
      refine ev_iinc (v := _ + 1) d_B_addStates_35 rfl rfl (Nat.le_of_ble_eq_true rfl) rfl ?_
      rw [nI_1]
      refine ev_goto 2 d_B_addStates_38 (by decide) ?_
      have h4 := ih (i + 1) _ _ (by omega) (zBr_m (m' := vp_updL m (62 + 2 * i - n) (m (62 + 2 * i - n) + (t (c * 9 + i)).toInt64)) hB)
      rw [List.set_set] at h4
      exact h4
theorem sp_B_addStates {w : zW} {c : Nat} (hc : c ≤ 28) (hn : n ≤ 8) (hB : zBr w jB jo jt jm oe t m) : Sp M_B_addStates [.ref jB, .int (nI c), .int (nI n)] w none (w.set jm (aL 125 (ads t c n 0 (n + 1) m))) := by
  refine Sp.of (by decide) (Nat.le_of_ble_eq_true rfl) ?_
  refine ev_iconst (v := 0) d_B_addStates_0 (by decide) ?_
  refine ev_istore_n 3 d_B_addStates_1 rfl (Nat.le_of_ble_eq_true rfl) rfl ?_
  exact lp_B_addStates hc hn (n + 1) 0 w m (by omega) hB
end Br
