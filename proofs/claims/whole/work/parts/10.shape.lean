def ftA (f g : Nat → Int32) (e : Nat) : Nat → Nat → Int32 → Int32 → Bool
  | _, 0, b, c => decide (b = 2) && decide (c = 1)
  | i, k + 1, b, c => if f i = f e then ftA f g e (i + 1) k (b + 1) (c + zb (cin g i)) else ftA f g e (i + 1) k b c
def ftAll (f g : Nat → Int32) (n : Nat) : Nat → Nat → Bool
  | _, 0 => true
  | i, k + 1 => if ftA f g i 0 (4 * n) 0 0 = true then ftAll f g n (i + 1) k else false
def mkF (nx : Nat → Nat) : Nat → (Nat → Int32) → Nat → Nat → Int32
  | 0, s, _ => s
  | k + 1, s, e => if s e = 0 then mkF nx k (upd s e 1) (nx e) else s
def fcs (p : Nat → Bool) (nx : Nat → Nat) : Nat → Nat → (Nat → Int32) → Int32 → Int32 × (Nat → Int32)
  | _, 0, s, c => (c, s)
  | i, k + 1, s, c => if p i = true ∧ s i = 0 then fcs p nx (i + 1) k (mkF nx 32 s i) (c + 1) else fcs p nx (i + 1) k s c
def piI : (Nat → Int32) → Nat → Nat → Nat → Int32
  | q, _, 0 => q
  | q, i, k + 1 => piI (upd q i (nI i)) (i + 1) k
def pcs (oe : Nat → Nat) : Nat → Nat → (Nat → Int32) → Int32 → Int32 × (Nat → Int32)
  | _, 0, q, c => (c, q)
  | i, k + 1, q, c => if q (i / 4) = q (oe i / 4) then pcs oe (i + 1) k q c else pcs oe (i + 1) k (renA (q (oe i / 4)) (q (i / 4)) q 0 8) (c + (-1))
def oth (f : Nat → Int32) (n e : Nat) : Nat := oEnd f e 0 (4 * n)
theorem oth_lt {f : Nat → Int32} {n e : Nat} (hn : n ≤ 8) (he : e < 32) : oth f n e < 32 := oEnd_lt he _ _ (by omega)
def fl0 (s : Nat → Int32) (N : Nat) : Nat → Int32 := fun t => if t < N then 0 else s t
abbrev oS (js jp : Nat) : zE := .inr (3, [.ref js, .ref jp])
abbrev zCr (w : zW) (j je jg n : Nat) (f g : Nat → Int32) : Prop := w[j]? = some (oC je jg n) ∧ w[je]? = some (aI 32 f) ∧ w[jg]? = some (aI 8 g) ∧ n ≤ 8
abbrev zSh (w : zW) (jS js jp : Nat) (s q : Nat → Int32) : Prop := w[jS]? = some (oS js jp) ∧ w[js]? = some (aI 32 s) ∧ w[jp]? = some (aI 8 q)
theorem zCr_set {w : zW} {j je jg n i : Nat} {f g : Nat → Int32} {c : zE} (h : zCr w j je jg n f g) (h1 : i ≠ j) (h2 : i ≠ je) (h3 : i ≠ jg) : zCr (w.set i c) j je jg n f g := ⟨zs_ne h1 h.1, zs_ne h2 h.2.1, zs_ne h3 h.2.2.1, h.2.2.2⟩
section Sh
variable {j je jg n jS js jp : Nat} {f g : Nat → Int32}
theorem zCr_seen {w : zW} {s s' q : Nat → Int32} (h : zCr w j je jg n f g) (h2 : zSh w jS js jp s q) (hne : js ≠ je) : zCr (w.set js (aI 32 s')) j je jg n f g :=
  zCr_set h (z_ne h2.2.1 h.1 (by intro h; cases h)) hne (z_ne h2.2.1 h.2.2.1 (by intro h; cases h))
theorem zSh_seen {w : zW} {s s' q : Nat → Int32} (h2 : zSh w jS js jp s q) : zSh (w.set js (aI 32 s')) jS js jp s' q :=
  ⟨zs_ne (z_ne h2.2.1 h2.1 (by intro h; cases h)) h2.1, zs_self h2.2.1, zs_ne (z_ne h2.2.1 h2.2.2 (by intro h; cases h)) h2.2.2⟩
theorem zCr_pie {w : zW} {s q q' : Nat → Int32} (h : zCr w j je jg n f g) (h2 : zSh w jS js jp s q) (hne : jp ≠ jg) : zCr (w.set jp (aI 8 q')) j je jg n f g :=
  zCr_set h (z_ne h2.2.2 h.1 (by intro h; cases h)) (z_ne h2.2.2 h.2.1 (by intro h; cases h)) hne
theorem zSh_pie {w : zW} {s q q' : Nat → Int32} (h2 : zSh w jS js jp s q) : zSh (w.set jp (aI 8 q')) jS js jp s q' :=
  ⟨zs_ne (z_ne h2.2.2 h2.1 (by intro h; cases h)) h2.1, zs_ne (z_ne h2.2.2 h2.2.1 (by intro h; cases h)) h2.2.1, zs_self h2.2.2⟩
theorem lp_S_fitsAt {w : zW} (hC : zCr w j je jg n f g) {e : Nat} (he : e < 32) (jx : Nat) : ∀ k i b c, i + k = 4 * n → Ev M_S_fitsAt none (some (.int (zb (ftA f g e i k b c)))) w 8 [(0, .ref jx), (1, .ref j), (2, .int (nI e)), (3, .int b), (4, .int c), (5, .int (nI i))] [] w 0 0 := by
  obtain ⟨hO, hE, hS, hn⟩ := hC
  intro k
  induction k with
  | zero =>
    intro i b c hi
    refine ev_iload d_S_fitsAt_8 rfl ?_
    refine ev_aload_n 1 d_S_fitsAt_10 rfl rfl ?_
    refine ev_callV M_C_ends [] (sp_C_ends hO) c_S_18 d_S_fitsAt_11 hO rfl (by decide) (Nat.le_of_ble_eq_true rfl) ⟨rfl, rfl⟩ rfl ?_
    have e0 : ftA f g e i 0 b c = (decide (b = 2) && decide (c = 1)) := by rw [ftA]
    rw [e0]
    refine ev_icmp_ge 59 d_S_fitsAt_14 (by decide) (fun h => ?_) (fun h => ?_)
    · refine ev_iload_n 3 d_S_fitsAt_59 rfl rfl ?_
      refine ev_iconst (v := 2) d_S_fitsAt_60 (by decide) ?_
      refine ev_icmp_ne 74 d_S_fitsAt_61 (by decide) (fun h2 => ?_) (fun h2 => ?_)
      · rw [decide_eq_false h2]
        refine ev_iconst (v := 0) d_S_fitsAt_74 (by decide) ?_
        exact ev_iret d_S_fitsAt_75 rfl zr0 (Nat.le_of_ble_eq_true rfl) (Nat.le_of_ble_eq_true rfl)
      · refine ev_iload d_S_fitsAt_64 rfl ?_
        refine ev_iconst (v := 1) d_S_fitsAt_66 (by decide) ?_
        refine ev_icmp_ne 74 d_S_fitsAt_67 (by decide) (fun h3 => ?_) (fun h3 => ?_)
        · rw [decide_eq_false h3, Bool.and_false]
          refine ev_iconst (v := 0) d_S_fitsAt_74 (by decide) ?_
          exact ev_iret d_S_fitsAt_75 rfl zr0 (Nat.le_of_ble_eq_true rfl) (Nat.le_of_ble_eq_true rfl)
        · rw [decide_eq_true h2, decide_eq_true h3]
          refine ev_iconst (v := 1) d_S_fitsAt_70 (by decide) ?_
          refine ev_goto 75 d_S_fitsAt_71 (by decide) ?_
          exact ev_iret d_S_fitsAt_75 rfl zr1 (Nat.le_of_ble_eq_true rfl) (Nat.le_of_ble_eq_true rfl)
    · exact absurd (nI_le (by omega) (by omega)) h
  | succ k ih =>
    intro i b c hi
    refine ev_iload d_S_fitsAt_8 rfl ?_
    refine ev_aload_n 1 d_S_fitsAt_10 rfl rfl ?_
    refine ev_callV M_C_ends [] (sp_C_ends hO) c_S_18 d_S_fitsAt_11 hO rfl (by decide) (Nat.le_of_ble_eq_true rfl) ⟨rfl, rfl⟩ rfl ?_
    refine ev_icmp_ge 59 d_S_fitsAt_14 (by decide) (fun h => ?_) (fun h => ?_)
    · exact absurd h (nI_ge (by omega) (by omega))
    · refine ev_aload_n 1 d_S_fitsAt_17 rfl rfl ?_
      refine ev_iload d_S_fitsAt_18 rfl ?_
      refine ev_callV M_C_edgeAt [_] (sp_C_edgeAt hO hE (by omega)) c_S_28 d_S_fitsAt_20 hO rfl (by decide) (Nat.le_of_ble_eq_true rfl) ⟨rfl, rfl⟩ rfl ?_
      refine ev_aload_n 1 d_S_fitsAt_23 rfl rfl ?_
      refine ev_iload_n 2 d_S_fitsAt_24 rfl rfl ?_
      refine ev_callV M_C_edgeAt [_] (sp_C_edgeAt hO hE he) c_S_28 d_S_fitsAt_25 hO rfl (by decide) (Nat.le_of_ble_eq_true rfl) ⟨rfl, rfl⟩ rfl ?_
      refine ev_icmp_ne 53 d_S_fitsAt_28 (by decide) (fun h2 => ?_) (fun h2 => ?_)
      · have e0 : ftA f g e i (k + 1) b c = ftA f g e (i + 1) k b c := by rw [ftA, if_neg h2]
        rw [e0]
        refine ev_iinc (v := _ + 1) d_S_fitsAt_53 rfl rfl (Nat.le_of_ble_eq_true rfl) rfl ?_
        rw [nI_1]
        refine ev_goto 8 d_S_fitsAt_56 (by decide) ?_
        exact ih (i + 1) b c (by omega)
      · have e0 : ftA f g e i (k + 1) b c = ftA f g e (i + 1) k (b + 1) (c + zb (cin g i)) := by rw [ftA, if_pos h2]
        rw [e0]
        refine ev_iinc (v := _ + 1) d_S_fitsAt_31 rfl rfl (Nat.le_of_ble_eq_true rfl) rfl ?_
        refine ev_iload d_S_fitsAt_34 rfl ?_
        refine ev_aload_n 1 d_S_fitsAt_36 rfl rfl ?_
        refine ev_iload d_S_fitsAt_37 rfl ?_
        refine ev_callV M_C_comesIn [_] (sp_C_comesIn hO hS (by omega)) c_S_32 d_S_fitsAt_39 hO rfl (by decide) (Nat.le_of_ble_eq_true rfl) ⟨rfl, rfl⟩ rfl ?_
        have key : Ev M_S_fitsAt none (some (.int (zb (ftA f g e (i + 1) k (b + 1) (c + zb (cin g i)))))) w 50 [(0, .ref jx), (1, .ref j), (2, .int (nI e)), (3, .int (b + 1)), (4, .int c), (5, .int (nI i))] [.int (zb (cin g i)), .int c] w 0 0 := by
          refine ev_iadd d_S_fitsAt_50 ?_
          refine ev_istore d_S_fitsAt_51 (Nat.le_of_ble_eq_true rfl) rfl ?_
          refine ev_iinc (v := _ + 1) d_S_fitsAt_53 rfl rfl (Nat.le_of_ble_eq_true rfl) rfl ?_
          rw [nI_1]
          refine ev_goto 8 d_S_fitsAt_56 (by decide) ?_
          exact ih (i + 1) (b + 1) (c + zb (cin g i)) (by omega)
        refine ev_if_eq 49 d_S_fitsAt_42 (by decide) (fun h3 => ?_) (fun h3 => ?_)
        · rw [(zb_0 _).mp h3] at key ⊢
          refine ev_iconst (v := 0) d_S_fitsAt_49 (by decide) ?_
          exact key
        · rw [(zb_n0 _).mp h3] at key ⊢
          refine ev_iconst (v := 1) d_S_fitsAt_45 (by decide) ?_
          refine ev_goto 50 d_S_fitsAt_46 (by decide) ?_
          exact key
theorem sp_S_fitsAt {w : zW} (hC : zCr w j je jg n f g) {e : Nat} (he : e < 32) (jx : Nat) : Sp M_S_fitsAt [.ref jx, .ref j, .int (nI e)] w (some (.int (zb (ftA f g e 0 (4 * n) 0 0)))) w := by
  refine Sp.of (by decide) (Nat.le_of_ble_eq_true rfl) ?_
  refine ev_iconst (v := 0) d_S_fitsAt_0 (by decide) ?_
  refine ev_istore_n 3 d_S_fitsAt_1 rfl (Nat.le_of_ble_eq_true rfl) rfl ?_
  refine ev_iconst (v := 0) d_S_fitsAt_2 (by decide) ?_
  refine ev_istore d_S_fitsAt_3 (Nat.le_of_ble_eq_true rfl) rfl ?_
  refine ev_iconst (v := 0) d_S_fitsAt_5 (by decide) ?_
  refine ev_istore d_S_fitsAt_6 (Nat.le_of_ble_eq_true rfl) rfl ?_
  exact lp_S_fitsAt hC he jx (4 * n) 0 0 0 (by omega)
theorem lp_S_fits {w : zW} (hC : zCr w j je jg n f g) {s q : Nat → Int32} (hT : zSh w jS js jp s q) : ∀ k i, i + k = 4 * n → Ev M_S_fits none (some (.int (zb (ftAll f g n i k)))) w 2 [(0, .ref jS), (1, .ref j), (2, .int (nI i))] [] w 0 0 := by
  have hn := hC.2.2.2
  intro k
  induction k with
  | zero =>
    intro i hi
    refine ev_iload_n 2 d_S_fits_2 rfl rfl ?_
    refine ev_aload_n 1 d_S_fits_3 rfl rfl ?_
    refine ev_callV M_C_ends [] (sp_C_ends hC.1) c_S_18 d_S_fits_4 hC.1 rfl (by decide) (Nat.le_of_ble_eq_true rfl) ⟨rfl, rfl⟩ rfl ?_
    refine ev_icmp_ge 27 d_S_fits_7 (by decide) (fun h => ?_) (fun h => ?_)
    · refine ev_iconst (v := 1) d_S_fits_27 (by decide) ?_
      exact ev_iret d_S_fits_28 rfl zr1 (Nat.le_of_ble_eq_true rfl) (Nat.le_of_ble_eq_true rfl)
    · exact absurd (nI_le (by omega) (by omega)) h
  | succ k ih =>
    intro i hi
    refine ev_iload_n 2 d_S_fits_2 rfl rfl ?_
    refine ev_aload_n 1 d_S_fits_3 rfl rfl ?_
    refine ev_callV M_C_ends [] (sp_C_ends hC.1) c_S_18 d_S_fits_4 hC.1 rfl (by decide) (Nat.le_of_ble_eq_true rfl) ⟨rfl, rfl⟩ rfl ?_
    refine ev_icmp_ge 27 d_S_fits_7 (by decide) (fun h => ?_) (fun h => ?_)
    · exact absurd h (nI_ge (by omega) (by omega))
    · refine ev_aload_n 0 d_S_fits_10 rfl rfl ?_
      refine ev_aload_n 1 d_S_fits_11 rfl rfl ?_
      refine ev_iload_n 2 d_S_fits_12 rfl rfl ?_
      refine ev_callV M_S_fitsAt [_, _] (sp_S_fitsAt hC (by omega) jS) c_S_24 d_S_fits_13 hT.1 rfl (by decide) (Nat.le_of_ble_eq_true rfl) ⟨rfl, rfl⟩ rfl ?_
      refine ev_if_ne 21 d_S_fits_16 (by decide) (fun h2 => ?_) (fun h2 => ?_)
      · have e0 : ftAll f g n i (k + 1) = ftAll f g n (i + 1) k := by rw [ftAll, if_pos ((zb_n0 _).mp h2)]
        rw [e0]
        refine ev_iinc (v := _ + 1) d_S_fits_21 rfl rfl (Nat.le_of_ble_eq_true rfl) rfl ?_
        rw [nI_1]
        refine ev_goto 2 d_S_fits_24 (by decide) ?_
        exact ih (i + 1) (by omega)
      · have e0 : ftAll f g n i (k + 1) = false := by rw [ftAll, if_neg (by rw [(zb_0 _).mp h2]; decide)]
        rw [e0]
        refine ev_iconst (v := 0) d_S_fits_19 (by decide) ?_
        exact ev_iret d_S_fits_20 rfl zr0 (Nat.le_of_ble_eq_true rfl) (Nat.le_of_ble_eq_true rfl)
theorem sp_S_fits {w : zW} (hC : zCr w j je jg n f g) {s q : Nat → Int32} (hT : zSh w jS js jp s q) : Sp M_S_fits [.ref jS, .ref j] w (some (.int (zb (ftAll f g n 0 (4 * n))))) w := by
  refine Sp.of (by decide) (Nat.le_of_ble_eq_true rfl) ?_
  refine ev_iconst (v := 0) d_S_fits_0 (by decide) ?_
  refine ev_istore_n 2 d_S_fits_1 rfl (Nat.le_of_ble_eq_true rfl) rfl ?_
  exact lp_S_fits hC hT (4 * n) 0 (by omega)
theorem lp_S_markFace (hne : js ≠ je) {q : Nat → Int32} (v : Int32) : ∀ k (w : zW) (s : Nat → Int32) (e : Nat), k ≤ 32 → e < 32 → zCr w j je jg n f g → zSh w jS js jp s q → Ev M_S_markFace none none (w.set js (aI 32 (mkF (fol f n) k s e))) 5 [(0, .ref jS), (1, .ref j), (2, .int v), (3, .int (nI e)), (4, .int (nI (32 - k)))] [] w 0 0 := by
  intro k
  induction k with
  | zero =>
    intro w s e hk he hC hT
    have e0 : mkF (fol f n) 0 s e = s := by rw [mkF]
    rw [e0, z_set_self hT.2.1]
    refine ev_iload d_S_markFace_5 rfl ?_
    refine ev_bipush (v := 32) d_S_markFace_7 (by decide) ?_
    refine ev_icmp_ge 40 d_S_markFace_9 (by decide) (fun h => ?_) (fun h => ?_)
    · exact ev_ret d_S_markFace_40 rfl (Nat.le_of_ble_eq_true rfl) (Nat.le_of_ble_eq_true rfl)
    · exact absurd (nI_le (a := 32) (b := 32) (by omega) (by omega)) h
  | succ k ih =>
    intro w s e hk he hC hT
    refine ev_iload d_S_markFace_5 rfl ?_
    refine ev_bipush (v := 32) d_S_markFace_7 (by decide) ?_
    refine ev_icmp_ge 40 d_S_markFace_9 (by decide) (fun h => ?_) (fun h => ?_)
    · exact absurd h (nI_ge (b := 32) (by omega) (by omega))
    · refine ev_aload_n 0 d_S_markFace_12 rfl rfl ?_
      refine ev_get f_S_9 d_S_markFace_13 hT.1 rfl ?_
      refine ev_iload_n 3 d_S_markFace_16 rfl rfl ?_
      refine ev_iald d_S_markFace_17 hT.2.1 (vp_in_nI (by omega) (by omega)) ?_
      rw [nI_clamp (by omega)]
      refine ev_if_ne 40 d_S_markFace_18 (by decide) (fun h2 => ?_) (fun h2 => ?_)
      · have e0 : mkF (fol f n) (k + 1) s e = s := by rw [mkF, if_neg h2]
        rw [e0, z_set_self hT.2.1]
        exact ev_ret d_S_markFace_40 rfl (Nat.le_of_ble_eq_true rfl) (Nat.le_of_ble_eq_true rfl)
      · have e0 : mkF (fol f n) (k + 1) s e = mkF (fol f n) k (upd s e 1) (fol f n e) := by rw [mkF, if_pos h2]
        rw [e0]
        refine ev_aload_n 0 d_S_markFace_21 rfl rfl ?_
        refine ev_get f_S_9 d_S_markFace_22 hT.1 rfl ?_
        refine ev_iload_n 3 d_S_markFace_25 rfl rfl ?_
        refine ev_iconst (v := 1) d_S_markFace_26 (by decide) ?_
        refine ev_iast d_S_markFace_27 hT.2.1 (vp_in_nI (by omega) (by omega)) ?_
        rw [nI_clamp (by omega)]
        have hC1 := zCr_seen (s' := upd s e 1) hC hT hne
        have hT1 := zSh_seen (s' := upd s e 1) hT
        refine ev_aload_n 1 d_S_markFace_28 rfl rfl ?_
        refine ev_iload_n 3 d_S_markFace_29 rfl rfl ?_
        refine ev_callV M_C_follow [_] (sp_C_follow hC1.1 hC1.2.1 hC1.2.2.2 he) c_S_56 d_S_markFace_30 hC1.1 rfl (by decide) (Nat.le_of_ble_eq_true rfl) ⟨rfl, rfl⟩ rfl ?_
        refine ev_istore_n 3 d_S_markFace_33 rfl (Nat.le_of_ble_eq_true rfl) rfl ?_
        refine ev_iinc (v := _ + 1) d_S_markFace_34 rfl rfl (Nat.le_of_ble_eq_true rfl) rfl ?_
        rw [nI_1, show 32 - (k + 1) + 1 = 32 - k by omega]
        refine ev_goto 5 d_S_markFace_37 (by decide) ?_
        have h4 := ih (w.set js (aI 32 (upd s e 1))) (upd s e 1) (fol f n e) (by omega) (fol_lt hC.2.2.2 he) hC1 hT1
        rw [List.set_set] at h4
        exact h4
theorem sp_S_markFace {w : zW} (hne : js ≠ je) {s q : Nat → Int32} (hC : zCr w j je jg n f g) (hT : zSh w jS js jp s q) {e : Nat} (he : e < 32) : Sp M_S_markFace [.ref jS, .ref j, .int (nI e)] w none (w.set js (aI 32 (mkF (fol f n) 32 s e))) := by
  refine Sp.of (by decide) (Nat.le_of_ble_eq_true rfl) ?_
  refine ev_iload_n 2 d_S_markFace_0 rfl rfl ?_
  refine ev_istore_n 3 d_S_markFace_1 rfl (Nat.le_of_ble_eq_true rfl) rfl ?_
  refine ev_iconst (v := 0) d_S_markFace_2 (by decide) ?_
  refine ev_istore d_S_markFace_3 (Nat.le_of_ble_eq_true rfl) rfl ?_
  exact lp_S_markFace hne (nI e) 32 w s e (by omega) he hC hT
theorem lp_S_markStrand (hne : js ≠ je) {q : Nat → Int32} (v : Int32) : ∀ k (w : zW) (s : Nat → Int32) (e : Nat), k ≤ 32 → e < 32 → zCr w j je jg n f g → zSh w jS js jp s q → Ev M_S_markStrand none none (w.set js (aI 32 (mkF (fun e => oth f n (opp e)) k s e))) 5 [(0, .ref jS), (1, .ref j), (2, .int v), (3, .int (nI e)), (4, .int (nI (32 - k)))] [] w 0 0 := by
  intro k
  induction k with
  | zero =>
    intro w s e hk he hC hT
    have e0 : mkF (fun e => oth f n (opp e)) 0 s e = s := by rw [mkF]
    rw [e0, z_set_self hT.2.1]
    refine ev_iload d_S_markStrand_5 rfl ?_
    refine ev_bipush (v := 32) d_S_markStrand_7 (by decide) ?_
    refine ev_icmp_ge 43 d_S_markStrand_9 (by decide) (fun h => ?_) (fun h => ?_)
    · exact ev_ret d_S_markStrand_43 rfl (Nat.le_of_ble_eq_true rfl) (Nat.le_of_ble_eq_true rfl)
    · exact absurd (nI_le (a := 32) (b := 32) (by omega) (by omega)) h
  | succ k ih =>
    intro w s e hk he hC hT
    refine ev_iload d_S_markStrand_5 rfl ?_
    refine ev_bipush (v := 32) d_S_markStrand_7 (by decide) ?_
    refine ev_icmp_ge 43 d_S_markStrand_9 (by decide) (fun h => ?_) (fun h => ?_)
    · exact absurd h (nI_ge (b := 32) (by omega) (by omega))
    · refine ev_aload_n 0 d_S_markStrand_12 rfl rfl ?_
      refine ev_get f_S_9 d_S_markStrand_13 hT.1 rfl ?_
      refine ev_iload_n 3 d_S_markStrand_16 rfl rfl ?_
      refine ev_iald d_S_markStrand_17 hT.2.1 (vp_in_nI (by omega) (by omega)) ?_
      rw [nI_clamp (by omega)]
      refine ev_if_ne 43 d_S_markStrand_18 (by decide) (fun h2 => ?_) (fun h2 => ?_)
      · have e0 : mkF (fun e => oth f n (opp e)) (k + 1) s e = s := by rw [mkF, if_neg h2]
        rw [e0, z_set_self hT.2.1]
        exact ev_ret d_S_markStrand_43 rfl (Nat.le_of_ble_eq_true rfl) (Nat.le_of_ble_eq_true rfl)
      · have e0 : mkF (fun e => oth f n (opp e)) (k + 1) s e = mkF (fun e => oth f n (opp e)) k (upd s e 1) (oth f n (opp e)) := by rw [mkF, if_pos h2]
        rw [e0]
        refine ev_aload_n 0 d_S_markStrand_21 rfl rfl ?_
        refine ev_get f_S_9 d_S_markStrand_22 hT.1 rfl ?_
        refine ev_iload_n 3 d_S_markStrand_25 rfl rfl ?_
        refine ev_iconst (v := 1) d_S_markStrand_26 (by decide) ?_
        refine ev_iast d_S_markStrand_27 hT.2.1 (vp_in_nI (by omega) (by omega)) ?_
        rw [nI_clamp (by omega)]
        have hC1 := zCr_seen (s' := upd s e 1) hC hT hne
        have hT1 := zSh_seen (s' := upd s e 1) hT
        refine ev_aload_n 1 d_S_markStrand_28 rfl rfl ?_
        refine ev_iload_n 3 d_S_markStrand_29 rfl rfl ?_
        refine ev_callS M_A_opposite [_] (sp_A_opposite _ he) c_S_72 d_S_markStrand_30 rfl (by decide) (Nat.le_of_ble_eq_true rfl) ⟨rfl, rfl⟩ rfl ?_
        refine ev_callV M_C_otherEnd [_] (sp_C_otherEnd (e := opp e) hC1.1 hC1.2.1 hC1.2.2.2 (opp_lt he)) c_S_62 d_S_markStrand_33 hC1.1 rfl (by decide) (Nat.le_of_ble_eq_true rfl) ⟨rfl, rfl⟩ rfl ?_
        refine ev_istore_n 3 d_S_markStrand_36 rfl (Nat.le_of_ble_eq_true rfl) rfl ?_
        refine ev_iinc (v := _ + 1) d_S_markStrand_37 rfl rfl (Nat.le_of_ble_eq_true rfl) rfl ?_
        rw [nI_1, show 32 - (k + 1) + 1 = 32 - k by omega]
        refine ev_goto 5 d_S_markStrand_40 (by decide) ?_
        have h4 := ih (w.set js (aI 32 (upd s e 1))) (upd s e 1) (oth f n (opp e)) (by omega) (oth_lt hC.2.2.2 (opp_lt he)) hC1 hT1
        rw [List.set_set] at h4
        exact h4
theorem sp_S_markStrand {w : zW} (hne : js ≠ je) {s q : Nat → Int32} (hC : zCr w j je jg n f g) (hT : zSh w jS js jp s q) {e : Nat} (he : e < 32) : Sp M_S_markStrand [.ref jS, .ref j, .int (nI e)] w none (w.set js (aI 32 (mkF (fun e => oth f n (opp e)) 32 s e))) := by
  refine Sp.of (by decide) (Nat.le_of_ble_eq_true rfl) ?_
  refine ev_iload_n 2 d_S_markStrand_0 rfl rfl ?_
  refine ev_istore_n 3 d_S_markStrand_1 rfl (Nat.le_of_ble_eq_true rfl) rfl ?_
  refine ev_iconst (v := 0) d_S_markStrand_2 (by decide) ?_
  refine ev_istore d_S_markStrand_3 (Nat.le_of_ble_eq_true rfl) rfl ?_
  exact lp_S_markStrand hne (nI e) 32 w s e (by omega) he hC hT
theorem lp_S_faces (hne : js ≠ je) {q : Nat → Int32} : ∀ k i (w : zW) (s : Nat → Int32) (c : Int32), i + k = 4 * n → zCr w j je jg n f g → zSh w jS js jp s q → Ev M_S_faces none (some (.int (fcs (fun _ => true) (fol f n) i k s c).1)) (w.set js (aI 32 (fcs (fun _ => true) (fol f n) i k s c).2)) 12 [(0, .ref jS), (1, .ref j), (2, .int c), (3, .int (nI i))] [] w 0 0 := by
  intro k
  induction k with
  | zero =>
    intro i w s c hi hC hT
    have hn := hC.2.2.2
    have e0 : fcs (fun _ => true) (fol f n) i 0 s c = (c, s) := by rw [fcs]
    rw [e0, z_set_self hT.2.1]
    refine ev_iload_n 3 d_S_faces_12 rfl rfl ?_
    refine ev_aload_n 1 d_S_faces_13 rfl rfl ?_
    refine ev_callV M_C_ends [] (sp_C_ends hC.1) c_S_18 d_S_faces_14 hC.1 rfl (by decide) (Nat.le_of_ble_eq_true rfl) ⟨rfl, rfl⟩ rfl ?_
    refine ev_icmp_ge 44 d_S_faces_17 (by decide) (fun h => ?_) (fun h => ?_)
    · refine ev_iload_n 2 d_S_faces_44 rfl rfl ?_
      exact ev_iret d_S_faces_45 rfl rfl (Nat.le_of_ble_eq_true rfl) (Nat.le_of_ble_eq_true rfl)
    · exact absurd (nI_le (by omega) (by omega)) h
  | succ k ih =>
    intro i w s c hi hC hT
    have hn := hC.2.2.2
    refine ev_iload_n 3 d_S_faces_12 rfl rfl ?_
    refine ev_aload_n 1 d_S_faces_13 rfl rfl ?_
    refine ev_callV M_C_ends [] (sp_C_ends hC.1) c_S_18 d_S_faces_14 hC.1 rfl (by decide) (Nat.le_of_ble_eq_true rfl) ⟨rfl, rfl⟩ rfl ?_
    refine ev_icmp_ge 44 d_S_faces_17 (by decide) (fun h => ?_) (fun h => ?_)
    · exact absurd h (nI_ge (by omega) (by omega))
    · refine ev_aload_n 0 d_S_faces_20 rfl rfl ?_
      refine ev_get f_S_9 d_S_faces_21 hT.1 rfl ?_
      refine ev_iload_n 3 d_S_faces_24 rfl rfl ?_
      refine ev_iald d_S_faces_25 hT.2.1 (vp_in_nI (by omega) (by omega)) ?_
      rw [nI_clamp (by omega)]
      refine ev_if_ne 38 d_S_faces_26 (by decide) (fun h2 => ?_) (fun h2 => ?_)
      · have e0 : fcs (fun _ => true) (fol f n) i (k + 1) s c = fcs (fun _ => true) (fol f n) (i + 1) k s c := by rw [fcs, if_neg (fun q => h2 q.2)]
        rw [e0]
        refine ev_iinc (v := _ + 1) d_S_faces_38 rfl rfl (Nat.le_of_ble_eq_true rfl) rfl ?_
        rw [nI_1]
        refine ev_goto 12 d_S_faces_41 (by decide) ?_
        exact ih (i + 1) w s c (by omega) hC hT
      · have e0 : fcs (fun _ => true) (fol f n) i (k + 1) s c = fcs (fun _ => true) (fol f n) (i + 1) k (mkF (fol f n) 32 s i) (c + 1) := by rw [fcs, if_pos ⟨rfl, h2⟩]
        rw [e0]
        refine ev_iinc (v := _ + 1) d_S_faces_29 rfl rfl (Nat.le_of_ble_eq_true rfl) rfl ?_
        refine ev_aload_n 0 d_S_faces_32 rfl rfl ?_
        refine ev_aload_n 1 d_S_faces_33 rfl rfl ?_
        refine ev_iload_n 3 d_S_faces_34 rfl rfl ?_
        refine ev_callV M_S_markFace [_, _] (sp_S_markFace hne hC hT (by omega)) c_S_52 d_S_faces_35 hT.1 rfl (by decide) (Nat.le_of_ble_eq_true rfl) ⟨rfl, rfl⟩ (List.length_set) ?_
        refine ev_iinc (v := _ + 1) d_S_faces_38 rfl rfl (Nat.le_of_ble_eq_true rfl) rfl ?_
        rw [nI_1]
        refine ev_goto 12 d_S_faces_41 (by decide) ?_
        have h4 := ih (i + 1) _ (mkF (fol f n) 32 s i) (c + 1) (by omega) (zCr_seen (s' := mkF (fol f n) 32 s i) hC hT hne) (zSh_seen hT)
        rw [List.set_set] at h4
        exact h4
theorem sp_S_faces {w : zW} (hne : js ≠ je) {s q : Nat → Int32} (hC : zCr w j je jg n f g) (hT : zSh w jS js jp s q) : Sp M_S_faces [.ref jS, .ref j] w (some (.int (fcs (fun _ => true) (fol f n) 0 (4 * n) (fl0 s 32) 0).1)) (w.set js (aI 32 (fcs (fun _ => true) (fol f n) 0 (4 * n) (fl0 s 32) 0).2)) := by
  refine Sp.of (by decide) (Nat.le_of_ble_eq_true rfl) ?_
  refine ev_aload_n 0 d_S_faces_0 rfl rfl ?_
  refine ev_get f_S_9 d_S_faces_1 hT.1 rfl ?_
  refine ev_iconst (v := 0) d_S_faces_4 (by decide) ?_
  refine ev_callS M_F_fillI [_, _] (sp_F_fillI (by omega) hT.2.1 0) c_S_46 d_S_faces_5 rfl (by decide) (Nat.le_of_ble_eq_true rfl) ⟨rfl, rfl⟩ (List.length_set) ?_
  refine ev_iconst (v := 0) d_S_faces_8 (by decide) ?_
  refine ev_istore_n 2 d_S_faces_9 rfl (Nat.le_of_ble_eq_true rfl) rfl ?_
  refine ev_iconst (v := 0) d_S_faces_10 (by decide) ?_
  refine ev_istore_n 3 d_S_faces_11 rfl (Nat.le_of_ble_eq_true rfl) rfl ?_
  have h4 := lp_S_faces hne (4 * n) 0 _ (fl0 s 32) 0 (by omega) (zCr_seen (s' := fl0 s 32) hC hT hne) (zSh_seen hT)
  rw [List.set_set] at h4
  exact h4
theorem lp_S_strands (hne : js ≠ je) {q : Nat → Int32} : ∀ k i (w : zW) (s : Nat → Int32) (c : Int32), i + k = 4 * n → zCr w j je jg n f g → zSh w jS js jp s q → Ev M_S_strands none (some (.int (fcs (cin g) (fun e => oth f n (opp e)) i k s c).1)) (w.set js (aI 32 (fcs (cin g) (fun e => oth f n (opp e)) i k s c).2)) 12 [(0, .ref jS), (1, .ref j), (2, .int c), (3, .int (nI i))] [] w 0 0 := by
  intro k
  induction k with
  | zero =>
    intro i w s c hi hC hT
    have hn := hC.2.2.2
    have e0 : fcs (cin g) (fun e => oth f n (opp e)) i 0 s c = (c, s) := by rw [fcs]
    rw [e0, z_set_self hT.2.1]
    refine ev_iload_n 3 d_S_strands_12 rfl rfl ?_
    refine ev_aload_n 1 d_S_strands_13 rfl rfl ?_
    refine ev_callV M_C_ends [] (sp_C_ends hC.1) c_S_18 d_S_strands_14 hC.1 rfl (by decide) (Nat.le_of_ble_eq_true rfl) ⟨rfl, rfl⟩ rfl ?_
    refine ev_icmp_ge 52 d_S_strands_17 (by decide) (fun h => ?_) (fun h => ?_)
    · refine ev_iload_n 2 d_S_strands_52 rfl rfl ?_
      exact ev_iret d_S_strands_53 rfl rfl (Nat.le_of_ble_eq_true rfl) (Nat.le_of_ble_eq_true rfl)
    · exact absurd (nI_le (by omega) (by omega)) h
  | succ k ih =>
    intro i w s c hi hC hT
    have hn := hC.2.2.2
    have step : ¬ (cin g i = true ∧ s i = 0) → Ev M_S_strands none (some (.int (fcs (cin g) (fun e => oth f n (opp e)) i (k + 1) s c).1)) (w.set js (aI 32 (fcs (cin g) (fun e => oth f n (opp e)) i (k + 1) s c).2)) 46 [(0, .ref jS), (1, .ref j), (2, .int c), (3, .int (nI i))] [] w 0 0 := by
      intro h2
      have e0 : fcs (cin g) (fun e => oth f n (opp e)) i (k + 1) s c = fcs (cin g) (fun e => oth f n (opp e)) (i + 1) k s c := by rw [fcs, if_neg h2]
      rw [e0]
      refine ev_iinc (v := _ + 1) d_S_strands_46 rfl rfl (Nat.le_of_ble_eq_true rfl) rfl ?_
      rw [nI_1]
      refine ev_goto 12 d_S_strands_49 (by decide) ?_
      exact ih (i + 1) w s c (by omega) hC hT
    refine ev_iload_n 3 d_S_strands_12 rfl rfl ?_
    refine ev_aload_n 1 d_S_strands_13 rfl rfl ?_
    refine ev_callV M_C_ends [] (sp_C_ends hC.1) c_S_18 d_S_strands_14 hC.1 rfl (by decide) (Nat.le_of_ble_eq_true rfl) ⟨rfl, rfl⟩ rfl ?_
    refine ev_icmp_ge 52 d_S_strands_17 (by decide) (fun h => ?_) (fun h => ?_)
    · exact absurd h (nI_ge (by omega) (by omega))
    · refine ev_aload_n 1 d_S_strands_20 rfl rfl ?_
      refine ev_iload_n 3 d_S_strands_21 rfl rfl ?_
      refine ev_callV M_C_comesIn [_] (sp_C_comesIn hC.1 hC.2.2.1 (by omega)) c_S_32 d_S_strands_22 hC.1 rfl (by decide) (Nat.le_of_ble_eq_true rfl) ⟨rfl, rfl⟩ rfl ?_
      refine ev_if_eq 46 d_S_strands_25 (by decide) (fun h3 => ?_) (fun h3 => ?_)
      · exact step (fun q => by rw [(zb_0 _).mp h3] at q; exact absurd q.1 (by decide))
      · refine ev_aload_n 0 d_S_strands_28 rfl rfl ?_
        refine ev_get f_S_9 d_S_strands_29 hT.1 rfl ?_
        refine ev_iload_n 3 d_S_strands_32 rfl rfl ?_
        refine ev_iald d_S_strands_33 hT.2.1 (vp_in_nI (by omega) (by omega)) ?_
        rw [nI_clamp (by omega)]
        refine ev_if_ne 46 d_S_strands_34 (by decide) (fun h2 => ?_) (fun h2 => ?_)
        · exact step (fun q => h2 q.2)
        · have e0 : fcs (cin g) (fun e => oth f n (opp e)) i (k + 1) s c = fcs (cin g) (fun e => oth f n (opp e)) (i + 1) k (mkF (fun e => oth f n (opp e)) 32 s i) (c + 1) := by rw [fcs, if_pos ⟨(zb_n0 _).mp h3, h2⟩]
          rw [e0]
          refine ev_iinc (v := _ + 1) d_S_strands_37 rfl rfl (Nat.le_of_ble_eq_true rfl) rfl ?_
          refine ev_aload_n 0 d_S_strands_40 rfl rfl ?_
          refine ev_aload_n 1 d_S_strands_41 rfl rfl ?_
          refine ev_iload_n 3 d_S_strands_42 rfl rfl ?_
          refine ev_callV M_S_markStrand [_, _] (sp_S_markStrand hne hC hT (by omega)) c_S_69 d_S_strands_43 hT.1 rfl (by decide) (Nat.le_of_ble_eq_true rfl) ⟨rfl, rfl⟩ (List.length_set) ?_
          refine ev_iinc (v := _ + 1) d_S_strands_46 rfl rfl (Nat.le_of_ble_eq_true rfl) rfl ?_
          rw [nI_1]
          refine ev_goto 12 d_S_strands_49 (by decide) ?_
          have h4 := ih (i + 1) _ (mkF (fun e => oth f n (opp e)) 32 s i) (c + 1) (by omega) (zCr_seen (s' := mkF (fun e => oth f n (opp e)) 32 s i) hC hT hne) (zSh_seen hT)
          rw [List.set_set] at h4
          exact h4
theorem sp_S_strands {w : zW} (hne : js ≠ je) {s q : Nat → Int32} (hC : zCr w j je jg n f g) (hT : zSh w jS js jp s q) : Sp M_S_strands [.ref jS, .ref j] w (some (.int (fcs (cin g) (fun e => oth f n (opp e)) 0 (4 * n) (fl0 s 32) 0).1)) (w.set js (aI 32 (fcs (cin g) (fun e => oth f n (opp e)) 0 (4 * n) (fl0 s 32) 0).2)) := by
  refine Sp.of (by decide) (Nat.le_of_ble_eq_true rfl) ?_
  refine ev_aload_n 0 d_S_strands_0 rfl rfl ?_
  refine ev_get f_S_9 d_S_strands_1 hT.1 rfl ?_
  refine ev_iconst (v := 0) d_S_strands_4 (by decide) ?_
  refine ev_callS M_F_fillI [_, _] (sp_F_fillI (by omega) hT.2.1 0) c_S_46 d_S_strands_5 rfl (by decide) (Nat.le_of_ble_eq_true rfl) ⟨rfl, rfl⟩ (List.length_set) ?_
  refine ev_iconst (v := 0) d_S_strands_8 (by decide) ?_
  refine ev_istore_n 2 d_S_strands_9 rfl (Nat.le_of_ble_eq_true rfl) rfl ?_
  refine ev_iconst (v := 0) d_S_strands_10 (by decide) ?_
  refine ev_istore_n 3 d_S_strands_11 rfl (Nat.le_of_ble_eq_true rfl) rfl ?_
  have h4 := lp_S_strands hne (4 * n) 0 _ (fl0 s 32) 0 (by omega) (zCr_seen (s' := fl0 s 32) hC hT hne) (zSh_seen hT)
  rw [List.set_set] at h4
  exact h4
end Sh
