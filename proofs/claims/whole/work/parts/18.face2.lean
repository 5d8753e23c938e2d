def fN (f : Nat → Int32) (n : Nat) (s : Nat → Int32) : Int32 × (Nat → Int32) := fcs (fun _ => true) (fol f n) 0 (4 * n) (fl0 s 32) 0
def pN (f : Nat → Int32) (n : Nat) (q : Nat → Int32) : Int32 × (Nat → Int32) := pcs (oth f n) 0 (4 * n) (piI q 0 n) (nI n)
def sN (f g : Nat → Int32) (n : Nat) (s : Nat → Int32) : Int32 × (Nat → Int32) := fcs (cin g) (fun e => oth f n (opp e)) 0 (4 * n) (fl0 s 32) 0
def abI (x : Int32) : Int32 := if 0 ≤ x then x else 0 - x
def wBel (wd : Nat → Int32) (x : Int32) : Nat → Nat → Bool
  | _, 0 => true
  | i, k + 1 => if abI (wd i) < x then wBel wd x (i + 1) k else false
/-- the letters of the word: numbers from 1 to 3, with a sign -/
def wOK (wd : Nat → Int32) (lt : Nat) : Prop := ∀ i, i < lt → ∃ k, 1 ≤ k ∧ k ≤ 3 ∧ ((wd i = nI k ∧ 0 < wd i) ∨ (wd i = -nI k ∧ ¬ 0 < wd i)) ∧ abI (wd i) = nI k
def aw (wd : Nat → Int32) (i : Nat) : Nat := (abI (wd i)).toNatClampNeg
abbrev z3 : Type := (Nat → Int32) × (Nat → Int32) × (Nat → Int32)
def wvS (wd : Nat → Int32) (nn i : Nat) (S : z3) : z3 :=
  (if 0 < wd i then apE S.1 i (S.2.2 (aw wd i + 1)) (nI (nn + 2 + 2 * i)) (nI (nn + 1 + 2 * i)) (S.2.2 (aw wd i)) else apE S.1 i (S.2.2 (aw wd i)) (S.2.2 (aw wd i + 1)) (nI (nn + 2 + 2 * i)) (nI (nn + 1 + 2 * i)),
   upd S.2.1 i (sgn (decide (0 < wd i))),
   upd (upd S.2.2 (aw wd i) (nI (nn + 1 + 2 * i))) (aw wd i + 1) (nI (nn + 2 + 2 * i)))
def clS (n : Nat) (pl : Nat → Int32) (p : Nat) (S : (Nat → Int32) × Nat) : (Nat → Int32) × Nat := if pl p = nI p then (S.1, S.2 + 1) else (renA (pl p) (nI p) S.1 0 (4 * n), S.2)
section Fa
variable {nd : Nat} {fd gd : Nat → Int32} {n : Nat} {f g : Nat → Int32} {nf : Nat} {ff gf s q oe t : Nat → Int32} {m : Nat → Int64} {l u c ln : Nat → Int32} {mi : Nat → Int64} {wd pl : Nat → Int32} {lt cc : Nat} {T : zW}
theorem sp_A_take1 {x : Int32} (h : x < 0 ∨ 4 < x ∨ (x = 0 ∧ nd = 0)) (hn : nd ≤ 8) : Sp M_A_take [.ref 0, .int x] (kC nd fd gd n f g nf ff gf s q oe t m l u c ln mi wd pl lt cc T) (some (.int 1)) (kC nd fd gd n f g nf ff gf s q oe t m l u c ln mi wd pl lt cc T) := by
  refine Sp.of (by decide) (Nat.le_of_ble_eq_true rfl) ?_
  refine ev_iload_n 1 d_A_take_0 rfl rfl ?_
  refine ev_if_lt 23 d_A_take_1 (by decide) (fun h1 => ?_) (fun h1 => ?_)
  · refine ev_iconst (v := 1) d_A_take_23 (by decide) ?_
    exact ev_iret d_A_take_24 rfl rfl (Nat.le_of_ble_eq_true rfl) (Nat.le_of_ble_eq_true rfl)
  · refine ev_iload_n 1 d_A_take_4 rfl rfl ?_
    refine ev_iconst (v := 4) d_A_take_5 (by decide) ?_
    refine ev_icmp_gt 23 d_A_take_6 (by decide) (fun h2 => ?_) (fun h2 => ?_)
    · refine ev_iconst (v := 1) d_A_take_23 (by decide) ?_
      exact ev_iret d_A_take_24 rfl rfl (Nat.le_of_ble_eq_true rfl) (Nat.le_of_ble_eq_true rfl)
    · have h3 := (h.resolve_left h1).resolve_left h2
      refine ev_iload_n 1 d_A_take_9 rfl rfl ?_
      refine ev_if_ne 25 d_A_take_10 (by decide) (fun h4 => ?_) (fun h4 => ?_)
      · exact absurd h3.1 h4
      · refine ev_aload_n 0 d_A_take_13 rfl rfl ?_
        refine ev_get f_A_10 d_A_take_14 rfl rfl ?_
        refine ev_callV M_C_size [] (sp_C_size rfl) c_A_69 d_A_take_17 rfl rfl (by decide) (Nat.le_of_ble_eq_true rfl) ⟨rfl, rfl⟩ rfl ?_
        refine ev_if_ne 25 d_A_take_20 (by decide) (fun h5 => ?_) (fun h5 => ?_)
        · exact absurd ((z_nz (by omega)).mpr h3.2) h5
        · refine ev_iconst (v := 1) d_A_take_23 (by decide) ?_
          exact ev_iret d_A_take_24 rfl rfl (Nat.le_of_ble_eq_true rfl) (Nat.le_of_ble_eq_true rfl)
theorem ev_A_take {x : Int32} (h1 : ¬ x < 0) (h2 : ¬ 4 < x) (h3 : ¬ (x = 0 ∧ nd = 0)) (hn : nd ≤ 8) {r : Option Value} {wf : zW} (k : Ev M_A_take none r wf 25 [(0, .ref 0), (1, .int x)] [] (kC nd fd gd n f g nf ff gf s q oe t m l u c ln mi wd pl lt cc T) 0 0) : Ev M_A_take none r wf 0 (lv_args 0 [.ref 0, .int x]) [] (kC nd fd gd n f g nf ff gf s q oe t m l u c ln mi wd pl lt cc T) 0 0 := by
  refine ev_iload_n 1 d_A_take_0 rfl rfl ?_
  refine ev_if_lt 23 d_A_take_1 (by decide) (fun q1 => ?_) (fun q1 => ?_)
  · exact absurd q1 h1
  · refine ev_iload_n 1 d_A_take_4 rfl rfl ?_
    refine ev_iconst (v := 4) d_A_take_5 (by decide) ?_
    refine ev_icmp_gt 23 d_A_take_6 (by decide) (fun q2 => ?_) (fun q2 => ?_)
    · exact absurd q2 h2
    · refine ev_iload_n 1 d_A_take_9 rfl rfl ?_
      refine ev_if_ne 25 d_A_take_10 (by decide) (fun h4 => ?_) (fun h4 => ?_)
      · exact k
      · refine ev_aload_n 0 d_A_take_13 rfl rfl ?_
        refine ev_get f_A_10 d_A_take_14 rfl rfl ?_
        refine ev_callV M_C_size [] (sp_C_size rfl) c_A_69 d_A_take_17 rfl rfl (by decide) (Nat.le_of_ble_eq_true rfl) ⟨rfl, rfl⟩ rfl ?_
        refine ev_if_ne 25 d_A_take_20 (by decide) (fun h5 => ?_) (fun h5 => ?_)
        · exact k
        · exact absurd ⟨h4, (z_nz (by omega)).mp h5⟩ h3
theorem sp_A_take2 {x : Int32} (h1 : ¬ x < 0) (h2 : ¬ 4 < x) (h3 : ¬ (x = 0 ∧ nd = 0)) (hn : nd ≤ 8) (hf : ftAll fd gd nd 0 (4 * nd) = false) : Sp M_A_take [.ref 0, .int x] (kC nd fd gd n f g nf ff gf s q oe t m l u c ln mi wd pl lt cc T) (some (.int 2)) (kC nd fd gd n f g nf ff gf s q oe t m l u c ln mi wd pl lt cc T) := by
  refine Sp.of (by decide) (Nat.le_of_ble_eq_true rfl) (ev_A_take h1 h2 h3 hn ?_)
  refine ev_aload_n 0 d_A_take_25 rfl rfl ?_
  refine ev_get f_A_25 d_A_take_26 rfl rfl ?_
  refine ev_aload_n 0 d_A_take_29 rfl rfl ?_
  refine ev_get f_A_10 d_A_take_30 rfl rfl ?_
  refine ev_callV M_S_fits [_] (sp_S_fits (s := s) (q := q) ⟨rfl, rfl, rfl, hn⟩ ⟨rfl, rfl, rfl⟩) c_A_77 d_A_take_33 rfl rfl (by decide) (Nat.le_of_ble_eq_true rfl) ⟨rfl, rfl⟩ rfl ?_
  rw [hf]
  refine ev_if_ne 41 d_A_take_36 (by decide) (fun h => ?_) (fun h => ?_)
  · exact absurd rfl h
  · refine ev_iconst (v := 2) d_A_take_39 (by decide) ?_
    exact ev_iret d_A_take_40 rfl rfl (Nat.le_of_ble_eq_true rfl) (Nat.le_of_ble_eq_true rfl)
theorem sp_A_take3 {x : Int32} (h1 : ¬ x < 0) (h2 : ¬ 4 < x) (h3 : ¬ (x = 0 ∧ nd = 0)) (hn : nd ≤ 8) (hf : ftAll fd gd nd 0 (4 * nd) = true) (hp : ¬ (fN fd nd s).1 = nI nd + 2 * (pN fd nd q).1) : Sp M_A_take [.ref 0, .int x] (kC nd fd gd n f g nf ff gf s q oe t m l u c ln mi wd pl lt cc T) (some (.int 3)) (kC nd fd gd n f g nf ff gf ((fN fd nd s).2) ((pN fd nd q).2) oe t m l u c ln mi wd pl lt cc T) := by
  refine Sp.of (by decide) (Nat.le_of_ble_eq_true rfl) (ev_A_take h1 h2 h3 hn ?_)
  refine ev_aload_n 0 d_A_take_25 rfl rfl ?_
  refine ev_get f_A_25 d_A_take_26 rfl rfl ?_
  refine ev_aload_n 0 d_A_take_29 rfl rfl ?_
  refine ev_get f_A_10 d_A_take_30 rfl rfl ?_
  refine ev_callV M_S_fits [_] (sp_S_fits (s := s) (q := q) ⟨rfl, rfl, rfl, hn⟩ ⟨rfl, rfl, rfl⟩) c_A_77 d_A_take_33 rfl rfl (by decide) (Nat.le_of_ble_eq_true rfl) ⟨rfl, rfl⟩ rfl ?_
  rw [hf]
  refine ev_if_ne 41 d_A_take_36 (by decide) (fun h => ?_) (fun h => ?_)
  · refine ev_aload_n 0 d_A_take_41 rfl rfl ?_
    refine ev_get f_A_25 d_A_take_42 rfl rfl ?_
    refine ev_aload_n 0 d_A_take_45 rfl rfl ?_
    refine ev_get f_A_10 d_A_take_46 rfl rfl ?_
    refine ev_callV M_S_isFlat [_] (sp_S_isFlat (by decide) (by decide) (s := s) (q := q) ⟨rfl, rfl, rfl, hn⟩ ⟨rfl, rfl, rfl⟩) c_A_81 d_A_take_49 rfl rfl (by decide) (Nat.le_of_ble_eq_true rfl) ⟨rfl, rfl⟩ rfl ?_
    rw [decide_eq_false (show ¬ (fcs (fun _ => true) (fol fd nd) 0 (4 * nd) (fl0 s 32) 0).1 = nI nd + 2 * (pcs (oth fd nd) 0 (4 * nd) (piI q 0 nd) (nI nd)).1 from hp)]
    refine ev_if_ne 57 d_A_take_52 (by decide) (fun h4 => ?_) (fun h4 => ?_)
    · exact absurd rfl h4
    · refine ev_iconst (v := 3) d_A_take_55 (by decide) ?_
      exact ev_iret d_A_take_56 rfl rfl (Nat.le_of_ble_eq_true rfl) (Nat.le_of_ble_eq_true rfl)
  · exact absurd h (by decide)
theorem sp_A_take0 {x : Nat} (hx : x ≤ 4) (h3 : ¬ (x = 0 ∧ nd = 0)) (hn : nd ≤ 8) (hf : ftAll fd gd nd 0 (4 * nd) = true) (hp : (fN fd nd s).1 = nI nd + 2 * (pN fd nd q).1) : Sp M_A_take [.ref 0, .int (nI x)] (kC nd fd gd n f g nf ff gf s q oe t m l u c ln mi wd pl lt cc T) (some (.int 0)) (kC (0) fd gd (nd) (va_cpy fd f 0 0 32) (va_cpy gd g 0 0 8) nf ff gf ((fN fd nd s).2) ((pN fd nd q).2) oe t m l u c ln mi wd pl lt (x) T) := by
  refine Sp.of (by decide) (Nat.le_of_ble_eq_true rfl) (ev_A_take (nI_pos (by omega)) (nI_nlt (a := 4) (b := x) (by omega) (by omega)) (fun q => h3 ⟨(z_nz (by omega)).mp q.1, q.2⟩) hn ?_)
  refine ev_aload_n 0 d_A_take_25 rfl rfl ?_
  refine ev_get f_A_25 d_A_take_26 rfl rfl ?_
  refine ev_aload_n 0 d_A_take_29 rfl rfl ?_
  refine ev_get f_A_10 d_A_take_30 rfl rfl ?_
  refine ev_callV M_S_fits [_] (sp_S_fits (s := s) (q := q) ⟨rfl, rfl, rfl, hn⟩ ⟨rfl, rfl, rfl⟩) c_A_77 d_A_take_33 rfl rfl (by decide) (Nat.le_of_ble_eq_true rfl) ⟨rfl, rfl⟩ rfl ?_
  rw [hf]
  refine ev_if_ne 41 d_A_take_36 (by decide) (fun h => ?_) (fun h => ?_)
  · refine ev_aload_n 0 d_A_take_41 rfl rfl ?_
    refine ev_get f_A_25 d_A_take_42 rfl rfl ?_
    refine ev_aload_n 0 d_A_take_45 rfl rfl ?_
    refine ev_get f_A_10 d_A_take_46 rfl rfl ?_
    refine ev_callV M_S_isFlat [_] (sp_S_isFlat (by decide) (by decide) (s := s) (q := q) ⟨rfl, rfl, rfl, hn⟩ ⟨rfl, rfl, rfl⟩) c_A_81 d_A_take_49 rfl rfl (by decide) (Nat.le_of_ble_eq_true rfl) ⟨rfl, rfl⟩ rfl ?_
    rw [decide_eq_true (show (fcs (fun _ => true) (fol fd nd) 0 (4 * nd) (fl0 s 32) 0).1 = nI nd + 2 * (pcs (oth fd nd) 0 (4 * nd) (piI q 0 nd) (nI nd)).1 from hp)]
    refine ev_if_ne 57 d_A_take_52 (by decide) (fun h4 => ?_) (fun h4 => ?_)
    · refine ev_aload_n 0 d_A_take_57 rfl rfl ?_
      refine ev_get f_A_16 d_A_take_58 rfl rfl ?_
      refine ev_aload_n 0 d_A_take_61 rfl rfl ?_
      refine ev_get f_A_10 d_A_take_62 rfl rfl ?_
      refine ev_callV M_C_copyFrom [_] (sp_C_copyFrom (n := n) (m := nd) (f := f) (g := g) (f2 := fd) (g2 := gd) rfl rfl rfl rfl rfl rfl) c_A_84 d_A_take_65 rfl rfl (by decide) (Nat.le_of_ble_eq_true rfl) ⟨rfl, rfl⟩ rfl ?_
      refine ev_aload_n 0 d_A_take_68 rfl rfl ?_
      refine ev_iload_n 1 d_A_take_69 rfl rfl ?_
      refine ev_put p_A_54 d_A_take_70 rfl (fun _ _ => ⟨rfl, rfl⟩) (Nat.le_of_ble_eq_true rfl) ?_
      refine ev_aload_n 0 d_A_take_73 rfl rfl ?_
      refine ev_get f_A_10 d_A_take_74 rfl rfl ?_
      refine ev_callV M_C_clear [] (sp_C_clear (n := nd) rfl) c_A_88 d_A_take_77 rfl rfl (by decide) (Nat.le_of_ble_eq_true rfl) ⟨rfl, rfl⟩ rfl ?_
      refine ev_iconst (v := 0) d_A_take_80 (by decide) ?_
      exact ev_iret d_A_take_81 rfl rfl (Nat.le_of_ble_eq_true rfl) (Nat.le_of_ble_eq_true rfl)
    · exact absurd h4 (by decide)
  · exact absurd h (by decide)
theorem lp_A_wordIsBelow (hl : lt ≤ 8) (x : Int32) : ∀ k i, i + k = lt → Ev M_A_wordIsBelow none (some (.int (zb (wBel wd x i k)))) (kC nd fd gd n f g nf ff gf s q oe t m l u c ln mi wd pl lt cc T) 2 [(0, .ref 0), (1, .int x), (2, .int (nI i))] [] (kC nd fd gd n f g nf ff gf s q oe t m l u c ln mi wd pl lt cc T) 0 0 := by
  intro k
  induction k with
  | zero =>
    intro i hi
    refine ev_iload_n 2 d_A_wordIsBelow_2 rfl rfl ?_
    refine ev_aload_n 0 d_A_wordIsBelow_3 rfl rfl ?_
    refine ev_get f_A_50 d_A_wordIsBelow_4 rfl rfl ?_
    refine ev_icmp_ge 31 d_A_wordIsBelow_7 (by decide) (fun h => ?_) (fun h => ?_)
    · refine ev_iconst (v := 1) d_A_wordIsBelow_31 (by decide) ?_
      exact ev_iret d_A_wordIsBelow_32 rfl zr1 (Nat.le_of_ble_eq_true rfl) (Nat.le_of_ble_eq_true rfl)
    · exact absurd (nI_le (by omega) (by omega)) h
  | succ k ih =>
    intro i hi
    refine ev_iload_n 2 d_A_wordIsBelow_2 rfl rfl ?_
    refine ev_aload_n 0 d_A_wordIsBelow_3 rfl rfl ?_
    refine ev_get f_A_50 d_A_wordIsBelow_4 rfl rfl ?_
    refine ev_icmp_ge 31 d_A_wordIsBelow_7 (by decide) (fun h => ?_) (fun h => ?_)
    · exact absurd h (nI_ge (by omega) (by omega))
    · refine ev_aload_n 0 d_A_wordIsBelow_10 rfl rfl ?_
      refine ev_get f_A_43 d_A_wordIsBelow_11 rfl rfl ?_
      refine ev_iload_n 2 d_A_wordIsBelow_14 rfl rfl ?_
      refine ev_iald d_A_wordIsBelow_15 rfl (vp_in_nI (by omega) (by omega)) ?_
      rw [nI_clamp (by omega)]
      refine ev_mabs c_A_101 wm_abs_s wm_i wm_abs_c d_A_wordIsBelow_16 (by decide) (by decide) (by decide) (by decide) ?_
      refine ev_iload_n 1 d_A_wordIsBelow_19 rfl rfl ?_
      refine ev_icmp_lt 25 d_A_wordIsBelow_20 (by decide) (fun h2 => ?_) (fun h2 => ?_)
      · have e0 : wBel wd x i (k + 1) = wBel wd x (i + 1) k := by rw [wBel, if_pos (show abI (wd i) < x from h2)]
        rw [e0]
        refine ev_iinc (v := _ + 1) d_A_wordIsBelow_25 rfl rfl (Nat.le_of_ble_eq_true rfl) rfl ?_
        rw [nI_1]
        refine ev_goto 2 d_A_wordIsBelow_28 (by decide) ?_
        exact ih (i + 1) (by omega)
      · have e0 : wBel wd x i (k + 1) = false := by rw [wBel, if_neg (show ¬ abI (wd i) < x from h2)]
        rw [e0]
        refine ev_iconst (v := 0) d_A_wordIsBelow_23 (by decide) ?_
        exact ev_iret d_A_wordIsBelow_24 rfl zr0 (Nat.le_of_ble_eq_true rfl) (Nat.le_of_ble_eq_true rfl)
theorem sp_A_wordIsBelow (hl : lt ≤ 8) (x : Int32) : Sp M_A_wordIsBelow [.ref 0, .int x] (kC nd fd gd n f g nf ff gf s q oe t m l u c ln mi wd pl lt cc T) (some (.int (zb (wBel wd x 0 lt)))) (kC nd fd gd n f g nf ff gf s q oe t m l u c ln mi wd pl lt cc T) := by
  refine Sp.of (by decide) (Nat.le_of_ble_eq_true rfl) ?_
  refine ev_iconst (v := 0) d_A_wordIsBelow_0 (by decide) ?_
  refine ev_istore_n 2 d_A_wordIsBelow_1 rfl (Nat.le_of_ble_eq_true rfl) rfl ?_
  exact lp_A_wordIsBelow hl x lt 0 (by omega)
theorem sp_A_braid_no {x : Int32} (hl : lt ≤ 8) (h : ¬ (¬ x < 1 ∧ ¬ 4 < x ∧ wBel wd x 0 lt = true)) : Sp M_A_braid [.ref 0, .int x] (kC nd fd gd n f g nf ff gf s q oe t m l u c ln mi wd pl lt cc T) (some (.int (zb false))) (kC nd fd gd n f g nf ff gf s q oe t m l u c ln mi wd pl lt cc T) := by
  refine Sp.of (by decide) (Nat.le_of_ble_eq_true rfl) ?_
  refine ev_iload_n 1 d_A_braid_0 rfl rfl ?_
  refine ev_iconst (v := 1) d_A_braid_1 (by decide) ?_
  refine ev_icmp_lt 18 d_A_braid_2 (by decide) (fun h1 => ?_) (fun h1 => ?_)
  · refine ev_iconst (v := 0) d_A_braid_18 (by decide) ?_
    exact ev_iret d_A_braid_19 rfl zr0 (Nat.le_of_ble_eq_true rfl) (Nat.le_of_ble_eq_true rfl)
  · refine ev_iload_n 1 d_A_braid_5 rfl rfl ?_
    refine ev_iconst (v := 4) d_A_braid_6 (by decide) ?_
    refine ev_icmp_gt 18 d_A_braid_7 (by decide) (fun h2 => ?_) (fun h2 => ?_)
    · refine ev_iconst (v := 0) d_A_braid_18 (by decide) ?_
      exact ev_iret d_A_braid_19 rfl zr0 (Nat.le_of_ble_eq_true rfl) (Nat.le_of_ble_eq_true rfl)
    · refine ev_aload_n 0 d_A_braid_10 rfl rfl ?_
      refine ev_iload_n 1 d_A_braid_11 rfl rfl ?_
      refine ev_callV M_A_wordIsBelow [_] (sp_A_wordIsBelow hl x) c_A_91 d_A_braid_12 rfl rfl (by decide) (Nat.le_of_ble_eq_true rfl) ⟨rfl, rfl⟩ rfl ?_
      refine ev_if_ne 20 d_A_braid_15 (by decide) (fun h3 => ?_) (fun h3 => ?_)
      · exact absurd ⟨h1, h2, (zb_n0 _).mp h3⟩ h
      · refine ev_iconst (v := 0) d_A_braid_18 (by decide) ?_
        exact ev_iret d_A_braid_19 rfl zr0 (Nat.le_of_ble_eq_true rfl) (Nat.le_of_ble_eq_true rfl)
theorem sp_A_weave {i nn : Nat} (hi : i < 8) (hw : ∃ k, 1 ≤ k ∧ k ≤ 3 ∧ ((wd i = nI k ∧ 0 < wd i) ∨ (wd i = -nI k ∧ ¬ 0 < wd i)) ∧ abI (wd i) = nI k) (hnn : nn ≤ 4) (wd' : Nat → Int32) : Sp M_A_weave [.ref 0, .int (wd i), .int (nI (nn + 1 + 2 * i))] (kC nd fd gd (i) f g nf ff gf s q oe t m l u c ln mi (wd') pl lt cc T) none (kC nd fd gd (i + 1) ((wvS wd nn i (f, g, pl)).1) ((wvS wd nn i (f, g, pl)).2.1) nf ff gf s q oe t m l u c ln mi (wd') ((wvS wd nn i (f, g, pl)).2.2) lt cc T) := by
  obtain ⟨k, k1, k3, ks, ka⟩ := hw
  have ha : aw wd i = k := by unfold aw; rw [ka, nI_clamp (by omega)]
  refine Sp.of (by decide) (Nat.le_of_ble_eq_true rfl) ?_
  refine ev_iload_n 1 d_A_weave_0 rfl rfl ?_
  refine ev_mabs c_A_101 wm_abs_s wm_i wm_abs_c d_A_weave_1 (by decide) (by decide) (by decide) (by decide) ?_
  rw [show (if 0 ≤ wd i then wd i else 0 - wd i) = nI k from ka]
  refine ev_istore_n 3 d_A_weave_4 rfl (Nat.le_of_ble_eq_true rfl) rfl ?_
  refine ev_aload_n 0 d_A_weave_5 rfl rfl ?_
  refine ev_get f_A_47 d_A_weave_6 rfl rfl ?_
  refine ev_iload_n 3 d_A_weave_9 rfl rfl ?_
  refine ev_iald d_A_weave_10 rfl (vp_in_nI (by omega) (by omega)) ?_
  rw [nI_clamp (by omega)]
  refine ev_istore d_A_weave_11 (Nat.le_of_ble_eq_true rfl) rfl ?_
  refine ev_aload_n 0 d_A_weave_13 rfl rfl ?_
  refine ev_get f_A_47 d_A_weave_14 rfl rfl ?_
  refine ev_iload_n 3 d_A_weave_17 rfl rfl ?_
  refine ev_iconst (v := 1) d_A_weave_18 (by decide) ?_
  refine ev_iadd d_A_weave_19 ?_
  rw [nI_1]
  refine ev_iald d_A_weave_20 rfl (vp_in_nI (by omega) (by omega)) ?_
  rw [nI_clamp (by omega)]
  refine ev_istore d_A_weave_21 (Nat.le_of_ble_eq_true rfl) rfl ?_
  refine ev_iload_n 2 d_A_weave_23 rfl rfl ?_
  refine ev_iconst (v := 1) d_A_weave_24 (by decide) ?_
  refine ev_iadd d_A_weave_25 ?_
  rw [nI_1, show nn + 1 + 2 * i + 1 = nn + 2 + 2 * i by omega]
  have fin : ∀ f' g' : Nat → Int32, Ev M_A_weave none none (kC nd fd gd (i + 1) (f') (g') nf ff gf s q oe t m l u c ln mi (wd') (upd (upd pl k (nI (nn + 1 + 2 * i))) (k + 1) (nI (nn + 2 + 2 * i))) lt cc T) 65 [(0, .ref 0), (1, .int (wd i)), (2, .int (nI (nn + 1 + 2 * i))), (3, .int (nI k)), (4, .int (pl k)), (5, .int (pl (k + 1))), (6, .int (nI (nn + 2 + 2 * i)))] [] (kC nd fd gd (i + 1) (f') (g') nf ff gf s q oe t m l u c ln mi (wd') pl lt cc T) 0 0 := by
    intro f' g'
    refine ev_aload_n 0 d_A_weave_65 rfl rfl ?_
    refine ev_get f_A_47 d_A_weave_66 rfl rfl ?_
    refine ev_iload_n 3 d_A_weave_69 rfl rfl ?_
    refine ev_iload_n 2 d_A_weave_70 rfl rfl ?_
    refine ev_iast d_A_weave_71 rfl (vp_in_nI (by omega) (by omega)) ?_
    rw [nI_clamp (by omega)]
    refine ev_aload_n 0 d_A_weave_72 rfl rfl ?_
    refine ev_get f_A_47 d_A_weave_73 rfl rfl ?_
    refine ev_iload_n 3 d_A_weave_76 rfl rfl ?_
    refine ev_iconst (v := 1) d_A_weave_77 (by decide) ?_
    refine ev_iadd d_A_weave_78 ?_
    rw [nI_1]
    refine ev_iload d_A_weave_79 rfl ?_
    refine ev_iast d_A_weave_81 rfl (vp_in_nI (by omega) (by omega)) ?_
    rw [nI_clamp (by omega)]
    exact ev_ret d_A_weave_82 rfl (Nat.le_of_ble_eq_true rfl) (Nat.le_of_ble_eq_true rfl)
  refine ev_istore d_A_weave_26 (Nat.le_of_ble_eq_true rfl) rfl ?_
  refine ev_iload_n 1 d_A_weave_28 rfl rfl ?_
  refine ev_if_le 50 d_A_weave_29 (by decide) (fun h => ?_) (fun h => ?_)
  · have h1 : ¬ 0 < wd i := fun z => absurd h (by rw [Int32.le_iff_toInt_le]; rw [Int32.lt_iff_toInt_lt] at z; omega)
    refine ev_aload_n 0 d_A_weave_50 rfl rfl ?_
    refine ev_get f_A_16 d_A_weave_51 rfl rfl ?_
    refine ev_iload d_A_weave_54 rfl ?_
    refine ev_iload d_A_weave_56 rfl ?_
    refine ev_iload d_A_weave_58 rfl ?_
    refine ev_iload_n 2 d_A_weave_60 rfl rfl ?_
    refine ev_iconst (v := 0) d_A_weave_61 (by decide) ?_
    refine ev_callV M_C_append [_, _, _, _, _] (sp_C_append (n := i) rfl rfl rfl hi _ _ _ _ false) c_A_65 d_A_weave_62 rfl rfl (by decide) (Nat.le_of_ble_eq_true rfl) ⟨rfl, rfl⟩ rfl ?_
    have e1 : wvS wd nn i (f, g, pl) = (apE f i (pl k) (pl (k + 1)) (nI (nn + 2 + 2 * i)) (nI (nn + 1 + 2 * i)), upd g i (sgn false), upd (upd pl k (nI (nn + 1 + 2 * i))) (k + 1) (nI (nn + 2 + 2 * i))) := by
      unfold wvS
      rw [ha, if_neg h1, decide_eq_false h1]
    rw [e1]
    exact fin _ _
  · have h1 : 0 < wd i := by rw [Int32.lt_iff_toInt_lt]; rw [Int32.le_iff_toInt_le] at h; omega
    refine ev_aload_n 0 d_A_weave_32 rfl rfl ?_
    refine ev_get f_A_16 d_A_weave_33 rfl rfl ?_
    refine ev_iload d_A_weave_36 rfl ?_
    refine ev_iload d_A_weave_38 rfl ?_
    refine ev_iload_n 2 d_A_weave_40 rfl rfl ?_
    refine ev_iload d_A_weave_41 rfl ?_
    refine ev_iconst (v := 1) d_A_weave_43 (by decide) ?_
    refine ev_callV M_C_append [_, _, _, _, _] (sp_C_append (n := i) rfl rfl rfl hi _ _ _ _ true) c_A_65 d_A_weave_44 rfl rfl (by decide) (Nat.le_of_ble_eq_true rfl) ⟨rfl, rfl⟩ rfl ?_
    have e1 : wvS wd nn i (f, g, pl) = (apE f i (pl (k + 1)) (nI (nn + 2 + 2 * i)) (nI (nn + 1 + 2 * i)) (pl k), upd g i (sgn true), upd (upd pl k (nI (nn + 1 + 2 * i))) (k + 1) (nI (nn + 2 + 2 * i))) := by
      unfold wvS
      rw [ha, if_pos h1, decide_eq_true h1]
    rw [e1]
    refine ev_goto 65 d_A_weave_47 (by decide) ?_
    exact fin _ _
theorem sp_A_closePlace {p : Nat} (hp : p ≤ 4) (hn : n ≤ 8) : Sp M_A_closePlace [.ref 0, .int (nI p)] (kC nd fd gd n f g nf ff gf s q oe t m l u c ln mi wd pl lt cc T) none (kC nd fd gd n ((clS n pl p (f, cc)).1) g nf ff gf s q oe t m l u c ln mi wd pl lt ((clS n pl p (f, cc)).2) T) := by
  refine Sp.of (by decide) (Nat.le_of_ble_eq_true rfl) ?_
  refine ev_aload_n 0 d_A_closePlace_0 rfl rfl ?_
  refine ev_get f_A_47 d_A_closePlace_1 rfl rfl ?_
  refine ev_iload_n 1 d_A_closePlace_4 rfl rfl ?_
  refine ev_iald d_A_closePlace_5 rfl (vp_in_nI (by omega) (by omega)) ?_
  rw [nI_clamp (by omega)]
  refine ev_iload_n 1 d_A_closePlace_6 rfl rfl ?_
  refine ev_icmp_ne 23 d_A_closePlace_7 (by decide) (fun h => ?_) (fun h => ?_)
  · have e1 : clS n pl p (f, cc) = (renA (pl p) (nI p) f 0 (4 * n), cc) := by unfold clS; rw [if_neg h]
    rw [e1]
    refine ev_aload_n 0 d_A_closePlace_23 rfl rfl ?_
    refine ev_get f_A_16 d_A_closePlace_24 rfl rfl ?_
    refine ev_aload_n 0 d_A_closePlace_27 rfl rfl ?_
    refine ev_get f_A_47 d_A_closePlace_28 rfl rfl ?_
    refine ev_iload_n 1 d_A_closePlace_31 rfl rfl ?_
    refine ev_iald d_A_closePlace_32 rfl (vp_in_nI (by omega) (by omega)) ?_
    rw [nI_clamp (by omega)]
    refine ev_iload_n 1 d_A_closePlace_33 rfl rfl ?_
    refine ev_callV M_C_rename [_, _] (sp_C_rename (n := n) rfl rfl hn (pl p) (nI p)) c_A_107 d_A_closePlace_34 rfl rfl (by decide) (Nat.le_of_ble_eq_true rfl) ⟨rfl, rfl⟩ rfl ?_
    exact ev_ret d_A_closePlace_37 rfl (Nat.le_of_ble_eq_true rfl) (Nat.le_of_ble_eq_true rfl)
  · have e1 : clS n pl p (f, cc) = (f, cc + 1) := by unfold clS; rw [if_pos h]
    rw [e1]
    refine ev_aload_n 0 d_A_closePlace_10 rfl rfl ?_
    refine ev_dup d_A_closePlace_11 rfl ?_
    refine ev_get f_A_54 d_A_closePlace_12 rfl rfl ?_
    refine ev_iconst (v := 1) d_A_closePlace_15 (by decide) ?_
    refine ev_iadd d_A_closePlace_16 ?_
    rw [nI_1]
    refine ev_put p_A_54 d_A_closePlace_17 rfl (fun _ _ => ⟨rfl, rfl⟩) (Nat.le_of_ble_eq_true rfl) ?_
    refine ev_goto 37 d_A_closePlace_20 (by decide) ?_
    exact ev_ret d_A_closePlace_37 rfl (Nat.le_of_ble_eq_true rfl) (Nat.le_of_ble_eq_true rfl)
end Fa
