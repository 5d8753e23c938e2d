section Fa
variable {nd : Nat} {fd gd : Nat → Int32} {n : Nat} {f g : Nat → Int32} {nf : Nat} {ff gf s q oe t : Nat → Int32} {m : Nat → Int64} {l u c ln : Nat → Int32} {mi : Nat → Int64} {wd pl : Nat → Int32} {lt cc : Nat} {T : zW}
def brP (pl : Nat → Int32) (nn : Nat) : Nat → Int32 := piI pl 1 nn
def brW (wd f g pl : Nat → Int32) (nn lt : Nat) : z3 := itN (wvS wd nn) 0 lt (f, g, brP pl nn)
def brC (n : Nat) (pl f : Nat → Int32) (nn : Nat) : (Nat → Int32) × Nat := itN (clS n pl) 1 nn (f, 0)
theorem lp_A_braid3 {nn : Nat} (hnn : nn ≤ 4) (hn : n ≤ 8) : ∀ k i (f : Nat → Int32) (cc : Nat), i + k = nn + 1 → Ev M_A_braid none (some (.int (zb true))) (kC nd fd gd n ((itN (clS n pl) i k (f, cc)).1) g nf ff gf s q oe t m l u c ln mi wd pl (0) ((itN (clS n pl) i k (f, cc)).2) T) 87 [(0, .ref 0), (1, .int (nI nn)), (2, .int (nI i))] [] (kC nd fd gd n f g nf ff gf s q oe t m l u c ln mi wd pl lt cc T) 0 0 := by
  intro k
  induction k with
  | zero =>
    intro i f cc hi
    rw [itN_0]
    refine ev_iload_n 2 d_A_braid_87 rfl rfl ?_
    refine ev_iload_n 1 d_A_braid_88 rfl rfl ?_
    refine ev_icmp_gt 103 d_A_braid_89 (by decide) (fun h => ?_) (fun h => ?_)
    · refine ev_aload_n 0 d_A_braid_103 rfl rfl ?_
      refine ev_iconst (v := 0) d_A_braid_104 (by decide) ?_
      refine ev_put p_A_50 d_A_braid_105 rfl (fun _ _ => ⟨rfl, rfl⟩) (Nat.le_of_ble_eq_true rfl) ?_
      refine ev_iconst (v := 1) d_A_braid_108 (by decide) ?_
      exact ev_iret d_A_braid_109 rfl zr1 (Nat.le_of_ble_eq_true rfl) (Nat.le_of_ble_eq_true rfl)
    · exact absurd (nI_lt (by omega) (by omega)) h
  | succ k ih =>
    intro i f cc hi
    rw [itN_s]
    refine ev_iload_n 2 d_A_braid_87 rfl rfl ?_
    refine ev_iload_n 1 d_A_braid_88 rfl rfl ?_
    refine ev_icmp_gt 103 d_A_braid_89 (by decide) (fun h => ?_) (fun h => ?_)
    · exact absurd h (nI_nlt (by omega) (by omega))
    · refine ev_aload_n 0 d_A_braid_92 rfl rfl ?_
      refine ev_iload_n 2 d_A_braid_93 rfl rfl ?_
      refine ev_callV M_A_closePlace [_] (sp_A_closePlace (p := i) (by omega) hn) c_A_98 d_A_braid_94 rfl rfl (by decide) (Nat.le_of_ble_eq_true rfl) ⟨rfl, rfl⟩ rfl ?_
      refine ev_iinc (v := _ + 1) d_A_braid_97 rfl rfl (Nat.le_of_ble_eq_true rfl) rfl ?_
      rw [nI_1]
      refine ev_goto 87 d_A_braid_100 (by decide) ?_
      exact ih (i + 1) (clS n pl i (f, cc)).1 (clS n pl i (f, cc)).2 (by omega)
theorem lp_A_braid2 {nn : Nat} (hnn : nn ≤ 4) (hlt : lt ≤ 8) (hw : wOK wd lt) : ∀ k i (f g pl : Nat → Int32), i + k = lt → Ev M_A_braid none (some (.int (zb true))) (kC nd fd gd (lt) ((brC lt (itN (wvS wd nn) i k (f, g, pl)).2.2 (itN (wvS wd nn) i k (f, g, pl)).1 nn).1) ((itN (wvS wd nn) i k (f, g, pl)).2.1) nf ff gf s q oe t m l u c ln mi wd ((itN (wvS wd nn) i k (f, g, pl)).2.2) (0) ((brC lt (itN (wvS wd nn) i k (f, g, pl)).2.2 (itN (wvS wd nn) i k (f, g, pl)).1 nn).2) T) 54 [(0, .ref 0), (1, .int (nI nn)), (2, .int (nI i))] [] (kC nd fd gd (i) f g nf ff gf s q oe t m l u c ln mi wd pl lt (0) T) 0 0 := by
  intro k
  induction k with
  | zero =>
    intro i f g pl hi
    have hi : i = lt := by omega
    subst hi
    rw [itN_0]
    refine ev_iload_n 2 d_A_braid_54 rfl rfl ?_
    refine ev_aload_n 0 d_A_braid_55 rfl rfl ?_
    refine ev_get f_A_50 d_A_braid_56 rfl rfl ?_
    refine ev_icmp_ge 85 d_A_braid_59 (by decide) (fun h => ?_) (fun h => ?_)
    · refine ev_iconst (v := 1) d_A_braid_85 (by decide) ?_
      refine ev_istore_n 2 d_A_braid_86 rfl (Nat.le_of_ble_eq_true rfl) rfl ?_
      exact lp_A_braid3 hnn (by omega) nn 1 f 0 (by omega)
    · exact absurd (nI_le (Nat.le_refl _) (by omega)) h
  | succ k ih =>
    intro i f g pl hi
    rw [itN_s]
    refine ev_iload_n 2 d_A_braid_54 rfl rfl ?_
    refine ev_aload_n 0 d_A_braid_55 rfl rfl ?_
    refine ev_get f_A_50 d_A_braid_56 rfl rfl ?_
    refine ev_icmp_ge 85 d_A_braid_59 (by decide) (fun h => ?_) (fun h => ?_)
    · exact absurd h (nI_ge (by omega) (by omega))
    · refine ev_aload_n 0 d_A_braid_62 rfl rfl ?_
      refine ev_aload_n 0 d_A_braid_63 rfl rfl ?_
      refine ev_get f_A_43 d_A_braid_64 rfl rfl ?_
      refine ev_iload_n 2 d_A_braid_67 rfl rfl ?_
      refine ev_iald d_A_braid_68 rfl (vp_in_nI (by omega) (by omega)) ?_
      rw [nI_clamp (by omega)]
      refine ev_iload_n 1 d_A_braid_69 rfl rfl ?_
      refine ev_iconst (v := 1) d_A_braid_70 (by decide) ?_
      refine ev_iadd d_A_braid_71 ?_
      rw [nI_1]
      refine ev_iconst (v := 2) d_A_braid_72 (by decide) ?_
      refine ev_iload_n 2 d_A_braid_73 rfl rfl ?_
      refine ev_imul d_A_braid_74 ?_
      rw [show (2 : Int32) * nI i = nI (2 * i) from pk_mul 2 i]
      refine ev_iadd d_A_braid_75 ?_
      rw [nI_add]
      refine ev_callV M_A_weave [_, _] (sp_A_weave (wd := wd) (by omega) (hw i (by omega)) hnn wd) c_A_94 d_A_braid_76 rfl rfl (by decide) (Nat.le_of_ble_eq_true rfl) ⟨rfl, rfl⟩ rfl ?_
      refine ev_iinc (v := _ + 1) d_A_braid_79 rfl rfl (Nat.le_of_ble_eq_true rfl) rfl ?_
      rw [nI_1]
      refine ev_goto 54 d_A_braid_82 (by decide) ?_
      exact ih (i + 1) (wvS wd nn i (f, g, pl)).1 (wvS wd nn i (f, g, pl)).2.1 (wvS wd nn i (f, g, pl)).2.2 (by omega)
theorem lp_A_braid1 {nn : Nat} (hnn : nn ≤ 4) (hlt : lt ≤ 8) (hw : wOK wd lt) : ∀ k i (pl : Nat → Int32), i + k = nn + 1 → Ev M_A_braid none (some (.int (zb true))) (kC nd fd gd (lt) ((brC lt (itN (wvS wd nn) 0 lt (f, g, piI pl i k)).2.2 (itN (wvS wd nn) 0 lt (f, g, piI pl i k)).1 nn).1) ((itN (wvS wd nn) 0 lt (f, g, piI pl i k)).2.1) nf ff gf s q oe t m l u c ln mi wd ((itN (wvS wd nn) 0 lt (f, g, piI pl i k)).2.2) (0) ((brC lt (itN (wvS wd nn) 0 lt (f, g, piI pl i k)).2.2 (itN (wvS wd nn) 0 lt (f, g, piI pl i k)).1 nn).2) T) 34 [(0, .ref 0), (1, .int (nI nn)), (2, .int (nI i))] [] (kC nd fd gd (0) f g nf ff gf s q oe t m l u c ln mi wd pl lt (0) T) 0 0 := by
  intro k
  induction k with
  | zero =>
    intro i pl hi
    have e0 : piI pl i 0 = pl := by rw [piI]
    rw [e0]
    refine ev_iload_n 2 d_A_braid_34 rfl rfl ?_
    refine ev_iload_n 1 d_A_braid_35 rfl rfl ?_
    refine ev_icmp_gt 52 d_A_braid_36 (by decide) (fun h => ?_) (fun h => ?_)
    · refine ev_iconst (v := 0) d_A_braid_52 (by decide) ?_
      refine ev_istore_n 2 d_A_braid_53 rfl (Nat.le_of_ble_eq_true rfl) rfl ?_
      exact lp_A_braid2 hnn hlt hw lt 0 f g pl (by omega)
    · exact absurd (nI_lt (by omega) (by omega)) h
  | succ k ih =>
    intro i pl hi
    have e0 : piI pl i (k + 1) = piI (upd pl i (nI i)) (i + 1) k := by rw [piI]
    rw [e0]
    refine ev_iload_n 2 d_A_braid_34 rfl rfl ?_
    refine ev_iload_n 1 d_A_braid_35 rfl rfl ?_
    refine ev_icmp_gt 52 d_A_braid_36 (by decide) (fun h => ?_) (fun h => ?_)
    · exact absurd h (nI_nlt (by omega) (by omega))
    · refine ev_aload_n 0 d_A_braid_39 rfl rfl ?_
      refine ev_get f_A_47 d_A_braid_40 rfl rfl ?_
      refine ev_iload_n 2 d_A_braid_43 rfl rfl ?_
      refine ev_iload_n 2 d_A_braid_44 rfl rfl ?_
      refine ev_iast d_A_braid_45 rfl (vp_in_nI (by omega) (by omega)) ?_
      refine ev_iinc (v := _ + 1) d_A_braid_46 rfl rfl (Nat.le_of_ble_eq_true rfl) rfl ?_
      rw [nI_clamp (by omega), nI_1]
      refine ev_goto 34 d_A_braid_49 (by decide) ?_
      exact ih (i + 1) (upd pl i (nI i)) (by omega)
theorem sp_A_braid {nn : Nat} (h1 : 1 ≤ nn) (hnn : nn ≤ 4) (hlt : lt ≤ 8) (hw : wOK wd lt) (hb : wBel wd (nI nn) 0 lt = true) : Sp M_A_braid [.ref 0, .int (nI nn)] (kC nd fd gd n f g nf ff gf s q oe t m l u c ln mi wd pl lt cc T) (some (.int (zb true))) (kC nd fd gd (lt) ((brC lt (brW wd f g pl nn lt).2.2 (brW wd f g pl nn lt).1 nn).1) ((brW wd f g pl nn lt).2.1) nf ff gf s q oe t m l u c ln mi wd ((brW wd f g pl nn lt).2.2) (0) ((brC lt (brW wd f g pl nn lt).2.2 (brW wd f g pl nn lt).1 nn).2) T) := by
  refine Sp.of (by decide) (Nat.le_of_ble_eq_true rfl) ?_
  refine ev_iload_n 1 d_A_braid_0 rfl rfl ?_
  refine ev_iconst (v := 1) d_A_braid_1 (by decide) ?_
  refine ev_icmp_lt 18 d_A_braid_2 (by decide) (fun q1 => ?_) (fun q1 => ?_)
  · exact absurd q1 (nI_nlt (a := nn) (b := 1) h1 (by omega))
  · refine ev_iload_n 1 d_A_braid_5 rfl rfl ?_
    refine ev_iconst (v := 4) d_A_braid_6 (by decide) ?_
    refine ev_icmp_gt 18 d_A_braid_7 (by decide) (fun q2 => ?_) (fun q2 => ?_)
    · exact absurd q2 (nI_nlt (a := 4) (b := nn) hnn (by omega))
    · refine ev_aload_n 0 d_A_braid_10 rfl rfl ?_
      refine ev_iload_n 1 d_A_braid_11 rfl rfl ?_
      refine ev_callV M_A_wordIsBelow [_] (sp_A_wordIsBelow hlt (nI nn)) c_A_91 d_A_braid_12 rfl rfl (by decide) (Nat.le_of_ble_eq_true rfl) ⟨rfl, rfl⟩ rfl ?_
      rw [hb]
      refine ev_if_ne 20 d_A_braid_15 (by decide) (fun q3 => ?_) (fun q3 => ?_)
      · refine ev_aload_n 0 d_A_braid_20 rfl rfl ?_
        refine ev_get f_A_16 d_A_braid_21 rfl rfl ?_
        refine ev_callV M_C_clear [] (sp_C_clear (n := n) rfl) c_A_88 d_A_braid_24 rfl rfl (by decide) (Nat.le_of_ble_eq_true rfl) ⟨rfl, rfl⟩ rfl ?_
        refine ev_aload_n 0 d_A_braid_27 rfl rfl ?_
        refine ev_iconst (v := 0) d_A_braid_28 (by decide) ?_
        refine ev_put p_A_54 d_A_braid_29 rfl (fun _ _ => ⟨rfl, rfl⟩) (Nat.le_of_ble_eq_true rfl) ?_
        refine ev_iconst (v := 1) d_A_braid_32 (by decide) ?_
        refine ev_istore_n 2 d_A_braid_33 rfl (Nat.le_of_ble_eq_true rfl) rfl ?_
        exact lp_A_braid1 hnn hlt hw nn 1 pl (by omega)
      · exact absurd q3 (by decide)
-- count
theorem sp_A_count0 : Sp M_A_count [.ref 0, .int 0] (kC nd fd gd n f g nf ff gf s q oe t m l u c ln mi wd pl lt cc T) (some (.int (nI n))) (kC nd fd gd n f g nf ff gf s q oe t m l u c ln mi wd pl lt cc T) := by
  refine Sp.of (by decide) (Nat.le_of_ble_eq_true rfl) ?_
  refine ev_iload_n 1 d_A_count_0 rfl rfl ?_
  refine ev_tabIn 40 d_A_count_1 (by decide) (by decide) rfl (by decide) ?_
  refine ev_aload_n 0 d_A_count_40 rfl rfl ?_
  refine ev_get f_A_16 d_A_count_41 rfl rfl ?_
  refine ev_callV M_C_size [] (sp_C_size rfl) c_A_69 d_A_count_44 rfl rfl (by decide) (Nat.le_of_ble_eq_true rfl) ⟨rfl, rfl⟩ rfl ?_
  exact ev_iret d_A_count_47 rfl rfl (Nat.le_of_ble_eq_true rfl) (Nat.le_of_ble_eq_true rfl)
theorem sp_A_count1 : Sp M_A_count [.ref 0, .int 1] (kC nd fd gd n f g nf ff gf s q oe t m l u c ln mi wd pl lt cc T) (some (.int (nI cc))) (kC nd fd gd n f g nf ff gf s q oe t m l u c ln mi wd pl lt cc T) := by
  refine Sp.of (by decide) (Nat.le_of_ble_eq_true rfl) ?_
  refine ev_iload_n 1 d_A_count_0 rfl rfl ?_
  refine ev_tabIn 48 d_A_count_1 (by decide) (by decide) rfl (by decide) ?_
  refine ev_aload_n 0 d_A_count_48 rfl rfl ?_
  refine ev_get f_A_54 d_A_count_49 rfl rfl ?_
  exact ev_iret d_A_count_52 rfl rfl (Nat.le_of_ble_eq_true rfl) (Nat.le_of_ble_eq_true rfl)
theorem sp_A_count2 (hn : n ≤ 8) : Sp M_A_count [.ref 0, .int 2] (kC nd fd gd n f g nf ff gf s q oe t m l u c ln mi wd pl lt cc T) (some (.int ((sN f g n s).1 + nI cc))) (kC nd fd gd n f g nf ff gf ((sN f g n s).2) q oe t m l u c ln mi wd pl lt cc T) := by
  refine Sp.of (by decide) (Nat.le_of_ble_eq_true rfl) ?_
  refine ev_iload_n 1 d_A_count_0 rfl rfl ?_
  refine ev_tabIn 53 d_A_count_1 (by decide) (by decide) rfl (by decide) ?_
  refine ev_aload_n 0 d_A_count_53 rfl rfl ?_
  refine ev_get f_A_25 d_A_count_54 rfl rfl ?_
  refine ev_aload_n 0 d_A_count_57 rfl rfl ?_
  refine ev_get f_A_16 d_A_count_58 rfl rfl ?_
  refine ev_callV M_S_strands [_] (sp_S_strands (by decide) (s := s) (q := q) (n := n) (f := f) (g := g) ⟨rfl, rfl, rfl, hn⟩ ⟨rfl, rfl, rfl⟩) c_A_110 d_A_count_61 rfl rfl (by decide) (Nat.le_of_ble_eq_true rfl) ⟨rfl, rfl⟩ rfl ?_
  refine ev_aload_n 0 d_A_count_64 rfl rfl ?_
  refine ev_get f_A_54 d_A_count_65 rfl rfl ?_
  refine ev_iadd d_A_count_68 ?_
  exact ev_iret d_A_count_69 rfl rfl (Nat.le_of_ble_eq_true rfl) (Nat.le_of_ble_eq_true rfl)
theorem sp_A_count3 (hn : n ≤ 8) : Sp M_A_count [.ref 0, .int 3] (kC nd fd gd n f g nf ff gf s q oe t m l u c ln mi wd pl lt cc T) (some (.int (wrI g 0 n 0))) (kC nd fd gd n f g nf ff gf s q oe t m l u c ln mi wd pl lt cc T) := by
  refine Sp.of (by decide) (Nat.le_of_ble_eq_true rfl) ?_
  refine ev_iload_n 1 d_A_count_0 rfl rfl ?_
  refine ev_tabIn 70 d_A_count_1 (by decide) (by decide) rfl (by decide) ?_
  refine ev_aload_n 0 d_A_count_70 rfl rfl ?_
  refine ev_get f_A_16 d_A_count_71 rfl rfl ?_
  refine ev_callV M_C_writhe [] (sp_C_writhe (n := n) (g := g) rfl rfl hn) c_A_114 d_A_count_74 rfl rfl (by decide) (Nat.le_of_ble_eq_true rfl) ⟨rfl, rfl⟩ rfl ?_
  exact ev_iret d_A_count_77 rfl rfl (Nat.le_of_ble_eq_true rfl) (Nat.le_of_ble_eq_true rfl)
theorem sp_A_count4 (hn : n ≤ 8) : Sp M_A_count [.ref 0, .int 4] (kC nd fd gd n f g nf ff gf s q oe t m l u c ln mi wd pl lt cc T) (some (.int (fN f n s).1)) (kC nd fd gd n f g nf ff gf ((fN f n s).2) q oe t m l u c ln mi wd pl lt cc T) := by
  refine Sp.of (by decide) (Nat.le_of_ble_eq_true rfl) ?_
  refine ev_iload_n 1 d_A_count_0 rfl rfl ?_
  refine ev_tabIn 78 d_A_count_1 (by decide) (by decide) rfl (by decide) ?_
  refine ev_aload_n 0 d_A_count_78 rfl rfl ?_
  refine ev_get f_A_25 d_A_count_79 rfl rfl ?_
  refine ev_aload_n 0 d_A_count_82 rfl rfl ?_
  refine ev_get f_A_16 d_A_count_83 rfl rfl ?_
  refine ev_callV M_S_faces [_] (sp_S_faces (by decide) (s := s) (q := q) (n := n) (f := f) (g := g) ⟨rfl, rfl, rfl, hn⟩ ⟨rfl, rfl, rfl⟩) c_A_117 d_A_count_86 rfl rfl (by decide) (Nat.le_of_ble_eq_true rfl) ⟨rfl, rfl⟩ rfl ?_
  exact ev_iret d_A_count_89 rfl rfl (Nat.le_of_ble_eq_true rfl) (Nat.le_of_ble_eq_true rfl)
theorem sp_A_count5 (hn : n ≤ 8) : Sp M_A_count [.ref 0, .int 5] (kC nd fd gd n f g nf ff gf s q oe t m l u c ln mi wd pl lt cc T) (some (.int (pN f n q).1)) (kC nd fd gd n f g nf ff gf s ((pN f n q).2) oe t m l u c ln mi wd pl lt cc T) := by
  refine Sp.of (by decide) (Nat.le_of_ble_eq_true rfl) ?_
  refine ev_iload_n 1 d_A_count_0 rfl rfl ?_
  refine ev_tabIn 90 d_A_count_1 (by decide) (by decide) rfl (by decide) ?_
  refine ev_aload_n 0 d_A_count_90 rfl rfl ?_
  refine ev_get f_A_25 d_A_count_91 rfl rfl ?_
  refine ev_aload_n 0 d_A_count_94 rfl rfl ?_
  refine ev_get f_A_16 d_A_count_95 rfl rfl ?_
  refine ev_callV M_S_pieces [_] (sp_S_pieces (by decide) (s := s) (q := q) (n := n) (f := f) (g := g) ⟨rfl, rfl, rfl, hn⟩ ⟨rfl, rfl, rfl⟩) c_A_120 d_A_count_98 rfl rfl (by decide) (Nat.le_of_ble_eq_true rfl) ⟨rfl, rfl⟩ rfl ?_
  exact ev_iret d_A_count_101 rfl rfl (Nat.le_of_ble_eq_true rfl) (Nat.le_of_ble_eq_true rfl)
theorem sp_A_count_no {x : Int32} (h : x.toInt < 0 ∨ 5 < x.toInt) : Sp M_A_count [.ref 0, .int x] (kC nd fd gd n f g nf ff gf s q oe t m l u c ln mi wd pl lt cc T) (some (.int (-100))) (kC nd fd gd n f g nf ff gf s q oe t m l u c ln mi wd pl lt cc T) := by
  refine Sp.of (by decide) (Nat.le_of_ble_eq_true rfl) ?_
  refine ev_iload_n 1 d_A_count_0 rfl rfl ?_
  refine ev_tabOut 102 d_A_count_1 h (by decide) ?_
  refine ev_bipush (v := -100) d_A_count_102 (by decide) ?_
  exact ev_iret d_A_count_104 rfl rfl (Nat.le_of_ble_eq_true rfl) (Nat.le_of_ble_eq_true rfl)
-- end
theorem sp_A_end_no {x k : Int32} (h : ¬ ((¬ x < 0 ∧ x < nI n) ∧ ¬ k < 0 ∧ k ≤ 4)) : Sp M_A_end [.ref 0, .int x, .int k] (kC nd fd gd n f g nf ff gf s q oe t m l u c ln mi wd pl lt cc T) (some (.int (-100))) (kC nd fd gd n f g nf ff gf s q oe t m l u c ln mi wd pl lt cc T) := by
  refine Sp.of (by decide) (Nat.le_of_ble_eq_true rfl) ?_
  refine ev_aload_n 0 d_A_end_0 rfl rfl ?_
  refine ev_get f_A_16 d_A_end_1 rfl rfl ?_
  refine ev_iload_n 1 d_A_end_4 rfl rfl ?_
  refine ev_callV M_C_has [_] (sp_C_has (n := n) rfl x) c_A_123 d_A_end_5 rfl rfl (by decide) (Nat.le_of_ble_eq_true rfl) ⟨rfl, rfl⟩ rfl ?_
  refine ev_if_eq 20 d_A_end_8 (by decide) (fun h1 => ?_) (fun h1 => ?_)
  · refine ev_bipush (v := -100) d_A_end_20 (by decide) ?_
    exact ev_iret d_A_end_22 rfl rfl (Nat.le_of_ble_eq_true rfl) (Nat.le_of_ble_eq_true rfl)
  · refine ev_iload_n 2 d_A_end_11 rfl rfl ?_
    refine ev_if_lt 20 d_A_end_12 (by decide) (fun h2 => ?_) (fun h2 => ?_)
    · refine ev_bipush (v := -100) d_A_end_20 (by decide) ?_
      exact ev_iret d_A_end_22 rfl rfl (Nat.le_of_ble_eq_true rfl) (Nat.le_of_ble_eq_true rfl)
    · refine ev_iload_n 2 d_A_end_15 rfl rfl ?_
      refine ev_iconst (v := 4) d_A_end_16 (by decide) ?_
      refine ev_icmp_le 23 d_A_end_17 (by decide) (fun h3 => ?_) (fun h3 => ?_)
      · exact absurd ⟨of_decide_eq_true ((zb_n0 _).mp h1), h2, h3⟩ h
      · refine ev_bipush (v := -100) d_A_end_20 (by decide) ?_
        exact ev_iret d_A_end_22 rfl rfl (Nat.le_of_ble_eq_true rfl) (Nat.le_of_ble_eq_true rfl)
theorem ev_A_end {x : Nat} {k : Int32} (hx : x < n) (hn : n ≤ 8) (h2 : ¬ k < 0) (h3 : k ≤ 4) {r : Option Value} {wf : zW} (kk : Ev M_A_end none r wf 23 [(0, .ref 0), (1, .int (nI x)), (2, .int k)] [] (kC nd fd gd n f g nf ff gf s q oe t m l u c ln mi wd pl lt cc T) 0 0) : Ev M_A_end none r wf 0 (lv_args 0 [.ref 0, .int (nI x), .int k]) [] (kC nd fd gd n f g nf ff gf s q oe t m l u c ln mi wd pl lt cc T) 0 0 := by
  refine ev_aload_n 0 d_A_end_0 rfl rfl ?_
  refine ev_get f_A_16 d_A_end_1 rfl rfl ?_
  refine ev_iload_n 1 d_A_end_4 rfl rfl ?_
  refine ev_callV M_C_has [_] (sp_C_has (n := n) rfl (nI x)) c_A_123 d_A_end_5 rfl rfl (by decide) (Nat.le_of_ble_eq_true rfl) ⟨rfl, rfl⟩ rfl ?_
  rw [decide_eq_true ⟨nI_pos (by omega), nI_lt hx (by omega)⟩]
  refine ev_if_eq 20 d_A_end_8 (by decide) (fun q1 => ?_) (fun q1 => ?_)
  · exact absurd q1 (by decide)
  · refine ev_iload_n 2 d_A_end_11 rfl rfl ?_
    refine ev_if_lt 20 d_A_end_12 (by decide) (fun q2 => ?_) (fun q2 => ?_)
    · exact absurd q2 h2
    · refine ev_iload_n 2 d_A_end_15 rfl rfl ?_
      refine ev_iconst (v := 4) d_A_end_16 (by decide) ?_
      refine ev_icmp_le 23 d_A_end_17 (by decide) (fun q3 => ?_) (fun q3 => ?_)
      · exact kk
      · exact absurd h3 q3
theorem sp_A_end4 {x : Nat} (hx : x < n) (hn : n ≤ 8) : Sp M_A_end [.ref 0, .int (nI x), .int 4] (kC nd fd gd n f g nf ff gf s q oe t m l u c ln mi wd pl lt cc T) (some (.int (sgn (decide (0 < g x))))) (kC nd fd gd n f g nf ff gf s q oe t m l u c ln mi wd pl lt cc T) := by
  refine Sp.of (by decide) (Nat.le_of_ble_eq_true rfl) (ev_A_end hx hn (by decide) (by decide) ?_)
  refine ev_iload_n 2 d_A_end_23 rfl rfl ?_
  refine ev_iconst (v := 4) d_A_end_24 (by decide) ?_
  refine ev_icmp_ne 45 d_A_end_25 (by decide) (fun h => ?_) (fun h => ?_)
  · exact absurd rfl h
  · refine ev_aload_n 0 d_A_end_28 rfl rfl ?_
    refine ev_get f_A_16 d_A_end_29 rfl rfl ?_
    refine ev_iload_n 1 d_A_end_32 rfl rfl ?_
    refine ev_callV M_C_isPositive [_] (sp_C_isPositive (n := n) (g := g) rfl rfl (by omega)) c_A_126 d_A_end_33 rfl rfl (by decide) (Nat.le_of_ble_eq_true rfl) ⟨rfl, rfl⟩ rfl ?_
    refine ev_if_eq 43 d_A_end_36 (by decide) (fun h1 => ?_) (fun h1 => ?_)
    · rw [(zb_0 _).mp h1]
      refine ev_iconst (v := -1) d_A_end_43 (by decide) ?_
      exact ev_iret d_A_end_44 rfl rfl (Nat.le_of_ble_eq_true rfl) (Nat.le_of_ble_eq_true rfl)
    · rw [(zb_n0 _).mp h1]
      refine ev_iconst (v := 1) d_A_end_39 (by decide) ?_
      refine ev_goto 44 d_A_end_40 (by decide) ?_
      exact ev_iret d_A_end_44 rfl rfl (Nat.le_of_ble_eq_true rfl) (Nat.le_of_ble_eq_true rfl)
theorem sp_A_end {x k : Nat} (hx : x < n) (hn : n ≤ 8) (hk : k < 4) : Sp M_A_end [.ref 0, .int (nI x), .int (nI k)] (kC nd fd gd n f g nf ff gf s q oe t m l u c ln mi wd pl lt cc T) (some (.int (f (4 * x + k)))) (kC nd fd gd n f g nf ff gf s q oe t m l u c ln mi wd pl lt cc T) := by
  refine Sp.of (by decide) (Nat.le_of_ble_eq_true rfl) (ev_A_end hx hn (nI_pos (by omega)) (nI_le (b := 4) (by omega) (by omega)) ?_)
  refine ev_iload_n 2 d_A_end_23 rfl rfl ?_
  refine ev_iconst (v := 4) d_A_end_24 (by decide) ?_
  refine ev_icmp_ne 45 d_A_end_25 (by decide) (fun h => ?_) (fun h => ?_)
  · refine ev_aload_n 0 d_A_end_45 rfl rfl ?_
    refine ev_get f_A_16 d_A_end_46 rfl rfl ?_
    refine ev_iconst (v := 4) d_A_end_49 (by decide) ?_
    refine ev_iload_n 1 d_A_end_50 rfl rfl ?_
    refine ev_imul d_A_end_51 ?_
    rw [z_m4]
    refine ev_iload_n 2 d_A_end_52 rfl rfl ?_
    refine ev_iadd d_A_end_53 ?_
    rw [nI_add]
    refine ev_callV M_C_edgeAt [_] (sp_C_edgeAt (n := n) (f := f) rfl rfl (by omega)) c_A_129 d_A_end_54 rfl rfl (by decide) (Nat.le_of_ble_eq_true rfl) ⟨rfl, rfl⟩ rfl ?_
    exact ev_iret d_A_end_57 rfl rfl (Nat.le_of_ble_eq_true rfl) (Nat.le_of_ble_eq_true rfl)
  · exact absurd ((nI_eq (b := 4) (by omega) (by omega)).mp h) (by omega)
-- first and second
def fiP (e : Int32) (g : Nat → Int32) (n : Nat) : Int64 := e.toInt64 + 3 * (wrI g 0 n 0).toInt64
def fiS (g : Nat → Int32) (n : Nat) (x : Int64) : Int64 := if (wrI g 0 n 0).toInt64 - (wrI g 0 n 0).toInt64 / 2 * 2 = 0 then x else -x
theorem ev_A_first {x : Int64} {a b e : Int32} {wf : zW} : Ev M_A_first none (some (.long (fiS g n x))) wf 34 [(0, .ref 0), (1, .int e), (2, .long (wrI g 0 n 0).toInt64), (4, .long x)] [] wf 0 0 := by
  refine ev_lload_n 2 d_A_first_34 rfl rfl ?_
  refine ev_ldc2 (v := 2) k_A_138 d_A_first_35 ?_
  refine ev_lrem d_A_first_38 (by decide) ?_
  refine ev_lconst (v := 0) d_A_first_39 (by decide) ?_
  refine ev_lcmp d_A_first_40 ?_
  refine ev_if_ne 49 d_A_first_41 (by decide) (fun h => ?_) (fun h => ?_)
  · unfold fiS
    rw [if_neg (fun q => h ((lg_cmp_eq _ _).mpr q))]
    refine ev_lload d_A_first_49 rfl ?_
    refine ev_lneg d_A_first_51 ?_
    exact ev_lret d_A_first_52 rfl (Nat.le_of_ble_eq_true rfl) (Nat.le_of_ble_eq_true rfl)
  · unfold fiS
    rw [if_pos ((lg_cmp_eq _ _).mp h)]
    refine ev_lload d_A_first_44 rfl ?_
    refine ev_goto 52 d_A_first_46 (by decide) ?_
    exact ev_lret d_A_first_52 rfl (Nat.le_of_ble_eq_true rfl) (Nat.le_of_ble_eq_true rfl)
theorem sp_A_first_no {e : Int32} (hn : n ≤ 8) (hp : fiP e g n < -62 ∨ 62 < fiP e g n) : Sp M_A_first [.ref 0, .int e] (kC nd fd gd n f g nf ff gf s q oe t m l u c ln mi wd pl lt cc T) (some (.long (fiS g n 0))) (kC nd fd gd n f g nf ff gf s q oe t m l u c ln mi wd pl lt cc T) := by
  refine Sp.of (by decide) (Nat.le_of_ble_eq_true rfl) ?_
  refine ev_aload_n 0 d_A_first_0 rfl rfl ?_
  refine ev_get f_A_16 d_A_first_1 rfl rfl ?_
  refine ev_callV M_C_writhe [] (sp_C_writhe (n := n) (g := g) rfl rfl hn) c_A_114 d_A_first_4 rfl rfl (by decide) (Nat.le_of_ble_eq_true rfl) ⟨rfl, rfl⟩ rfl ?_
  refine ev_i2l d_A_first_7 rfl ?_
  refine ev_lstore_n 2 d_A_first_8 rfl (Nat.le_of_ble_eq_true rfl) rfl ?_
  refine ev_aload_n 0 d_A_first_9 rfl rfl ?_
  refine ev_get f_A_32 d_A_first_10 rfl rfl ?_
  refine ev_aload_n 0 d_A_first_13 rfl rfl ?_
  refine ev_get f_A_16 d_A_first_14 rfl rfl ?_
  refine ev_aload_n 0 d_A_first_17 rfl rfl ?_
  refine ev_get f_A_54 d_A_first_18 rfl rfl ?_
  refine ev_iload_n 1 d_A_first_21 rfl rfl ?_
  refine ev_i2l d_A_first_22 rfl ?_
  refine ev_ldc2 (v := 3) k_A_132 d_A_first_23 ?_
  refine ev_lload_n 2 d_A_first_26 rfl rfl ?_
  refine ev_lmul d_A_first_27 ?_
  refine ev_ladd d_A_first_28 ?_
  refine ev_callV M_B_coefficient [_, _, _] (sp_B_coefficient_no hp 13 4 (nI cc)) c_A_134 d_A_first_29 rfl rfl (by decide) (Nat.le_of_ble_eq_true rfl) ⟨rfl, rfl⟩ rfl ?_
  refine ev_lstore d_A_first_32 (Nat.le_of_ble_eq_true rfl) rfl ?_
  exact ev_A_first (a := 0) (b := 0)
theorem sp_A_first {e : Int32} (hn : n ≤ 8) (hcc : cc < 1000000) (h1 : ¬ fiP e g n < -62) (h2 : fiP e g n ≤ 62) : Sp M_A_first [.ref 0, .int e] (kC nd fd gd n f g nf ff gf s q oe t m l u c ln mi wd pl lt cc T) (some (.long (fiS g n (hor (tal (oth f n) n cc 0 (2 ^ n) (fl0 t 261)) n 28 (fl0L m 125) (62 + (fiP e g n).toInt32).toNatClampNeg)))) (kC nd fd gd n f g nf ff gf s q (oeF f n oe) (tal (oth f n) n cc 0 (2 ^ n) (fl0 t 261)) (hor (tal (oth f n) n cc 0 (2 ^ n) (fl0 t 261)) n 28 (fl0L m 125)) l u c ln mi wd pl lt cc T) := by
  refine Sp.of (by decide) (Nat.le_of_ble_eq_true rfl) ?_
  refine ev_aload_n 0 d_A_first_0 rfl rfl ?_
  refine ev_get f_A_16 d_A_first_1 rfl rfl ?_
  refine ev_callV M_C_writhe [] (sp_C_writhe (n := n) (g := g) rfl rfl hn) c_A_114 d_A_first_4 rfl rfl (by decide) (Nat.le_of_ble_eq_true rfl) ⟨rfl, rfl⟩ rfl ?_
  refine ev_i2l d_A_first_7 rfl ?_
  refine ev_lstore_n 2 d_A_first_8 rfl (Nat.le_of_ble_eq_true rfl) rfl ?_
  refine ev_aload_n 0 d_A_first_9 rfl rfl ?_
  refine ev_get f_A_32 d_A_first_10 rfl rfl ?_
  refine ev_aload_n 0 d_A_first_13 rfl rfl ?_
  refine ev_get f_A_16 d_A_first_14 rfl rfl ?_
  refine ev_aload_n 0 d_A_first_17 rfl rfl ?_
  refine ev_get f_A_54 d_A_first_18 rfl rfl ?_
  refine ev_iload_n 1 d_A_first_21 rfl rfl ?_
  refine ev_i2l d_A_first_22 rfl ?_
  refine ev_ldc2 (v := 3) k_A_132 d_A_first_23 ?_
  refine ev_lload_n 2 d_A_first_26 rfl rfl ?_
  refine ev_lmul d_A_first_27 ?_
  refine ev_ladd d_A_first_28 ?_
  refine ev_callV M_B_coefficient [_, _, _] (sp_B_coefficient (by decide) hcc (n := n) (f := f) (g := g) (oe := oe) (t := t) (m := m) ⟨rfl, rfl, rfl, hn⟩ ⟨rfl, rfl, rfl, rfl⟩ h1 h2) c_A_134 d_A_first_29 rfl rfl (by decide) (Nat.le_of_ble_eq_true rfl) ⟨rfl, rfl⟩ rfl ?_
  refine ev_lstore d_A_first_32 (Nat.le_of_ble_eq_true rfl) rfl ?_
  exact ev_A_first (a := 0) (b := 0)
theorem sp_A_second_no {p : Int32} (hn : n ≤ 8) (hf : edg (4 * n) f) (hcc : cc < 1000000) (h0 : 1 ≤ rA f n l u + cc) (hno : p < 0 ∨ 8 < p ∨ n < rA f n l u + cc - 1) : Sp M_A_second [.ref 0, .int p] (kC nd fd gd n f g nf ff gf s q oe t m l u c ln mi wd pl lt cc T) (some (.long 0)) (kC nd fd gd n f g nf ff gf s q oe t m (rL f n l) (rU f n l u) c ln mi wd pl lt cc T) := by
  refine Sp.of (by decide) (Nat.le_of_ble_eq_true rfl) ?_
  refine ev_aload_n 0 d_A_second_0 rfl rfl ?_
  refine ev_get f_A_39 d_A_second_1 rfl rfl ?_
  refine ev_aload_n 0 d_A_second_4 rfl rfl ?_
  refine ev_get f_A_16 d_A_second_5 rfl rfl ?_
  refine ev_aload_n 0 d_A_second_8 rfl rfl ?_
  refine ev_get f_A_54 d_A_second_9 rfl rfl ?_
  refine ev_iload_n 1 d_A_second_12 rfl rfl ?_
  refine ev_callV M_R_coefficient [_, _, _] (sp_R_coefficient_no hf (n := n) (f := f) (g := g) (l := l) (u := u) (c := c) (ln := ln) (mi := mi) ⟨rfl, rfl, rfl, hn⟩ ⟨rfl, rfl, rfl, rfl, rfl, rfl, by decide, by decide⟩ hcc h0 hno) c_A_140 d_A_second_13 rfl rfl (by decide) (Nat.le_of_ble_eq_true rfl) ⟨rfl, rfl⟩ rfl ?_
  exact ev_lret d_A_second_16 rfl (Nat.le_of_ble_eq_true rfl) (Nat.le_of_ble_eq_true rfl)
theorem sp_A_second {p order : Nat} (hn : n ≤ 8) (hf : edg (4 * n) f) (hu : sml 100 33 u) (hcc : cc < 1000000) (hp : p ≤ 8) (h0 : 1 ≤ rA f n l u + cc) (hor : order = rA f n l u + cc - 1) (hle : order ≤ n) : Sp M_A_second [.ref 0, .int (nI p)] (kC nd fd gd n f g nf ff gf s q oe t m l u c ln mi wd pl lt cc T) (some (.long (nrC (exM (rCo f g n l u c order) (rLi f g n l u ln order) order mi) ((2 ^ order - 1) * 9) p))) (kC nd fd gd n f g nf ff gf s q oe t m (rL f n l) (rU f n l u) (rCo f g n l u c order) (rLi f g n l u ln order) (exM (rCo f g n l u c order) (rLi f g n l u ln order) order mi) wd pl lt cc T) := by
  refine Sp.of (by decide) (Nat.le_of_ble_eq_true rfl) ?_
  refine ev_aload_n 0 d_A_second_0 rfl rfl ?_
  refine ev_get f_A_39 d_A_second_1 rfl rfl ?_
  refine ev_aload_n 0 d_A_second_4 rfl rfl ?_
  refine ev_get f_A_16 d_A_second_5 rfl rfl ?_
  refine ev_aload_n 0 d_A_second_8 rfl rfl ?_
  refine ev_get f_A_54 d_A_second_9 rfl rfl ?_
  refine ev_iload_n 1 d_A_second_12 rfl rfl ?_
  refine ev_callV M_R_coefficient [_, _, _] (sp_R_coefficient hf hu (n := n) (f := f) (g := g) (l := l) (u := u) (c := c) (ln := ln) (mi := mi) ⟨rfl, rfl, rfl, hn⟩ ⟨rfl, rfl, rfl, rfl, rfl, rfl, by decide, by decide⟩ hcc hp h0 hor hle) c_A_140 d_A_second_13 rfl rfl (by decide) (Nat.le_of_ble_eq_true rfl) ⟨rfl, rfl⟩ rfl ?_
  exact ev_lret d_A_second_16 rfl (Nat.le_of_ble_eq_true rfl) (Nat.le_of_ble_eq_true rfl)
end Fa
