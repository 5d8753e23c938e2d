def paP (f g : Nat → Int32) (n e : Nat) : Int32 := f (opp (outg f g n e))
def paQ (f g : Nat → Int32) (n e : Nat) : Int32 := f (opp (inc f g n e))
/-- what the pulling apart leaves: of the edges and the circles -/
def paS (f g : Nat → Int32) (n cc one two : Nat) : (Nat → Int32) × Nat :=
  joE (n - 2) (rmS (rmS g n (mxN (one / 4) (two / 4))) (n - 1) (mnN (one / 4) (two / 4)))
    (rj (paP f g n (puU one two)) (paQ f g n (puU one two)) (paP f g n (puL one two)))
    (rj (paP f g n (puU one two)) (paQ f g n (puU one two)) (paQ f g n (puL one two)))
    (joE (n - 2) (rmS (rmS g n (mxN (one / 4) (two / 4))) (n - 1) (mnN (one / 4) (two / 4))) (paP f g n (puU one two)) (paQ f g n (puU one two)) (rmE (rmE f n (mxN (one / 4) (two / 4))) (n - 1) (mnN (one / 4) (two / 4)), cc))
def slS (ff gf : Nat → Int32) (nf : Nat) (e : Nat) (f : Nat → Int32) : Nat → Int32 := upd (upd (upd (upd f (opp (outg ff gf nf e)) (ff e)) (outg ff gf nf e) (ff (opp (inc ff gf nf e)))) (inc ff gf nf e) (ff (opp (outg ff gf nf e)))) (opp (inc ff gf nf e)) (ff e)
def upE (f : Nat → Int32) (n e : Nat) : Bool := (e % 2 == 1) && (oth f n e % 2 == 1)
def slB (f : Nat → Int32) (n y z e : Nat) : Bool := decide (fol f n (fol f n (fol f n e)) = e) && ((decide (fol f n e / 4 = y) && decide (fol f n (fol f n e) / 4 = z)) || (decide (fol f n e / 4 = z) && decide (fol f n (fol f n e) / 4 = y))) && (upE f n e || upE f n (fol f n e) || upE f n (fol f n (fol f n e)))
def slF (f g ff gf : Nat → Int32) (n e : Nat) : Nat → Int32 :=
  slS (va_cpy f ff 0 0 32) (va_cpy g gf 0 0 8) n (fol (va_cpy f ff 0 0 32) n (fol (va_cpy f ff 0 0 32) n e)) (slS (va_cpy f ff 0 0 32) (va_cpy g gf 0 0 8) n (fol (va_cpy f ff 0 0 32) n e) (slS (va_cpy f ff 0 0 32) (va_cpy g gf 0 0 8) n e f))
section Mo
variable {nd : Nat} {fd gd : Nat → Int32} {n : Nat} {f g : Nat → Int32} {nf : Nat} {ff gf s q oe t : Nat → Int32} {m : Nat → Int64} {l u c ln : Nat → Int32} {mi : Nat → Int64} {wd pl : Nat → Int32} {lt cc : Nat} {T : zW}
theorem sp_A_pullApart {one two : Nat} (hn : n ≤ 8) (h1 : one < 4 * n) (h2 : two < 4 * n) (hne : one / 4 ≠ two / 4) : Sp M_A_pullApart [.ref 0, .int (nI one), .int (nI two)] (kC nd fd gd n f g nf ff gf s q oe t m l u c ln mi wd pl lt cc T) none (kC nd fd gd (n - 2) ((paS f g n cc one two).1) (rmS (rmS g n (mxN (one / 4) (two / 4))) (n - 1) (mnN (one / 4) (two / 4))) nf ff gf s q oe t m l u c ln mi wd pl lt ((paS f g n cc one two).2) T) := by
  refine Sp.of (by decide) (Nat.le_of_ble_eq_true rfl) ?_
  have hU : puU one two < 32 := by unfold puU; split <;> omega
  have hL : puL one two < 32 := by unfold puL; split <;> omega
  have hx : mxN (one / 4) (two / 4) < n := by unfold mxN; split <;> omega
  have hm : mnN (one / 4) (two / 4) < n - 1 := by unfold mnN; split <;> omega
  -- the last stretch: both crossings are gone
  have k3 : ∀ (f : Nat → Int32) (cc : Nat) (P Q R S : Int32), Ev M_A_pullApart none none (kC nd fd gd (n - 2) ((joE (n - 2) (rmS (rmS g n (mxN (one / 4) (two / 4))) (n - 1) (mnN (one / 4) (two / 4))) (rj P Q R) (rj P Q S) (f, cc)).1) (rmS (rmS g n (mxN (one / 4) (two / 4))) (n - 1) (mnN (one / 4) (two / 4))) nf ff gf s q oe t m l u c ln mi wd pl lt ((joE (n - 2) (rmS (rmS g n (mxN (one / 4) (two / 4))) (n - 1) (mnN (one / 4) (two / 4))) (rj P Q R) (rj P Q S) (f, cc)).2) T) 113 [(0, .ref 0), (1, .int (nI one)), (2, .int (nI two)), (3, .int (nI (puU one two))), (4, .int (nI (puL one two))), (5, .int P), (6, .int Q), (7, .int R), (8, .int S)] [] (kC nd fd gd (n - 2) f (rmS (rmS g n (mxN (one / 4) (two / 4))) (n - 1) (mnN (one / 4) (two / 4))) nf ff gf s q oe t m l u c ln mi wd pl lt cc T) 0 0 := by
    intro f cc P Q R S
    have k4 : Ev M_A_pullApart none none (kC nd fd gd (n - 2) ((joE (n - 2) (rmS (rmS g n (mxN (one / 4) (two / 4))) (n - 1) (mnN (one / 4) (two / 4))) (rj P Q R) (rj P Q S) (f, cc)).1) (rmS (rmS g n (mxN (one / 4) (two / 4))) (n - 1) (mnN (one / 4) (two / 4))) nf ff gf s q oe t m l u c ln mi wd pl lt ((joE (n - 2) (rmS (rmS g n (mxN (one / 4) (two / 4))) (n - 1) (mnN (one / 4) (two / 4))) (rj P Q R) (rj P Q S) (f, cc)).2) T) 128 [(0, .ref 0), (1, .int (nI one)), (2, .int (nI two)), (3, .int (nI (puU one two))), (4, .int (nI (puL one two))), (5, .int P), (6, .int Q), (7, .int R), (8, .int S)] [.int (rj P Q R), .ref 0] (kC nd fd gd (n - 2) f (rmS (rmS g n (mxN (one / 4) (two / 4))) (n - 1) (mnN (one / 4) (two / 4))) nf ff gf s q oe t m l u c ln mi wd pl lt cc T) 0 0 := by
      refine ev_iload d_A_pullApart_128 rfl ?_
      refine ev_iload d_A_pullApart_130 rfl ?_
      refine ev_icmp_ne 140 d_A_pullApart_132 (by decide) (fun h => ?_) (fun h => ?_)
      · have e1 : rj P Q S = S := by unfold rj; rw [if_neg h]
        rw [e1]
        refine ev_iload d_A_pullApart_140 rfl ?_
        refine ev_callV M_A_join [_, _] (sp_A_join (n := n - 2) (g := rmS (rmS g n (mxN (one / 4) (two / 4))) (n - 1) (mnN (one / 4) (two / 4))) (by omega) _ _) c_A_166 d_A_pullApart_142 rfl rfl (by decide) (Nat.le_of_ble_eq_true rfl) ⟨rfl, rfl⟩ rfl ?_
        exact ev_ret d_A_pullApart_145 rfl (Nat.le_of_ble_eq_true rfl) (Nat.le_of_ble_eq_true rfl)
      · have e1 : rj P Q S = P := by unfold rj; rw [if_pos h]
        rw [e1]
        refine ev_iload d_A_pullApart_135 rfl ?_
        refine ev_goto 142 d_A_pullApart_137 (by decide) ?_
        refine ev_callV M_A_join [_, _] (sp_A_join (n := n - 2) (g := rmS (rmS g n (mxN (one / 4) (two / 4))) (n - 1) (mnN (one / 4) (two / 4))) (by omega) _ _) c_A_166 d_A_pullApart_142 rfl rfl (by decide) (Nat.le_of_ble_eq_true rfl) ⟨rfl, rfl⟩ rfl ?_
        exact ev_ret d_A_pullApart_145 rfl (Nat.le_of_ble_eq_true rfl) (Nat.le_of_ble_eq_true rfl)
    refine ev_aload_n 0 d_A_pullApart_113 rfl rfl ?_
    refine ev_iload d_A_pullApart_114 rfl ?_
    refine ev_iload d_A_pullApart_116 rfl ?_
    refine ev_icmp_ne 126 d_A_pullApart_118 (by decide) (fun h => ?_) (fun h => ?_)
    · have e1 : rj P Q R = R := by unfold rj; rw [if_neg h]
      rw [e1] at k4 ⊢
      refine ev_iload d_A_pullApart_126 rfl ?_
      exact k4
    · have e1 : rj P Q R = P := by unfold rj; rw [if_pos h]
      rw [e1] at k4 ⊢
      refine ev_iload d_A_pullApart_121 rfl ?_
      refine ev_goto 128 d_A_pullApart_123 (by decide) ?_
      exact k4
  have k2 : Ev M_A_pullApart none none (kC nd fd gd (n - 2) ((paS f g n cc one two).1) (rmS (rmS g n (mxN (one / 4) (two / 4))) (n - 1) (mnN (one / 4) (two / 4))) nf ff gf s q oe t m l u c ln mi wd pl lt ((paS f g n cc one two).2) T) 27 [(0, .ref 0), (1, .int (nI one)), (2, .int (nI two)), (3, .int (nI (puU one two))), (4, .int (nI (puL one two)))] [] (kC nd fd gd n f g nf ff gf s q oe t m l u c ln mi wd pl lt cc T) 0 0 := by
    refine ev_aload_n 0 d_A_pullApart_27 rfl rfl ?_
    refine ev_get f_A_16 d_A_pullApart_28 rfl rfl ?_
    refine ev_iload_n 3 d_A_pullApart_31 rfl rfl ?_
    refine ev_callV M_C_edgeBefore [_] (sp_C_edgeBefore (n := n) (f := f) (g := g) rfl rfl rfl hn hU) c_A_196 d_A_pullApart_32 rfl rfl (by decide) (Nat.le_of_ble_eq_true rfl) ⟨rfl, rfl⟩ rfl ?_
    refine ev_istore d_A_pullApart_35 (Nat.le_of_ble_eq_true rfl) rfl ?_
    refine ev_aload_n 0 d_A_pullApart_37 rfl rfl ?_
    refine ev_get f_A_16 d_A_pullApart_38 rfl rfl ?_
    refine ev_iload_n 3 d_A_pullApart_41 rfl rfl ?_
    refine ev_callV M_C_edgeBehind [_] (sp_C_edgeBehind (n := n) (f := f) (g := g) rfl rfl rfl hn hU) c_A_199 d_A_pullApart_42 rfl rfl (by decide) (Nat.le_of_ble_eq_true rfl) ⟨rfl, rfl⟩ rfl ?_
    refine ev_istore d_A_pullApart_45 (Nat.le_of_ble_eq_true rfl) rfl ?_
    refine ev_aload_n 0 d_A_pullApart_47 rfl rfl ?_
    refine ev_get f_A_16 d_A_pullApart_48 rfl rfl ?_
    refine ev_iload d_A_pullApart_51 rfl ?_
    refine ev_callV M_C_edgeBefore [_] (sp_C_edgeBefore (n := n) (f := f) (g := g) rfl rfl rfl hn hL) c_A_196 d_A_pullApart_53 rfl rfl (by decide) (Nat.le_of_ble_eq_true rfl) ⟨rfl, rfl⟩ rfl ?_
    refine ev_istore d_A_pullApart_56 (Nat.le_of_ble_eq_true rfl) rfl ?_
    refine ev_aload_n 0 d_A_pullApart_58 rfl rfl ?_
    refine ev_get f_A_16 d_A_pullApart_59 rfl rfl ?_
    refine ev_iload d_A_pullApart_62 rfl ?_
    refine ev_callV M_C_edgeBehind [_] (sp_C_edgeBehind (n := n) (f := f) (g := g) rfl rfl rfl hn hL) c_A_199 d_A_pullApart_64 rfl rfl (by decide) (Nat.le_of_ble_eq_true rfl) ⟨rfl, rfl⟩ rfl ?_
    refine ev_istore d_A_pullApart_67 (Nat.le_of_ble_eq_true rfl) rfl ?_
    refine ev_aload_n 0 d_A_pullApart_69 rfl rfl ?_
    refine ev_get f_A_16 d_A_pullApart_70 rfl rfl ?_
    refine ev_iload_n 1 d_A_pullApart_73 rfl rfl ?_
    refine ev_callS M_A_crossingOf [_] (sp_A_crossingOf _ (e := one) (by omega)) c_A_187 d_A_pullApart_74 rfl (by decide) (Nat.le_of_ble_eq_true rfl) ⟨rfl, rfl⟩ rfl ?_
    refine ev_iload_n 2 d_A_pullApart_77 rfl rfl ?_
    refine ev_callS M_A_crossingOf [_] (sp_A_crossingOf _ (e := two) (by omega)) c_A_187 d_A_pullApart_78 rfl (by decide) (Nat.le_of_ble_eq_true rfl) ⟨rfl, rfl⟩ rfl ?_
    refine ev_mmax c_A_202 wm_max_s wm_i wm_max_c d_A_pullApart_81 (by decide) (by decide) (by decide) (by decide) ?_
    rw [show (if nI (one / 4) < nI (two / 4) then nI (two / 4) else nI (one / 4)) = nI (mxN (one / 4) (two / 4)) by
      unfold mxN
      by_cases hq : one / 4 < two / 4
      · rw [if_pos hq, if_pos (nI_lt hq (by omega))]
      · rw [if_neg hq, if_neg (nI_nlt (by omega) (by omega))]]
    refine ev_callV M_C_remove [_] (sp_C_remove (n := n) (f := f) (g := g) rfl rfl rfl hn hx) c_A_73 d_A_pullApart_84 rfl rfl (by decide) (Nat.le_of_ble_eq_true rfl) ⟨rfl, rfl⟩ rfl ?_
    refine ev_aload_n 0 d_A_pullApart_87 rfl rfl ?_
    refine ev_get f_A_16 d_A_pullApart_88 rfl rfl ?_
    refine ev_iload_n 1 d_A_pullApart_91 rfl rfl ?_
    refine ev_callS M_A_crossingOf [_] (sp_A_crossingOf _ (e := one) (by omega)) c_A_187 d_A_pullApart_92 rfl (by decide) (Nat.le_of_ble_eq_true rfl) ⟨rfl, rfl⟩ rfl ?_
    refine ev_iload_n 2 d_A_pullApart_95 rfl rfl ?_
    refine ev_callS M_A_crossingOf [_] (sp_A_crossingOf _ (e := two) (by omega)) c_A_187 d_A_pullApart_96 rfl (by decide) (Nat.le_of_ble_eq_true rfl) ⟨rfl, rfl⟩ rfl ?_
    refine ev_mmin c_A_205 wm_min_s wm_i wm_min_c d_A_pullApart_99 (by decide) (by decide) (by decide) (by decide) ?_
    rw [show (if nI (two / 4) < nI (one / 4) then nI (two / 4) else nI (one / 4)) = nI (mnN (one / 4) (two / 4)) by
      unfold mnN
      by_cases hq : two / 4 < one / 4
      · rw [if_pos hq, if_pos (nI_lt hq (by omega))]
      · rw [if_neg hq, if_neg (nI_nlt (by omega) (by omega))]]
    refine ev_callV M_C_remove [_] (sp_C_remove (n := n - 1) (f := rmE f n (mxN (one / 4) (two / 4))) (g := rmS g n (mxN (one / 4) (two / 4))) rfl rfl rfl (by omega) hm) c_A_73 d_A_pullApart_102 rfl rfl (by decide) (Nat.le_of_ble_eq_true rfl) ⟨rfl, rfl⟩ rfl ?_
    refine ev_aload_n 0 d_A_pullApart_105 rfl rfl ?_
    refine ev_iload d_A_pullApart_106 rfl ?_
    refine ev_iload d_A_pullApart_108 rfl ?_
    refine ev_callV M_A_join [_, _] (sp_A_join (n := n - 1 - 1) (f := rmE (rmE f n (mxN (one / 4) (two / 4))) (n - 1) (mnN (one / 4) (two / 4))) (g := rmS (rmS g n (mxN (one / 4) (two / 4))) (n - 1) (mnN (one / 4) (two / 4))) (by omega) _ _) c_A_166 d_A_pullApart_110 rfl rfl (by decide) (Nat.le_of_ble_eq_true rfl) ⟨rfl, rfl⟩ rfl ?_
    rw [show n - 1 - 1 = n - 2 by omega]
    exact k3 _ _ _ _ _ _
  refine ev_iload_n 1 d_A_pullApart_0 rfl rfl ?_
  refine ev_callS M_A_isUpper [_] (sp_A_isUpper _ (e := one) (by omega)) c_A_190 d_A_pullApart_1 rfl (by decide) (Nat.le_of_ble_eq_true rfl) ⟨rfl, rfl⟩ rfl ?_
  by_cases hq : one % 2 = 1
  · have e1 : (one % 2 == 1) = true := by simpa using hq
    rw [e1]
    have e2 : puU one two = one := by unfold puU; rw [if_pos hq]
    have e3 : puL one two = two := by unfold puL; rw [if_pos hq]
    rw [e2, e3] at k2
    refine ev_if_eq 11 d_A_pullApart_4 (by decide) (fun h => ?_) (fun h => ?_)
    · exact absurd h (by decide)
    · refine ev_iload_n 1 d_A_pullApart_7 rfl rfl ?_
      refine ev_goto 12 d_A_pullApart_8 (by decide) ?_
      refine ev_istore_n 3 d_A_pullApart_12 rfl (Nat.le_of_ble_eq_true rfl) rfl ?_
      refine ev_iload_n 1 d_A_pullApart_13 rfl rfl ?_
      refine ev_callS M_A_isUpper [_] (sp_A_isUpper _ (e := one) (by omega)) c_A_190 d_A_pullApart_14 rfl (by decide) (Nat.le_of_ble_eq_true rfl) ⟨rfl, rfl⟩ rfl ?_
      rw [e1]
      refine ev_if_eq 24 d_A_pullApart_17 (by decide) (fun h3 => ?_) (fun h3 => ?_)
      · exact absurd h3 (by decide)
      · refine ev_iload_n 2 d_A_pullApart_20 rfl rfl ?_
        refine ev_goto 25 d_A_pullApart_21 (by decide) ?_
        refine ev_istore d_A_pullApart_25 (Nat.le_of_ble_eq_true rfl) rfl ?_
        exact k2
  · have e1 : (one % 2 == 1) = false := by simpa using hq
    rw [e1]
    have e2 : puU one two = two := by unfold puU; rw [if_neg hq]
    have e3 : puL one two = one := by unfold puL; rw [if_neg hq]
    rw [e2, e3] at k2
    refine ev_if_eq 11 d_A_pullApart_4 (by decide) (fun h => ?_) (fun h => ?_)
    · refine ev_iload_n 2 d_A_pullApart_11 rfl rfl ?_
      refine ev_istore_n 3 d_A_pullApart_12 rfl (Nat.le_of_ble_eq_true rfl) rfl ?_
      refine ev_iload_n 1 d_A_pullApart_13 rfl rfl ?_
      refine ev_callS M_A_isUpper [_] (sp_A_isUpper _ (e := one) (by omega)) c_A_190 d_A_pullApart_14 rfl (by decide) (Nat.le_of_ble_eq_true rfl) ⟨rfl, rfl⟩ rfl ?_
      rw [e1]
      refine ev_if_eq 24 d_A_pullApart_17 (by decide) (fun h3 => ?_) (fun h3 => ?_)
      · refine ev_iload_n 1 d_A_pullApart_24 rfl rfl ?_
        refine ev_istore d_A_pullApart_25 (Nat.le_of_ble_eq_true rfl) rfl ?_
        exact k2
      · exact absurd rfl h3
    · exact absurd rfl h
theorem lp_A_unpoke {x y : Nat} (hx : x < n) (hy : y < n) (hxy : x ≠ y) (hn : n ≤ 8) {r : Option Value} {wf : zW} (kn : fiF (fun e => pokB f n e y) (4 * x) 4 = none → Ev M_A_unpoke none r wf 72 [(0, .ref 0), (1, .int (nI x)), (2, .int (nI y)), (3, .int (nI (4 * x + 4)))] [] (kC nd fd gd n f g nf ff gf s q oe t m l u c ln mi wd pl lt cc T) 0 0) (ky : ∀ e, fiF (fun e => pokB f n e y) (4 * x) 4 = some e → Ev M_A_unpoke none r wf 51 [(0, .ref 0), (1, .int (nI x)), (2, .int (nI y)), (3, .int (nI e))] [] (kC nd fd gd n f g nf ff gf s q oe t m l u c ln mi wd pl lt cc T) 0 0) : ∀ k e, e + k = 4 * x + 4 → 4 * x ≤ e → fiF (fun e => pokB f n e y) (4 * x) 4 = fiF (fun e => pokB f n e y) e k → Ev M_A_unpoke none r wf 33 [(0, .ref 0), (1, .int (nI x)), (2, .int (nI y)), (3, .int (nI e))] [] (kC nd fd gd n f g nf ff gf s q oe t m l u c ln mi wd pl lt cc T) 0 0 := by
  intro k
  induction k with
  | zero =>
    intro e he h4 hf
    refine ev_iload_n 3 d_A_unpoke_33 rfl rfl ?_
    refine ev_iconst (v := 4) d_A_unpoke_34 (by decide) ?_
    refine ev_iload_n 1 d_A_unpoke_35 rfl rfl ?_
    refine ev_imul d_A_unpoke_36 ?_
    rw [z_m4]
    refine ev_iconst (v := 4) d_A_unpoke_37 (by decide) ?_
    refine ev_iadd d_A_unpoke_38 ?_
    rw [z_p4]
    refine ev_icmp_ge 72 d_A_unpoke_39 (by decide) (fun h => ?_) (fun h => ?_)
    · rw [show e = 4 * x + 4 by omega]
      exact kn (by rw [hf, fiF])
    · exact absurd (nI_le (by omega) (by omega)) h
  | succ k ih =>
    intro e he h4 hf
    refine ev_iload_n 3 d_A_unpoke_33 rfl rfl ?_
    refine ev_iconst (v := 4) d_A_unpoke_34 (by decide) ?_
    refine ev_iload_n 1 d_A_unpoke_35 rfl rfl ?_
    refine ev_imul d_A_unpoke_36 ?_
    rw [z_m4]
    refine ev_iconst (v := 4) d_A_unpoke_37 (by decide) ?_
    refine ev_iadd d_A_unpoke_38 ?_
    rw [z_p4]
    refine ev_icmp_ge 72 d_A_unpoke_39 (by decide) (fun h => ?_) (fun h => ?_)
    · exact absurd h (nI_ge (by omega) (by omega))
    · refine ev_aload_n 0 d_A_unpoke_42 rfl rfl ?_
      refine ev_iload_n 3 d_A_unpoke_43 rfl rfl ?_
      refine ev_iload_n 2 d_A_unpoke_44 rfl rfl ?_
      refine ev_callV M_A_isPokedFace [_, _] (sp_A_isPokedFace (n := n) (f := f) (by omega) hn (by omega)) c_A_177 d_A_unpoke_45 rfl rfl (by decide) (Nat.le_of_ble_eq_true rfl) ⟨rfl, rfl⟩ rfl ?_
      refine ev_if_eq 66 d_A_unpoke_48 (by decide) (fun h2 => ?_) (fun h2 => ?_)
      · refine ev_iinc (v := _ + 1) d_A_unpoke_66 rfl rfl (Nat.le_of_ble_eq_true rfl) rfl ?_
        rw [nI_1]
        refine ev_goto 33 d_A_unpoke_69 (by decide) ?_
        refine ih (e + 1) (by omega) (by omega) ?_
        rw [hf, fiF, if_neg (by rw [(zb_0 _).mp h2]; decide)]
      · exact ky e (by rw [hf, fiF, if_pos ((zb_n0 _).mp h2)])
theorem ev_A_unpoke {x y : Nat} (hx : x < n) (hy : y < n) (hxy : x ≠ y) (hn : n ≤ 8) {r : Option Value} {wf : zW} (kn : fiF (fun e => pokB f n e y) (4 * x) 4 = none → Ev M_A_unpoke none r wf 72 [(0, .ref 0), (1, .int (nI x)), (2, .int (nI y)), (3, .int (nI (4 * x + 4)))] [] (kC nd fd gd n f g nf ff gf s q oe t m l u c ln mi wd pl lt cc T) 0 0) (ky : ∀ e, fiF (fun e => pokB f n e y) (4 * x) 4 = some e → Ev M_A_unpoke none r wf 51 [(0, .ref 0), (1, .int (nI x)), (2, .int (nI y)), (3, .int (nI e))] [] (kC nd fd gd n f g nf ff gf s q oe t m l u c ln mi wd pl lt cc T) 0 0) : Ev M_A_unpoke none r wf 0 (lv_args 0 [.ref 0, .int (nI x), .int (nI y)]) [] (kC nd fd gd n f g nf ff gf s q oe t m l u c ln mi wd pl lt cc T) 0 0 := by
  refine ev_iload_n 1 d_A_unpoke_0 rfl rfl ?_
  refine ev_iload_n 2 d_A_unpoke_1 rfl rfl ?_
  refine ev_icmp_eq 27 d_A_unpoke_2 (by decide) (fun q1 => ?_) (fun q1 => ?_)
  · exact absurd ((nI_eq (by omega) (by omega)).mp q1) hxy
  · refine ev_aload_n 0 d_A_unpoke_5 rfl rfl ?_
    refine ev_get f_A_16 d_A_unpoke_6 rfl rfl ?_
    refine ev_iload_n 1 d_A_unpoke_9 rfl rfl ?_
    refine ev_callV M_C_has [_] (sp_C_has (n := n) rfl (nI x)) c_A_123 d_A_unpoke_10 rfl rfl (by decide) (Nat.le_of_ble_eq_true rfl) ⟨rfl, rfl⟩ rfl ?_
    rw [decide_eq_true ⟨nI_pos (by omega), nI_lt hx (by omega)⟩]
    refine ev_if_eq 27 d_A_unpoke_13 (by decide) (fun q2 => ?_) (fun q2 => ?_)
    · exact absurd q2 (by decide)
    · refine ev_aload_n 0 d_A_unpoke_16 rfl rfl ?_
      refine ev_get f_A_16 d_A_unpoke_17 rfl rfl ?_
      refine ev_iload_n 2 d_A_unpoke_20 rfl rfl ?_
      refine ev_callV M_C_has [_] (sp_C_has (n := n) rfl (nI y)) c_A_123 d_A_unpoke_21 rfl rfl (by decide) (Nat.le_of_ble_eq_true rfl) ⟨rfl, rfl⟩ rfl ?_
      rw [decide_eq_true ⟨nI_pos (by omega), nI_lt hy (by omega)⟩]
      refine ev_if_ne 29 d_A_unpoke_24 (by decide) (fun q3 => ?_) (fun q3 => ?_)
      · refine ev_iconst (v := 4) d_A_unpoke_29 (by decide) ?_
        refine ev_iload_n 1 d_A_unpoke_30 rfl rfl ?_
        refine ev_imul d_A_unpoke_31 ?_
        rw [z_m4]
        refine ev_istore_n 3 d_A_unpoke_32 rfl (Nat.le_of_ble_eq_true rfl) rfl ?_
        exact lp_A_unpoke hx hy hxy hn kn ky 4 (4 * x) (by omega) (by omega) rfl
      · exact absurd q3 (by decide)
theorem sp_A_unpoke_no {x y : Int32} (h : ¬ (¬ x = y ∧ (¬ x < 0 ∧ x < nI n) ∧ (¬ y < 0 ∧ y < nI n))) : Sp M_A_unpoke [.ref 0, .int x, .int y] (kC nd fd gd n f g nf ff gf s q oe t m l u c ln mi wd pl lt cc T) (some (.int (zb false))) (kC nd fd gd n f g nf ff gf s q oe t m l u c ln mi wd pl lt cc T) := by
  refine Sp.of (by decide) (Nat.le_of_ble_eq_true rfl) ?_
  refine ev_iload_n 1 d_A_unpoke_0 rfl rfl ?_
  refine ev_iload_n 2 d_A_unpoke_1 rfl rfl ?_
  refine ev_icmp_eq 27 d_A_unpoke_2 (by decide) (fun q1 => ?_) (fun q1 => ?_)
  · refine ev_iconst (v := 0) d_A_unpoke_27 (by decide) ?_
    exact ev_iret d_A_unpoke_28 rfl zr0 (Nat.le_of_ble_eq_true rfl) (Nat.le_of_ble_eq_true rfl)
  · refine ev_aload_n 0 d_A_unpoke_5 rfl rfl ?_
    refine ev_get f_A_16 d_A_unpoke_6 rfl rfl ?_
    refine ev_iload_n 1 d_A_unpoke_9 rfl rfl ?_
    refine ev_callV M_C_has [_] (sp_C_has (n := n) rfl x) c_A_123 d_A_unpoke_10 rfl rfl (by decide) (Nat.le_of_ble_eq_true rfl) ⟨rfl, rfl⟩ rfl ?_
    refine ev_if_eq 27 d_A_unpoke_13 (by decide) (fun q2 => ?_) (fun q2 => ?_)
    · refine ev_iconst (v := 0) d_A_unpoke_27 (by decide) ?_
      exact ev_iret d_A_unpoke_28 rfl zr0 (Nat.le_of_ble_eq_true rfl) (Nat.le_of_ble_eq_true rfl)
    · refine ev_aload_n 0 d_A_unpoke_16 rfl rfl ?_
      refine ev_get f_A_16 d_A_unpoke_17 rfl rfl ?_
      refine ev_iload_n 2 d_A_unpoke_20 rfl rfl ?_
      refine ev_callV M_C_has [_] (sp_C_has (n := n) rfl y) c_A_123 d_A_unpoke_21 rfl rfl (by decide) (Nat.le_of_ble_eq_true rfl) ⟨rfl, rfl⟩ rfl ?_
      refine ev_if_ne 29 d_A_unpoke_24 (by decide) (fun q3 => ?_) (fun q3 => ?_)
      · exact absurd ⟨q1, of_decide_eq_true ((zb_n0 _).mp q2), of_decide_eq_true ((zb_n0 _).mp q3)⟩ h
      · refine ev_iconst (v := 0) d_A_unpoke_27 (by decide) ?_
        exact ev_iret d_A_unpoke_28 rfl zr0 (Nat.le_of_ble_eq_true rfl) (Nat.le_of_ble_eq_true rfl)
theorem sp_A_unpoke_none {x y : Nat} (hx : x < n) (hy : y < n) (hxy : x ≠ y) (hn : n ≤ 8) (hf : fiF (fun e => pokB f n e y) (4 * x) 4 = none) : Sp M_A_unpoke [.ref 0, .int (nI x), .int (nI y)] (kC nd fd gd n f g nf ff gf s q oe t m l u c ln mi wd pl lt cc T) (some (.int (zb false))) (kC nd fd gd n f g nf ff gf s q oe t m l u c ln mi wd pl lt cc T) := by
  refine Sp.of (by decide) (Nat.le_of_ble_eq_true rfl) (ev_A_unpoke hx hy hxy hn (fun _ => ?_) (fun e he => by rw [hf] at he; cases he))
  refine ev_iconst (v := 0) d_A_unpoke_72 (by decide) ?_
  exact ev_iret d_A_unpoke_73 rfl zr0 (Nat.le_of_ble_eq_true rfl) (Nat.le_of_ble_eq_true rfl)
theorem sp_A_unpoke {x y e : Nat} (hx : x < n) (hy : y < n) (hxy : x ≠ y) (hn : n ≤ 8) (hf : fiF (fun e => pokB f n e y) (4 * x) 4 = some e) : Sp M_A_unpoke [.ref 0, .int (nI x), .int (nI y)] (kC nd fd gd n f g nf ff gf s q oe t m l u c ln mi wd pl lt cc T) (some (.int (zb true))) (kC nd fd gd (n - 2) ((paS f g n cc e (fol f n e)).1) (rmS (rmS g n (mxN (e / 4) (fol f n e / 4))) (n - 1) (mnN (e / 4) (fol f n e / 4))) nf ff gf s q oe t m l u c ln mi wd pl lt ((paS f g n cc e (fol f n e)).2) T) := by
  refine Sp.of (by decide) (Nat.le_of_ble_eq_true rfl) (ev_A_unpoke hx hy hxy hn (fun h => by rw [hf] at h; cases h) (fun e' he => ?_))
  rw [hf] at he
  cases he
  obtain ⟨h1, h2, h3⟩ := fiF_lt _ _ _ hf
  have h4 : fol f n e / 4 = y := by
    unfold pokB at h3
    simp only [Bool.and_eq_true] at h3
    exact of_decide_eq_true h3.1.1
  refine ev_aload_n 0 d_A_unpoke_51 rfl rfl ?_
  refine ev_iload_n 3 d_A_unpoke_52 rfl rfl ?_
  refine ev_aload_n 0 d_A_unpoke_53 rfl rfl ?_
  refine ev_get f_A_16 d_A_unpoke_54 rfl rfl ?_
  refine ev_iload_n 3 d_A_unpoke_57 rfl rfl ?_
  refine ev_callV M_C_follow [_] (sp_C_follow (n := n) (f := f) rfl rfl hn (by omega)) c_A_181 d_A_unpoke_58 rfl rfl (by decide) (Nat.le_of_ble_eq_true rfl) ⟨rfl, rfl⟩ rfl ?_
  refine ev_callV M_A_pullApart [_, _] (sp_A_pullApart (n := n) (f := f) (g := g) (one := e) (two := fol f n e) hn (by omega) (by omega) (by omega)) c_A_184 d_A_unpoke_61 rfl rfl (by decide) (Nat.le_of_ble_eq_true rfl) ⟨rfl, rfl⟩ rfl ?_
  refine ev_iconst (v := 1) d_A_unpoke_64 (by decide) ?_
  exact ev_iret d_A_unpoke_65 rfl zr1 (Nat.le_of_ble_eq_true rfl) (Nat.le_of_ble_eq_true rfl)
end Mo
