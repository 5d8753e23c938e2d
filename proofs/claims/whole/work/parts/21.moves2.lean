def pkE (b1 b2 : Bool) (f : Nat → Int32) (n : Nat) (e y e1 e2 f1 f2 : Int32) : Nat → Int32 := match b1, b2 with
  | true, true => apE (apE f n f1 e f2 e1) (n + 1) y e2 f1 e1
  | true, false => apE (apE f n y e1 f1 e) (n + 1) f1 e1 f2 e2
  | false, true => apE (apE f n y e f1 e1) (n + 1) f1 e2 f2 e1
  | false, false => apE (apE f n f1 e1 f2 e) (n + 1) y e1 f1 e2
def pkB (b1 b2 : Bool) : Bool := match b1, b2 with
  | true, true => false
  | true, false => true
  | false, true => false
  | false, false => true
def pkF (f g : Nat → Int32) (n : Nat) (e y : Int32) : Nat → Int32 := brA (brA f g n (frI f n 1) e) g n (frI f n 3) y
def pokB (f : Nat → Int32) (n e y : Nat) : Bool := decide (fol f n e / 4 = y) && decide (fol f n (fol f n e) = e) && ((e % 2 == 1) == (oth f n e % 2 == 1))
def fiF (p : Nat → Bool) : Nat → Nat → Option Nat
  | _, 0 => none
  | e, k + 1 => if p e = true then some e else fiF p (e + 1) k
theorem fiF_lt {p : Nat → Bool} : ∀ k i e, fiF p i k = some e → i ≤ e ∧ e < i + k ∧ p e = true := by
  intro k
  induction k with
  | zero => intro i e h; rw [fiF] at h; cases h
  | succ k ih =>
    intro i e h
    rw [fiF] at h
    split at h
    · next hp => cases h; exact ⟨by omega, by omega, hp⟩
    · have := ih (i + 1) e h; exact ⟨by omega, by omega, this.2.2⟩
def puU (one two : Nat) : Nat := if one % 2 = 1 then one else two
def puL (one two : Nat) : Nat := if one % 2 = 1 then two else one
def rj (p q r : Int32) : Int32 := if r = q then p else r
def mxN (a b : Nat) : Nat := if a < b then b else a
def mnN (a b : Nat) : Nat := if b < a then b else a
section Mo
variable {nd : Nat} {fd gd : Nat → Int32} {n : Nat} {f g : Nat → Int32} {nf : Nat} {ff gf s q oe t : Nat → Int32} {m : Nat → Int64} {l u c ln : Nat → Int32} {mi : Nat → Int64} {wd pl : Nat → Int32} {lt cc : Nat} {T : zW}
theorem sp_A_poke_no {e y : Int32} {b1 b2 : Bool} (hn : n ≤ 8) (h : ¬ (n ≤ 6 ∧ ¬ e = y ∧ occ f e 0 (4 * n) = true ∧ occ f y 0 (4 * n) = true)) : Sp M_A_poke [.ref 0, .int e, .int (zb b1), .int y, .int (zb b2)] (kC nd fd gd n f g nf ff gf s q oe t m l u c ln mi wd pl lt cc T) (some (.int (zb false))) (kC nd fd gd n f g nf ff gf s q oe t m l u c ln mi wd pl lt cc T) := by
  refine Sp.of (by decide) (Nat.le_of_ble_eq_true rfl) ?_
  refine ev_aload_n 0 d_A_poke_0 rfl rfl ?_
  refine ev_get f_A_16 d_A_poke_1 rfl rfl ?_
  refine ev_callV M_C_size [] (sp_C_size (n := n) rfl) c_A_69 d_A_poke_4 rfl rfl (by decide) (Nat.le_of_ble_eq_true rfl) ⟨rfl, rfl⟩ rfl ?_
  refine ev_bipush (v := 6) d_A_poke_7 (by decide) ?_
  refine ev_icmp_gt 17 d_A_poke_9 (by decide) (fun h1 => ?_) (fun h1 => ?_)
  · refine ev_iconst (v := 0) d_A_poke_17 (by decide) ?_
    exact ev_iret d_A_poke_18 rfl zr0 (Nat.le_of_ble_eq_true rfl) (Nat.le_of_ble_eq_true rfl)
  · have h1' : n ≤ 6 := Nat.not_lt.mp (fun z => h1 (nI_lt (a := 6) z (by omega)))
    refine ev_iload_n 1 d_A_poke_12 rfl rfl ?_
    refine ev_iload_n 3 d_A_poke_13 rfl rfl ?_
    refine ev_icmp_ne 19 d_A_poke_14 (by decide) (fun h2 => ?_) (fun h2 => ?_)
    · refine ev_aload_n 0 d_A_poke_19 rfl rfl ?_
      refine ev_get f_A_16 d_A_poke_20 rfl rfl ?_
      refine ev_iload_n 1 d_A_poke_23 rfl rfl ?_
      refine ev_callV M_C_occurs [_] (sp_C_occurs (n := n) (f := f) rfl rfl hn e) c_A_150 d_A_poke_24 rfl rfl (by decide) (Nat.le_of_ble_eq_true rfl) ⟨rfl, rfl⟩ rfl ?_
      refine ev_if_eq 41 d_A_poke_27 (by decide) (fun h3 => ?_) (fun h3 => ?_)
      · refine ev_iconst (v := 0) d_A_poke_41 (by decide) ?_
        exact ev_iret d_A_poke_42 rfl zr0 (Nat.le_of_ble_eq_true rfl) (Nat.le_of_ble_eq_true rfl)
      · refine ev_aload_n 0 d_A_poke_30 rfl rfl ?_
        refine ev_get f_A_16 d_A_poke_31 rfl rfl ?_
        refine ev_iload_n 3 d_A_poke_34 rfl rfl ?_
        refine ev_callV M_C_occurs [_] (sp_C_occurs (n := n) (f := f) rfl rfl hn y) c_A_150 d_A_poke_35 rfl rfl (by decide) (Nat.le_of_ble_eq_true rfl) ⟨rfl, rfl⟩ rfl ?_
        refine ev_if_ne 43 d_A_poke_38 (by decide) (fun h4 => ?_) (fun h4 => ?_)
        · exact absurd ⟨h1', h2, (zb_n0 _).mp h3, (zb_n0 _).mp h4⟩ h
        · refine ev_iconst (v := 0) d_A_poke_41 (by decide) ?_
          exact ev_iret d_A_poke_42 rfl zr0 (Nat.le_of_ble_eq_true rfl) (Nat.le_of_ble_eq_true rfl)
    · refine ev_iconst (v := 0) d_A_poke_17 (by decide) ?_
      exact ev_iret d_A_poke_18 rfl zr0 (Nat.le_of_ble_eq_true rfl) (Nat.le_of_ble_eq_true rfl)
theorem ev_A_poke {e y : Int32} {b1 b2 : Bool} {a b : Nat} (hn : n ≤ 6) (h1 : ¬ e = y) (h2 : occ f e 0 (4 * n) = true) (h3 : occ f y 0 (4 * n) = true) (ha : eOn f g e b1 0 (4 * n) = some a) (hb : eOn f g y b2 0 (4 * n) = some b) {r : Option Value} {wf : zW} (kk : Ev M_A_poke none r wf 73 [(0, .ref 0), (1, .int e), (2, .int (zb b1)), (3, .int y), (4, .int (zb b2))] [.int (zb (decide (mkF (fol f n) 32 (fl0 s 32) a b = 1)))] (kC nd fd gd n f g nf ff gf (mkF (fol f n) 32 (fl0 s 32) a) q oe t m l u c ln mi wd pl lt cc T) 0 0) : Ev M_A_poke none r wf 0 (lv_args 0 [.ref 0, .int e, .int (zb b1), .int y, .int (zb b2)]) [] (kC nd fd gd n f g nf ff gf s q oe t m l u c ln mi wd pl lt cc T) 0 0 := by
  have la := eOn_lt (N := 32) _ _ _ (by omega) ha
  have lb := eOn_lt (N := 32) _ _ _ (by omega) hb
  refine ev_aload_n 0 d_A_poke_0 rfl rfl ?_
  refine ev_get f_A_16 d_A_poke_1 rfl rfl ?_
  refine ev_callV M_C_size [] (sp_C_size (n := n) rfl) c_A_69 d_A_poke_4 rfl rfl (by decide) (Nat.le_of_ble_eq_true rfl) ⟨rfl, rfl⟩ rfl ?_
  refine ev_bipush (v := 6) d_A_poke_7 (by decide) ?_
  refine ev_icmp_gt 17 d_A_poke_9 (by decide) (fun q1 => ?_) (fun q1 => ?_)
  · exact absurd q1 (nI_nlt (a := 6) (b := n) hn (by omega))
  · refine ev_iload_n 1 d_A_poke_12 rfl rfl ?_
    refine ev_iload_n 3 d_A_poke_13 rfl rfl ?_
    refine ev_icmp_ne 19 d_A_poke_14 (by decide) (fun q2 => ?_) (fun q2 => ?_)
    · refine ev_aload_n 0 d_A_poke_19 rfl rfl ?_
      refine ev_get f_A_16 d_A_poke_20 rfl rfl ?_
      refine ev_iload_n 1 d_A_poke_23 rfl rfl ?_
      refine ev_callV M_C_occurs [_] (sp_C_occurs (n := n) (f := f) rfl rfl (by omega) e) c_A_150 d_A_poke_24 rfl rfl (by decide) (Nat.le_of_ble_eq_true rfl) ⟨rfl, rfl⟩ rfl ?_
      rw [h2]
      refine ev_if_eq 41 d_A_poke_27 (by decide) (fun q3 => ?_) (fun q3 => ?_)
      · exact absurd q3 (by decide)
      · refine ev_aload_n 0 d_A_poke_30 rfl rfl ?_
        refine ev_get f_A_16 d_A_poke_31 rfl rfl ?_
        refine ev_iload_n 3 d_A_poke_34 rfl rfl ?_
        refine ev_callV M_C_occurs [_] (sp_C_occurs (n := n) (f := f) rfl rfl (by omega) y) c_A_150 d_A_poke_35 rfl rfl (by decide) (Nat.le_of_ble_eq_true rfl) ⟨rfl, rfl⟩ rfl ?_
        rw [h3]
        refine ev_if_ne 43 d_A_poke_38 (by decide) (fun q4 => ?_) (fun q4 => ?_)
        · refine ev_aload_n 0 d_A_poke_43 rfl rfl ?_
          refine ev_get f_A_25 d_A_poke_44 rfl rfl ?_
          refine ev_aload_n 0 d_A_poke_47 rfl rfl ?_
          refine ev_get f_A_16 d_A_poke_48 rfl rfl ?_
          refine ev_aload_n 0 d_A_poke_51 rfl rfl ?_
          refine ev_get f_A_16 d_A_poke_52 rfl rfl ?_
          refine ev_iload_n 1 d_A_poke_55 rfl rfl ?_
          refine ev_iload_n 2 d_A_poke_56 rfl rfl ?_
          refine ev_callV M_C_endOn [_, _] (sp_C_endOn (n := n) (f := f) (g := g) rfl rfl rfl (by omega) e b1) c_A_169 d_A_poke_57 rfl rfl (by decide) (Nat.le_of_ble_eq_true rfl) ⟨rfl, rfl⟩ rfl ?_
          refine ev_aload_n 0 d_A_poke_60 rfl rfl ?_
          refine ev_get f_A_16 d_A_poke_61 rfl rfl ?_
          refine ev_iload_n 3 d_A_poke_64 rfl rfl ?_
          refine ev_iload d_A_poke_65 rfl ?_
          refine ev_callV M_C_endOn [_, _] (sp_C_endOn (n := n) (f := f) (g := g) rfl rfl rfl (by omega) y b2) c_A_169 d_A_poke_67 rfl rfl (by decide) (Nat.le_of_ble_eq_true rfl) ⟨rfl, rfl⟩ rfl ?_
          rw [ha, hb]
          refine ev_callV M_S_sameFace [_, _, _] (sp_S_sameFace (by decide) (s := s) (q := q) (n := n) (f := f) (g := g) ⟨rfl, rfl, rfl, by omega⟩ ⟨rfl, rfl, rfl⟩ la lb) c_A_173 d_A_poke_70 rfl rfl (by decide) (Nat.le_of_ble_eq_true rfl) ⟨rfl, rfl⟩ rfl ?_
          exact kk
        · exact absurd q4 (by decide)
    · exact absurd q2 h1
theorem sp_A_poke_face {e y : Int32} {b1 b2 : Bool} {a b : Nat} (hn : n ≤ 6) (h1 : ¬ e = y) (h2 : occ f e 0 (4 * n) = true) (h3 : occ f y 0 (4 * n) = true) (ha : eOn f g e b1 0 (4 * n) = some a) (hb : eOn f g y b2 0 (4 * n) = some b) (hm : ¬ mkF (fol f n) 32 (fl0 s 32) a b = 1) : Sp M_A_poke [.ref 0, .int e, .int (zb b1), .int y, .int (zb b2)] (kC nd fd gd n f g nf ff gf s q oe t m l u c ln mi wd pl lt cc T) (some (.int (zb false))) (kC nd fd gd n f g nf ff gf (mkF (fol f n) 32 (fl0 s 32) a) q oe t m l u c ln mi wd pl lt cc T) := by
  refine Sp.of (by decide) (Nat.le_of_ble_eq_true rfl) (ev_A_poke hn h1 h2 h3 ha hb ?_)
  rw [decide_eq_false hm]
  refine ev_if_ne 78 d_A_poke_73 (by decide) (fun h => ?_) (fun h => ?_)
  · exact absurd rfl h
  · refine ev_iconst (v := 0) d_A_poke_76 (by decide) ?_
    exact ev_iret d_A_poke_77 rfl zr0 (Nat.le_of_ble_eq_true rfl) (Nat.le_of_ble_eq_true rfl)
theorem sp_A_poke {e y : Int32} {b1 b2 : Bool} {a b : Nat} (hn : n ≤ 6) (h1 : ¬ e = y) (h2 : occ f e 0 (4 * n) = true) (h3 : occ f y 0 (4 * n) = true) (ha : eOn f g e b1 0 (4 * n) = some a) (hb : eOn f g y b2 0 (4 * n) = some b) (hm : mkF (fol f n) 32 (fl0 s 32) a b = 1) : Sp M_A_poke [.ref 0, .int e, .int (zb b1), .int y, .int (zb b2)] (kC nd fd gd n f g nf ff gf s q oe t m l u c ln mi wd pl lt cc T) (some (.int (zb true))) (kC nd fd gd (n + 2) (pkE b1 b2 (pkF f g n e y) n e y (frI f n 0) (frI f n 1) (frI f n 2) (frI f n 3)) (upd (upd g n (sgn (pkB b1 b2))) (n + 1) (sgn (!(pkB b1 b2)))) nf ff gf (mkF (fol f n) 32 (fl0 s 32) a) q oe t m l u c ln mi wd pl lt cc T) := by
  refine Sp.of (by decide) (Nat.le_of_ble_eq_true rfl) (ev_A_poke hn h1 h2 h3 ha hb ?_)
  rw [decide_eq_true hm]
  refine ev_if_ne 78 d_A_poke_73 (by decide) (fun h => ?_) (fun h => ?_)
  · refine ev_aload_n 0 d_A_poke_78 rfl rfl ?_
    refine ev_iconst (v := 0) d_A_poke_79 (by decide) ?_
    refine ev_callV M_A_freeEdge [_] (sp_A_freeEdge (n := n) (f := f) (b := 0) (by omega) (by decide)) c_A_143 d_A_poke_80 rfl rfl (by decide) (Nat.le_of_ble_eq_true rfl) ⟨rfl, rfl⟩ rfl ?_
    refine ev_istore d_A_poke_83 (Nat.le_of_ble_eq_true rfl) rfl ?_
    refine ev_aload_n 0 d_A_poke_85 rfl rfl ?_
    refine ev_iconst (v := 1) d_A_poke_86 (by decide) ?_
    refine ev_callV M_A_freeEdge [_] (sp_A_freeEdge (n := n) (f := f) (b := 1) (by omega) (by decide)) c_A_143 d_A_poke_87 rfl rfl (by decide) (Nat.le_of_ble_eq_true rfl) ⟨rfl, rfl⟩ rfl ?_
    refine ev_istore d_A_poke_90 (Nat.le_of_ble_eq_true rfl) rfl ?_
    refine ev_aload_n 0 d_A_poke_92 rfl rfl ?_
    refine ev_iconst (v := 2) d_A_poke_93 (by decide) ?_
    refine ev_callV M_A_freeEdge [_] (sp_A_freeEdge (n := n) (f := f) (b := 2) (by omega) (by decide)) c_A_143 d_A_poke_94 rfl rfl (by decide) (Nat.le_of_ble_eq_true rfl) ⟨rfl, rfl⟩ rfl ?_
    refine ev_istore d_A_poke_97 (Nat.le_of_ble_eq_true rfl) rfl ?_
    refine ev_aload_n 0 d_A_poke_99 rfl rfl ?_
    refine ev_iconst (v := 3) d_A_poke_100 (by decide) ?_
    refine ev_callV M_A_freeEdge [_] (sp_A_freeEdge (n := n) (f := f) (b := 3) (by omega) (by decide)) c_A_143 d_A_poke_101 rfl rfl (by decide) (Nat.le_of_ble_eq_true rfl) ⟨rfl, rfl⟩ rfl ?_
    refine ev_istore d_A_poke_104 (Nat.le_of_ble_eq_true rfl) rfl ?_
    refine ev_aload_n 0 d_A_poke_106 rfl rfl ?_
    refine ev_get f_A_16 d_A_poke_107 rfl rfl ?_
    refine ev_iload d_A_poke_110 rfl ?_
    refine ev_iload_n 1 d_A_poke_112 rfl rfl ?_
    refine ev_callV M_C_bringIn [_, _] (sp_C_bringIn (n := n) (f := f) (g := g) rfl rfl rfl (by omega) _ _) c_A_153 d_A_poke_113 rfl rfl (by decide) (Nat.le_of_ble_eq_true rfl) ⟨rfl, rfl⟩ rfl ?_
    refine ev_aload_n 0 d_A_poke_116 rfl rfl ?_
    refine ev_get f_A_16 d_A_poke_117 rfl rfl ?_
    refine ev_iload d_A_poke_120 rfl ?_
    refine ev_iload_n 3 d_A_poke_122 rfl rfl ?_
    refine ev_callV M_C_bringIn [_, _] (sp_C_bringIn (n := n) (f := brA f g n (frI f n 1) e) (g := g) rfl rfl rfl (by omega) _ _) c_A_153 d_A_poke_123 rfl rfl (by decide) (Nat.le_of_ble_eq_true rfl) ⟨rfl, rfl⟩ rfl ?_
    cases b1 with
    | true =>
      cases b2 with
      | true =>
        refine ev_iload_n 2 d_A_poke_126 rfl rfl ?_
        refine ev_if_eq 168 d_A_poke_127 (by decide) (fun q1 => ?_) (fun q1 => ?_)
        · exact absurd q1 (by decide)
        · refine ev_iload d_A_poke_130 rfl ?_
          refine ev_if_eq 168 d_A_poke_132 (by decide) (fun q2 => ?_) (fun q2 => ?_)
          · exact absurd q2 (by decide)
          · refine ev_aload_n 0 d_A_poke_135 rfl rfl ?_
            refine ev_get f_A_16 d_A_poke_136 rfl rfl ?_
            refine ev_iload d_A_poke_139 rfl ?_
            refine ev_iload_n 1 d_A_poke_141 rfl rfl ?_
            refine ev_iload d_A_poke_142 rfl ?_
            refine ev_iload d_A_poke_144 rfl ?_
            refine ev_iconst (v := 0) d_A_poke_146 (by decide) ?_
            refine ev_callV M_C_append [_, _, _, _, _] (sp_C_append (n := n) (f := pkF f g n e y) (g := g) rfl rfl rfl (by omega) _ _ _ _ false) c_A_65 d_A_poke_147 rfl rfl (by decide) (Nat.le_of_ble_eq_true rfl) ⟨rfl, rfl⟩ rfl ?_
            refine ev_aload_n 0 d_A_poke_150 rfl rfl ?_
            refine ev_get f_A_16 d_A_poke_151 rfl rfl ?_
            refine ev_iload_n 3 d_A_poke_154 rfl rfl ?_
            refine ev_iload d_A_poke_155 rfl ?_
            refine ev_iload d_A_poke_157 rfl ?_
            refine ev_iload d_A_poke_159 rfl ?_
            refine ev_iconst (v := 1) d_A_poke_161 (by decide) ?_
            refine ev_callV M_C_append [_, _, _, _, _] (sp_C_append (n := n + 1) (g := upd g n (sgn false)) rfl rfl rfl (by omega) _ _ _ _ true) c_A_65 d_A_poke_162 rfl rfl (by decide) (Nat.le_of_ble_eq_true rfl) ⟨rfl, rfl⟩ rfl ?_
            refine ev_goto 273 d_A_poke_165 (by decide) ?_
            refine ev_iconst (v := 1) d_A_poke_273 (by decide) ?_
            exact ev_iret d_A_poke_274 rfl zr1 (Nat.le_of_ble_eq_true rfl) (Nat.le_of_ble_eq_true rfl)
      | false =>
        refine ev_iload_n 2 d_A_poke_126 rfl rfl ?_
        refine ev_if_eq 168 d_A_poke_127 (by decide) (fun q1 => ?_) (fun q1 => ?_)
        · exact absurd q1 (by decide)
        · refine ev_iload d_A_poke_130 rfl ?_
          refine ev_if_eq 168 d_A_poke_132 (by decide) (fun q2 => ?_) (fun q2 => ?_)
          · refine ev_iload_n 2 d_A_poke_168 rfl rfl ?_
            refine ev_if_eq 205 d_A_poke_169 (by decide) (fun q3 => ?_) (fun q3 => ?_)
            · exact absurd q3 (by decide)
            · refine ev_aload_n 0 d_A_poke_172 rfl rfl ?_
              refine ev_get f_A_16 d_A_poke_173 rfl rfl ?_
              refine ev_iload_n 3 d_A_poke_176 rfl rfl ?_
              refine ev_iload d_A_poke_177 rfl ?_
              refine ev_iload d_A_poke_179 rfl ?_
              refine ev_iload_n 1 d_A_poke_181 rfl rfl ?_
              refine ev_iconst (v := 1) d_A_poke_182 (by decide) ?_
              refine ev_callV M_C_append [_, _, _, _, _] (sp_C_append (n := n) (f := pkF f g n e y) (g := g) rfl rfl rfl (by omega) _ _ _ _ true) c_A_65 d_A_poke_183 rfl rfl (by decide) (Nat.le_of_ble_eq_true rfl) ⟨rfl, rfl⟩ rfl ?_
              refine ev_aload_n 0 d_A_poke_186 rfl rfl ?_
              refine ev_get f_A_16 d_A_poke_187 rfl rfl ?_
              refine ev_iload d_A_poke_190 rfl ?_
              refine ev_iload d_A_poke_192 rfl ?_
              refine ev_iload d_A_poke_194 rfl ?_
              refine ev_iload d_A_poke_196 rfl ?_
              refine ev_iconst (v := 0) d_A_poke_198 (by decide) ?_
              refine ev_callV M_C_append [_, _, _, _, _] (sp_C_append (n := n + 1) (g := upd g n (sgn true)) rfl rfl rfl (by omega) _ _ _ _ false) c_A_65 d_A_poke_199 rfl rfl (by decide) (Nat.le_of_ble_eq_true rfl) ⟨rfl, rfl⟩ rfl ?_
              refine ev_goto 273 d_A_poke_202 (by decide) ?_
              refine ev_iconst (v := 1) d_A_poke_273 (by decide) ?_
              exact ev_iret d_A_poke_274 rfl zr1 (Nat.le_of_ble_eq_true rfl) (Nat.le_of_ble_eq_true rfl)
          · exact absurd rfl q2
    | false =>
      cases b2 with
      | true =>
        refine ev_iload_n 2 d_A_poke_126 rfl rfl ?_
        refine ev_if_eq 168 d_A_poke_127 (by decide) (fun q1 => ?_) (fun q1 => ?_)
        · refine ev_iload_n 2 d_A_poke_168 rfl rfl ?_
          refine ev_if_eq 205 d_A_poke_169 (by decide) (fun q3 => ?_) (fun q3 => ?_)
          · refine ev_iload d_A_poke_205 rfl ?_
            refine ev_if_eq 243 d_A_poke_207 (by decide) (fun q4 => ?_) (fun q4 => ?_)
            · exact absurd q4 (by decide)
            · refine ev_aload_n 0 d_A_poke_210 rfl rfl ?_
              refine ev_get f_A_16 d_A_poke_211 rfl rfl ?_
              refine ev_iload_n 3 d_A_poke_214 rfl rfl ?_
              refine ev_iload_n 1 d_A_poke_215 rfl rfl ?_
              refine ev_iload d_A_poke_216 rfl ?_
              refine ev_iload d_A_poke_218 rfl ?_
              refine ev_iconst (v := 0) d_A_poke_220 (by decide) ?_
              refine ev_callV M_C_append [_, _, _, _, _] (sp_C_append (n := n) (f := pkF f g n e y) (g := g) rfl rfl rfl (by omega) _ _ _ _ false) c_A_65 d_A_poke_221 rfl rfl (by decide) (Nat.le_of_ble_eq_true rfl) ⟨rfl, rfl⟩ rfl ?_
              refine ev_aload_n 0 d_A_poke_224 rfl rfl ?_
              refine ev_get f_A_16 d_A_poke_225 rfl rfl ?_
              refine ev_iload d_A_poke_228 rfl ?_
              refine ev_iload d_A_poke_230 rfl ?_
              refine ev_iload d_A_poke_232 rfl ?_
              refine ev_iload d_A_poke_234 rfl ?_
              refine ev_iconst (v := 1) d_A_poke_236 (by decide) ?_
              refine ev_callV M_C_append [_, _, _, _, _] (sp_C_append (n := n + 1) (g := upd g n (sgn false)) rfl rfl rfl (by omega) _ _ _ _ true) c_A_65 d_A_poke_237 rfl rfl (by decide) (Nat.le_of_ble_eq_true rfl) ⟨rfl, rfl⟩ rfl ?_
              refine ev_goto 273 d_A_poke_240 (by decide) ?_
              refine ev_iconst (v := 1) d_A_poke_273 (by decide) ?_
              exact ev_iret d_A_poke_274 rfl zr1 (Nat.le_of_ble_eq_true rfl) (Nat.le_of_ble_eq_true rfl)
          · exact absurd rfl q3
        · exact absurd rfl q1
      | false =>
        refine ev_iload_n 2 d_A_poke_126 rfl rfl ?_
        refine ev_if_eq 168 d_A_poke_127 (by decide) (fun q1 => ?_) (fun q1 => ?_)
        · refine ev_iload_n 2 d_A_poke_168 rfl rfl ?_
          refine ev_if_eq 205 d_A_poke_169 (by decide) (fun q3 => ?_) (fun q3 => ?_)
          · refine ev_iload d_A_poke_205 rfl ?_
            refine ev_if_eq 243 d_A_poke_207 (by decide) (fun q4 => ?_) (fun q4 => ?_)
            · refine ev_aload_n 0 d_A_poke_243 rfl rfl ?_
              refine ev_get f_A_16 d_A_poke_244 rfl rfl ?_
              refine ev_iload d_A_poke_247 rfl ?_
              refine ev_iload d_A_poke_249 rfl ?_
              refine ev_iload d_A_poke_251 rfl ?_
              refine ev_iload_n 1 d_A_poke_253 rfl rfl ?_
              refine ev_iconst (v := 1) d_A_poke_254 (by decide) ?_
              refine ev_callV M_C_append [_, _, _, _, _] (sp_C_append (n := n) (f := pkF f g n e y) (g := g) rfl rfl rfl (by omega) _ _ _ _ true) c_A_65 d_A_poke_255 rfl rfl (by decide) (Nat.le_of_ble_eq_true rfl) ⟨rfl, rfl⟩ rfl ?_
              refine ev_aload_n 0 d_A_poke_258 rfl rfl ?_
              refine ev_get f_A_16 d_A_poke_259 rfl rfl ?_
              refine ev_iload_n 3 d_A_poke_262 rfl rfl ?_
              refine ev_iload d_A_poke_263 rfl ?_
              refine ev_iload d_A_poke_265 rfl ?_
              refine ev_iload d_A_poke_267 rfl ?_
              refine ev_iconst (v := 0) d_A_poke_269 (by decide) ?_
              refine ev_callV M_C_append [_, _, _, _, _] (sp_C_append (n := n + 1) (g := upd g n (sgn true)) rfl rfl rfl (by omega) _ _ _ _ false) c_A_65 d_A_poke_270 rfl rfl (by decide) (Nat.le_of_ble_eq_true rfl) ⟨rfl, rfl⟩ rfl ?_
              refine ev_iconst (v := 1) d_A_poke_273 (by decide) ?_
              exact ev_iret d_A_poke_274 rfl zr1 (Nat.le_of_ble_eq_true rfl) (Nat.le_of_ble_eq_true rfl)
            · exact absurd rfl q4
          · exact absurd rfl q3
        · exact absurd rfl q1
  · exact absurd h (by decide)
theorem sp_A_isPokedFace {e y : Nat} (he : e < 32) (hn : n ≤ 8) (hy : y < 100) : Sp M_A_isPokedFace [.ref 0, .int (nI e), .int (nI y)] (kC nd fd gd n f g nf ff gf s q oe t m l u c ln mi wd pl lt cc T) (some (.int (zb (pokB f n e y)))) (kC nd fd gd n f g nf ff gf s q oe t m l u c ln mi wd pl lt cc T) := by
  refine Sp.of (by decide) (Nat.le_of_ble_eq_true rfl) ?_
  have l1 := fol_lt (f := f) hn he
  have l2 := fol_lt (f := f) hn l1
  have l3 := oth_lt (f := f) hn he
  refine ev_aload_n 0 d_A_isPokedFace_0 rfl rfl ?_
  refine ev_get f_A_16 d_A_isPokedFace_1 rfl rfl ?_
  refine ev_iload_n 1 d_A_isPokedFace_4 rfl rfl ?_
  refine ev_callV M_C_follow [_] (sp_C_follow (n := n) (f := f) rfl rfl hn he) c_A_181 d_A_isPokedFace_5 rfl rfl (by decide) (Nat.le_of_ble_eq_true rfl) ⟨rfl, rfl⟩ rfl ?_
  refine ev_istore_n 3 d_A_isPokedFace_8 rfl (Nat.le_of_ble_eq_true rfl) rfl ?_
  refine ev_iload_n 3 d_A_isPokedFace_9 rfl rfl ?_
  refine ev_callS M_A_crossingOf [_] (sp_A_crossingOf _ (by omega)) c_A_187 d_A_isPokedFace_10 rfl (by decide) (Nat.le_of_ble_eq_true rfl) ⟨rfl, rfl⟩ rfl ?_
  refine ev_iload_n 2 d_A_isPokedFace_13 rfl rfl ?_
  refine ev_icmp_ne 29 d_A_isPokedFace_14 (by decide) (fun h1 => ?_) (fun h1 => ?_)
  · have e1 : pokB f n e y = false := by unfold pokB; rw [decide_eq_false (fun z => h1 (by rw [z]))]; rfl
    rw [e1]
    refine ev_iconst (v := 0) d_A_isPokedFace_29 (by decide) ?_
    exact ev_iret d_A_isPokedFace_30 rfl zr0 (Nat.le_of_ble_eq_true rfl) (Nat.le_of_ble_eq_true rfl)
  · have h1' := (nI_eq (by omega) (by omega)).mp h1
    refine ev_aload_n 0 d_A_isPokedFace_17 rfl rfl ?_
    refine ev_get f_A_16 d_A_isPokedFace_18 rfl rfl ?_
    refine ev_iload_n 3 d_A_isPokedFace_21 rfl rfl ?_
    refine ev_callV M_C_follow [_] (sp_C_follow (n := n) (f := f) rfl rfl hn l1) c_A_181 d_A_isPokedFace_22 rfl rfl (by decide) (Nat.le_of_ble_eq_true rfl) ⟨rfl, rfl⟩ rfl ?_
    refine ev_iload_n 1 d_A_isPokedFace_25 rfl rfl ?_
    refine ev_icmp_eq 31 d_A_isPokedFace_26 (by decide) (fun h2 => ?_) (fun h2 => ?_)
    · have h2' := (nI_eq (by omega) (by omega)).mp h2
      refine ev_iload_n 1 d_A_isPokedFace_31 rfl rfl ?_
      refine ev_callS M_A_isUpper [_] (sp_A_isUpper _ (by omega)) c_A_190 d_A_isPokedFace_32 rfl (by decide) (Nat.le_of_ble_eq_true rfl) ⟨rfl, rfl⟩ rfl ?_
      refine ev_aload_n 0 d_A_isPokedFace_35 rfl rfl ?_
      refine ev_get f_A_16 d_A_isPokedFace_36 rfl rfl ?_
      refine ev_iload_n 1 d_A_isPokedFace_39 rfl rfl ?_
      refine ev_callV M_C_otherEnd [_] (sp_C_otherEnd (n := n) (f := f) rfl rfl hn he) c_A_193 d_A_isPokedFace_40 rfl rfl (by decide) (Nat.le_of_ble_eq_true rfl) ⟨rfl, rfl⟩ rfl ?_
      refine ev_callS M_A_isUpper [_] (sp_A_isUpper _ (e := oth f n e) (by omega)) c_A_190 d_A_isPokedFace_43 rfl (by decide) (Nat.le_of_ble_eq_true rfl) ⟨rfl, rfl⟩ rfl ?_
      have e1 : pokB f n e y = ((e % 2 == 1) == (oth f n e % 2 == 1)) := by unfold pokB; rw [decide_eq_true h1', decide_eq_true h2']; rfl
      rw [e1]
      refine ev_icmp_ne 53 d_A_isPokedFace_46 (by decide) (fun h3 => ?_) (fun h3 => ?_)
      · have h4 : ((e % 2 == 1) == (oth f n e % 2 == 1)) = false := by
          have := mt (zb_eq _ _).mpr h3
          simpa using this
        rw [h4]
        refine ev_iconst (v := 0) d_A_isPokedFace_53 (by decide) ?_
        exact ev_iret d_A_isPokedFace_54 rfl zr0 (Nat.le_of_ble_eq_true rfl) (Nat.le_of_ble_eq_true rfl)
      · have h4 : ((e % 2 == 1) == (oth f n e % 2 == 1)) = true := by
          have := (zb_eq _ _).mp h3
          simpa using this
        rw [h4]
        refine ev_iconst (v := 1) d_A_isPokedFace_49 (by decide) ?_
        refine ev_goto 54 d_A_isPokedFace_50 (by decide) ?_
        exact ev_iret d_A_isPokedFace_54 rfl zr1 (Nat.le_of_ble_eq_true rfl) (Nat.le_of_ble_eq_true rfl)
    · have e1 : pokB f n e y = false := by unfold pokB; rw [decide_eq_false (p := fol f n (fol f n e) = e) (fun z => h2 (by rw [z])), Bool.and_false]; rfl
      rw [e1]
      refine ev_iconst (v := 0) d_A_isPokedFace_29 (by decide) ?_
      exact ev_iret d_A_isPokedFace_30 rfl zr0 (Nat.le_of_ble_eq_true rfl) (Nat.le_of_ble_eq_true rfl)
end Mo
