def frE (f : Nat → Int32) (n : Nat) : Nat → Nat → Nat → Nat
  | _, 0, _ => 0
  | i, k + 1, b => if occ f (nI i) 0 (4 * n) = true then frE f n (i + 1) k b else (if b = 0 then i else frE f n (i + 1) k (b - 1))
def frI (f : Nat → Int32) (n b : Nat) : Int32 := nI (frE f n 1 32 b)
def kkE (k : Nat) (f : Nat → Int32) (n : Nat) (e x y : Int32) : Nat → Int32 := match k with
  | 0 => apE f n e y x x
  | 1 => apE f n e x x y
  | 2 => apE f n x x y e
  | _ => apE f n x e y x
def kkB (k : Nat) : Bool := match k with
  | 0 => true
  | 1 => false
  | 2 => true
  | _ => false
def joE (n : Nat) (g : Nat → Int32) (p q : Int32) (S : (Nat → Int32) × Nat) : (Nat → Int32) × Nat := if p = q then (S.1, S.2 + 1) else (brA S.1 g n p q, S.2)
def tur (e k : Nat) : Nat := e / 4 * 4 + (e + k) % 4
def lpE (f : Nat → Int32) : Nat → Nat → Option Nat
  | _, 0 => none
  | e, k + 1 => if f e = f (tur e 1) then some e else lpE f (e + 1) k
theorem lpE_lt {f : Nat → Int32} : ∀ k i e, lpE f i k = some e → i ≤ e ∧ e < i + k := by
  intro k
  induction k with
  | zero => intro i e h; rw [lpE] at h; cases h
  | succ k ih =>
    intro i e h
    rw [lpE] at h
    split at h
    · cases h; omega
    · have := ih (i + 1) e h; omega
theorem tur_lt {e k n : Nat} (h : e < 4 * n) : tur e k < 4 * n := by unfold tur; omega
section Mo
variable {nd : Nat} {fd gd : Nat → Int32} {n : Nat} {f g : Nat → Int32} {nf : Nat} {ff gf s q oe t : Nat → Int32} {m : Nat → Int64} {l u c ln : Nat → Int32} {mi : Nat → Int64} {wd pl : Nat → Int32} {lt cc : Nat} {T : zW}
theorem lp_A_freeEdge (hn : n ≤ 8) (v : Int32) : ∀ k i b, i + k = 33 → b < 100 → Ev M_A_freeEdge none (some (.int (nI (frE f n i k b)))) (kC nd fd gd n f g nf ff gf s q oe t m l u c ln mi wd pl lt cc T) 4 [(0, .ref 0), (1, .int v), (2, .int (nI b)), (3, .int (nI i))] [] (kC nd fd gd n f g nf ff gf s q oe t m l u c ln mi wd pl lt cc T) 0 0 := by
  intro k
  induction k with
  | zero =>
    intro i b hi hb
    have e0 : frE f n i 0 b = 0 := by rw [frE]
    rw [e0]
    refine ev_iload_n 3 d_A_freeEdge_4 rfl rfl ?_
    refine ev_bipush (v := 32) d_A_freeEdge_5 (by decide) ?_
    refine ev_icmp_gt 36 d_A_freeEdge_7 (by decide) (fun h => ?_) (fun h => ?_)
    · refine ev_iconst (v := 0) d_A_freeEdge_36 (by decide) ?_
      exact ev_iret d_A_freeEdge_37 rfl rfl (Nat.le_of_ble_eq_true rfl) (Nat.le_of_ble_eq_true rfl)
    · exact absurd (nI_lt (a := 32) (b := i) (by omega) (by omega)) h
  | succ k ih =>
    intro i b hi hb
    refine ev_iload_n 3 d_A_freeEdge_4 rfl rfl ?_
    refine ev_bipush (v := 32) d_A_freeEdge_5 (by decide) ?_
    refine ev_icmp_gt 36 d_A_freeEdge_7 (by decide) (fun h => ?_) (fun h => ?_)
    · exact absurd h (nI_nlt (a := 32) (b := i) (by omega) (by omega))
    · refine ev_aload_n 0 d_A_freeEdge_10 rfl rfl ?_
      refine ev_get f_A_16 d_A_freeEdge_11 rfl rfl ?_
      refine ev_iload_n 3 d_A_freeEdge_14 rfl rfl ?_
      refine ev_callV M_C_occurs [_] (sp_C_occurs (n := n) (f := f) rfl rfl hn (nI i)) c_A_150 d_A_freeEdge_15 rfl rfl (by decide) (Nat.le_of_ble_eq_true rfl) ⟨rfl, rfl⟩ rfl ?_
      refine ev_if_ne 30 d_A_freeEdge_18 (by decide) (fun h2 => ?_) (fun h2 => ?_)
      · have e0 : frE f n i (k + 1) b = frE f n (i + 1) k b := by rw [frE, if_pos ((zb_n0 _).mp h2)]
        rw [e0]
        refine ev_iinc (v := _ + 1) d_A_freeEdge_30 rfl rfl (Nat.le_of_ble_eq_true rfl) rfl ?_
        rw [nI_1]
        refine ev_goto 4 d_A_freeEdge_33 (by decide) ?_
        exact ih (i + 1) b (by omega) hb
      · have h3 : ¬ occ f (nI i) 0 (4 * n) = true := by rw [(zb_0 _).mp h2]; decide
        refine ev_iload_n 2 d_A_freeEdge_21 rfl rfl ?_
        refine ev_if_ne 27 d_A_freeEdge_22 (by decide) (fun h4 => ?_) (fun h4 => ?_)
        · have h5 : ¬ b = 0 := fun z => h4 ((z_nz (by omega)).mpr z)
          have e0 : frE f n i (k + 1) b = frE f n (i + 1) k (b - 1) := by rw [frE, if_neg h3, if_neg h5]
          rw [e0]
          refine ev_iinc (v := _ + (-1)) d_A_freeEdge_27 rfl rfl (Nat.le_of_ble_eq_true rfl) rfl ?_
          rw [show nI b + (-1) = nI (b - 1) by rw [show b = b - 1 + 1 by omega, pk_m1]; rfl]
          refine ev_iinc (v := _ + 1) d_A_freeEdge_30 rfl rfl (Nat.le_of_ble_eq_true rfl) rfl ?_
          rw [nI_1]
          refine ev_goto 4 d_A_freeEdge_33 (by decide) ?_
          exact ih (i + 1) (b - 1) (by omega) (by omega)
        · have e0 : frE f n i (k + 1) b = i := by rw [frE, if_neg h3, if_pos ((z_nz (by omega)).mp h4)]
          rw [e0]
          refine ev_iload_n 3 d_A_freeEdge_25 rfl rfl ?_
          exact ev_iret d_A_freeEdge_26 rfl rfl (Nat.le_of_ble_eq_true rfl) (Nat.le_of_ble_eq_true rfl)
theorem sp_A_freeEdge (hn : n ≤ 8) {b : Nat} (hb : b < 100) : Sp M_A_freeEdge [.ref 0, .int (nI b)] (kC nd fd gd n f g nf ff gf s q oe t m l u c ln mi wd pl lt cc T) (some (.int (frI f n b))) (kC nd fd gd n f g nf ff gf s q oe t m l u c ln mi wd pl lt cc T) := by
  refine Sp.of (by decide) (Nat.le_of_ble_eq_true rfl) ?_
  refine ev_iload_n 1 d_A_freeEdge_0 rfl rfl ?_
  refine ev_istore_n 2 d_A_freeEdge_1 rfl (Nat.le_of_ble_eq_true rfl) rfl ?_
  refine ev_iconst (v := 1) d_A_freeEdge_2 (by decide) ?_
  refine ev_istore_n 3 d_A_freeEdge_3 rfl (Nat.le_of_ble_eq_true rfl) rfl ?_
  exact lp_A_freeEdge hn (nI b) 32 1 b (by omega) hb
theorem sp_A_appendTwist {k : Nat} (hk : k < 4) (hn : n < 8) (e x y : Int32) : Sp M_A_appendTwist [.ref 0, .int (nI k), .int e, .int x, .int y] (kC nd fd gd n f g nf ff gf s q oe t m l u c ln mi wd pl lt cc T) none (kC nd fd gd (n + 1) (kkE k f n e x y) (upd g n (sgn (kkB k))) nf ff gf s q oe t m l u c ln mi wd pl lt cc T) := by
  refine Sp.of (by decide) (Nat.le_of_ble_eq_true rfl) ?_
  match k, hk with
  | 0, _ =>
    refine ev_iload_n 1 d_A_appendTwist_0 rfl rfl ?_
    refine ev_tabIn 28 d_A_appendTwist_1 (by decide) (by decide) rfl (by decide) ?_
    refine ev_aload_n 0 d_A_appendTwist_28 rfl rfl ?_
    refine ev_get f_A_16 d_A_appendTwist_29 rfl rfl ?_
    refine ev_iload_n 2 d_A_appendTwist_32 rfl rfl ?_
    refine ev_iload d_A_appendTwist_33 rfl ?_
    refine ev_iload_n 3 d_A_appendTwist_35 rfl rfl ?_
    refine ev_iload_n 3 d_A_appendTwist_36 rfl rfl ?_
    refine ev_iconst (v := 1) d_A_appendTwist_37 (by decide) ?_
    refine ev_callV M_C_append [_, _, _, _, _] (sp_C_append (n := n) (f := f) (g := g) rfl rfl rfl hn _ _ _ _ true) c_A_65 d_A_appendTwist_38 rfl rfl (by decide) (Nat.le_of_ble_eq_true rfl) ⟨rfl, rfl⟩ rfl ?_
    refine ev_goto 89 d_A_appendTwist_41 (by decide) ?_
    exact ev_ret d_A_appendTwist_89 rfl (Nat.le_of_ble_eq_true rfl) (Nat.le_of_ble_eq_true rfl)
  | 1, _ =>
    refine ev_iload_n 1 d_A_appendTwist_0 rfl rfl ?_
    refine ev_tabIn 44 d_A_appendTwist_1 (by decide) (by decide) rfl (by decide) ?_
    refine ev_aload_n 0 d_A_appendTwist_44 rfl rfl ?_
    refine ev_get f_A_16 d_A_appendTwist_45 rfl rfl ?_
    refine ev_iload_n 2 d_A_appendTwist_48 rfl rfl ?_
    refine ev_iload_n 3 d_A_appendTwist_49 rfl rfl ?_
    refine ev_iload_n 3 d_A_appendTwist_50 rfl rfl ?_
    refine ev_iload d_A_appendTwist_51 rfl ?_
    refine ev_iconst (v := 0) d_A_appendTwist_53 (by decide) ?_
    refine ev_callV M_C_append [_, _, _, _, _] (sp_C_append (n := n) (f := f) (g := g) rfl rfl rfl hn _ _ _ _ false) c_A_65 d_A_appendTwist_54 rfl rfl (by decide) (Nat.le_of_ble_eq_true rfl) ⟨rfl, rfl⟩ rfl ?_
    refine ev_goto 89 d_A_appendTwist_57 (by decide) ?_
    exact ev_ret d_A_appendTwist_89 rfl (Nat.le_of_ble_eq_true rfl) (Nat.le_of_ble_eq_true rfl)
  | 2, _ =>
    refine ev_iload_n 1 d_A_appendTwist_0 rfl rfl ?_
    refine ev_tabIn 60 d_A_appendTwist_1 (by decide) (by decide) rfl (by decide) ?_
    refine ev_aload_n 0 d_A_appendTwist_60 rfl rfl ?_
    refine ev_get f_A_16 d_A_appendTwist_61 rfl rfl ?_
    refine ev_iload_n 3 d_A_appendTwist_64 rfl rfl ?_
    refine ev_iload_n 3 d_A_appendTwist_65 rfl rfl ?_
    refine ev_iload d_A_appendTwist_66 rfl ?_
    refine ev_iload_n 2 d_A_appendTwist_68 rfl rfl ?_
    refine ev_iconst (v := 1) d_A_appendTwist_69 (by decide) ?_
    refine ev_callV M_C_append [_, _, _, _, _] (sp_C_append (n := n) (f := f) (g := g) rfl rfl rfl hn _ _ _ _ true) c_A_65 d_A_appendTwist_70 rfl rfl (by decide) (Nat.le_of_ble_eq_true rfl) ⟨rfl, rfl⟩ rfl ?_
    refine ev_goto 89 d_A_appendTwist_73 (by decide) ?_
    exact ev_ret d_A_appendTwist_89 rfl (Nat.le_of_ble_eq_true rfl) (Nat.le_of_ble_eq_true rfl)
  | 3, _ =>
    refine ev_iload_n 1 d_A_appendTwist_0 rfl rfl ?_
    refine ev_tabOut 76 d_A_appendTwist_1 (by decide) (by decide) ?_
    refine ev_aload_n 0 d_A_appendTwist_76 rfl rfl ?_
    refine ev_get f_A_16 d_A_appendTwist_77 rfl rfl ?_
    refine ev_iload_n 3 d_A_appendTwist_80 rfl rfl ?_
    refine ev_iload_n 2 d_A_appendTwist_81 rfl rfl ?_
    refine ev_iload d_A_appendTwist_82 rfl ?_
    refine ev_iload_n 3 d_A_appendTwist_84 rfl rfl ?_
    refine ev_iconst (v := 0) d_A_appendTwist_85 (by decide) ?_
    refine ev_callV M_C_append [_, _, _, _, _] (sp_C_append (n := n) (f := f) (g := g) rfl rfl rfl hn _ _ _ _ false) c_A_65 d_A_appendTwist_86 rfl rfl (by decide) (Nat.le_of_ble_eq_true rfl) ⟨rfl, rfl⟩ rfl ?_
    exact ev_ret d_A_appendTwist_89 rfl (Nat.le_of_ble_eq_true rfl) (Nat.le_of_ble_eq_true rfl)
theorem sp_A_twist_no {e k : Int32} (hn : n ≤ 8) (hcc : cc < 1000000) (h : ¬ (n < 8 ∧ ¬ k < 0 ∧ k ≤ 3 ∧ ((e = 0 ∧ ¬ cc = 0) ∨ (¬ e = 0 ∧ occ f e 0 (4 * n) = true)))) : Sp M_A_twist [.ref 0, .int e, .int k] (kC nd fd gd n f g nf ff gf s q oe t m l u c ln mi wd pl lt cc T) (some (.int (zb false))) (kC nd fd gd n f g nf ff gf s q oe t m l u c ln mi wd pl lt cc T) := by
  refine Sp.of (by decide) (Nat.le_of_ble_eq_true rfl) ?_
  refine ev_aload_n 0 d_A_twist_0 rfl rfl ?_
  refine ev_get f_A_16 d_A_twist_1 rfl rfl ?_
  refine ev_callV M_C_isFull [] (sp_C_isFull (n := n) rfl hn) c_A_57 d_A_twist_4 rfl rfl (by decide) (Nat.le_of_ble_eq_true rfl) ⟨rfl, rfl⟩ rfl ?_
  refine ev_if_ne 19 d_A_twist_7 (by decide) (fun h1 => ?_) (fun h1 => ?_)
  · refine ev_iconst (v := 0) d_A_twist_19 (by decide) ?_
    exact ev_iret d_A_twist_20 rfl zr0 (Nat.le_of_ble_eq_true rfl) (Nat.le_of_ble_eq_true rfl)
  · have h1' : n < 8 := by
      have := of_decide_eq_false ((zb_0 _).mp h1)
      omega
    refine ev_iload_n 2 d_A_twist_10 rfl rfl ?_
    refine ev_if_lt 19 d_A_twist_11 (by decide) (fun h2 => ?_) (fun h2 => ?_)
    · refine ev_iconst (v := 0) d_A_twist_19 (by decide) ?_
      exact ev_iret d_A_twist_20 rfl zr0 (Nat.le_of_ble_eq_true rfl) (Nat.le_of_ble_eq_true rfl)
    · refine ev_iload_n 2 d_A_twist_14 rfl rfl ?_
      refine ev_iconst (v := 3) d_A_twist_15 (by decide) ?_
      refine ev_icmp_le 21 d_A_twist_16 (by decide) (fun h3 => ?_) (fun h3 => ?_)
      · refine ev_aload_n 0 d_A_twist_21 rfl rfl ?_
        refine ev_iconst (v := 0) d_A_twist_22 (by decide) ?_
        refine ev_callV M_A_freeEdge [_] (sp_A_freeEdge (b := 0) hn (by decide)) c_A_143 d_A_twist_23 rfl rfl (by decide) (Nat.le_of_ble_eq_true rfl) ⟨rfl, rfl⟩ rfl ?_
        refine ev_istore_n 3 d_A_twist_26 rfl (Nat.le_of_ble_eq_true rfl) rfl ?_
        refine ev_aload_n 0 d_A_twist_27 rfl rfl ?_
        refine ev_iconst (v := 1) d_A_twist_28 (by decide) ?_
        refine ev_callV M_A_freeEdge [_] (sp_A_freeEdge (b := 1) hn (by decide)) c_A_143 d_A_twist_29 rfl rfl (by decide) (Nat.le_of_ble_eq_true rfl) ⟨rfl, rfl⟩ rfl ?_
        refine ev_istore d_A_twist_32 (Nat.le_of_ble_eq_true rfl) rfl ?_
        refine ev_iload_n 1 d_A_twist_34 rfl rfl ?_
        refine ev_if_ne 68 d_A_twist_35 (by decide) (fun h4 => ?_) (fun h4 => ?_)
        · refine ev_aload_n 0 d_A_twist_68 rfl rfl ?_
          refine ev_get f_A_16 d_A_twist_69 rfl rfl ?_
          refine ev_iload_n 1 d_A_twist_72 rfl rfl ?_
          refine ev_callV M_C_occurs [_] (sp_C_occurs (n := n) (f := f) rfl rfl hn e) c_A_150 d_A_twist_73 rfl rfl (by decide) (Nat.le_of_ble_eq_true rfl) ⟨rfl, rfl⟩ rfl ?_
          refine ev_if_ne 81 d_A_twist_76 (by decide) (fun h5 => ?_) (fun h5 => ?_)
          · exact absurd ⟨h1', h2, h3, Or.inr ⟨h4, (zb_n0 _).mp h5⟩⟩ h
          · refine ev_iconst (v := 0) d_A_twist_79 (by decide) ?_
            exact ev_iret d_A_twist_80 rfl zr0 (Nat.le_of_ble_eq_true rfl) (Nat.le_of_ble_eq_true rfl)
        · refine ev_aload_n 0 d_A_twist_38 rfl rfl ?_
          refine ev_get f_A_54 d_A_twist_39 rfl rfl ?_
          refine ev_if_ne 47 d_A_twist_42 (by decide) (fun h5 => ?_) (fun h5 => ?_)
          · exact absurd ⟨h1', h2, h3, Or.inl ⟨h4, fun z => h5 ((z_nz (by omega)).mpr z)⟩⟩ h
          · refine ev_iconst (v := 0) d_A_twist_45 (by decide) ?_
            exact ev_iret d_A_twist_46 rfl zr0 (Nat.le_of_ble_eq_true rfl) (Nat.le_of_ble_eq_true rfl)
      · refine ev_iconst (v := 0) d_A_twist_19 (by decide) ?_
        exact ev_iret d_A_twist_20 rfl zr0 (Nat.le_of_ble_eq_true rfl) (Nat.le_of_ble_eq_true rfl)
theorem ev_A_twist {e : Int32} {k : Nat} (hn : n < 8) (hk : k < 4) {r : Option Value} {wf : zW} (kk : Ev M_A_twist none r wf 34 [(0, .ref 0), (1, .int e), (2, .int (nI k)), (3, .int (frI f n 0)), (4, .int (frI f n 1))] [] (kC nd fd gd n f g nf ff gf s q oe t m l u c ln mi wd pl lt cc T) 0 0) : Ev M_A_twist none r wf 0 (lv_args 0 [.ref 0, .int e, .int (nI k)]) [] (kC nd fd gd n f g nf ff gf s q oe t m l u c ln mi wd pl lt cc T) 0 0 := by
  refine ev_aload_n 0 d_A_twist_0 rfl rfl ?_
  refine ev_get f_A_16 d_A_twist_1 rfl rfl ?_
  refine ev_callV M_C_isFull [] (sp_C_isFull (n := n) rfl (by omega)) c_A_57 d_A_twist_4 rfl rfl (by decide) (Nat.le_of_ble_eq_true rfl) ⟨rfl, rfl⟩ rfl ?_
  rw [decide_eq_false (by omega)]
  refine ev_if_ne 19 d_A_twist_7 (by decide) (fun h1 => ?_) (fun h1 => ?_)
  · exact absurd rfl h1
  · refine ev_iload_n 2 d_A_twist_10 rfl rfl ?_
    refine ev_if_lt 19 d_A_twist_11 (by decide) (fun h2 => ?_) (fun h2 => ?_)
    · exact absurd h2 (nI_pos (by omega))
    · refine ev_iload_n 2 d_A_twist_14 rfl rfl ?_
      refine ev_iconst (v := 3) d_A_twist_15 (by decide) ?_
      refine ev_icmp_le 21 d_A_twist_16 (by decide) (fun h3 => ?_) (fun h3 => ?_)
      · refine ev_aload_n 0 d_A_twist_21 rfl rfl ?_
        refine ev_iconst (v := 0) d_A_twist_22 (by decide) ?_
        refine ev_callV M_A_freeEdge [_] (sp_A_freeEdge (n := n) (f := f) (b := 0) (by omega) (by decide)) c_A_143 d_A_twist_23 rfl rfl (by decide) (Nat.le_of_ble_eq_true rfl) ⟨rfl, rfl⟩ rfl ?_
        refine ev_istore_n 3 d_A_twist_26 rfl (Nat.le_of_ble_eq_true rfl) rfl ?_
        refine ev_aload_n 0 d_A_twist_27 rfl rfl ?_
        refine ev_iconst (v := 1) d_A_twist_28 (by decide) ?_
        refine ev_callV M_A_freeEdge [_] (sp_A_freeEdge (n := n) (f := f) (b := 1) (by omega) (by decide)) c_A_143 d_A_twist_29 rfl rfl (by decide) (Nat.le_of_ble_eq_true rfl) ⟨rfl, rfl⟩ rfl ?_
        refine ev_istore d_A_twist_32 (Nat.le_of_ble_eq_true rfl) rfl ?_
        exact kk
      · exact absurd (nI_le (b := 3) (by omega) (by omega)) h3
theorem sp_A_twist0 {k : Nat} (hn : n < 8) (hk : k < 4) (hcc : cc < 1000000) : Sp M_A_twist [.ref 0, .int 0, .int (nI k)] (kC nd fd gd n f g nf ff gf s q oe t m l u c ln mi wd pl lt (cc + 1) T) (some (.int (zb true))) (kC nd fd gd (n + 1) (kkE k f n (frI f n 0) (frI f n 1) (frI f n 0)) (upd g n (sgn (kkB k))) nf ff gf s q oe t m l u c ln mi wd pl lt cc T) := by
  refine Sp.of (by decide) (Nat.le_of_ble_eq_true rfl) (ev_A_twist hn hk ?_)
  refine ev_iload_n 1 d_A_twist_34 rfl rfl ?_
  refine ev_if_ne 68 d_A_twist_35 (by decide) (fun h => ?_) (fun h => ?_)
  · exact absurd rfl h
  · refine ev_aload_n 0 d_A_twist_38 rfl rfl ?_
    refine ev_get f_A_54 d_A_twist_39 rfl rfl ?_
    refine ev_if_ne 47 d_A_twist_42 (by decide) (fun h2 => ?_) (fun h2 => ?_)
    · refine ev_aload_n 0 d_A_twist_47 rfl rfl ?_
      refine ev_dup d_A_twist_48 rfl ?_
      refine ev_get f_A_54 d_A_twist_49 rfl rfl ?_
      refine ev_iconst (v := 1) d_A_twist_52 (by decide) ?_
      refine ev_isub d_A_twist_53 ?_
      rw [nI_pred]
      refine ev_put p_A_54 d_A_twist_54 rfl (fun _ _ => ⟨rfl, rfl⟩) (Nat.le_of_ble_eq_true rfl) ?_
      refine ev_aload_n 0 d_A_twist_57 rfl rfl ?_
      refine ev_iload_n 2 d_A_twist_58 rfl rfl ?_
      refine ev_iload_n 3 d_A_twist_59 rfl rfl ?_
      refine ev_iload d_A_twist_60 rfl ?_
      refine ev_iload_n 3 d_A_twist_62 rfl rfl ?_
      refine ev_callV M_A_appendTwist [_, _, _, _] (sp_A_appendTwist (n := n) (f := f) (g := g) (cc := cc) hk hn _ _ _) c_A_146 d_A_twist_63 rfl rfl (by decide) (Nat.le_of_ble_eq_true rfl) ⟨rfl, rfl⟩ rfl ?_
      refine ev_iconst (v := 1) d_A_twist_66 (by decide) ?_
      exact ev_iret d_A_twist_67 rfl zr1 (Nat.le_of_ble_eq_true rfl) (Nat.le_of_ble_eq_true rfl)
    · exact absurd h2 (nI_ne0 (by omega) (by omega))
theorem sp_A_twist {e : Int32} {k : Nat} (hn : n < 8) (hk : k < 4) (he : ¬ e = 0) (ho : occ f e 0 (4 * n) = true) : Sp M_A_twist [.ref 0, .int e, .int (nI k)] (kC nd fd gd n f g nf ff gf s q oe t m l u c ln mi wd pl lt cc T) (some (.int (zb true))) (kC nd fd gd (n + 1) (kkE k (brA f g n (frI f n 1) e) n e (frI f n 0) (frI f n 1)) (upd g n (sgn (kkB k))) nf ff gf s q oe t m l u c ln mi wd pl lt cc T) := by
  refine Sp.of (by decide) (Nat.le_of_ble_eq_true rfl) (ev_A_twist hn hk ?_)
  refine ev_iload_n 1 d_A_twist_34 rfl rfl ?_
  refine ev_if_ne 68 d_A_twist_35 (by decide) (fun h => ?_) (fun h => ?_)
  · refine ev_aload_n 0 d_A_twist_68 rfl rfl ?_
    refine ev_get f_A_16 d_A_twist_69 rfl rfl ?_
    refine ev_iload_n 1 d_A_twist_72 rfl rfl ?_
    refine ev_callV M_C_occurs [_] (sp_C_occurs (n := n) (f := f) rfl rfl (by omega) e) c_A_150 d_A_twist_73 rfl rfl (by decide) (Nat.le_of_ble_eq_true rfl) ⟨rfl, rfl⟩ rfl ?_
    rw [ho]
    refine ev_if_ne 81 d_A_twist_76 (by decide) (fun h2 => ?_) (fun h2 => ?_)
    · refine ev_aload_n 0 d_A_twist_81 rfl rfl ?_
      refine ev_get f_A_16 d_A_twist_82 rfl rfl ?_
      refine ev_iload d_A_twist_85 rfl ?_
      refine ev_iload_n 1 d_A_twist_87 rfl rfl ?_
      refine ev_callV M_C_bringIn [_, _] (sp_C_bringIn (n := n) (f := f) (g := g) rfl rfl rfl (by omega) _ _) c_A_153 d_A_twist_88 rfl rfl (by decide) (Nat.le_of_ble_eq_true rfl) ⟨rfl, rfl⟩ rfl ?_
      refine ev_aload_n 0 d_A_twist_91 rfl rfl ?_
      refine ev_iload_n 2 d_A_twist_92 rfl rfl ?_
      refine ev_iload_n 1 d_A_twist_93 rfl rfl ?_
      refine ev_iload_n 3 d_A_twist_94 rfl rfl ?_
      refine ev_iload d_A_twist_95 rfl ?_
      refine ev_callV M_A_appendTwist [_, _, _, _] (sp_A_appendTwist (n := n) (f := brA f g n (frI f n 1) e) (g := g) hk hn _ _ _) c_A_146 d_A_twist_97 rfl rfl (by decide) (Nat.le_of_ble_eq_true rfl) ⟨rfl, rfl⟩ rfl ?_
      refine ev_iconst (v := 1) d_A_twist_100 (by decide) ?_
      exact ev_iret d_A_twist_101 rfl zr1 (Nat.le_of_ble_eq_true rfl) (Nat.le_of_ble_eq_true rfl)
    · exact absurd h2 (by decide)
  · exact absurd h he
theorem sp_A_join (hn : n ≤ 8) (p q' : Int32) : Sp M_A_join [.ref 0, .int p, .int q'] (kC nd fd gd n f g nf ff gf s q oe t m l u c ln mi wd pl lt cc T) none (kC nd fd gd n ((joE n g p q' (f, cc)).1) g nf ff gf s q oe t m l u c ln mi wd pl lt ((joE n g p q' (f, cc)).2) T) := by
  refine Sp.of (by decide) (Nat.le_of_ble_eq_true rfl) ?_
  refine ev_iload_n 1 d_A_join_0 rfl rfl ?_
  refine ev_iload_n 2 d_A_join_1 rfl rfl ?_
  refine ev_icmp_ne 18 d_A_join_2 (by decide) (fun h => ?_) (fun h => ?_)
  · have e1 : joE n g p q' (f, cc) = (brA f g n p q', cc) := by unfold joE; rw [if_neg h]
    rw [e1]
    refine ev_aload_n 0 d_A_join_18 rfl rfl ?_
    refine ev_get f_A_16 d_A_join_19 rfl rfl ?_
    refine ev_iload_n 1 d_A_join_22 rfl rfl ?_
    refine ev_iload_n 2 d_A_join_23 rfl rfl ?_
    refine ev_callV M_C_bringIn [_, _] (sp_C_bringIn (n := n) (f := f) (g := g) rfl rfl rfl hn _ _) c_A_153 d_A_join_24 rfl rfl (by decide) (Nat.le_of_ble_eq_true rfl) ⟨rfl, rfl⟩ rfl ?_
    exact ev_ret d_A_join_27 rfl (Nat.le_of_ble_eq_true rfl) (Nat.le_of_ble_eq_true rfl)
  · have e1 : joE n g p q' (f, cc) = (f, cc + 1) := by unfold joE; rw [if_pos h]
    rw [e1]
    refine ev_aload_n 0 d_A_join_5 rfl rfl ?_
    refine ev_dup d_A_join_6 rfl ?_
    refine ev_get f_A_54 d_A_join_7 rfl rfl ?_
    refine ev_iconst (v := 1) d_A_join_10 (by decide) ?_
    refine ev_iadd d_A_join_11 ?_
    rw [nI_1]
    refine ev_put p_A_54 d_A_join_12 rfl (fun _ _ => ⟨rfl, rfl⟩) (Nat.le_of_ble_eq_true rfl) ?_
    refine ev_goto 27 d_A_join_15 (by decide) ?_
    exact ev_ret d_A_join_27 rfl (Nat.le_of_ble_eq_true rfl) (Nat.le_of_ble_eq_true rfl)
theorem sp_A_loopEnd_no {x : Int32} (h : ¬ (¬ x < 0 ∧ x < nI n)) : Sp M_A_loopEnd [.ref 0, .int x] (kC nd fd gd n f g nf ff gf s q oe t m l u c ln mi wd pl lt cc T) (some (.int (oI none))) (kC nd fd gd n f g nf ff gf s q oe t m l u c ln mi wd pl lt cc T) := by
  refine Sp.of (by decide) (Nat.le_of_ble_eq_true rfl) ?_
  refine ev_aload_n 0 d_A_loopEnd_0 rfl rfl ?_
  refine ev_get f_A_16 d_A_loopEnd_1 rfl rfl ?_
  refine ev_iload_n 1 d_A_loopEnd_4 rfl rfl ?_
  refine ev_callV M_C_has [_] (sp_C_has (n := n) rfl x) c_A_123 d_A_loopEnd_5 rfl rfl (by decide) (Nat.le_of_ble_eq_true rfl) ⟨rfl, rfl⟩ rfl ?_
  rw [decide_eq_false h]
  refine ev_if_ne 13 d_A_loopEnd_8 (by decide) (fun h1 => ?_) (fun h1 => ?_)
  · exact absurd rfl h1
  · refine ev_iconst (v := -1) d_A_loopEnd_11 (by decide) ?_
    exact ev_iret d_A_loopEnd_12 rfl rfl (Nat.le_of_ble_eq_true rfl) (Nat.le_of_ble_eq_true rfl)
theorem lp_A_loopEnd {x : Nat} (hx : x < n) (hn : n ≤ 8) : ∀ k e, e + k = 4 * x + 4 → 4 * x ≤ e → Ev M_A_loopEnd none (some (.int (oI (lpE f e k)))) (kC nd fd gd n f g nf ff gf s q oe t m l u c ln mi wd pl lt cc T) 17 [(0, .ref 0), (1, .int (nI x)), (2, .int (nI e))] [] (kC nd fd gd n f g nf ff gf s q oe t m l u c ln mi wd pl lt cc T) 0 0 := by
  intro k
  induction k with
  | zero =>
    intro e he h4
    have e0 : lpE f e 0 = none := by rw [lpE]
    rw [e0]
    refine ev_iload_n 2 d_A_loopEnd_17 rfl rfl ?_
    refine ev_iconst (v := 4) d_A_loopEnd_18 (by decide) ?_
    refine ev_iload_n 1 d_A_loopEnd_19 rfl rfl ?_
    refine ev_imul d_A_loopEnd_20 ?_
    rw [z_m4]
    refine ev_iconst (v := 4) d_A_loopEnd_21 (by decide) ?_
    refine ev_iadd d_A_loopEnd_22 ?_
    rw [z_p4]
    refine ev_icmp_ge 57 d_A_loopEnd_23 (by decide) (fun h => ?_) (fun h => ?_)
    · refine ev_iconst (v := -1) d_A_loopEnd_57 (by decide) ?_
      exact ev_iret d_A_loopEnd_58 rfl rfl (Nat.le_of_ble_eq_true rfl) (Nat.le_of_ble_eq_true rfl)
    · exact absurd (nI_le (by omega) (by omega)) h
  | succ k ih =>
    intro e he h4
    have ht : tur e 1 < 32 := by unfold tur; omega
    refine ev_iload_n 2 d_A_loopEnd_17 rfl rfl ?_
    refine ev_iconst (v := 4) d_A_loopEnd_18 (by decide) ?_
    refine ev_iload_n 1 d_A_loopEnd_19 rfl rfl ?_
    refine ev_imul d_A_loopEnd_20 ?_
    rw [z_m4]
    refine ev_iconst (v := 4) d_A_loopEnd_21 (by decide) ?_
    refine ev_iadd d_A_loopEnd_22 ?_
    rw [z_p4]
    refine ev_icmp_ge 57 d_A_loopEnd_23 (by decide) (fun h => ?_) (fun h => ?_)
    · exact absurd h (nI_ge (by omega) (by omega))
    · refine ev_aload_n 0 d_A_loopEnd_26 rfl rfl ?_
      refine ev_get f_A_16 d_A_loopEnd_27 rfl rfl ?_
      refine ev_iload_n 2 d_A_loopEnd_30 rfl rfl ?_
      refine ev_callV M_C_edgeAt [_] (sp_C_edgeAt (n := n) (f := f) (e := e) rfl rfl (by omega)) c_A_129 d_A_loopEnd_31 rfl rfl (by decide) (Nat.le_of_ble_eq_true rfl) ⟨rfl, rfl⟩ rfl ?_
      refine ev_aload_n 0 d_A_loopEnd_34 rfl rfl ?_
      refine ev_get f_A_16 d_A_loopEnd_35 rfl rfl ?_
      refine ev_iload_n 2 d_A_loopEnd_38 rfl rfl ?_
      refine ev_iconst (v := 1) d_A_loopEnd_39 (by decide) ?_
      refine ev_callS M_A_turned [_, _] (sp_A_turned _ (e := e) (k := 1) (by omega) (by decide)) c_A_159 d_A_loopEnd_40 rfl (by decide) (Nat.le_of_ble_eq_true rfl) ⟨rfl, rfl⟩ rfl ?_
      refine ev_callV M_C_edgeAt [_] (sp_C_edgeAt (n := n) (f := f) (e := tur e 1) rfl rfl ht) c_A_129 d_A_loopEnd_43 rfl rfl (by decide) (Nat.le_of_ble_eq_true rfl) ⟨rfl, rfl⟩ rfl ?_
      refine ev_icmp_ne 51 d_A_loopEnd_46 (by decide) (fun h2 => ?_) (fun h2 => ?_)
      · have e0 : lpE f e (k + 1) = lpE f (e + 1) k := by rw [lpE, if_neg h2]
        rw [e0]
        refine ev_iinc (v := _ + 1) d_A_loopEnd_51 rfl rfl (Nat.le_of_ble_eq_true rfl) rfl ?_
        rw [nI_1]
        refine ev_goto 17 d_A_loopEnd_54 (by decide) ?_
        exact ih (e + 1) (by omega) (by omega)
      · have e0 : lpE f e (k + 1) = some e := by rw [lpE, if_pos h2]
        rw [e0]
        refine ev_iload_n 2 d_A_loopEnd_49 rfl rfl ?_
        exact ev_iret d_A_loopEnd_50 rfl rfl (Nat.le_of_ble_eq_true rfl) (Nat.le_of_ble_eq_true rfl)
theorem sp_A_loopEnd {x : Nat} (hx : x < n) (hn : n ≤ 8) : Sp M_A_loopEnd [.ref 0, .int (nI x)] (kC nd fd gd n f g nf ff gf s q oe t m l u c ln mi wd pl lt cc T) (some (.int (oI (lpE f (4 * x) 4)))) (kC nd fd gd n f g nf ff gf s q oe t m l u c ln mi wd pl lt cc T) := by
  refine Sp.of (by decide) (Nat.le_of_ble_eq_true rfl) ?_
  refine ev_aload_n 0 d_A_loopEnd_0 rfl rfl ?_
  refine ev_get f_A_16 d_A_loopEnd_1 rfl rfl ?_
  refine ev_iload_n 1 d_A_loopEnd_4 rfl rfl ?_
  refine ev_callV M_C_has [_] (sp_C_has (n := n) rfl (nI x)) c_A_123 d_A_loopEnd_5 rfl rfl (by decide) (Nat.le_of_ble_eq_true rfl) ⟨rfl, rfl⟩ rfl ?_
  rw [decide_eq_true ⟨nI_pos (by omega), nI_lt hx (by omega)⟩]
  refine ev_if_ne 13 d_A_loopEnd_8 (by decide) (fun h1 => ?_) (fun h1 => ?_)
  · refine ev_iconst (v := 4) d_A_loopEnd_13 (by decide) ?_
    refine ev_iload_n 1 d_A_loopEnd_14 rfl rfl ?_
    refine ev_imul d_A_loopEnd_15 ?_
    rw [z_m4]
    refine ev_istore_n 2 d_A_loopEnd_16 rfl (Nat.le_of_ble_eq_true rfl) rfl ?_
    exact lp_A_loopEnd hx hn 4 (4 * x) (by omega) (by omega)
  · exact absurd h1 (by decide)
theorem sp_A_untwist_no {x : Int32} (hn : n ≤ 8) (h : ¬ (¬ x < 0 ∧ x < nI n) ∨ ∃ k, k < n ∧ x = nI k ∧ lpE f (4 * k) 4 = none) : Sp M_A_untwist [.ref 0, .int x] (kC nd fd gd n f g nf ff gf s q oe t m l u c ln mi wd pl lt cc T) (some (.int (zb false))) (kC nd fd gd n f g nf ff gf s q oe t m l u c ln mi wd pl lt cc T) := by
  refine Sp.of (by decide) (Nat.le_of_ble_eq_true rfl) ?_
  have hs : Sp M_A_loopEnd [.ref 0, .int x] (kC nd fd gd n f g nf ff gf s q oe t m l u c ln mi wd pl lt cc T) (some (.int (oI none))) (kC nd fd gd n f g nf ff gf s q oe t m l u c ln mi wd pl lt cc T) := by
    rcases h with h | ⟨k, h1, h2, h3⟩
    · exact sp_A_loopEnd_no h
    · have := sp_A_loopEnd (nd := nd) (fd := fd) (gd := gd) (f := f) (g := g) (nf := nf) (ff := ff) (gf := gf) (s := s) (q := q) (oe := oe) (t := t) (m := m) (l := l) (u := u) (c := c) (ln := ln) (mi := mi) (wd := wd) (pl := pl) (lt := lt) (cc := cc) (T := T) h1 hn
      rw [h3, ← h2] at this
      exact this
  refine ev_aload_n 0 d_A_untwist_0 rfl rfl ?_
  refine ev_iload_n 1 d_A_untwist_1 rfl rfl ?_
  refine ev_callV M_A_loopEnd [_] hs c_A_156 d_A_untwist_2 rfl rfl (by decide) (Nat.le_of_ble_eq_true rfl) ⟨rfl, rfl⟩ rfl ?_
  refine ev_istore_n 2 d_A_untwist_5 rfl (Nat.le_of_ble_eq_true rfl) rfl ?_
  refine ev_iload_n 2 d_A_untwist_6 rfl rfl ?_
  refine ev_iconst (v := -1) d_A_untwist_7 (by decide) ?_
  refine ev_icmp_ne 13 d_A_untwist_8 (by decide) (fun h1 => ?_) (fun h1 => ?_)
  · exact absurd rfl h1
  · refine ev_iconst (v := 0) d_A_untwist_11 (by decide) ?_
    exact ev_iret d_A_untwist_12 rfl zr0 (Nat.le_of_ble_eq_true rfl) (Nat.le_of_ble_eq_true rfl)
def utI (f g : Nat → Int32) (e : Nat) : Int32 := f (if cin g (tur e 2) = true then tur e 2 else tur e 3)
def utO (f g : Nat → Int32) (e : Nat) : Int32 := f (if cin g (tur e 2) = true then tur e 3 else tur e 2)
theorem sp_A_untwist {x e : Nat} (hx : x < n) (hn : n ≤ 8) (he : lpE f (4 * x) 4 = some e) : Sp M_A_untwist [.ref 0, .int (nI x)] (kC nd fd gd n f g nf ff gf s q oe t m l u c ln mi wd pl lt cc T) (some (.int (zb true))) (kC nd fd gd (n - 1) ((joE (n - 1) (rmS g n x) (utI f g e) (utO f g e) (rmE f n x, cc)).1) (rmS g n x) nf ff gf s q oe t m l u c ln mi wd pl lt ((joE (n - 1) (rmS g n x) (utI f g e) (utO f g e) (rmE f n x, cc)).2) T) := by
  refine Sp.of (by decide) (Nat.le_of_ble_eq_true rfl) ?_
  have he2 := lpE_lt _ _ _ he
  have t2 : tur e 2 < 32 := by unfold tur; omega
  have t3 : tur e 3 < 32 := by unfold tur; omega
  refine ev_aload_n 0 d_A_untwist_0 rfl rfl ?_
  refine ev_iload_n 1 d_A_untwist_1 rfl rfl ?_
  refine ev_callV M_A_loopEnd [_] (sp_A_loopEnd hx hn) c_A_156 d_A_untwist_2 rfl rfl (by decide) (Nat.le_of_ble_eq_true rfl) ⟨rfl, rfl⟩ rfl ?_
  rw [he]
  refine ev_istore_n 2 d_A_untwist_5 rfl (Nat.le_of_ble_eq_true rfl) rfl ?_
  refine ev_iload_n 2 d_A_untwist_6 rfl rfl ?_
  refine ev_iconst (v := -1) d_A_untwist_7 (by decide) ?_
  refine ev_icmp_ne 13 d_A_untwist_8 (by decide) (fun h1 => ?_) (fun h1 => ?_)
  · refine ev_iload_n 2 d_A_untwist_13 rfl rfl ?_
    refine ev_iconst (v := 2) d_A_untwist_14 (by decide) ?_
    refine ev_callS M_A_turned [_, _] (sp_A_turned _ (e := e) (k := 2) (by omega) (by decide)) c_A_159 d_A_untwist_15 rfl (by decide) (Nat.le_of_ble_eq_true rfl) ⟨rfl, rfl⟩ rfl ?_
    refine ev_istore_n 3 d_A_untwist_18 rfl (Nat.le_of_ble_eq_true rfl) rfl ?_
    refine ev_iload_n 2 d_A_untwist_19 rfl rfl ?_
    refine ev_iconst (v := 3) d_A_untwist_20 (by decide) ?_
    refine ev_callS M_A_turned [_, _] (sp_A_turned _ (e := e) (k := 3) (by omega) (by decide)) c_A_159 d_A_untwist_21 rfl (by decide) (Nat.le_of_ble_eq_true rfl) ⟨rfl, rfl⟩ rfl ?_
    refine ev_istore d_A_untwist_24 (Nat.le_of_ble_eq_true rfl) rfl ?_
    refine ev_aload_n 0 d_A_untwist_26 rfl rfl ?_
    refine ev_get f_A_16 d_A_untwist_27 rfl rfl ?_
    refine ev_iload_n 3 d_A_untwist_30 rfl rfl ?_
    refine ev_callV M_C_comesIn [_] (sp_C_comesIn (n := n) (g := g) (e := tur e 2) rfl rfl t2) c_A_163 d_A_untwist_31 rfl rfl (by decide) (Nat.le_of_ble_eq_true rfl) ⟨rfl, rfl⟩ rfl ?_
    have k7 : Ev M_A_untwist none (some (.int (zb true))) (kC nd fd gd (n - 1) ((joE (n - 1) (rmS g n x) (utI f g e) (utO f g e) (rmE f n x, cc)).1) (rmS g n x) nf ff gf s q oe t m l u c ln mi wd pl lt ((joE (n - 1) (rmS g n x) (utI f g e) (utO f g e) (rmE f n x, cc)).2) T) 74 [(0, .ref 0), (1, .int (nI x)), (2, .int (nI e)), (3, .int (nI (tur e 2))), (4, .int (nI (tur e 3))), (5, .int (zb (cin g (tur e 2)))), (6, .int (utI f g e))] [.int (utO f g e)] (kC nd fd gd n f g nf ff gf s q oe t m l u c ln mi wd pl lt cc T) 0 0 := by
      refine ev_istore d_A_untwist_74 (Nat.le_of_ble_eq_true rfl) rfl ?_
      refine ev_aload_n 0 d_A_untwist_76 rfl rfl ?_
      refine ev_get f_A_16 d_A_untwist_77 rfl rfl ?_
      refine ev_iload_n 1 d_A_untwist_80 rfl rfl ?_
      refine ev_callV M_C_remove [_] (sp_C_remove (n := n) (f := f) (g := g) rfl rfl rfl hn hx) c_A_73 d_A_untwist_81 rfl rfl (by decide) (Nat.le_of_ble_eq_true rfl) ⟨rfl, rfl⟩ rfl ?_
      refine ev_aload_n 0 d_A_untwist_84 rfl rfl ?_
      refine ev_iload d_A_untwist_85 rfl ?_
      refine ev_iload d_A_untwist_87 rfl ?_
      refine ev_callV M_A_join [_, _] (sp_A_join (n := n - 1) (f := rmE f n x) (g := rmS g n x) (by omega) _ _) c_A_166 d_A_untwist_89 rfl rfl (by decide) (Nat.le_of_ble_eq_true rfl) ⟨rfl, rfl⟩ rfl ?_
      refine ev_iconst (v := 1) d_A_untwist_92 (by decide) ?_
      exact ev_iret d_A_untwist_93 rfl zr1 (Nat.le_of_ble_eq_true rfl) (Nat.le_of_ble_eq_true rfl)
    have k6 : Ev M_A_untwist none (some (.int (zb true))) (kC nd fd gd (n - 1) ((joE (n - 1) (rmS g n x) (utI f g e) (utO f g e) (rmE f n x, cc)).1) (rmS g n x) nf ff gf s q oe t m l u c ln mi wd pl lt ((joE (n - 1) (rmS g n x) (utI f g e) (utO f g e) (rmE f n x, cc)).2) T) 54 [(0, .ref 0), (1, .int (nI x)), (2, .int (nI e)), (3, .int (nI (tur e 2))), (4, .int (nI (tur e 3))), (5, .int (zb (cin g (tur e 2))))] [.int (utI f g e)] (kC nd fd gd n f g nf ff gf s q oe t m l u c ln mi wd pl lt cc T) 0 0 := by
      refine ev_istore d_A_untwist_54 (Nat.le_of_ble_eq_true rfl) rfl ?_
      refine ev_aload_n 0 d_A_untwist_56 rfl rfl ?_
      refine ev_get f_A_16 d_A_untwist_57 rfl rfl ?_
      refine ev_iload d_A_untwist_60 rfl ?_
      refine ev_if_eq 70 d_A_untwist_62 (by decide) (fun h2 => ?_) (fun h2 => ?_)
      · have h3 := (zb_0 _).mp h2
        have e1 : utO f g e = f (tur e 2) := by unfold utO; rw [h3]; rfl
        rw [e1] at k7
        refine ev_iload_n 3 d_A_untwist_70 rfl rfl ?_
        refine ev_callV M_C_edgeAt [_] (sp_C_edgeAt (n := n) (f := f) (e := tur e 2) rfl rfl t2) c_A_129 d_A_untwist_71 rfl rfl (by decide) (Nat.le_of_ble_eq_true rfl) ⟨rfl, rfl⟩ rfl ?_
        rw [e1]
        exact k7
      · have h3 := (zb_n0 _).mp h2
        have e1 : utO f g e = f (tur e 3) := by unfold utO; rw [h3]; rfl
        rw [e1] at k7
        refine ev_iload d_A_untwist_65 rfl ?_
        refine ev_goto 71 d_A_untwist_67 (by decide) ?_
        refine ev_callV M_C_edgeAt [_] (sp_C_edgeAt (n := n) (f := f) (e := tur e 3) rfl rfl t3) c_A_129 d_A_untwist_71 rfl rfl (by decide) (Nat.le_of_ble_eq_true rfl) ⟨rfl, rfl⟩ rfl ?_
        rw [e1]
        exact k7
    refine ev_istore d_A_untwist_34 (Nat.le_of_ble_eq_true rfl) rfl ?_
    refine ev_aload_n 0 d_A_untwist_36 rfl rfl ?_
    refine ev_get f_A_16 d_A_untwist_37 rfl rfl ?_
    refine ev_iload d_A_untwist_40 rfl ?_
    refine ev_if_eq 49 d_A_untwist_42 (by decide) (fun h2 => ?_) (fun h2 => ?_)
    · have h3 := (zb_0 _).mp h2
      have e1 : utI f g e = f (tur e 3) := by unfold utI; rw [h3]; rfl
      rw [e1] at k6
      refine ev_iload d_A_untwist_49 rfl ?_
      refine ev_callV M_C_edgeAt [_] (sp_C_edgeAt (n := n) (f := f) (e := tur e 3) rfl rfl t3) c_A_129 d_A_untwist_51 rfl rfl (by decide) (Nat.le_of_ble_eq_true rfl) ⟨rfl, rfl⟩ rfl ?_
      rw [e1]
      exact k6
    · have h3 := (zb_n0 _).mp h2
      have e1 : utI f g e = f (tur e 2) := by unfold utI; rw [h3]; rfl
      rw [e1] at k6
      refine ev_iload_n 3 d_A_untwist_45 rfl rfl ?_
      refine ev_goto 51 d_A_untwist_46 (by decide) ?_
      refine ev_callV M_C_edgeAt [_] (sp_C_edgeAt (n := n) (f := f) (e := tur e 2) rfl rfl t2) c_A_129 d_A_untwist_51 rfl rfl (by decide) (Nat.le_of_ble_eq_true rfl) ⟨rfl, rfl⟩ rfl ?_
      rw [e1]
      exact k6
  · exact absurd h1 (nI_nm1 (by omega))
end Mo
