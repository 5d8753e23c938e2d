section NEW
variable {M : zM} {X : Option (Nat × (Nat → Int32))} {r : Option Value} {wf : zW} {pc : Nat} {lv : List (Nat × Value)} {st : List Value} {w : zW} {nc ns : Nat}
theorem ev_newI {n : Int32} {N : Nat} (hd : decode M.2.1 pc = .ok (.newarray .int, 2)) (hn : ¬ n < 0) (hN : n.toNatClampNeg = N) (hbytes : N * componentBytes .int ≤ 536870912) (hlen : w.length + 1 < 1000000) (hw : w.all (z_okc w.length) = true) (hlv : lv.all (fun q => z_ok w.length q.2) = true) (hst : st.all (z_ok w.length) = true) (hc : nc + 1 ≤ M.2.2.2.2.cells) (hs : ns + N ≤ M.2.2.2.2.slots) (k : Ev M X r wf (pc + 2) lv (.ref w.length :: st) (w ++ [aI N (fun _ => 0)]) (nc + 1) (ns + N)) : Ev M X r wf pc lv (.int n :: st) w nc ns :=
  ev_newa (ty := .int) (a0 := (N, .inl (fun _ => 0))) wA_int rfl (fun _ => rfl) hn hN hbytes (fun _ _ h => va_nm_int h) hd hlen hw hlv hst hc hs k
theorem ev_newL {n : Int32} {N : Nat} (hd : decode M.2.1 pc = .ok (.newarray .long, 2)) (hn : ¬ n < 0) (hN : n.toNatClampNeg = N) (hbytes : N * componentBytes .long ≤ 536870912) (hlen : w.length + 1 < 1000000) (hw : w.all (z_okc w.length) = true) (hlv : lv.all (fun q => z_ok w.length q.2) = true) (hst : st.all (z_ok w.length) = true) (hc : nc + 1 ≤ M.2.2.2.2.cells) (hs : ns + N ≤ M.2.2.2.2.slots) (k : Ev M X r wf (pc + 2) lv (.ref w.length :: st) (w ++ [aL N (fun _ => 0)]) (nc + 1) (ns + N)) : Ev M X r wf pc lv (.int n :: st) w nc ns :=
  ev_newa (ty := .long) (a0 := (N, .inr (.inl (fun _ => 0)))) wA_long rfl (fun _ => rfl) hn hN hbytes (fun _ _ h => va_nm_long h) hd hlen hw hlv hst hc hs k
theorem ev_newZ {n : Int32} {N : Nat} (hd : decode M.2.1 pc = .ok (.newarray .boolean, 2)) (hn : ¬ n < 0) (hN : n.toNatClampNeg = N) (hbytes : N * componentBytes .boolean ≤ 536870912) (hlen : w.length + 1 < 1000000) (hw : w.all (z_okc w.length) = true) (hlv : lv.all (fun q => z_ok w.length q.2) = true) (hst : st.all (z_ok w.length) = true) (hc : nc + 1 ≤ M.2.2.2.2.cells) (hs : ns + N ≤ M.2.2.2.2.slots) (k : Ev M X r wf (pc + 2) lv (.ref w.length :: st) (w ++ [aZ N (fun _ => 0)]) (nc + 1) (ns + N)) : Ev M X r wf pc lv (.int n :: st) w nc ns :=
  ev_newa (ty := .boolean) (a0 := (N, .inl (fun _ => 0))) wA_bool rfl (fun _ => rfl) hn hN hbytes (fun _ _ h => va_nm_boolean h) hd hlen hw hlv hst hc hs k
end NEW
abbrev i0 : Nat → Int32 := fun _ => 0
abbrev l0 : Nat → Int64 := fun _ => 0
abbrev oA (a b c d e f g h : Value) (lt cc : Int32) : zE := .inr (4, [a, b, c, d, e, f, g, h, .int lt, .int cc])
abbrev oC0 : zE := .inr (2, [.null, .null, .int 0])
theorem sp_C_init1 : Sp M_C_init [.ref 1] [oA .null .null .null .null .null .null .null .null 0 0, oC0] none [oA .null .null .null .null .null .null .null .null 0 0, oC 2 3 0, aI 32 i0, aI 8 i0] := by
  refine Sp.of (by decide) (Nat.le_of_ble_eq_true rfl) ?_
  refine ev_aload_n 0 d_C_init_0 rfl rfl ?_
  refine ev_objInit c_C_3 wO_im wO_code d_C_init_1 (Nat.le_of_ble_eq_true rfl) (Nat.le_of_ble_eq_true rfl) ?_
  refine ev_aload_n 0 d_C_init_4 rfl rfl ?_
  refine ev_bipush (v := 32) d_C_init_5 (by decide) ?_
  refine ev_newI (N := 32) d_C_init_7 (by decide) (by decide) (by decide) (Nat.le_of_ble_eq_true rfl) rfl rfl rfl (Nat.le_of_ble_eq_true rfl) (Nat.le_of_ble_eq_true rfl) ?_
  refine ev_putF p_C_9 rfl d_C_init_9 rfl (fun _ _ => ⟨rfl, rfl⟩) (Nat.le_of_ble_eq_true rfl) ?_
  refine ev_aload_n 0 d_C_init_12 rfl rfl ?_
  refine ev_bipush (v := 8) d_C_init_13 (by decide) ?_
  refine ev_newI (N := 8) d_C_init_15 (by decide) (by decide) (by decide) (Nat.le_of_ble_eq_true rfl) rfl rfl rfl (Nat.le_of_ble_eq_true rfl) (Nat.le_of_ble_eq_true rfl) ?_
  refine ev_putF p_C_15 rfl d_C_init_17 rfl (fun _ _ => ⟨rfl, rfl⟩) (Nat.le_of_ble_eq_true rfl) ?_
  refine ev_aload_n 0 d_C_init_20 rfl rfl ?_
  refine ev_iconst (v := 0) d_C_init_21 (by decide) ?_
  refine ev_put p_C_18 d_C_init_22 rfl (fun _ _ => ⟨rfl, rfl⟩) (Nat.le_of_ble_eq_true rfl) ?_
  exact ev_ret d_C_init_25 rfl (Nat.le_of_ble_eq_true rfl) (Nat.le_of_ble_eq_true rfl)
theorem sp_C_init2 : Sp M_C_init [.ref 4] [oA (.ref 1) .null .null .null .null .null .null .null 0 0, oC 2 3 0, aI 32 i0, aI 8 i0, oC0] none [oA (.ref 1) .null .null .null .null .null .null .null 0 0, oC 2 3 0, aI 32 i0, aI 8 i0, oC 5 6 0, aI 32 i0, aI 8 i0] := by
  refine Sp.of (by decide) (Nat.le_of_ble_eq_true rfl) ?_
  refine ev_aload_n 0 d_C_init_0 rfl rfl ?_
  refine ev_objInit c_C_3 wO_im wO_code d_C_init_1 (Nat.le_of_ble_eq_true rfl) (Nat.le_of_ble_eq_true rfl) ?_
  refine ev_aload_n 0 d_C_init_4 rfl rfl ?_
  refine ev_bipush (v := 32) d_C_init_5 (by decide) ?_
  refine ev_newI (N := 32) d_C_init_7 (by decide) (by decide) (by decide) (Nat.le_of_ble_eq_true rfl) rfl rfl rfl (Nat.le_of_ble_eq_true rfl) (Nat.le_of_ble_eq_true rfl) ?_
  refine ev_putF p_C_9 rfl d_C_init_9 rfl (fun _ _ => ⟨rfl, rfl⟩) (Nat.le_of_ble_eq_true rfl) ?_
  refine ev_aload_n 0 d_C_init_12 rfl rfl ?_
  refine ev_bipush (v := 8) d_C_init_13 (by decide) ?_
  refine ev_newI (N := 8) d_C_init_15 (by decide) (by decide) (by decide) (Nat.le_of_ble_eq_true rfl) rfl rfl rfl (Nat.le_of_ble_eq_true rfl) (Nat.le_of_ble_eq_true rfl) ?_
  refine ev_putF p_C_15 rfl d_C_init_17 rfl (fun _ _ => ⟨rfl, rfl⟩) (Nat.le_of_ble_eq_true rfl) ?_
  refine ev_aload_n 0 d_C_init_20 rfl rfl ?_
  refine ev_iconst (v := 0) d_C_init_21 (by decide) ?_
  refine ev_put p_C_18 d_C_init_22 rfl (fun _ _ => ⟨rfl, rfl⟩) (Nat.le_of_ble_eq_true rfl) ?_
  exact ev_ret d_C_init_25 rfl (Nat.le_of_ble_eq_true rfl) (Nat.le_of_ble_eq_true rfl)
theorem sp_C_init3 : Sp M_C_init [.ref 7] [oA (.ref 1) (.ref 4) .null .null .null .null .null .null 0 0, oC 2 3 0, aI 32 i0, aI 8 i0, oC 5 6 0, aI 32 i0, aI 8 i0, oC0] none [oA (.ref 1) (.ref 4) .null .null .null .null .null .null 0 0, oC 2 3 0, aI 32 i0, aI 8 i0, oC 5 6 0, aI 32 i0, aI 8 i0, oC 8 9 0, aI 32 i0, aI 8 i0] := by
  refine Sp.of (by decide) (Nat.le_of_ble_eq_true rfl) ?_
  refine ev_aload_n 0 d_C_init_0 rfl rfl ?_
  refine ev_objInit c_C_3 wO_im wO_code d_C_init_1 (Nat.le_of_ble_eq_true rfl) (Nat.le_of_ble_eq_true rfl) ?_
  refine ev_aload_n 0 d_C_init_4 rfl rfl ?_
  refine ev_bipush (v := 32) d_C_init_5 (by decide) ?_
  refine ev_newI (N := 32) d_C_init_7 (by decide) (by decide) (by decide) (Nat.le_of_ble_eq_true rfl) rfl rfl rfl (Nat.le_of_ble_eq_true rfl) (Nat.le_of_ble_eq_true rfl) ?_
  refine ev_putF p_C_9 rfl d_C_init_9 rfl (fun _ _ => ⟨rfl, rfl⟩) (Nat.le_of_ble_eq_true rfl) ?_
  refine ev_aload_n 0 d_C_init_12 rfl rfl ?_
  refine ev_bipush (v := 8) d_C_init_13 (by decide) ?_
  refine ev_newI (N := 8) d_C_init_15 (by decide) (by decide) (by decide) (Nat.le_of_ble_eq_true rfl) rfl rfl rfl (Nat.le_of_ble_eq_true rfl) (Nat.le_of_ble_eq_true rfl) ?_
  refine ev_putF p_C_15 rfl d_C_init_17 rfl (fun _ _ => ⟨rfl, rfl⟩) (Nat.le_of_ble_eq_true rfl) ?_
  refine ev_aload_n 0 d_C_init_20 rfl rfl ?_
  refine ev_iconst (v := 0) d_C_init_21 (by decide) ?_
  refine ev_put p_C_18 d_C_init_22 rfl (fun _ _ => ⟨rfl, rfl⟩) (Nat.le_of_ble_eq_true rfl) ?_
  exact ev_ret d_C_init_25 rfl (Nat.le_of_ble_eq_true rfl) (Nat.le_of_ble_eq_true rfl)
theorem sp_S_init1 : Sp M_S_init [.ref 10] [oA (.ref 1) (.ref 4) (.ref 7) .null .null .null .null .null 0 0, oC 2 3 0, aI 32 i0, aI 8 i0, oC 5 6 0, aI 32 i0, aI 8 i0, oC 8 9 0, aI 32 i0, aI 8 i0, .inr (3, [.null, .null])] none [oA (.ref 1) (.ref 4) (.ref 7) .null .null .null .null .null 0 0, oC 2 3 0, aI 32 i0, aI 8 i0, oC 5 6 0, aI 32 i0, aI 8 i0, oC 8 9 0, aI 32 i0, aI 8 i0, oS 11 12, aI 32 i0, aI 8 i0] := by
  refine Sp.of (by decide) (Nat.le_of_ble_eq_true rfl) ?_
  refine ev_aload_n 0 d_S_init_0 rfl rfl ?_
  refine ev_objInit c_S_3 wO_im wO_code d_S_init_1 (Nat.le_of_ble_eq_true rfl) (Nat.le_of_ble_eq_true rfl) ?_
  refine ev_aload_n 0 d_S_init_4 rfl rfl ?_
  refine ev_bipush (v := 32) d_S_init_5 (by decide) ?_
  refine ev_newI (N := 32) d_S_init_7 (by decide) (by decide) (by decide) (Nat.le_of_ble_eq_true rfl) rfl rfl rfl (Nat.le_of_ble_eq_true rfl) (Nat.le_of_ble_eq_true rfl) ?_
  refine ev_putF p_S_9 rfl d_S_init_9 rfl (fun _ _ => ⟨rfl, rfl⟩) (Nat.le_of_ble_eq_true rfl) ?_
  refine ev_aload_n 0 d_S_init_12 rfl rfl ?_
  refine ev_bipush (v := 8) d_S_init_13 (by decide) ?_
  refine ev_newI (N := 8) d_S_init_15 (by decide) (by decide) (by decide) (Nat.le_of_ble_eq_true rfl) rfl rfl rfl (Nat.le_of_ble_eq_true rfl) (Nat.le_of_ble_eq_true rfl) ?_
  refine ev_putF p_S_15 rfl d_S_init_17 rfl (fun _ _ => ⟨rfl, rfl⟩) (Nat.le_of_ble_eq_true rfl) ?_
  exact ev_ret d_S_init_20 rfl (Nat.le_of_ble_eq_true rfl) (Nat.le_of_ble_eq_true rfl)
theorem sp_B_init1 : Sp M_B_init [.ref 13] [oA (.ref 1) (.ref 4) (.ref 7) (.ref 10) .null .null .null .null 0 0, oC 2 3 0, aI 32 i0, aI 8 i0, oC 5 6 0, aI 32 i0, aI 8 i0, oC 8 9 0, aI 32 i0, aI 8 i0, oS 11 12, aI 32 i0, aI 8 i0, .inr (1, [.null, .null, .null])] none [oA (.ref 1) (.ref 4) (.ref 7) (.ref 10) .null .null .null .null 0 0, oC 2 3 0, aI 32 i0, aI 8 i0, oC 5 6 0, aI 32 i0, aI 8 i0, oC 8 9 0, aI 32 i0, aI 8 i0, oS 11 12, aI 32 i0, aI 8 i0, oB 14 15 16, aI 32 i0, aI 261 i0, aL 125 l0] := by
  refine Sp.of (by decide) (Nat.le_of_ble_eq_true rfl) ?_
  refine ev_aload_n 0 d_B_init_0 rfl rfl ?_
  refine ev_objInit c_B_5 wO_im wO_code d_B_init_1 (Nat.le_of_ble_eq_true rfl) (Nat.le_of_ble_eq_true rfl) ?_
  refine ev_aload_n 0 d_B_init_4 rfl rfl ?_
  refine ev_bipush (v := 32) d_B_init_5 (by decide) ?_
  refine ev_newI (N := 32) d_B_init_7 (by decide) (by decide) (by decide) (Nat.le_of_ble_eq_true rfl) rfl rfl rfl (Nat.le_of_ble_eq_true rfl) (Nat.le_of_ble_eq_true rfl) ?_
  refine ev_putF p_B_11 rfl d_B_init_9 rfl (fun _ _ => ⟨rfl, rfl⟩) (Nat.le_of_ble_eq_true rfl) ?_
  refine ev_aload_n 0 d_B_init_12 rfl rfl ?_
  refine ev_sipush (v := 261) d_B_init_13 (by decide) ?_
  refine ev_newI (N := 261) d_B_init_16 (by decide) (by decide) (by decide) (Nat.le_of_ble_eq_true rfl) rfl rfl rfl (Nat.le_of_ble_eq_true rfl) (Nat.le_of_ble_eq_true rfl) ?_
  refine ev_putF p_B_15 rfl d_B_init_18 rfl (fun _ _ => ⟨rfl, rfl⟩) (Nat.le_of_ble_eq_true rfl) ?_
  refine ev_aload_n 0 d_B_init_21 rfl rfl ?_
  refine ev_bipush (v := 125) d_B_init_22 (by decide) ?_
  refine ev_newL (N := 125) d_B_init_24 (by decide) (by decide) (by decide) (Nat.le_of_ble_eq_true rfl) rfl rfl rfl (Nat.le_of_ble_eq_true rfl) (Nat.le_of_ble_eq_true rfl) ?_
  refine ev_putF p_B_18 rfl d_B_init_26 rfl (fun _ _ => ⟨rfl, rfl⟩) (Nat.le_of_ble_eq_true rfl) ?_
  exact ev_ret d_B_init_29 rfl (Nat.le_of_ble_eq_true rfl) (Nat.le_of_ble_eq_true rfl)
theorem sp_R_init1 : Sp M_R_init [.ref 17] [oA (.ref 1) (.ref 4) (.ref 7) (.ref 10) (.ref 13) .null .null .null 0 0, oC 2 3 0, aI 32 i0, aI 8 i0, oC 5 6 0, aI 32 i0, aI 8 i0, oC 8 9 0, aI 32 i0, aI 8 i0, oS 11 12, aI 32 i0, aI 8 i0, oB 14 15 16, aI 32 i0, aI 261 i0, aL 125 l0, .inr (0, [.null, .null, .null, .null, .null])] none [oA (.ref 1) (.ref 4) (.ref 7) (.ref 10) (.ref 13) .null .null .null 0 0, oC 2 3 0, aI 32 i0, aI 8 i0, oC 5 6 0, aI 32 i0, aI 8 i0, oC 8 9 0, aI 32 i0, aI 8 i0, oS 11 12, aI 32 i0, aI 8 i0, oB 14 15 16, aI 32 i0, aI 261 i0, aL 125 l0, oR 18 19 20 21 22, aI 33 i0, aI 33 i0, aI 64 i0, aI 64 i0, aL 2304 l0] := by
  refine Sp.of (by decide) (Nat.le_of_ble_eq_true rfl) ?_
  refine ev_aload_n 0 d_R_init_0 rfl rfl ?_
  refine ev_objInit c_R_5 wO_im wO_code d_R_init_1 (Nat.le_of_ble_eq_true rfl) (Nat.le_of_ble_eq_true rfl) ?_
  refine ev_aload_n 0 d_R_init_4 rfl rfl ?_
  refine ev_bipush (v := 33) d_R_init_5 (by decide) ?_
  refine ev_newI (N := 33) d_R_init_7 (by decide) (by decide) (by decide) (Nat.le_of_ble_eq_true rfl) rfl rfl rfl (Nat.le_of_ble_eq_true rfl) (Nat.le_of_ble_eq_true rfl) ?_
  refine ev_putF p_R_11 rfl d_R_init_9 rfl (fun _ _ => ⟨rfl, rfl⟩) (Nat.le_of_ble_eq_true rfl) ?_
  refine ev_aload_n 0 d_R_init_12 rfl rfl ?_
  refine ev_bipush (v := 33) d_R_init_13 (by decide) ?_
  refine ev_newI (N := 33) d_R_init_15 (by decide) (by decide) (by decide) (Nat.le_of_ble_eq_true rfl) rfl rfl rfl (Nat.le_of_ble_eq_true rfl) (Nat.le_of_ble_eq_true rfl) ?_
  refine ev_putF p_R_15 rfl d_R_init_17 rfl (fun _ _ => ⟨rfl, rfl⟩) (Nat.le_of_ble_eq_true rfl) ?_
  refine ev_aload_n 0 d_R_init_20 rfl rfl ?_
  refine ev_bipush (v := 64) d_R_init_21 (by decide) ?_
  refine ev_newI (N := 64) d_R_init_23 (by decide) (by decide) (by decide) (Nat.le_of_ble_eq_true rfl) rfl rfl rfl (Nat.le_of_ble_eq_true rfl) (Nat.le_of_ble_eq_true rfl) ?_
  refine ev_putF p_R_18 rfl d_R_init_25 rfl (fun _ _ => ⟨rfl, rfl⟩) (Nat.le_of_ble_eq_true rfl) ?_
  refine ev_aload_n 0 d_R_init_28 rfl rfl ?_
  refine ev_bipush (v := 64) d_R_init_29 (by decide) ?_
  refine ev_newI (N := 64) d_R_init_31 (by decide) (by decide) (by decide) (Nat.le_of_ble_eq_true rfl) rfl rfl rfl (Nat.le_of_ble_eq_true rfl) (Nat.le_of_ble_eq_true rfl) ?_
  refine ev_putF p_R_21 rfl d_R_init_33 rfl (fun _ _ => ⟨rfl, rfl⟩) (Nat.le_of_ble_eq_true rfl) ?_
  refine ev_aload_n 0 d_R_init_36 rfl rfl ?_
  refine ev_sipush (v := 2304) d_R_init_37 (by decide) ?_
  refine ev_newL (N := 2304) d_R_init_40 (by decide) (by decide) (by decide) (Nat.le_of_ble_eq_true rfl) rfl rfl rfl (Nat.le_of_ble_eq_true rfl) (Nat.le_of_ble_eq_true rfl) ?_
  refine ev_putF p_R_24 rfl d_R_init_42 rfl (fun _ _ => ⟨rfl, rfl⟩) (Nat.le_of_ble_eq_true rfl) ?_
  exact ev_ret d_R_init_45 rfl (Nat.le_of_ble_eq_true rfl) (Nat.le_of_ble_eq_true rfl)
theorem sp_A_init : Sp M_A_init [.ref 0] [oA .null .null .null .null .null .null .null .null 0 0] none (kC 0 i0 i0 0 i0 i0 0 i0 i0 i0 i0 i0 i0 l0 i0 i0 i0 i0 l0 i0 i0 0 1 []) := by
  refine Sp.of (by decide) (Nat.le_of_ble_eq_true rfl) ?_
  refine ev_aload_n 0 d_A_init_0 rfl rfl ?_
  refine ev_objInit c_A_1 wO_im wO_code d_A_init_1 (Nat.le_of_ble_eq_true rfl) (Nat.le_of_ble_eq_true rfl) ?_
  refine ev_aload_n 0 d_A_init_4 rfl rfl ?_
  refine ev_new n_A_7 d_A_init_5 rfl (Nat.le_of_ble_eq_true rfl) rfl rfl rfl (Nat.le_of_ble_eq_true rfl) (Nat.le_of_ble_eq_true rfl) ?_
  refine ev_dup d_A_init_8 rfl ?_
  refine ev_callIG M_C_init [] sp_C_init1 c_A_9 d_A_init_9 rfl ⟨⟨Nat.le_of_ble_eq_true rfl, Nat.le_of_ble_eq_true rfl⟩, Nat.le_of_ble_eq_true rfl, Nat.le_of_ble_eq_true rfl⟩ (Nat.le_of_ble_eq_true rfl) rfl rfl ?_
  refine ev_putF p_A_10 rfl d_A_init_12 rfl (fun _ _ => ⟨rfl, rfl⟩) (Nat.le_of_ble_eq_true rfl) ?_
  refine ev_aload_n 0 d_A_init_15 rfl rfl ?_
  refine ev_new n_A_7 d_A_init_16 rfl (Nat.le_of_ble_eq_true rfl) rfl rfl rfl (Nat.le_of_ble_eq_true rfl) (Nat.le_of_ble_eq_true rfl) ?_
  refine ev_dup d_A_init_19 rfl ?_
  refine ev_callIG M_C_init [] sp_C_init2 c_A_9 d_A_init_20 rfl ⟨⟨Nat.le_of_ble_eq_true rfl, Nat.le_of_ble_eq_true rfl⟩, Nat.le_of_ble_eq_true rfl, Nat.le_of_ble_eq_true rfl⟩ (Nat.le_of_ble_eq_true rfl) rfl rfl ?_
  refine ev_putF p_A_16 rfl d_A_init_23 rfl (fun _ _ => ⟨rfl, rfl⟩) (Nat.le_of_ble_eq_true rfl) ?_
  refine ev_aload_n 0 d_A_init_26 rfl rfl ?_
  refine ev_new n_A_7 d_A_init_27 rfl (Nat.le_of_ble_eq_true rfl) rfl rfl rfl (Nat.le_of_ble_eq_true rfl) (Nat.le_of_ble_eq_true rfl) ?_
  refine ev_dup d_A_init_30 rfl ?_
  refine ev_callIG M_C_init [] sp_C_init3 c_A_9 d_A_init_31 rfl ⟨⟨Nat.le_of_ble_eq_true rfl, Nat.le_of_ble_eq_true rfl⟩, Nat.le_of_ble_eq_true rfl, Nat.le_of_ble_eq_true rfl⟩ (Nat.le_of_ble_eq_true rfl) rfl rfl ?_
  refine ev_putF p_A_19 rfl d_A_init_34 rfl (fun _ _ => ⟨rfl, rfl⟩) (Nat.le_of_ble_eq_true rfl) ?_
  refine ev_aload_n 0 d_A_init_37 rfl rfl ?_
  refine ev_new n_A_22 d_A_init_38 rfl (Nat.le_of_ble_eq_true rfl) rfl rfl rfl (Nat.le_of_ble_eq_true rfl) (Nat.le_of_ble_eq_true rfl) ?_
  refine ev_dup d_A_init_41 rfl ?_
  refine ev_callIG M_S_init [] sp_S_init1 c_A_24 d_A_init_42 rfl ⟨⟨Nat.le_of_ble_eq_true rfl, Nat.le_of_ble_eq_true rfl⟩, Nat.le_of_ble_eq_true rfl, Nat.le_of_ble_eq_true rfl⟩ (Nat.le_of_ble_eq_true rfl) rfl rfl ?_
  refine ev_putF p_A_25 rfl d_A_init_45 rfl (fun _ _ => ⟨rfl, rfl⟩) (Nat.le_of_ble_eq_true rfl) ?_
  refine ev_aload_n 0 d_A_init_48 rfl rfl ?_
  refine ev_new n_A_29 d_A_init_49 rfl (Nat.le_of_ble_eq_true rfl) rfl rfl rfl (Nat.le_of_ble_eq_true rfl) (Nat.le_of_ble_eq_true rfl) ?_
  refine ev_dup d_A_init_52 rfl ?_
  refine ev_callIG M_B_init [] sp_B_init1 c_A_31 d_A_init_53 rfl ⟨⟨Nat.le_of_ble_eq_true rfl, Nat.le_of_ble_eq_true rfl⟩, Nat.le_of_ble_eq_true rfl, Nat.le_of_ble_eq_true rfl⟩ (Nat.le_of_ble_eq_true rfl) rfl rfl ?_
  refine ev_putF p_A_32 rfl d_A_init_56 rfl (fun _ _ => ⟨rfl, rfl⟩) (Nat.le_of_ble_eq_true rfl) ?_
  refine ev_aload_n 0 d_A_init_59 rfl rfl ?_
  refine ev_new n_A_36 d_A_init_60 rfl (Nat.le_of_ble_eq_true rfl) rfl rfl rfl (Nat.le_of_ble_eq_true rfl) (Nat.le_of_ble_eq_true rfl) ?_
  refine ev_dup d_A_init_63 rfl ?_
  refine ev_callIG M_R_init [] sp_R_init1 c_A_38 d_A_init_64 rfl ⟨⟨Nat.le_of_ble_eq_true rfl, Nat.le_of_ble_eq_true rfl⟩, Nat.le_of_ble_eq_true rfl, Nat.le_of_ble_eq_true rfl⟩ (Nat.le_of_ble_eq_true rfl) rfl rfl ?_
  refine ev_putF p_A_39 rfl d_A_init_67 rfl (fun _ _ => ⟨rfl, rfl⟩) (Nat.le_of_ble_eq_true rfl) ?_
  refine ev_aload_n 0 d_A_init_70 rfl rfl ?_
  refine ev_bipush (v := 8) d_A_init_71 (by decide) ?_
  refine ev_newI (N := 8) d_A_init_73 (by decide) (by decide) (by decide) (Nat.le_of_ble_eq_true rfl) rfl rfl rfl (Nat.le_of_ble_eq_true rfl) (Nat.le_of_ble_eq_true rfl) ?_
  refine ev_putF p_A_43 rfl d_A_init_75 rfl (fun _ _ => ⟨rfl, rfl⟩) (Nat.le_of_ble_eq_true rfl) ?_
  refine ev_aload_n 0 d_A_init_78 rfl rfl ?_
  refine ev_iconst (v := 5) d_A_init_79 (by decide) ?_
  refine ev_newI (N := 5) d_A_init_80 (by decide) (by decide) (by decide) (Nat.le_of_ble_eq_true rfl) rfl rfl rfl (Nat.le_of_ble_eq_true rfl) (Nat.le_of_ble_eq_true rfl) ?_
  refine ev_putF p_A_47 rfl d_A_init_82 rfl (fun _ _ => ⟨rfl, rfl⟩) (Nat.le_of_ble_eq_true rfl) ?_
  refine ev_aload_n 0 d_A_init_85 rfl rfl ?_
  refine ev_iconst (v := 0) d_A_init_86 (by decide) ?_
  refine ev_put p_A_50 d_A_init_87 rfl (fun _ _ => ⟨rfl, rfl⟩) (Nat.le_of_ble_eq_true rfl) ?_
  refine ev_aload_n 0 d_A_init_90 rfl rfl ?_
  refine ev_iconst (v := 1) d_A_init_91 (by decide) ?_
  refine ev_put p_A_54 d_A_init_92 rfl (fun _ _ => ⟨rfl, rfl⟩) (Nat.le_of_ble_eq_true rfl) ?_
  exact ev_ret d_A_init_95 rfl (Nat.le_of_ble_eq_true rfl) (Nat.le_of_ble_eq_true rfl)
theorem sp_M_init : Sp M_M_init [.ref 25] (kC 0 i0 i0 0 i0 i0 0 i0 i0 i0 i0 i0 i0 l0 i0 i0 i0 i0 l0 i0 i0 0 1 [.inr (5, [.null, .null, .int 0, .int 0, .int 0, .null, .int 0, .int 0, .int 0, .null, .null, .null, .null, .null, .int 0, .null, .null, .null, .null])]) none (kC 0 i0 i0 0 i0 i0 0 i0 i0 i0 i0 i0 i0 l0 i0 i0 i0 i0 l0 i0 i0 0 1 (mT i0 i0 0 0 1 i0 0 0 0 i0 l0 l0 l0 i0 0 i0 i0 l0 i0)) := by
  refine Sp.of (by decide) (Nat.le_of_ble_eq_true rfl) ?_
  refine ev_aload_n 0 d_M_init_0 rfl rfl ?_
  refine ev_objInit c_M_1 wO_im wO_code d_M_init_1 (Nat.le_of_ble_eq_true rfl) (Nat.le_of_ble_eq_true rfl) ?_
  refine ev_aload_n 0 d_M_init_4 rfl rfl ?_
  refine ev_bipush (v := 64) d_M_init_5 (by decide) ?_
  refine ev_newI (N := 64) d_M_init_7 (by decide) (by decide) (by decide) (Nat.le_of_ble_eq_true rfl) rfl rfl rfl (Nat.le_of_ble_eq_true rfl) (Nat.le_of_ble_eq_true rfl) ?_
  refine ev_putF p_M_7 rfl d_M_init_9 rfl (fun _ _ => ⟨rfl, rfl⟩) (Nat.le_of_ble_eq_true rfl) ?_
  refine ev_aload_n 0 d_M_init_12 rfl rfl ?_
  refine ev_bipush (v := 16) d_M_init_13 (by decide) ?_
  refine ev_newZ (N := 16) d_M_init_15 (by decide) (by decide) (by decide) (Nat.le_of_ble_eq_true rfl) rfl rfl rfl (Nat.le_of_ble_eq_true rfl) (Nat.le_of_ble_eq_true rfl) ?_
  refine ev_putF p_M_13 rfl d_M_init_17 rfl (fun _ _ => ⟨rfl, rfl⟩) (Nat.le_of_ble_eq_true rfl) ?_
  refine ev_aload_n 0 d_M_init_20 rfl rfl ?_
  refine ev_iconst (v := 1) d_M_init_21 (by decide) ?_
  refine ev_put p_M_17 d_M_init_22 rfl (fun _ _ => ⟨rfl, rfl⟩) (Nat.le_of_ble_eq_true rfl) ?_
  refine ev_aload_n 0 d_M_init_25 rfl rfl ?_
  refine ev_bipush (v := 8) d_M_init_26 (by decide) ?_
  refine ev_newI (N := 8) d_M_init_28 (by decide) (by decide) (by decide) (Nat.le_of_ble_eq_true rfl) rfl rfl rfl (Nat.le_of_ble_eq_true rfl) (Nat.le_of_ble_eq_true rfl) ?_
  refine ev_putF p_M_21 rfl d_M_init_30 rfl (fun _ _ => ⟨rfl, rfl⟩) (Nat.le_of_ble_eq_true rfl) ?_
  refine ev_aload_n 0 d_M_init_33 rfl rfl ?_
  refine ev_bipush (v := 64) d_M_init_34 (by decide) ?_
  refine ev_newZ (N := 64) d_M_init_36 (by decide) (by decide) (by decide) (Nat.le_of_ble_eq_true rfl) rfl rfl rfl (Nat.le_of_ble_eq_true rfl) (Nat.le_of_ble_eq_true rfl) ?_
  refine ev_putF p_M_24 rfl d_M_init_38 rfl (fun _ _ => ⟨rfl, rfl⟩) (Nat.le_of_ble_eq_true rfl) ?_
  refine ev_aload_n 0 d_M_init_41 rfl rfl ?_
  refine ev_sipush (v := 257) d_M_init_42 (by decide) ?_
  refine ev_newL (N := 257) d_M_init_45 (by decide) (by decide) (by decide) (Nat.le_of_ble_eq_true rfl) rfl rfl rfl (Nat.le_of_ble_eq_true rfl) (Nat.le_of_ble_eq_true rfl) ?_
  refine ev_putF p_M_27 rfl d_M_init_47 rfl (fun _ _ => ⟨rfl, rfl⟩) (Nat.le_of_ble_eq_true rfl) ?_
  refine ev_aload_n 0 d_M_init_50 rfl rfl ?_
  refine ev_sipush (v := 257) d_M_init_51 (by decide) ?_
  refine ev_newL (N := 257) d_M_init_54 (by decide) (by decide) (by decide) (Nat.le_of_ble_eq_true rfl) rfl rfl rfl (Nat.le_of_ble_eq_true rfl) (Nat.le_of_ble_eq_true rfl) ?_
  refine ev_putF p_M_31 rfl d_M_init_56 rfl (fun _ _ => ⟨rfl, rfl⟩) (Nat.le_of_ble_eq_true rfl) ?_
  refine ev_aload_n 0 d_M_init_59 rfl rfl ?_
  refine ev_sipush (v := 257) d_M_init_60 (by decide) ?_
  refine ev_newL (N := 257) d_M_init_63 (by decide) (by decide) (by decide) (Nat.le_of_ble_eq_true rfl) rfl rfl rfl (Nat.le_of_ble_eq_true rfl) (Nat.le_of_ble_eq_true rfl) ?_
  refine ev_putF p_M_34 rfl d_M_init_65 rfl (fun _ _ => ⟨rfl, rfl⟩) (Nat.le_of_ble_eq_true rfl) ?_
  refine ev_aload_n 0 d_M_init_68 rfl rfl ?_
  refine ev_bipush (v := 33) d_M_init_69 (by decide) ?_
  refine ev_newI (N := 33) d_M_init_71 (by decide) (by decide) (by decide) (Nat.le_of_ble_eq_true rfl) rfl rfl rfl (Nat.le_of_ble_eq_true rfl) (Nat.le_of_ble_eq_true rfl) ?_
  refine ev_putF p_M_37 rfl d_M_init_73 rfl (fun _ _ => ⟨rfl, rfl⟩) (Nat.le_of_ble_eq_true rfl) ?_
  refine ev_aload_n 0 d_M_init_76 rfl rfl ?_
  refine ev_bipush (v := 64) d_M_init_77 (by decide) ?_
  refine ev_newI (N := 64) d_M_init_79 (by decide) (by decide) (by decide) (Nat.le_of_ble_eq_true rfl) rfl rfl rfl (Nat.le_of_ble_eq_true rfl) (Nat.le_of_ble_eq_true rfl) ?_
  refine ev_putF p_M_40 rfl d_M_init_81 rfl (fun _ _ => ⟨rfl, rfl⟩) (Nat.le_of_ble_eq_true rfl) ?_
  refine ev_aload_n 0 d_M_init_84 rfl rfl ?_
  refine ev_bipush (v := 64) d_M_init_85 (by decide) ?_
  refine ev_newI (N := 64) d_M_init_87 (by decide) (by decide) (by decide) (Nat.le_of_ble_eq_true rfl) rfl rfl rfl (Nat.le_of_ble_eq_true rfl) (Nat.le_of_ble_eq_true rfl) ?_
  refine ev_putF p_M_43 rfl d_M_init_89 rfl (fun _ _ => ⟨rfl, rfl⟩) (Nat.le_of_ble_eq_true rfl) ?_
  refine ev_aload_n 0 d_M_init_92 rfl rfl ?_
  refine ev_sipush (v := 2560) d_M_init_93 (by decide) ?_
  refine ev_newL (N := 2560) d_M_init_96 (by decide) (by decide) (by decide) (Nat.le_of_ble_eq_true rfl) rfl rfl rfl (Nat.le_of_ble_eq_true rfl) (Nat.le_of_ble_eq_true rfl) ?_
  refine ev_putF p_M_46 rfl d_M_init_98 rfl (fun _ _ => ⟨rfl, rfl⟩) (Nat.le_of_ble_eq_true rfl) ?_
  refine ev_aload_n 0 d_M_init_101 rfl rfl ?_
  refine ev_bipush (v := 32) d_M_init_102 (by decide) ?_
  refine ev_newI (N := 32) d_M_init_104 (by decide) (by decide) (by decide) (Nat.le_of_ble_eq_true rfl) rfl rfl rfl (Nat.le_of_ble_eq_true rfl) (Nat.le_of_ble_eq_true rfl) ?_
  refine ev_putF p_M_49 rfl d_M_init_106 rfl (fun _ _ => ⟨rfl, rfl⟩) (Nat.le_of_ble_eq_true rfl) ?_
  exact ev_ret d_M_init_109 rfl (Nat.le_of_ble_eq_true rfl) (Nat.le_of_ble_eq_true rfl)
