theorem lp_ag {f me : Nat → Int32} {n x : Nat} (hx : x < n) (h : agE (4 * n) f me) : ∀ k j, j + k = 4 → lpE f (4 * x + j) k = (fiF (uwB me x) j k).map (fun t => 4 * x + t) := by
  intro k
  induction k with
  | zero => intro j _; rfl
  | succ k ih =>
    intro j hj
    rw [lpE, fiF]
    have e1 : tur (4 * x + j) 1 = 4 * x + (j + 1) % 4 := by unfold tur; omega
    have e2 : uwB me x j = decide (f (4 * x + j) = f (4 * x + (j + 1) % 4)) := by
      unfold uwB
      rw [h (4 * x + j) (by omega), h (4 * x + (j + 1) % 4) (by omega)]
    rw [e1, e2]
    by_cases hc : f (4 * x + j) = f (4 * x + (j + 1) % 4)
    · rw [if_pos hc, if_pos (decide_eq_true hc)]
      rfl
    · rw [if_neg hc, if_neg (by simp [hc])]
      exact ih (j + 1) (by omega)
theorem joM_far {me mp : Nat → Int32} {n cc t : Nat} (p q : Int32) (ht : 4 * n ≤ t) : (joM n mp p q (me, cc)).1 t = me t := by
  unfold joM
  by_cases e : p = q
  · rw [if_pos e]
  · rw [if_neg e]
    exact inA_far p q ht
theorem st_untwist : ∀ w, Inv w → ∀ (a : Int32), zOpI M_A_untwist M_M_untwist [.int a] Inv w := by
  rintro w ⟨nd, fd, gd, n, f, g, nf, ff, gf, s, q, oe, t, m, l, u, c0, ln, mi, wd, pl, lt, cc, me, mp, mw, mv, my, mt, ms, mq, mh, ma, mz, mk, mn, mr, mx, rfl, hd, hg, hw, hu⟩ a
  have hn := hg.1.1
  by_cases h : ¬ a < 0 ∧ a < nI n
  · obtain ⟨x, hx, rfl⟩ := nI_of h.1
    have hx' : x < n := (nI_ltI (by omega) (by omega)).mp h.2
    have la := lp_ag hx' hg.2.1 4 0 rfl
    cases hf : fiF (uwB me x) 0 4 with
    | none =>
      rw [hf] at la
      exact opI (fun T => sp_A_untwist_no hn (Or.inr ⟨x, hx', rfl, la⟩)) (fun X => sp_M_untwist_none hx' hn hf) (Inv.of hd hg hw hu)
    | some k =>
      rw [hf] at la
      have hl := lpE_s 4 (4 * x) _ la
      have hk : k < 4 := by have := hl.1; simp at this; omega
      cases n with
      | zero => omega
      | succ n =>
        have e4 : (4 * x + k) / 4 = x := by omega
        have D := untwist_Dia hg.1 (e := 4 * x + k) (by omega) hl.2
        rw [e4] at D
        have eP : uwP me mp x k = utI f g (4 * x + k) := by
          unfold uwP utI
          rw [inM_cin (g := g) (hg.2.2 _ (by omega)), show tur (4 * x + k) 2 = 4 * x + (k + 2) % 4 by unfold tur; omega, show tur (4 * x + k) 3 = 4 * x + (k + 3) % 4 by unfold tur; omega, hg.2.1 (4 * x + (k + 2) % 4) (by omega), hg.2.1 (4 * x + (k + 3) % 4) (by omega)]
          by_cases z : cin g (4 * x + (k + 2) % 4) = true
          · rw [if_pos z, if_pos z]
          · rw [if_neg z, if_neg z]
        have eQ : uwQ me mp x k = utO f g (4 * x + k) := by
          unfold uwQ utO
          rw [inM_cin (g := g) (hg.2.2 _ (by omega)), show tur (4 * x + k) 2 = 4 * x + (k + 2) % 4 by unfold tur; omega, show tur (4 * x + k) 3 = 4 * x + (k + 3) % 4 by unfold tur; omega, hg.2.1 (4 * x + (k + 2) % 4) (by omega), hg.2.1 (4 * x + (k + 3) % 4) (by omega)]
          by_cases z : cin g (4 * x + (k + 2) % 4) = true
          · rw [if_pos z, if_pos z]
          · rw [if_neg z, if_neg z]
        have tE' := tE_ag hn hx' hg.2.1
        have tP' := tP_ag hn hx' hg.2.2
        rw [Nat.add_sub_cancel] at D tE' tP'
        have jo := jo_ag (cc := cc) tE' tP' (utI f g (4 * x + k)) (utO f g (4 * x + k))
        have sA := fun T => sp_A_untwist (nd := nd) (fd := fd) (gd := gd) (n := n + 1) (f := f) (g := g) (nf := nf) (ff := ff) (gf := gf) (s := s) (q := q) (oe := oe) (t := t) (m := m) (l := l) (u := u) (c := c0) (ln := ln) (mi := mi) (wd := wd) (pl := pl) (lt := lt) (cc := cc) (T := T) hx' hn la
        have sM := fun X => sp_M_untwist (X := X) (me := me) (mp := mp) (mc := n) (md := nd) (mo := cc) (mw := mw) (ml := lt) (mv := mv) (my := my) (mt := mt) (ms := ms) (mq := mq) (mh := mh) (ma := ma) (mz := mz) (mk := mk) (mn := mn) (mr := mr) (mx := mx) hx' (by omega) hf
        rw [Nat.add_sub_cancel] at sA
        rw [eP, eQ, jo.2.1] at sM
        refine opI sA sM (Inv.of (hd.keep (fun i hi => ?_) (fun y _ => ?_)) ⟨D, jo.1, tP'⟩ hw hu)
        · rw [joM_far _ _ (by omega), tE_at me (by omega), if_neg (by omega)]
        · rw [tP_at mp (by omega), if_neg (by omega)]
  · exact opI (fun T => sp_A_untwist_no hn (Or.inl h)) (fun X => sp_M_untwist_no hn h) (Inv.of hd hg hw hu)
