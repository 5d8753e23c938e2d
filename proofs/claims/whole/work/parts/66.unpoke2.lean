theorem be_ag {f g me mp : Nat → Int32} {n h : Nat} (ho : Ot f g n (oth f n)) (h1 : agE (4 * n) f me) (h2 : agP n g mp) (hh : h < 4 * n) : beM me mp (oth f n) h true = paP f g n h ∧ beM me mp (oth f n) h false = paQ f g n h := by
  have hin := inM_cin (g := g) (h2 (h / 4) (by omega))
  have o1 := (ho h hh).1
  unfold beM paP paQ outg inc
  rw [hin]
  cases hc : cin g h with
  | true =>
    show me (opM (oth f n h)) = f (opp (oth f n h)) ∧ me (opM h) = f (opp h)
    rw [opM_opp, opM_opp]
    exact ⟨h1 _ (opp_ltn o1), h1 _ (opp_ltn hh)⟩
  | false =>
    show me (opM h) = f (opp h) ∧ me (opM (oth f n h)) = f (opp (oth f n h))
    rw [opM_opp, opM_opp]
    exact ⟨h1 _ (opp_ltn hh), h1 _ (opp_ltn o1)⟩
theorem pu_ag {f g me mp : Nat → Int32} {n cc x y one two : Nat} (hn : n + 2 ≤ 8) (ho : Ot f g (n + 2) (oth f (n + 2))) (h1 : agE (4 * (n + 2)) f me) (h2 : agP (n + 2) g mp) (hx : x < n + 2) (hy : y < n + 2) (hxy : x ≠ y) (l1 : one < 4 * (n + 2)) (l2 : two < 4 * (n + 2)) (e1 : one / 4 = x) (e2 : two / 4 = y) :
    (agE (4 * n) (paS f g (n + 2) cc one two).1 (puS me mp n cc (oth f (n + 2)) (puU one two) (puL one two) x y).1 ∧ agP n (rmS (rmS g (n + 2) (mxN (one / 4) (two / 4))) (n + 1) (mnN (one / 4) (two / 4))) (tP (tP mp (mxM x y)) (miM x y)) ∧ (puS me mp n cc (oth f (n + 2)) (puU one two) (puL one two) x y).2 = (paS f g (n + 2) cc one two).2) ∧ (∀ t, 32 ≤ t → (puS me mp n cc (oth f (n + 2)) (puU one two) (puL one two) x y).1 t = me t) ∧ ∀ t, 8 ≤ t → tP (tP mp (mxM x y)) (miM x y) t = mp t := by
  have hU : puU one two < 4 * (n + 2) := by unfold puU; split <;> omega
  have hL : puL one two < 4 * (n + 2) := by unfold puL; split <;> omega
  have bU := be_ag ho h1 h2 hU
  have bL := be_ag ho h1 h2 hL
  unfold paS puS
  rw [bU.1, bU.2, bL.1, bL.2, e1, e2]
  have hM : mxM x y = mxN x y := by unfold mxM mxN; split <;> split <;> omega
  have hm : miM x y = mnN x y := rfl
  rw [hM, hm]
  have k1 : mxN x y < n + 2 := by unfold mxN; split <;> omega
  have k2 : mnN x y < n + 1 := by unfold mnN; split <;> omega
  have A1 := tE_ag hn k1 h1
  have B1 := tP_ag hn k1 h2
  rw [show n + 2 - 1 = n + 1 by omega] at A1 B1
  have A2 := tE_ag (by omega) k2 A1
  have B2 := tP_ag (by omega) k2 B1
  rw [show n + 1 - 1 = n by omega] at A2 B2
  rw [show n + 2 - 2 = n by omega, show n + 2 - 1 = n + 1 by omega]
  have J1 := jo_ag (cc := cc) A2 B2 (paP f g (n + 2) (puU one two)) (paQ f g (n + 2) (puU one two))
  have eM : joM n (tP (tP mp (mxN x y)) (mnN x y)) (paP f g (n + 2) (puU one two)) (paQ f g (n + 2) (puU one two)) (tE (tE me (mxN x y)) (mnN x y), cc) = ((joM n (tP (tP mp (mxN x y)) (mnN x y)) (paP f g (n + 2) (puU one two)) (paQ f g (n + 2) (puU one two)) (tE (tE me (mxN x y)) (mnN x y), cc)).1, (joE n (rmS (rmS g (n + 2) (mxN x y)) (n + 1) (mnN x y)) (paP f g (n + 2) (puU one two)) (paQ f g (n + 2) (puU one two)) (rmE (rmE f (n + 2) (mxN x y)) (n + 1) (mnN x y), cc)).2) := by
    rw [← J1.2.1]
  rw [eM]
  have J2 := jo_ag (cc := (joE n (rmS (rmS g (n + 2) (mxN x y)) (n + 1) (mnN x y)) (paP f g (n + 2) (puU one two)) (paQ f g (n + 2) (puU one two)) (rmE (rmE f (n + 2) (mxN x y)) (n + 1) (mnN x y), cc)).2) J1.1 B2 (rj (paP f g (n + 2) (puU one two)) (paQ f g (n + 2) (puU one two)) (paP f g (n + 2) (puL one two))) (rj (paP f g (n + 2) (puU one two)) (paQ f g (n + 2) (puU one two)) (paQ f g (n + 2) (puL one two)))
  refine ⟨⟨J2.1, B2, J2.2.1⟩, fun t ht => ?_, fun t ht => ?_⟩
  · rw [J2.2.2 t (by omega), J1.2.2 t (by omega), tE_at _ (by omega), if_neg (by omega), tE_at _ (by omega), if_neg (by omega)]
  · rw [tP_at _ (by omega), if_neg (by omega), tP_at _ (by omega), if_neg (by omega)]
theorem st_unpoke : ∀ w, Inv w → ∀ (a : Int32) (b : Int32), zOpI M_A_unpoke M_M_unpoke [.int a, .int b] Inv w := by
  rintro w ⟨nd, fd, gd, n, f, g, nf, ff, gf, s, q, oe, t, m, l, u, c0, ln, mi, wd, pl, lt, cc, me, mp, mw, mv, my, mt, ms, mq, mh, ma, mz, mk, mn, mr, mx, rfl, hd, hg, hw, hu⟩ a b
  have hn := hg.1.1
  have ho := hg.1.ot
  have hwin := win_0 ho hg.2.1
  by_cases h : ¬ a = b ∧ (¬ a < 0 ∧ a < nI n) ∧ (¬ b < 0 ∧ b < nI n)
  · obtain ⟨h1, ⟨h2, h3⟩, h4, h5⟩ := h
    obtain ⟨x, hx, rfl⟩ := nI_of h2
    obtain ⟨y, hy, rfl⟩ := nI_of h4
    have hx' : x < n := (nI_ltI (by omega) (by omega)).mp h3
    have hy' : y < n := (nI_ltI (by omega) (by omega)).mp h5
    have hxy : x ≠ y := fun z => h1 (by rw [z])
    have hfc : fiF (upM (oth f n) y) (4 * x) 4 = fiF (fun e => pokB f n e y) (4 * x) 4 := fiF_congr 4 (4 * x) (fun t t1 t2 => pok_up ho (by omega))
    cases hf : fiF (fun e => pokB f n e y) (4 * x) 4 with
    | none => exact opI (fun T => sp_A_unpoke_none hx' hy' hxy hn hf) (fun X => sp_M_unpoke_none hn hwin hx' hy' hxy (by rw [hfc]; exact hf)) (Inv.of hd hg hw hu)
    | some e =>
      have hs := fiF_s 4 (4 * x) e hf
      have he4 : e / 4 = x := by have := hs.1; omega
      have he : e < 4 * n := by omega
      have hp := hs.2
      have D := unpoke_Dia hg.1 hx' hy' hxy he4 hp
      unfold pokB at hp
      simp only [Bool.and_eq_true, decide_eq_true_eq] at hp
      obtain ⟨⟨q1, q2⟩, q3⟩ := hp
      have hb : fol f n e < 4 * n := by have := (ho.pfol.2.1 e ⟨he, rfl⟩).1; exact this
      match n, hx', hy' with
      | n + 2, hx', hy' =>
        have q3' : e % 2 = oth f (n + 2) e % 2 := by
          have c1 : e % 2 = 0 ∨ e % 2 = 1 := by omega
          have c2 : oth f (n + 2) e % 2 = 0 ∨ oth f (n + 2) e % 2 = 1 := by omega
          rcases c1 with c1 | c1 <;> rcases c2 with c2 | c2 <;> rw [c1, c2] at q3 ⊢ <;> simp at q3
        have lv : lvM (oth f (n + 2)) e true = decide (e % 2 = 1) := by
          unfold lvM
          rw [← q3']
          simp
        have eu : (if lvM (oth f (n + 2)) e true = true then e else fM (oth f (n + 2)) e) = puU e (fol f (n + 2) e) := by
          unfold puU
          rw [lv, fM_fol]
          simp
        have el : (if lvM (oth f (n + 2)) e true = true then fM (oth f (n + 2)) e else e) = puL e (fol f (n + 2) e) := by
          unfold puL
          rw [lv, fM_fol]
          simp
        have P := pu_ag (cc := cc) hn ho hg.2.1 hg.2.2 hx' hy' hxy he hb he4 q1
        have sA := fun T => sp_A_unpoke (nd := nd) (fd := fd) (gd := gd) (n := n + 2) (f := f) (g := g) (nf := nf) (ff := ff) (gf := gf) (s := s) (q := q) (oe := oe) (t := t) (m := m) (l := l) (u := u) (c := c0) (ln := ln) (mi := mi) (wd := wd) (pl := pl) (lt := lt) (cc := cc) (T := T) hx' hy' hxy hn hf
        have sM := fun X => sp_M_unpoke (X := X) (me := me) (mp := mp) (mc := n) (md := nd) (mo := cc) (mw := mw) (ml := lt) (mv := mv) (my := my) (mt := mt) (ms := ms) (mq := mq) (mh := mh) (ma := ma) (mz := mz) (mk := mk) (mn := mn) (mr := mr) (mx := mx) (by omega) hwin hx' hy' hxy (hfc.trans hf)
        rw [eu, el, P.1.2.2] at sM
        rw [show n + 2 - 2 = n by omega, show n + 2 - 1 = n + 1 by omega] at sA D
        exact opI sA sM (Inv.of (hd.keep (fun i _ => P.2.1 _ (by omega)) (fun x _ => P.2.2 _ (by omega))) ⟨D, P.1.1, P.1.2.1⟩ hw hu)
      | 1, hx', hy' => omega
      | 0, hx', hy' => omega
  · exact opI (fun T => sp_A_unpoke_no h) (fun X => sp_M_unpoke_no h) (Inv.of hd hg hw hu)
