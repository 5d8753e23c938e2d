theorem Ot.par {f g : Nat → Int32} {n : Nat} {o : Nat → Nat} (h : Ot f g n o) : Par o (4 * n) := fun a ha => ⟨(h a ha).1, (h a ha).2.1, h.inv ha⟩
theorem opp_par (n : Nat) : Par opp (4 * n) := fun a ha => ⟨opp_ltn ha, opp_ne a, opp_opp a⟩
theorem thM_0 : thM 0 = opp := by
  funext h
  unfold thM opp
  rw [if_pos rfl]
  omega
theorem Ot.pfol {f g : Nat → Int32} {n : Nat} (h : Ot f g n (oth f n)) : Prm (fol f n) (fun t => t < 4 * n ∧ (fun _ : Nat => true) t = true) (4 * n) := by
  refine ⟨fun a ha => ha.1, fun a ha => ⟨?_, rfl⟩, fun a b ha hb e => ?_⟩
  · have := (h a ha.1).1
    show oth f n a / 4 * 4 + (oth f n a + 3) % 4 < 4 * n
    omega
  · have e2 : oth f n a / 4 * 4 + (oth f n a + 3) % 4 = oth f n b / 4 * 4 + (oth f n b + 3) % 4 := e
    have e3 : oth f n a = oth f n b := by omega
    rw [← h.inv ha.1, e3, h.inv hb.1]
theorem fM_shf {f : Nat → Int32} {n v e : Nat} (h4 : v % 4 = 0) : fM (shf v (oth f n)) (v + e) = v + fol f n e := by
  unfold fM shf
  rw [show v + e - v = e by omega]
  show _ = v + (oth f n e / 4 * 4 + (oth f n e + 3) % 4)
  split <;> omega
theorem fM_fol {f : Nat → Int32} {n e : Nat} : fM (oth f n) e = fol f n e := by
  have := fM_shf (f := f) (n := n) (v := 0) (e := e) rfl
  rw [shf_0, Nat.zero_add, Nat.zero_add] at this
  exact this
theorem Ot.pfM {f g : Nat → Int32} {n v : Nat} (h : Ot f g n (oth f n)) (h4 : v % 4 = 0) : Prm (fM (shf v (oth f n))) (fun t => v ≤ t ∧ t < v + 4 * n) (v + 4 * n) := by
  have p := h.pfol
  have e : ∀ t, v ≤ t → fM (shf v (oth f n)) t = v + fol f n (t - v) := fun t ht => by
    have := fM_shf (f := f) (n := n) (e := t - v) h4
    rw [show v + (t - v) = t by omega] at this
    exact this
  refine ⟨fun a ha => ha.2, fun a ha => ?_, fun a b ha hb q => ?_⟩
  · rw [e a ha.1]
    have := (p.2.1 (a - v) ⟨by omega, rfl⟩).1
    omega
  · rw [e a ha.1, e b hb.1] at q
    have := p.2.2 (a - v) (b - v) ⟨by omega, rfl⟩ ⟨by omega, rfl⟩ (by omega)
    omega
theorem faces_eq {f g : Nat → Int32} {n v : Nat} (hn : n ≤ 8) (h : Ot f g n (oth f n)) (h4 : v % 4 = 0) (hv : v ≤ 32) (s : Nat → Int32) : nI (fcN (faM (shf v (oth f n))) v (4 * n) 0) = (fN f n s).1 := by
  obtain ⟨L, h1, h2⟩ := fcs_all (by omega) h.pfol s
  obtain ⟨L', k1, k2⟩ := fcN_reps (h.pfM h4) (by omega)
  have e1 : fcN (faM (shf v (oth f n))) v (4 * n) 0 = L'.length := k1
  have e2 : (fN f n s).1 = nI L.length := h1
  rw [e1, e2]
  congr 1
  apply Nat.le_antisymm
  · refine k2.le h2 (fun b a => a = b - v) (fun b hb => ⟨b - v, ⟨by omega, rfl⟩, rfl⟩) ?_
    rintro b b' a a' hb hb' rfl rfl hg
    have m := Gen.map (K := step (fM (shf v (oth f n))) (fun t => v ≤ t ∧ t < v + 4 * n)) (fun x => v + x) (fun x y hxy => ?_) hg
    · simp only [show v + (b - v) = b by omega, show v + (b' - v) = b' by omega] at m
      exact m
    · obtain ⟨hx, rfl⟩ := hxy
      have := hx.1
      exact Gen.one ⟨by omega, (fM_shf h4).symm⟩
  · refine h2.le k2 (fun a b => b = v + a) (fun a ha => ⟨v + a, by have := ha.1; omega, rfl⟩) ?_
    rintro a a' b b' ha ha' rfl rfl hg
    have m := Gen.map (K := step (fol f n) (fun t => t < 4 * n ∧ (fun _ : Nat => true) t = true)) (fun x => x - v) (fun x y hxy => ?_) hg
    · have m' : Gen (step (fol f n) (fun t => t < 4 * n ∧ (fun _ : Nat => true) t = true)) (v + a - v) (v + a' - v) := m
      rw [show v + a - v = a by omega, show v + a' - v = a' by omega] at m'
      exact m'
    · obtain ⟨hx, rfl⟩ := hxy
      refine Gen.one ⟨⟨by omega, rfl⟩, ?_⟩
      have := fM_shf (f := f) (n := n) (e := x - v) h4
      rw [show v + (x - v) = x by omega] at this
      show fM (shf v (oth f n)) x - v = _
      rw [this]
      omega
theorem faces_rch {f g : Nat → Int32} {n v : Nat} (hn : n ≤ 8) (h : Ot f g n (oth f n)) (h4 : v % 4 = 0) (hv : v ≤ 32) : ∀ t, v ≤ t → t < v + 4 * n → rch (fM (shf v (oth f n))) t 64 (fM (shf v (oth f n)) t) := fun t h1 h2 => (fc_spec (h.pfM h4) (by omega) ⟨h1, h2⟩).2.2
theorem gS_clM {o τ : Nat → Nat} {N : Nat} (hN : N ≤ 32) (ho : Par o N) (ht : Par τ N) (mt : Nat → Int32) : ∃ L', (gS o τ 0 N (fun t => decide (¬ clM mt t = 0)) 0).1 = L'.length ∧ Reps (Gen (step2 o τ N)) (fun t => t < N) L' := by
  refine gS_reps hN ho ht N 0 _ [] (by omega) (fun a ha => by cases ha) List.Pairwise.nil (fun j hj => by omega) (fun t htN => ?_)
  unfold clM
  rw [if_pos (by omega)]
  exact ⟨fun h => by simp at h, fun ⟨a, ha, _⟩ => by cases ha⟩
theorem strands_eq {f g : Nat → Int32} {n : Nat} (hn : n ≤ 8) (h : Ot f g n (oth f n)) (s mt : Nat → Int32) : ∃ R, rds (oth f n) 0 33 0 (4 * n) (clM mt) 0 = some R ∧ nI R.1 = (sN f g n s).1 := by
  obtain ⟨R, r1, r2⟩ := rds_g (o := oth f n) (way := 0) (N := 4 * n) (by omega) h.par (by rw [thM_0]; exact fun a ha => opp_ltn ha) (4 * n) 0 (clM mt) 0 (by omega)
  refine ⟨R, r1, ?_⟩
  rw [thM_0] at r2
  obtain ⟨L', k1, k2⟩ := gS_clM (by omega) h.par (opp_par n) mt
  have hsig : ∀ a, a < 4 * n → cin g a = true → oth f n (opp a) < 4 * n ∧ cin g (oth f n (opp a)) = true := fun a ha hc => by
    have := h (opp a) (opp_ltn ha)
    exact ⟨this.1, by rw [this.2.2.2.1, cin_opp, hc]; rfl⟩
  have P : Prm (fun e => oth f n (opp e)) (fun t => t < 4 * n ∧ cin g t = true) (4 * n) := by
    refine ⟨fun a ha => ha.1, fun a ha => hsig a ha.1 ha.2, fun a b ha hb e => ?_⟩
    have e2 : opp a = opp b := by
      rw [← h.inv (opp_ltn ha.1), ← h.inv (opp_ltn hb.1)]
      exact congrArg (oth f n) e
    exact opp_inj e2
  obtain ⟨L, h1, h2⟩ := fcs_all (by omega) P s
  have e2 : (sN f g n s).1 = nI L.length := h1
  rw [r2, k1, e2]
  congr 1
  have up : ∀ x y, Gen (step (fun e => oth f n (opp e)) (fun t => t < 4 * n ∧ cin g t = true)) x y → Gen (step2 (oth f n) opp (4 * n)) x y := fun x y hg => by
    refine Gen.mono (fun a b hab => ?_) hg
    obtain ⟨ha, rfl⟩ := hab
    exact (Gen.one ⟨ha.1, Or.inr rfl⟩ : Gen (step2 (oth f n) opp (4 * n)) a (opp a)).tr (Gen.one ⟨opp_ltn ha.1, Or.inl rfl⟩)
  have hin : ∀ b, b < 4 * n → (if cin g b = true then b else oth f n b) < 4 * n ∧ cin g (if cin g b = true then b else oth f n b) = true ∧ Gen (step2 (oth f n) opp (4 * n)) b (if cin g b = true then b else oth f n b) := fun b hb => by
    by_cases hc : cin g b = true
    · rw [if_pos hc]; exact ⟨hb, hc, Gen.rf b⟩
    · rw [if_neg hc]
      have := h b hb
      exact ⟨this.1, by rw [this.2.2.2.1]; cases q : cin g b with | false => rfl | true => exact absurd q hc, Gen.one ⟨hb, Or.inl rfl⟩⟩
  apply Nat.le_antisymm
  · refine k2.le h2 (fun b a => a = if cin g b = true then b else oth f n b) (fun b hb => ⟨_, ⟨(hin b hb).1, (hin b hb).2.1⟩, rfl⟩) ?_
    rintro b b' a a' hb hb' rfl rfl hg
    exact (hin b hb).2.2.tr ((up _ _ hg).tr (hin b' hb').2.2.sm)
  · refine h2.le k2 (fun a b => b = a) (fun a ha => ⟨a, ha.1, rfl⟩) ?_
    rintro a a' b b' ha ha' rfl rfl hg
    have m := Gen.map (K := step (fun e => oth f n (opp e)) (fun t => t < 4 * n ∧ cin g t = true)) (fun b => if cin g b = true then b else oth f n b) (fun x y hxy => ?_) hg
    · simp only [ha.2, ha'.2, if_true] at m
      exact m
    · obtain ⟨hx, rfl | rfl⟩ := hxy
      · have ho := h x hx
        show Gen _ (if cin g x = true then x else oth f n x) (if cin g (oth f n x) = true then oth f n x else oth f n (oth f n x))
        rw [ho.2.2.2.1, h.inv hx]
        cases cin g x <;> exact Gen.rf _
      · show Gen _ (if cin g x = true then x else oth f n x) (if cin g (opp x) = true then opp x else oth f n (opp x))
        rw [cin_opp]
        cases hc : cin g x with
        | true => exact Gen.one ⟨⟨hx, hc⟩, rfl⟩
        | false =>
          show Gen _ (oth f n x) (opp x)
          refine Gen.sm (Gen.one ⟨⟨opp_ltn hx, by rw [cin_opp, hc]; rfl⟩, ?_⟩)
          show oth f n x = oth f n (opp (opp x))
          rw [opp_opp]
theorem piecesB {f g : Nat → Int32} {n v : Nat} (hn : n ≤ 8) (h : Ot f g n (oth f n)) (h4 : v % 4 = 0) (hv : v ≤ 32) (q mt : Nat → Int32) : ∃ R, pcM (shf v (oth f n)) v n 65 (v / 4) n (clM mt) 0 = some R ∧ nI R.1 = (pN f n q).1 := by
  have ho : ∀ e, e < 4 * n → oth f n e < 4 * n := fun e he => (h e he).1
  obtain ⟨L, h1, h2⟩ := pcs_all hn ho q
  obtain ⟨R, L', k1, k2, k3⟩ := pcM_all (o := shf v (oth f n)) (v := v) (y := n) (by omega) h4 (fun e a b => by
    have := h (e - v) (by omega)
    unfold shf
    refine ⟨by omega, by omega, ?_⟩
    rw [show v + oth f n (e - v) - v = oth f n (e - v) by omega, h.inv (by omega)]
    omega) mt
  refine ⟨R, k1, ?_⟩
  have e1 : (pN f n q).1 = nI L.length := h1
  rw [k2, e1, pieces_eq h4 ho h2 k3]
theorem Dia.ot {f g : Nat → Int32} {n cc : Nat} (h : Dia f g n cc) : Ot f g n (oth f n) := h.fit.ot
theorem Int32_cases {x : Int32} {k : Nat} (h1 : ¬ x.toInt < 0) (h2 : ¬ (k : Int) < x.toInt) (hk : k < 100) : ∃ j, j ≤ k ∧ x = nI j := by
  refine ⟨x.toInt.toNat, by omega, ?_⟩
  apply Int32.toInt_inj.mp
  rw [show nI x.toInt.toNat = Int32.ofNat x.toInt.toNat from rfl, Int32.toInt_ofNat_of_lt (by omega)]
  omega
theorem st_count : ∀ w, Inv w → ∀ (a : Int32), zOpI M_A_count M_M_count [.int a] Inv w := by
  rintro w ⟨nd, fd, gd, n, f, g, nf, ff, gf, s, q, oe, t, m, l, u, c0, ln, mi, wd, pl, lt, cc, me, mp, mw, mv, my, mt, ms, mq, mh, ma, mz, mk, mn, mr, mx, rfl, hd, hg, hw, hu⟩ a
  have hn := hg.1.1
  have ho := hg.1.ot
  have hwin := win_0 ho hg.2.1
  by_cases h : a.toInt < 0 ∨ (5 : Int) < a.toInt
  · exact opI (fun T => sp_A_count_no h) (fun X => sp_M_count_no h) (Inv.of hd hg hw hu)
  · obtain ⟨k, hk, rfl⟩ := Int32_cases (k := 5) (fun q => h (Or.inl q)) (fun q => h (Or.inr q)) (by decide)
    match k, hk with
    | 0, _ => exact opI (fun T => sp_A_count0) (fun X => sp_M_count0) (Inv.of hd hg hw hu)
    | 1, _ => exact opI (fun T => sp_A_count1) (fun X => sp_M_count1) (Inv.of hd hg hw hu)
    | 2, _ =>
      obtain ⟨R, r1, r2⟩ := strands_eq hn ho s mt
      exact opIe (fun T => sp_A_count2 hn) (fun X => sp_M_count2 hn hwin r1) (by rw [r2]) (Inv.of hd hg hw hu)
    | 3, _ => exact opIe (fun T => sp_A_count3 hn) (fun X => sp_M_count3 hn) (wr_eq n 0 0 (fun x _ hx => ⟨hg.1.2.2.1 x (by omega), hg.2.2 x (by omega)⟩)) (Inv.of hd hg hw hu)
    | 4, _ =>
      have r := faces_rch (v := 0) hn ho rfl (by omega)
      have e := faces_eq (v := 0) hn ho rfl (by omega) s
      rw [shf_0] at r e
      exact opIe (fun T => sp_A_count4 hn) (fun X => sp_M_count4 hn hwin r) e (Inv.of hd hg hw hu)
    | 5, _ =>
      obtain ⟨R, r1, r2⟩ := piecesB (v := 0) hn ho rfl (by omega) q mt
      rw [shf_0] at r1
      exact opIe (fun T => sp_A_count5 hn) (fun X => sp_M_count5 hn hwin r1) r2 (Inv.of hd hg hw hu)
    | k + 6, hk => omega
