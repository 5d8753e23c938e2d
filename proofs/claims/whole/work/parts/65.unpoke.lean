theorem pas_rm2 {f g : Nat → Int32} {n M m : Nat} (hM : M < n) (hm : m < M) (a b : Int32) : pas (rmE (rmE f n M) (n - 1) m) (rmS (rmS g n M) (n - 1) m) (n - 1 - 1) a b ↔ ∃ h, h < 4 * n ∧ h / 4 ≠ M ∧ h / 4 ≠ m ∧ cin g h = true ∧ f h = a ∧ f (opp h) = b := by
  have ho : ∀ i, opp (if i < 4 * M then i else i + 4) = if opp i < 4 * M then opp i else opp i + 4 := fun i => by
    unfold opp
    by_cases h : i < 4 * M
    · rw [if_pos h, if_pos (by omega)]
    · rw [if_neg h, if_neg (by omega)]; omega
  rw [pas_rm (by omega)]
  constructor
  · rintro ⟨i, h1, h2, h3, h4, h5⟩
    rw [cin_rm g hM h1] at h3
    rw [rmE_at f hM h1] at h4
    rw [rmE_at f hM (opp_ltn h1), ← ho i] at h5
    exact ⟨_, by split <;> omega, by split <;> omega, by split <;> omega, h3, h4, h5⟩
  · rintro ⟨h, h1, h2, h2', h3, h4, h5⟩
    have e : (if (if h < 4 * M then h else h - 4) < 4 * M then (if h < 4 * M then h else h - 4) else (if h < 4 * M then h else h - 4) + 4) = h := by
      by_cases q : h < 4 * M
      · rw [if_pos q, if_pos q]
      · rw [if_neg q, if_neg (by omega)]; omega
    have hl : (if h < 4 * M then h else h - 4) < 4 * (n - 1) := by split <;> omega
    refine ⟨if h < 4 * M then h else h - 4, hl, by split <;> omega, ?_, ?_, ?_⟩
    · rw [cin_rm g hM hl, e]; exact h3
    · rw [rmE_at f hM hl, e]; exact h4
    · rw [rmE_at f hM (opp_ltn hl), ← ho, e]; exact h5
/-- two crossings go, and with them two edges between them, one over both and one under both -/
theorem pull_Dia {f g : Nat → Int32} {n cc : Nat} {F G : Nat → Int32} {p U q r D s : Int32} (hD : Dia f g n cc) (hn2 : 2 ≤ n) (hF : edg (4 * (n - 2)) F) (hG : sgOK (n - 2) G) (hI : inj2 F G (n - 2)) (hP : ∀ a b, pas F G (n - 2) a b ↔ pas f g n a b ∧ a ≠ p ∧ a ≠ U ∧ a ≠ r ∧ a ≠ D) (s1 : pas f g n p U) (s2 : pas f g n U q) (s3 : pas f g n r D) (s4 : pas f g n D s) (i1 : p ≠ U) (i2 : p ≠ r) (i3 : p ≠ D) (i4 : U ≠ r) (i5 : U ≠ D) (i6 : r ≠ D) (o1 : U ≠ q) (o3 : U ≠ s) (o4 : q ≠ D) (o5 : q ≠ s) (o6 : D ≠ s) : Dia (joE (n - 2) G (rj p q r) (rj p q s) (joE (n - 2) G p q (F, cc))).1 G (n - 2) (joE (n - 2) G (rj p q r) (rj p q s) (joE (n - 2) G p q (F, cc))).2 := by
  obtain ⟨h1, h2, h3, h4, h5, h6, h7⟩ := hD
  have hfn := inj2_fn h4
  have hlab := edg_lab (g := g) h2
  have ep : ∃ k, 1 ≤ k ∧ k ≤ 32 ∧ p = nI k := by
    obtain ⟨t, t1, t2, t3, t4⟩ := s1
    rw [← t3]; exact h2 t t1
  have er : ∃ k, 1 ≤ k ∧ k ≤ 32 ∧ r = nI k := by
    obtain ⟨t, t1, t2, t3, t4⟩ := s3
    rw [← t3]; exact h2 t t1
  have es : rj p q s = s := by unfold rj; rw [if_neg (fun z => o5 z.symm)]
  rw [es]
  by_cases e : p = q
  · have er' : rj p q r = r := by unfold rj; rw [if_neg (fun z => i2 (e.trans z.symm))]
    rw [er']
    have ej : joE (n - 2) G p q (F, cc) = (F, cc + 1) := by unfold joE; rw [if_pos e]
    rw [ej]
    have s2' : pas f g n U p := by rw [e]; exact s2
    exact join_Dia (S := cutS (pas f g n) p U) (l := D) (by omega) hF hG hI (fun a b => by
      rw [hP a b]
      unfold cutS
      exact ⟨fun ⟨k1, k2, k3, k4, k5⟩ => ⟨⟨k1, k2, k3⟩, k4, k5⟩, fun ⟨⟨k1, k2, k3⟩, k4, k5⟩ => ⟨k1, k2, k3, k4, k5⟩⟩) (bal_cut h5 hfn s1 s2') (fnS_cut hfn) (labS_cut hlab) (bas_cut h7 hlab s1 s2') ⟨s3, i2.symm, i4.symm⟩ ⟨s4, i3.symm, i5.symm⟩ i6.symm o6 er
  · have ej : joE (n - 2) G p q (F, cc) = (brA F G (n - 2) p q, cc) := by unfold joE; rw [if_neg e]
    rw [ej]
    have hq : ∃ c, pas f g n q c := (h5 q).mpr ⟨U, s2⟩
    have B1 := bal_del h5 hfn s1 s2 e o1 i1.symm
    have B2 := fnS_del (p := p) (l := U) (q := q) hfn
    have B3 := labS_del (q := q) hlab s1
    have B4 := bas_del h7 hlab hq s1 s2 e i1.symm
    by_cases e2 : r = q
    · have er' : rj p q r = p := by unfold rj; rw [if_pos e2]
      rw [er']
      have hno : ¬ ∃ c, pas F G (n - 2) q c := fun ⟨c, hc⟩ => ((hP q c).mp hc).2.2.2.1 e2.symm
      rw [brA_none hno]
      exact join_Dia (S := delS (pas f g n) p U q) (l := D) (by omega) hF hG hI (fun a b => by
        rw [hP a b]
        unfold cutS delS
        constructor
        · rintro ⟨k1, k2, k3, k4, k5⟩
          exact ⟨Or.inl ⟨k1, k2, k3, fun z => k4 (z.trans e2.symm)⟩, k2, k5⟩
        · rintro ⟨⟨k1, k2, k3, k4⟩ | ⟨k1, k2⟩, k5, k6⟩
          · exact ⟨k1, k2, k3, fun z => k4 (z.trans e2), k6⟩
          · exact absurd k1 k5) B1 B2 B3 B4 (Or.inr ⟨rfl, e2 ▸ s3⟩) (Or.inl ⟨s4, i3.symm, i5.symm, o4.symm⟩) i3.symm o6 ep
    · have er' : rj p q r = r := by unfold rj; rw [if_neg e2]
      rw [er']
      have hqF : ∀ c, pas F G (n - 2) q c ↔ pas f g n q c := fun c => by
        rw [hP q c]
        exact ⟨fun k => k.1, fun k => ⟨k, fun z => e z.symm, fun z => o1 z.symm, fun z => e2 z.symm, o4⟩⟩
      have hq2 : ∃ c, pas F G (n - 2) q c := by
        obtain ⟨c, hc⟩ := hq
        exact ⟨c, (hqF c).mpr hc⟩
      have np : ¬ ∃ y, pas F G (n - 2) p y := fun ⟨y, hy⟩ => ((hP p y).mp hy).2.1 rfl
      exact join_Dia (S := delS (pas f g n) p U q) (l := D) (by omega) (edg_br hF ep) hG (inj2_br hI np) (fun a b => by
        rw [pas_br hI hq2 p a b, hP a b, hqF b]
        unfold cutS delS
        constructor
        · rintro (⟨⟨k1, k2, k3, k4, k5⟩, k6⟩ | ⟨k1, k2⟩)
          · exact ⟨Or.inl ⟨k1, k2, k3, k6⟩, k4, k5⟩
          · exact ⟨Or.inr ⟨k1, k2⟩, fun z => i2 (k1.symm.trans z), fun z => i3 (k1.symm.trans z)⟩
        · rintro ⟨⟨k1, k2, k3, k4⟩ | ⟨k1, k2⟩, k5, k6⟩
          · exact Or.inl ⟨⟨k1, k2, k3, k5, k6⟩, k4⟩
          · exact Or.inr ⟨k1, k2⟩) B1 B2 B3 B4 (Or.inl ⟨s3, i2.symm, i4.symm, e2⟩) (Or.inl ⟨s4, i3.symm, i5.symm, o4.symm⟩) i6.symm o6 er
theorem outg_s {f g : Nat → Int32} {n e : Nat} (ho : Ot f g n (oth f n)) (he : e < 4 * n) : outg f g n e < 4 * n ∧ cin g (outg f g n e) = false ∧ f (outg f g n e) = f e ∧ (outg f g n e = e ∨ outg f g n e = oth f n e) := by
  have h := ho e he
  unfold outg
  cases hc : cin g e with
  | true => rw [if_pos rfl]; exact ⟨h.1, by rw [show cin g (oEnd f e 0 (4 * n)) = cin g (oth f n e) from rfl, h.2.2.2.1, hc]; rfl, h.2.2.1, Or.inr rfl⟩
  | false => rw [if_neg (by decide)]; exact ⟨he, hc, rfl, Or.inl rfl⟩
theorem inc_s {f g : Nat → Int32} {n e : Nat} (ho : Ot f g n (oth f n)) (he : e < 4 * n) : inc f g n e < 4 * n ∧ cin g (inc f g n e) = true ∧ f (inc f g n e) = f e ∧ (inc f g n e = e ∨ inc f g n e = oth f n e) ∧ inc f g n e = oth f n (outg f g n e) := by
  have h := ho e he
  unfold inc outg
  cases hc : cin g e with
  | true => rw [if_pos rfl, if_pos rfl]; exact ⟨he, hc, rfl, Or.inl rfl, (ho.inv he).symm⟩
  | false => rw [if_neg (by decide), if_neg (by decide)]; exact ⟨h.1, by rw [show cin g (oEnd f e 0 (4 * n)) = cin g (oth f n e) from rfl, h.2.2.2.1, hc]; rfl, h.2.2.1, Or.inr rfl, rfl⟩
theorem pok_up {f g : Nat → Int32} {n y e : Nat} (_ho : Ot f g n (oth f n)) (_he : e < 4 * n) : upM (oth f n) y e = pokB f n e y := by
  unfold upM pokB lvM
  rw [fM_fol, fM_fol]
  by_cases h1 : fol f n e / 4 = y
  · by_cases h2 : fol f n (fol f n e) = e
    · have e1 : fol f n e = oth f n e / 4 * 4 + (oth f n e + 3) % 4 := rfl
      have e2 : fol f n (fol f n e) = oth f n (fol f n e) / 4 * 4 + (oth f n (fol f n e) + 3) % 4 := rfl
      rw [h2] at e2
      have p1 : fol f n e % 2 = (oth f n e + 1) % 2 := by omega
      have p2 : oth f n (fol f n e) % 2 = (e + 1) % 2 := by omega
      rw [p1, p2, decide_eq_true h1, decide_eq_true h2]
      have c1 : e % 2 = 0 ∨ e % 2 = 1 := by omega
      have c2 : oth f n e % 2 = 0 ∨ oth f n e % 2 = 1 := by omega
      rcases c1 with c1 | c1 <;> rcases c2 with c2 | c2
      · rw [c1, c2, show (oth f n e + 1) % 2 = 1 by omega, show (e + 1) % 2 = 1 by omega]; decide
      · rw [c1, c2, show (oth f n e + 1) % 2 = 0 by omega, show (e + 1) % 2 = 1 by omega]; decide
      · rw [c1, c2, show (oth f n e + 1) % 2 = 1 by omega, show (e + 1) % 2 = 0 by omega]; decide
      · rw [c1, c2, show (oth f n e + 1) % 2 = 0 by omega, show (e + 1) % 2 = 0 by omega]; decide
    · rw [decide_eq_false h2]; simp
  · rw [decide_eq_false h1]; simp
theorem fiF_congr {p p' : Nat → Bool} : ∀ k i, (∀ t, i ≤ t → t < i + k → p t = p' t) → fiF p i k = fiF p' i k := by
  intro k
  induction k with
  | zero => intro i _; rfl
  | succ k ih =>
    intro i h
    rw [fiF, fiF, h i (by omega) (by omega), ih (i + 1) (fun t h1 h2 => h t (by omega) (by omega))]
theorem fiF_s {p : Nat → Bool} : ∀ k i e, fiF p i k = some e → (i ≤ e ∧ e < i + k) ∧ p e = true := by
  intro k
  induction k with
  | zero => intro i e h; cases h
  | succ k ih =>
    intro i e h
    rw [fiF] at h
    by_cases hc : p i = true
    · rw [if_pos hc] at h
      cases h
      exact ⟨by omega, hc⟩
    · rw [if_neg hc] at h
      have := ih (i + 1) e h
      exact ⟨by omega, this.2⟩
theorem mod_ne {a b : Nat} (h : a % 2 ≠ b % 2) : a ≠ b := fun z => h (by rw [z])
theorem div_ne {a b : Nat} (h : a / 4 ≠ b / 4) : a ≠ b := fun z => h (by rw [z])
theorem opp_mod (e : Nat) : opp e % 2 = e % 2 := by unfold opp; omega
/-- at each crossing one strand comes in over and one under -/
theorem cin_two {g : Nat → Int32} {h k : Nat} (z1 : h / 4 = k / 4) (z2 : h % 2 = k % 2) (z3 : cin g h = true) (z4 : cin g k = true) : h = k := by
  by_cases w : h % 4 = k % 4
  · omega
  · have : h = opp k := by unfold opp; omega
    rw [this, cin_opp, z4] at z3
    cases z3
theorem pull_pas {f g : Nat → Int32} {n x y a b c d : Nat} (h4 : inj2 f g n) (hx : x < n) (hy : y < n) (hxy : x ≠ y) (a1 : a < 4 * n) (a2 : cin g a = true) (b1 : b < 4 * n) (b2 : cin g b = true) (c1 : c < 4 * n) (c2 : cin g c = true) (d1 : d < 4 * n) (d2 : cin g d = true) (pa : a % 2 = 1) (pb : b % 2 = 1) (pc : c % 2 = 0) (pd : d % 2 = 0) (lU : (a / 4 = x ∧ b / 4 = y) ∨ (a / 4 = y ∧ b / 4 = x)) (lD : (c / 4 = x ∧ d / 4 = y) ∨ (c / 4 = y ∧ d / 4 = x)) (u v : Int32) : pas (rmE (rmE f n (mxN x y)) (n - 1) (mnN x y)) (rmS (rmS g n (mxN x y)) (n - 1) (mnN x y)) (n - 2) u v ↔ pas f g n u v ∧ u ≠ f a ∧ u ≠ f b ∧ u ≠ f c ∧ u ≠ f d := by
  have hM : mxN x y < n := by unfold mxN; split <;> omega
  have hmM : mnN x y < mxN x y := by unfold mxN mnN; split <;> split <;> omega
  have hset : ∀ h, h / 4 ≠ mxN x y ∧ h / 4 ≠ mnN x y ↔ h / 4 ≠ x ∧ h / 4 ≠ y := fun h => by unfold mxN mnN; split <;> split <;> omega
  have := pas_rm2 (f := f) (g := g) hM hmM u v
  rw [show n - 1 - 1 = n - 2 by omega] at this
  rw [this]
  have qa : a / 4 = x ∨ a / 4 = y := by rcases lU with r | r <;> simp [r]
  have qb : b / 4 = x ∨ b / 4 = y := by rcases lU with r | r <;> simp [r]
  have qc : c / 4 = x ∨ c / 4 = y := by rcases lD with r | r <;> simp [r]
  have qd : d / 4 = x ∨ d / 4 = y := by rcases lD with r | r <;> simp [r]
  constructor
  · rintro ⟨h, k1, k2, k3, k4, k5, k6⟩
    have hs := (hset h).mp ⟨k2, k3⟩
    have far : ∀ j, j < 4 * n → cin g j = true → (j / 4 = x ∨ j / 4 = y) → u ≠ f j := fun j j1 j2 j3 z => by
      have e := h4 h j k1 j1 (by rw [k4, j2]) (by rw [k5, z])
      rw [e] at hs
      rcases j3 with r | r
      · exact hs.1 r
      · exact hs.2 r
    exact ⟨⟨h, k1, k4, k5, k6⟩, far _ a1 a2 qa, far _ b1 b2 qb, far _ c1 c2 qc, far _ d1 d2 qd⟩
  · rintro ⟨⟨h, k1, k4, k5, k6⟩, z1, z2, z3, z4⟩
    have m1 := fun w1 w2 => z1 (by rw [← k5, cin_two (k := a) w1 w2 k4 a2])
    have m2 := fun w1 w2 => z2 (by rw [← k5, cin_two (k := b) w1 w2 k4 b2])
    have m3 := fun w1 w2 => z3 (by rw [← k5, cin_two (k := c) w1 w2 k4 c2])
    have m4 := fun w1 w2 => z4 (by rw [← k5, cin_two (k := d) w1 w2 k4 d2])
    have par : h % 2 = 0 ∨ h % 2 = 1 := by omega
    have hno : h / 4 ≠ x ∧ h / 4 ≠ y := by
      constructor
      · intro hx4
        rcases par with w | w
        · rcases lD with r | r
          · exact m3 (hx4.trans r.1.symm) (w.trans pc.symm)
          · exact m4 (hx4.trans r.2.symm) (w.trans pd.symm)
        · rcases lU with r | r
          · exact m1 (hx4.trans r.1.symm) (w.trans pa.symm)
          · exact m2 (hx4.trans r.2.symm) (w.trans pb.symm)
      · intro hx4
        rcases par with w | w
        · rcases lD with r | r
          · exact m4 (hx4.trans r.2.symm) (w.trans pd.symm)
          · exact m3 (hx4.trans r.1.symm) (w.trans pc.symm)
        · rcases lU with r | r
          · exact m2 (hx4.trans r.2.symm) (w.trans pb.symm)
          · exact m1 (hx4.trans r.1.symm) (w.trans pa.symm)
    have := (hset h).mpr hno
    exact ⟨h, k1, this.1, this.2, k4, k5, k6⟩
theorem pull_key {f g : Nat → Int32} {n cc x y uo ui dO di : Nat} {LU LD : Int32} (hD : Dia f g n cc) (hx : x < n) (hy : y < n) (hxy : x ≠ y) (a1 : uo < 4 * n) (a2 : cin g uo = false) (a3 : f uo = LU) (b1 : ui < 4 * n) (b2 : cin g ui = true) (b3 : f ui = LU) (c1 : dO < 4 * n) (c2 : cin g dO = false) (c3 : f dO = LD) (f1 : di < 4 * n) (f2 : cin g di = true) (f3 : f di = LD) (pu1 : uo % 2 = 1) (pu2 : ui % 2 = 1) (pd1 : dO % 2 = 0) (pd2 : di % 2 = 0) (lU : (uo / 4 = x ∧ ui / 4 = y) ∨ (uo / 4 = y ∧ ui / 4 = x)) (lD : (dO / 4 = x ∧ di / 4 = y) ∨ (dO / 4 = y ∧ di / 4 = x)) : Dia (joE (n - 2) (rmS (rmS g n (mxN x y)) (n - 1) (mnN x y)) (rj (f (opp uo)) (f (opp ui)) (f (opp dO))) (rj (f (opp uo)) (f (opp ui)) (f (opp di))) (joE (n - 2) (rmS (rmS g n (mxN x y)) (n - 1) (mnN x y)) (f (opp uo)) (f (opp ui)) (rmE (rmE f n (mxN x y)) (n - 1) (mnN x y), cc))).1 (rmS (rmS g n (mxN x y)) (n - 1) (mnN x y)) (n - 2) (joE (n - 2) (rmS (rmS g n (mxN x y)) (n - 1) (mnN x y)) (rj (f (opp uo)) (f (opp ui)) (f (opp dO))) (rj (f (opp uo)) (f (opp ui)) (f (opp di))) (joE (n - 2) (rmS (rmS g n (mxN x y)) (n - 1) (mnN x y)) (f (opp uo)) (f (opp ui)) (rmE (rmE f n (mxN x y)) (n - 1) (mnN x y), cc))).2 := by
  obtain ⟨h1, h2, h3, h4, h5, h6, h7⟩ := id hD
  have nU : uo / 4 ≠ ui / 4 := by rcases lU with r | r <;> rw [r.1, r.2]; exact hxy; exact hxy.symm
  have nD : dO / 4 ≠ di / 4 := by rcases lD with r | r <;> rw [r.1, r.2]; exact hxy; exact hxy.symm
  have cuo : cin g (opp uo) = true := by rw [cin_opp, a2]; rfl
  have cdo : cin g (opp dO) = true := by rw [cin_opp, c2]; rfl
  have cui : cin g (opp ui) = false := by rw [cin_opp, b2]; rfl
  have cdi : cin g (opp di) = false := by rw [cin_opp, f2]; rfl
  have IN : ∀ i j, i < 4 * n → j < 4 * n → cin g i = true → cin g j = true → i ≠ j → f i ≠ f j := fun i j hi hj ci cj hne z => hne (h4 i j hi hj (by rw [ci, cj]) z)
  have OU : ∀ i j, i < 4 * n → j < 4 * n → cin g i = false → cin g j = false → i ≠ j → f i ≠ f j := fun i j hi hj ci cj hne z => hne (h4 i j hi hj (by rw [ci, cj]) z)
  have L1 := opp_ltn a1
  have L2 := opp_ltn b1
  have L3 := opp_ltn c1
  have L4 := opp_ltn f1
  have m1 := opp_mod uo
  have m2 := opp_mod ui
  have m3 := opp_mod dO
  have m4 := opp_mod di
  have hM : mxN x y < n := by unfold mxN; split <;> omega
  have hmM : mnN x y < n - 1 := by unfold mnN; split <;> omega
  have hP := fun u v => pull_pas h4 hx hy hxy L1 cuo b1 b2 L3 cdo f1 f2 (m1.trans pu1) pu2 (m3.trans pd1) pd2 (by rw [opp_div]; exact lU) (by rw [opp_div]; exact lD) u v
  rw [b3, f3] at hP
  have E1 := edg_rm hmM (edg_rm hM h2)
  have E2 := sgOK_rm hmM (sgOK_rm hM h3)
  have E3 := inj2_rm hmM (inj2_rm hM h4)
  rw [show n - 1 - 1 = n - 2 by omega] at E1 E2 E3
  refine pull_Dia (U := LU) (D := LD) hD (by omega) E1 E2 E3 hP ⟨opp uo, L1, cuo, rfl, by rw [opp_opp]; exact a3⟩ ⟨ui, b1, b2, b3, rfl⟩ ⟨opp dO, L3, cdo, rfl, by rw [opp_opp]; exact c3⟩ ⟨di, f1, f2, f3, rfl⟩ ?_ ?_ ?_ ?_ ?_ ?_ ?_ ?_ ?_ ?_ ?_
  · rw [← b3]; exact IN _ _ L1 b1 cuo b2 (div_ne (by rw [opp_div]; exact nU))
  · exact IN _ _ L1 L3 cuo cdo (mod_ne (by rw [m1, m3, pu1, pd1]; decide))
  · rw [← f3]; exact IN _ _ L1 f1 cuo f2 (mod_ne (by rw [m1, pu1, pd2]; decide))
  · rw [← b3]; exact IN _ _ b1 L3 b2 cdo (mod_ne (by rw [m3, pu2, pd1]; decide))
  · rw [← b3, ← f3]; exact IN _ _ b1 f1 b2 f2 (mod_ne (by rw [pu2, pd2]; decide))
  · rw [← f3]; exact IN _ _ L3 f1 cdo f2 (div_ne (by rw [opp_div]; exact nD))
  · rw [← a3]; exact OU _ _ a1 L2 a2 cui (div_ne (by rw [opp_div]; exact nU))
  · rw [← a3]; exact OU _ _ a1 L4 a2 cdi (mod_ne (by rw [m4, pu1, pd2]; decide))
  · rw [← c3]; exact OU _ _ L2 c1 cui c2 (mod_ne (by rw [m2, pu2, pd1]; decide))
  · exact OU _ _ L2 L4 cui cdi (mod_ne (by rw [m2, m4, pu2, pd2]; decide))
  · rw [← c3]; exact OU _ _ c1 L4 c2 cdi (div_ne (by rw [opp_div]; exact nD))
theorem pull_any {f g : Nat → Int32} {n cc x y U D : Nat} (hD : Dia f g n cc) (hx : x < n) (hy : y < n) (hxy : x ≠ y) (hU : U < 4 * n) (hDl : D < 4 * n) (kU : (U / 4 = x ∧ oth f n U / 4 = y) ∨ (U / 4 = y ∧ oth f n U / 4 = x)) (kD : (D / 4 = x ∧ oth f n D / 4 = y) ∨ (D / 4 = y ∧ oth f n D / 4 = x)) (u1 : U % 2 = 1) (u2 : oth f n U % 2 = 1) (d1 : D % 2 = 0) (d2 : oth f n D % 2 = 0) : Dia (joE (n - 2) (rmS (rmS g n (mxN x y)) (n - 1) (mnN x y)) (rj (paP f g n U) (paQ f g n U) (paP f g n D)) (rj (paP f g n U) (paQ f g n U) (paQ f g n D)) (joE (n - 2) (rmS (rmS g n (mxN x y)) (n - 1) (mnN x y)) (paP f g n U) (paQ f g n U) (rmE (rmE f n (mxN x y)) (n - 1) (mnN x y), cc))).1 (rmS (rmS g n (mxN x y)) (n - 1) (mnN x y)) (n - 2) (joE (n - 2) (rmS (rmS g n (mxN x y)) (n - 1) (mnN x y)) (rj (paP f g n U) (paQ f g n U) (paP f g n D)) (rj (paP f g n U) (paQ f g n U) (paQ f g n D)) (joE (n - 2) (rmS (rmS g n (mxN x y)) (n - 1) (mnN x y)) (paP f g n U) (paQ f g n U) (rmE (rmE f n (mxN x y)) (n - 1) (mnN x y), cc))).2 := by
  have ho := hD.ot
  obtain ⟨a1, a2, a3, a4⟩ := outg_s ho hU
  obtain ⟨b1, b2, b3, b4, b5⟩ := inc_s ho hU
  obtain ⟨c1, c2, c3, c4⟩ := outg_s ho hDl
  obtain ⟨f1, f2, f3, f4, f5⟩ := inc_s ho hDl
  have oU := ho.inv hU
  have oD := ho.inv hDl
  have sw : ∀ (p q r t : Nat), (p = x ∧ q = y) ∨ (p = y ∧ q = x) → (q = x ∧ p = y) ∨ (q = y ∧ p = x) := fun p q _ _ h => h.elim (fun r => Or.inr ⟨r.2, r.1⟩) (fun r => Or.inl ⟨r.2, r.1⟩)
  have lU : (outg f g n U % 2 = 1 ∧ inc f g n U % 2 = 1) ∧ ((outg f g n U / 4 = x ∧ inc f g n U / 4 = y) ∨ (outg f g n U / 4 = y ∧ inc f g n U / 4 = x)) := by
    rcases a4 with z | z
    · rw [b5, z]; exact ⟨⟨u1, u2⟩, kU⟩
    · rw [b5, z, oU]; exact ⟨⟨u2, u1⟩, sw _ _ 0 0 kU⟩
  have lD : (outg f g n D % 2 = 0 ∧ inc f g n D % 2 = 0) ∧ ((outg f g n D / 4 = x ∧ inc f g n D / 4 = y) ∨ (outg f g n D / 4 = y ∧ inc f g n D / 4 = x)) := by
    rcases c4 with z | z
    · rw [f5, z]; exact ⟨⟨d1, d2⟩, kD⟩
    · rw [f5, z, oD]; exact ⟨⟨d2, d1⟩, sw _ _ 0 0 kD⟩
  exact pull_key hD hx hy hxy a1 a2 a3 b1 b2 b3 c1 c2 c3 f1 f2 f3 lU.1.1 lU.1.2 lD.1.1 lD.1.2 lU.2 lD.2
theorem unpoke_Dia {f g : Nat → Int32} {n cc x y e : Nat} (hD : Dia f g n cc) (hx : x < n) (hy : y < n) (hxy : x ≠ y) (he4 : e / 4 = x) (hp : pokB f n e y = true) : Dia (paS f g n cc e (fol f n e)).1 (rmS (rmS g n (mxN (e / 4) (fol f n e / 4))) (n - 1) (mnN (e / 4) (fol f n e / 4))) (n - 2) (paS f g n cc e (fol f n e)).2 := by
  have ho := hD.ot
  unfold pokB at hp
  simp only [Bool.and_eq_true, decide_eq_true_eq] at hp
  obtain ⟨⟨q1, q2⟩, q3⟩ := hp
  have he : e < 4 * n := by omega
  have oe := ho e he
  have e1 : fol f n e = oth f n e / 4 * 4 + (oth f n e + 3) % 4 := rfl
  have e2 : fol f n (fol f n e) = oth f n (fol f n e) / 4 * 4 + (oth f n (fol f n e) + 3) % 4 := rfl
  rw [q2] at e2
  have hb : fol f n e < 4 * n := by have := oe.1; omega
  have q3' : e % 2 = oth f n e % 2 := by
    have c1 : e % 2 = 0 ∨ e % 2 = 1 := by omega
    have c2 : oth f n e % 2 = 0 ∨ oth f n e % 2 = 1 := by omega
    rcases c1 with c1 | c1 <;> rcases c2 with c2 | c2 <;> rw [c1, c2] at q3 ⊢ <;> simp at q3
  unfold paS
  generalize fol f n e = b at *
  rw [he4, q1]
  have c1 : e % 2 = 0 ∨ e % 2 = 1 := by omega
  rcases c1 with c1 | c1
  · rw [show puU e b = b by unfold puU; rw [if_neg (by omega)], show puL e b = e by unfold puL; rw [if_neg (by omega)]]
    exact pull_any hD hx hy hxy hb he (Or.inr ⟨q1, by omega⟩) (Or.inl ⟨he4, by omega⟩) (by omega) (by omega) c1 (by omega)
  · rw [show puU e b = e by unfold puU; rw [if_pos c1], show puL e b = b by unfold puL; rw [if_pos c1]]
    exact pull_any hD hx hy hxy he hb (Or.inl ⟨he4, by omega⟩) (Or.inr ⟨q1, by omega⟩) c1 (by omega) (by omega) (by omega)
