theorem Drf.keep {nd : Nat} {fd gd me mp me' mp' : Nat → Int32} (h : Drf nd fd gd me mp) (h1 : ∀ i, i < 32 → me' (32 + i) = me (32 + i)) (h2 : ∀ x, x < 8 → mp' (8 + x) = mp (8 + x)) : Drf nd fd gd me' mp' :=
  ⟨h.1, h.2.1, h.2.2.1, fun i hi => (h1 i (by have := h.1; omega)).trans (h.2.2.2.1 i hi), fun x hx => (h2 x (by have := h.1; omega)).trans (h.2.2.2.2 x hx)⟩
theorem Dia.cc {f g : Nat → Int32} {n cc : Nat} (h : Dia f g n cc) : cc ≤ 20 := by
  obtain ⟨_, _, _, _, _, _, B, rk, _, h2⟩ := h
  omega
theorem inA_far {me mp : Nat → Int32} {n t : Nat} (p q : Int32) (ht : 4 * n ≤ t) : inA me mp n p q t = me t := by
  unfold inA
  cases h : eOM me mp q true 0 (4 * n) with
  | none => rfl
  | some i =>
    have := eOM_lt (N := 4 * n) (4 * n) 0 i (by omega) h
    show upd me i p t = me t
    rw [upd_ne _ _ (by omega)]
theorem apE_far {f : Nat → Int32} {n t : Nat} (a b c d : Int32) (ht : 4 * (n + 1) ≤ t) : apE f n a b c d t = f t := by
  unfold apE
  rw [upd_ne _ _ (by omega), upd_ne _ _ (by omega), upd_ne _ _ (by omega), upd_ne _ _ (by omega)]
theorem kkE_far {f : Nat → Int32} {n t : Nat} (k : Nat) (a b c : Int32) (ht : 4 * (n + 1) ≤ t) : kkE k f n a b c t = f t := by
  unfold kkE
  match k with
  | 0 => exact apE_far _ _ _ _ ht
  | 1 => exact apE_far _ _ _ _ ht
  | 2 => exact apE_far _ _ _ _ ht
  | k + 3 => exact apE_far _ _ _ _ ht
theorem edg_isE {x : Int32} (h : ∃ k, 1 ≤ k ∧ k ≤ 32 ∧ x = nI k) : isE x = true := by
  obtain ⟨k, h1, h2, rfl⟩ := h
  exact decide_eq_true ⟨nI_le (a := 1) h1 (by omega), nI_le (b := 32) h2 (by omega)⟩
theorem occ_pas {f g : Nat → Int32} {n : Nat} {e : Int32} (hb : bal (pas f g n)) (h : occ f e 0 (4 * n) = true) : ∃ y, pas f g n e y := by
  obtain ⟨t, h1, rfl⟩ := (occ_iff (4 * n) 0).mp h
  exact pas_some hb (by omega)
theorem occ_edg {f : Nat → Int32} {n : Nat} {e : Int32} (hb : edg (4 * n) f) (h : occ f e 0 (4 * n) = true) : ∃ k, 1 ≤ k ∧ k ≤ 32 ∧ e = nI k := by
  obtain ⟨t, h1, rfl⟩ := (occ_iff (4 * n) 0).mp h
  exact hb t (by omega)
theorem st_twist : ∀ w, Inv w → ∀ (a : Int32) (b : Int32), zOpI M_A_twist M_M_twist [.int a, .int b] Inv w := by
  rintro w ⟨nd, fd, gd, n, f, g, nf, ff, gf, s, q, oe, t, m, l, u, c0, ln, mi, wd, pl, lt, cc, me, mp, mw, mv, my, mt, ms, mq, mh, ma, mz, mk, mn, mr, mx, rfl, hd, hg, hw, hu⟩ e k
  have hn := hg.1.1
  have hcc := hg.1.cc
  have ho := occ_ag hg.2.1 e (4 * n) 0 (by omega)
  by_cases h : n < 8 ∧ ¬ k < 0 ∧ k ≤ 3 ∧ ((e = 0 ∧ ¬ cc = 0) ∨ (¬ e = 0 ∧ occ f e 0 (4 * n) = true))
  · obtain ⟨h1, h2, h3, h4⟩ := h
    obtain ⟨j, hj, rfl⟩ := nI_of2 (M := 3) (n := 3) (by decide) h2 h3
    rcases h4 with ⟨rfl, h5⟩ | ⟨h5, h6⟩
    · cases cc with
      | zero => exact absurd rfl h5
      | succ cc =>
        refine opI (fun T => sp_A_twist0 h1 (by omega) (by omega)) (fun X => sp_M_twist0 h1 (by omega) (by omega)) (Inv.of (hd.keep (fun i _ => ?_) (fun x _ => ?_)) ⟨kk0_Dia hg.1 (by omega) (by omega), ?_, agP_up _ hg.2.2⟩ hw hu)
        · exact kkE_far _ _ _ _ (by omega)
        · rw [upd_ne _ _ (by omega)]
        · rw [frI_ag hg.2.1, frI_ag hg.2.1]
          exact kkE_ag j _ _ _ hg.2.1
    · refine opI (fun T => sp_A_twist h1 (by omega) h5 h6) (fun X => sp_M_twist h1 (by omega) h5 (edg_isE (occ_edg hg.1.2.1 h6)) (by rw [ho]; exact h6)) (Inv.of (hd.keep (fun i _ => ?_) (fun x _ => ?_)) ⟨kk_Dia hg.1 (by omega) (by omega) (occ_pas hg.1.2.2.2.2.1 h6), ?_, agP_up _ hg.2.2⟩ hw hu)
      · rw [kkE_far _ _ _ _ (by omega), inA_far _ _ (by omega)]
      · rw [upd_ne _ _ (by omega)]
      · rw [frI_ag hg.2.1, frI_ag hg.2.1]
        exact kkE_ag j _ _ _ (inA_ag hg.2.1 hg.2.2 _ _)
  · refine opI (fun T => sp_A_twist_no hn (by omega) h) (fun X => sp_M_twist_no hn (by omega) (fun z => h ?_)) (Inv.of hd hg hw hu)
    obtain ⟨z1, z2, z3, z4⟩ := z
    rcases z4 with z | z
    · exact ⟨z1, z2, z3, Or.inl z⟩
    · exact ⟨z1, z2, z3, Or.inr ⟨z.1, by rw [← ho]; exact z.2.2⟩⟩
-- untwist
theorem lpE_s {f : Nat → Int32} : ∀ k i e, lpE f i k = some e → (i ≤ e ∧ e < i + k) ∧ f e = f (tur e 1) := by
  intro k
  induction k with
  | zero => intro i e h; cases h
  | succ k ih =>
    intro i e h
    rw [lpE] at h
    by_cases hc : f i = f (tur i 1)
    · rw [if_pos hc] at h
      cases h
      exact ⟨by omega, hc⟩
    · rw [if_neg hc] at h
      have := ih (i + 1) e h
      exact ⟨by omega, this.2⟩
theorem tE_at (me : Nat → Int32) {x i : Nat} (hx : x ≤ 7) : tE me x i = if 4 * x ≤ i ∧ i < 28 then me (i + 4) else me i := by
  have key : ∀ k h (m : Nat → Int32), h + k = 28 → itN toE h k m i = if h ≤ i ∧ i < 28 then m (i + 4) else m i := by
    intro k
    induction k with
    | zero => intro h m hh; rw [itN_0, if_neg (by omega)]
    | succ k ih =>
      intro h m hh
      rw [itN_s, ih (h + 1) _ (by omega)]
      unfold toE
      by_cases e : i = h
      · rw [e, if_neg (by omega), upd_self, if_pos (by omega)]
      · by_cases e2 : h + 1 ≤ i ∧ i < 28
        · rw [if_pos e2, if_pos (by omega), upd_ne _ _ (by omega)]
        · rw [if_neg e2, if_neg (by omega), upd_ne _ _ e]
  exact key (28 - 4 * x) (4 * x) me (by omega)
theorem tP_at (mp : Nat → Int32) {x i : Nat} (hx : x ≤ 7) : tP mp x i = if x ≤ i ∧ i < 7 then vp_nar .boolean (mp (i + 1)) else mp i := by
  have key : ∀ k h (m : Nat → Int32), h + k = 7 → itN toP h k m i = if h ≤ i ∧ i < 7 then vp_nar .boolean (m (i + 1)) else m i := by
    intro k
    induction k with
    | zero => intro h m hh; rw [itN_0, if_neg (by omega)]
    | succ k ih =>
      intro h m hh
      rw [itN_s, ih (h + 1) _ (by omega)]
      unfold toP
      by_cases e : i = h
      · rw [e, if_neg (by omega), upd_self, if_pos (by omega)]
      · by_cases e2 : h + 1 ≤ i ∧ i < 7
        · rw [if_pos e2, if_pos (by omega), upd_ne _ _ (by omega)]
        · rw [if_neg e2, if_neg (by omega), upd_ne _ _ e]
  exact key (7 - x) x mp (by omega)
theorem tE_ag {f me : Nat → Int32} {n x : Nat} (hn : n ≤ 8) (hx : x < n) (h : agE (4 * n) f me) : agE (4 * (n - 1)) (rmE f n x) (tE me x) := by
  intro i hi
  rw [rmE_at f hx hi, tE_at me (by omega)]
  by_cases e : i < 4 * x
  · rw [if_neg (by omega), if_pos e]; exact h i (by omega)
  · rw [if_pos (by omega), if_neg e]; exact h (i + 4) (by omega)
theorem tP_ag {g mp : Nat → Int32} {n x : Nat} (hn : n ≤ 8) (hx : x < n) (h : agP n g mp) : agP (n - 1) (rmS g n x) (tP mp x) := by
  intro i hi
  rw [rmS_at g hx hi, tP_at mp (by omega)]
  by_cases e : i < x
  · rw [if_neg (by omega), if_pos e]; exact h i (by omega)
  · rw [if_pos (by omega), if_neg e, h (i + 1) (by omega), vz]
theorem jo_ag {f g me mp : Nat → Int32} {n cc : Nat} (h1 : agE (4 * n) f me) (h2 : agP n g mp) (p q : Int32) : agE (4 * n) (joE n g p q (f, cc)).1 (joM n mp p q (me, cc)).1 ∧ (joM n mp p q (me, cc)).2 = (joE n g p q (f, cc)).2 ∧ ∀ t, 4 * n ≤ t → (joM n mp p q (me, cc)).1 t = me t := by
  unfold joE joM
  by_cases e : p = q
  · rw [if_pos e, if_pos e]
    exact ⟨h1, rfl, fun _ _ => rfl⟩
  · rw [if_neg e, if_neg e]
    exact ⟨inA_ag h1 h2 p q, rfl, fun t ht => inA_far p q ht⟩
/-- a crossing with an edge that goes out of it and into it: where its two strands come in -/
theorem loop_pas {f g : Nat → Int32} {n e : Nat} (h4 : inj2 f g n) (he : e < 4 * n) (hl : f e = f (tur e 1)) : ∃ a b, (a < 4 * n ∧ a / 4 = e / 4 ∧ cin g a = true ∧ f a = utI f g e ∧ f (opp a) = f e) ∧ (b < 4 * n ∧ b / 4 = e / 4 ∧ cin g b = true ∧ f b = f e ∧ f (opp b) = utO f g e) ∧ ∀ h, h / 4 = e / 4 → cin g h = true → h = a ∨ h = b := by
  have t1 : tur e 1 < 4 * n := by unfold tur; omega
  have t2 : tur e 2 = opp e := rfl
  have t3 : tur e 3 = opp (tur e 1) := by unfold tur opp; omega
  have t4 : tur e 1 / 4 = e / 4 := by unfold tur; omega
  have hne : tur e 1 ≠ e := by unfold tur; omega
  have hc1 : cin g (tur e 1) = !cin g e := by
    cases h : cin g e <;> cases k : cin g (tur e 1)
    · exact absurd (h4 (tur e 1) e t1 he (by rw [h, k]) hl.symm) hne
    · rfl
    · rfl
    · exact absurd (h4 (tur e 1) e t1 he (by rw [h, k]) hl.symm) hne
  have cas : ∀ h, h / 4 = e / 4 → h = e ∨ h = tur e 1 ∨ h = opp e ∨ h = opp (tur e 1) := fun h hh => by unfold tur opp; omega
  unfold utI utO
  rw [t2, t3]
  cases hc : cin g e with
  | false =>
    rw [hc] at hc1
    have c2 : cin g (opp e) = true := by rw [cin_opp, hc]; rfl
    rw [if_pos c2, if_pos c2]
    refine ⟨opp e, tur e 1, ⟨opp_ltn he, opp_div, c2, rfl, by rw [opp_opp]⟩, ⟨t1, t4, hc1, hl.symm, rfl⟩, fun h h2 h3 => ?_⟩
    rcases cas h h2 with z | z | z | z
    · rw [z, hc] at h3; cases h3
    · exact Or.inr z
    · exact Or.inl z
    · rw [z, cin_opp, hc1] at h3; cases h3
  | true =>
    rw [hc] at hc1
    have c2 : ¬ cin g (opp e) = true := by rw [cin_opp, hc]; decide
    rw [if_neg c2, if_neg c2]
    refine ⟨opp (tur e 1), e, ⟨opp_ltn t1, by rw [opp_div, t4], by rw [cin_opp, hc1]; rfl, rfl, by rw [opp_opp, hl]⟩, ⟨he, rfl, hc, rfl, rfl⟩, fun h h2 h3 => ?_⟩
    rcases cas h h2 with z | z | z | z
    · exact Or.inr z
    · rw [z, hc1] at h3; cases h3
    · rw [z, cin_opp, hc] at h3; cases h3
    · exact Or.inl z
/-- what is left of the strands when a crossing goes -/
theorem pas_gone {f g : Nat → Int32} {n x i j : Nat} (h4 : inj2 f g n) (hx : x < n) (hi : i < 4 * n) (hi4 : i / 4 = x) (hic : cin g i = true) (hj : j < 4 * n) (hj4 : j / 4 = x) (hjc : cin g j = true) (hall : ∀ h, h / 4 = x → cin g h = true → h = i ∨ h = j) (a b : Int32) : pas (rmE f n x) (rmS g n x) (n - 1) a b ↔ pas f g n a b ∧ a ≠ f i ∧ a ≠ f j := by
  rw [pas_rm hx]
  constructor
  · rintro ⟨h, k1, k2, k3, k4, k5⟩
    refine ⟨⟨h, k1, k3, k4, k5⟩, fun z => ?_, fun z => ?_⟩
    · exact k2 (by rw [h4 h i k1 hi (by rw [k3, hic]) (by rw [k4, z])]; exact hi4)
    · exact k2 (by rw [h4 h j k1 hj (by rw [k3, hjc]) (by rw [k4, z])]; exact hj4)
  · rintro ⟨⟨h, k1, k3, k4, k5⟩, z1, z2⟩
    refine ⟨h, k1, fun z => ?_, k3, k4, k5⟩
    rcases hall h z k3 with y | y
    · exact z1 (by rw [← k4, y])
    · exact z2 (by rw [← k4, y])
/-- p joined with q where p came to l, and l to q -/
theorem join_Dia {f g : Nat → Int32} {n cc : Nat} {S : Int32 → Int32 → Prop} {p l q : Int32} (hn : n ≤ 8) (h2 : edg (4 * n) f) (h3 : sgOK n g) (h4 : inj2 f g n) (hS : ∀ a b, pas f g n a b ↔ cutS S p l a b) (hb : bal S) (hf : fnS S) (hl : labS S) (hs : bas S cc) (h1 : S p l) (h1' : S l q) (hlp : l ≠ p) (hlq : l ≠ q) (hp : ∃ k, 1 ≤ k ∧ k ≤ 32 ∧ p = nI k) : Dia (joE n g p q (f, cc)).1 g n (joE n g p q (f, cc)).2 := by
  unfold joE
  by_cases e : p = q
  · rw [if_pos e]
    subst e
    refine ⟨hn, h2, h3, h4, ?_, Or.inr (Nat.succ_le_succ (Nat.zero_le _)), ?_⟩
    · rw [bal_congr hS]
      exact bal_cut hb hf h1 h1'
    · rw [bal_congr hS]
      exact bas_cut hs hl h1 h1'
  · rw [if_neg e]
    have hq : ∃ c, S q c := (hb q).mpr ⟨l, h1'⟩
    have hq2 : ∃ c, pas f g n q c := by
      obtain ⟨c, hc⟩ := hq
      exact ⟨c, (hS q c).mpr ⟨hc, fun z => e z.symm, fun z => hlq z.symm⟩⟩
    have np : ¬ ∃ y, pas f g n p y := fun ⟨y, hy⟩ => ((hS p y).mp hy).2.1 rfl
    have hd : ∀ x y, pas (brA f g n p q) g n x y ↔ delS S p l q x y := fun x y => by
      rw [pas_br h4 hq2 p x y, hS x y, hS q y]
      unfold cutS delS
      constructor
      · rintro (⟨⟨k1, k2, k3⟩, k4⟩ | ⟨k1, k2, k3, k4⟩)
        · exact Or.inl ⟨k1, k2, k3, k4⟩
        · exact Or.inr ⟨k1, k2⟩
      · rintro (⟨k1, k2, k3, k4⟩ | ⟨k1, k2⟩)
        · exact Or.inl ⟨⟨k1, k2, k3⟩, k4⟩
        · exact Or.inr ⟨k1, k2, fun z => e z.symm, fun z => hlq z.symm⟩
    refine ⟨hn, edg_br h2 hp, h3, inj2_br h4 np, ?_, Or.inl ?_, ?_⟩
    · rw [bal_congr hd]
      exact bal_del hb hf h1 h1' e hlq hlp
    · obtain ⟨_, t, t1, _⟩ := hq2
      omega
    · rw [bal_congr hd]
      exact bas_del hs hl hq h1 h1' e hlp
theorem untwist_Dia {f g : Nat → Int32} {n cc e : Nat} (hD : Dia f g n cc) (he : e < 4 * n) (hl : f e = f (tur e 1)) : Dia (joE (n - 1) (rmS g n (e / 4)) (utI f g e) (utO f g e) (rmE f n (e / 4), cc)).1 (rmS g n (e / 4)) (n - 1) (joE (n - 1) (rmS g n (e / 4)) (utI f g e) (utO f g e) (rmE f n (e / 4), cc)).2 := by
  obtain ⟨h1, h2, h3, h4, h5, h6, h7⟩ := hD
  obtain ⟨a, b, ⟨a1, a2, a3, a4, a5⟩, ⟨b1, b2, b3, b4, b5⟩, hall⟩ := loop_pas h4 he hl
  have hx : e / 4 < n := by omega
  have hab : a ≠ b := by
    intro z
    have hne : opp a ≠ b := fun y => by rw [← y, cin_opp, a3] at b3; cases b3
    have c1 : opp a / 4 = e / 4 := by rw [opp_div, a2]
    -- the loop's two ends are one coming in and one going out
    have q1 : f (opp a) = f a := by rw [a5, z, b4]
    have e1 : e = b ∨ e = opp a := by
      cases hc : cin g e with
      | true => exact Or.inl (h4 e b he b1 (by rw [hc, b3]) b4.symm)
      | false => exact Or.inr (h4 e (opp a) he (opp_ltn a1) (by rw [hc, cin_opp, a3]; rfl) a5.symm)
    have e2 : tur e 1 = b ∨ tur e 1 = opp a := by
      have t1 : tur e 1 < 4 * n := by unfold tur; omega
      cases hc : cin g (tur e 1) with
      | true => exact Or.inl (h4 _ b t1 b1 (by rw [hc, b3]) (by rw [← hl, b4]))
      | false => exact Or.inr (h4 _ (opp a) t1 (opp_ltn a1) (by rw [hc, cin_opp, a3]; rfl) (by rw [← hl, a5]))
    rw [← z] at e1 e2
    have p1 : a % 2 = e % 2 := by rcases e1 with y | y <;> rw [y] <;> unfold opp <;> omega
    have p2 : a % 2 = tur e 1 % 2 := by rcases e2 with y | y <;> rw [y] <;> unfold opp <;> omega
    unfold tur at p2
    omega
  refine join_Dia (S := pas f g n) (l := f e) (by omega) (edg_rm hx h2) (sgOK_rm hx h3) (inj2_rm hx h4) (fun u v => ?_) h5 (inj2_fn h4) (edg_lab h2) h7 ⟨a, a1, a3, a4, a5⟩ ⟨b, b1, b3, b4, b5⟩ (fun z => hab (h4 a b a1 b1 (by rw [a3, b3]) (by rw [a4, b4, z]))) (fun z => hab (opp_inj (h4 _ _ (opp_ltn a1) (opp_ltn b1) (by rw [cin_opp, cin_opp, a3, b3]) (by rw [a5, b5, z])))) (by rw [← a4]; exact h2 a a1)
  rw [pas_gone h4 hx a1 a2 a3 b1 b2 b3 hall, a4, b4]
  exact Iff.rfl
