theorem oEnd_congr {f f' : Nat → Int32} {N e : Nat} (h : ∀ t, t < N → f' t = f t) (he : e < N) : ∀ k i, i + k ≤ N → oEnd f' e i k = oEnd f e i k := by
  intro k
  induction k with
  | zero => intro i _; rfl
  | succ k ih =>
    intro i hi
    rw [oEnd, oEnd, h i (by omega), h e he, ih (i + 1) (by omega)]
theorem oth_congr {f f' : Nat → Int32} {n e : Nat} (h : ∀ t, t < 4 * n → f' t = f t) (he : e < 4 * n) : oth f' n e = oth f n e := oEnd_congr h he (4 * n) 0 (by omega)
theorem fol_congr {f f' : Nat → Int32} {n e : Nat} (h : ∀ t, t < 4 * n → f' t = f t) (he : e < 4 * n) : fol f' n e = fol f n e := by
  show oth f' n e / 4 * 4 + (oth f' n e + 3) % 4 = oth f n e / 4 * 4 + (oth f n e + 3) % 4
  rw [oth_congr h he]
/-- the strand through the crossing of a and the strand through the crossing of b change places: a goes out, b comes in -/
def swp (F : Nat → Int32) (a b : Nat) : Nat → Int32 := upd (upd (upd (upd F (opp a) (F b)) a (F (opp b))) b (F (opp a))) (opp b) (F a)
def sPi (a b t : Nat) : Nat := if t = opp b then a else if t = b then opp a else if t = a then opp b else if t = opp a then b else t
theorem swp_pi (F : Nat → Int32) (a b t : Nat) : swp F a b t = F (sPi a b t) := by
  unfold swp sPi
  by_cases h1 : t = opp b
  · rw [if_pos h1, h1, upd_self]
  · rw [if_neg h1, upd_ne _ _ h1]
    by_cases h2 : t = b
    · rw [if_pos h2, h2, upd_self]
    · rw [if_neg h2, upd_ne _ _ h2]
      by_cases h3 : t = a
      · rw [if_pos h3, h3, upd_self]
      · rw [if_neg h3, upd_ne _ _ h3]
        by_cases h4 : t = opp a
        · rw [if_pos h4, h4, upd_self]
        · rw [if_neg h4, upd_ne _ _ h4]
section SW
variable {a b : Nat}
theorem sPi_1 : sPi a b (opp b) = a := by unfold sPi; rw [if_pos rfl]
theorem sPi_2 : sPi a b b = opp a := by unfold sPi; rw [if_neg (fun z => opp_ne b z.symm), if_pos rfl]
theorem sPi_3 (h : a / 4 ≠ b / 4) : sPi a b a = opp b := by
  unfold sPi
  rw [if_neg (div_ne (by rw [opp_div]; exact h)), if_neg (div_ne h), if_pos rfl]
theorem sPi_4 (h : a / 4 ≠ b / 4) : sPi a b (opp a) = b := by
  unfold sPi
  rw [if_neg (div_ne (by rw [opp_div, opp_div]; exact h)), if_neg (div_ne (by rw [opp_div]; exact h)), if_neg (opp_ne a), if_pos rfl]
theorem sPi_5 {t : Nat} (h1 : t ≠ opp b) (h2 : t ≠ b) (h3 : t ≠ a) (h4 : t ≠ opp a) : sPi a b t = t := by
  unfold sPi
  rw [if_neg h1, if_neg h2, if_neg h3, if_neg h4]
theorem sPi_all (h : a / 4 ≠ b / 4) {n : Nat} (g : Nat → Int32) (ha : a < 4 * n) (hb : b < 4 * n) (ca : cin g a = false) (cb : cin g b = true) (t : Nat) (ht : t < 4 * n) : sPi a b t < 4 * n ∧ sPi a b (sPi a b t) = t ∧ cin g (sPi a b t) = cin g t ∧ sPi a b (opp t) = opp (sPi a b t) := by
  by_cases h1 : t = opp b
  · rw [h1, sPi_1, sPi_3 h, opp_opp, sPi_2]
    exact ⟨ha, rfl, by rw [ca, cin_opp, cb]; rfl, rfl⟩
  · by_cases h2 : t = b
    · rw [h2, sPi_2, sPi_4 h, sPi_1, opp_opp]
      exact ⟨opp_ltn ha, rfl, by rw [cb, cin_opp, ca]; rfl, rfl⟩
    · by_cases h3 : t = a
      · rw [h3, sPi_3 h, sPi_1, sPi_4 h, opp_opp]
        exact ⟨opp_ltn hb, rfl, by rw [ca, cin_opp, cb]; rfl, rfl⟩
      · by_cases h4 : t = opp a
        · rw [h4, sPi_4 h, sPi_2, opp_opp, sPi_3 h]
          exact ⟨hb, rfl, by rw [cb, cin_opp, ca]; rfl, rfl⟩
        · rw [sPi_5 h1 h2 h3 h4, sPi_5 h1 h2 h3 h4, sPi_5 (fun z => h2 (opp_inj z)) (fun z => h1 (by rw [← z, opp_opp])) (fun z => h4 (by rw [← z, opp_opp])) (fun z => h3 (opp_inj z))]
          exact ⟨ht, rfl, rfl, rfl⟩
theorem swp_pas (h : a / 4 ≠ b / 4) {n : Nat} {F g : Nat → Int32} (ha : a < 4 * n) (hb : b < 4 * n) (ca : cin g a = false) (cb : cin g b = true) : (∀ x y, pas (swp F a b) g n x y ↔ pas F g n x y) ∧ (inj2 F g n → inj2 (swp F a b) g n) ∧ (edg (4 * n) F → edg (4 * n) (swp F a b)) := by
  have P := sPi_all h g ha hb ca cb
  refine ⟨fun x y => ?_, fun hi => ?_, fun he e hel => ?_⟩
  · constructor
    · rintro ⟨t, t1, t2, t3, t4⟩
      have p := P t t1
      rw [swp_pi] at t3 t4
      rw [p.2.2.2] at t4
      exact ⟨_, p.1, by rw [p.2.2.1]; exact t2, t3, t4⟩
    · rintro ⟨t, t1, t2, t3, t4⟩
      have p := P t t1
      refine ⟨sPi a b t, p.1, by rw [p.2.2.1]; exact t2, ?_, ?_⟩
      · rw [swp_pi, p.2.1]; exact t3
      · rw [swp_pi, ← p.2.2.2, (P (opp t) (opp_ltn t1)).2.1]; exact t4
  · intro i j hi' hj' hc hf
    rw [swp_pi, swp_pi] at hf
    have pi := P i hi'
    have pj := P j hj'
    have := hi _ _ pi.1 pj.1 (by rw [pi.2.2.1, pj.2.2.1]; exact hc) hf
    rw [← pi.2.1, this, pj.2.1]
  · rw [swp_pi]
    exact he _ (P e hel).1
end SW
/-- one edge of the three, told from what was -/
theorem slS_swp {f g F : Nat → Int32} {n h : Nat} (hs : ∀ t, (t / 4 = outg f g n h / 4 ∧ t % 2 = outg f g n h % 2) ∨ (t / 4 = inc f g n h / 4 ∧ t % 2 = inc f g n h % 2) → F t = f t) (e1 : f (outg f g n h) = f h) (e2 : f (inc f g n h) = f h) : slS f g n h F = swp F (outg f g n h) (inc f g n h) := by
  unfold slS swp
  rw [hs (outg f g n h) (Or.inl ⟨rfl, rfl⟩), hs (inc f g n h) (Or.inr ⟨rfl, rfl⟩), hs (opp (outg f g n h)) (Or.inl ⟨opp_div, opp_mod _⟩), hs (opp (inc f g n h)) (Or.inr ⟨opp_div, opp_mod _⟩), e1, e2]
theorem swp_far {F : Nat → Int32} {a b t : Nat} (h1 : ¬ (t / 4 = a / 4 ∧ t % 2 = a % 2)) (h2 : ¬ (t / 4 = b / 4 ∧ t % 2 = b % 2)) : swp F a b t = F t := by
  rw [swp_pi, sPi_5]
  · exact fun z => h2 (by rw [z]; exact ⟨opp_div, opp_mod _⟩)
  · exact fun z => h2 (by rw [z]; exact ⟨rfl, rfl⟩)
  · exact fun z => h1 (by rw [z]; exact ⟨rfl, rfl⟩)
  · exact fun z => h1 (by rw [z]; exact ⟨opp_div, opp_mod _⟩)
/-- the places of an edge's two ends -/
def plc (o : Nat → Nat) (h t : Nat) : Prop := (t / 4 = h / 4 ∧ t % 2 = h % 2) ∨ (t / 4 = o h / 4 ∧ t % 2 = o h % 2)
theorem plc_io {f g : Nat → Int32} {n h : Nat} (ho : Ot f g n (oth f n)) (hh : h < 4 * n) (t : Nat) : plc (oth f n) h t ↔ (t / 4 = outg f g n h / 4 ∧ t % 2 = outg f g n h % 2) ∨ (t / 4 = inc f g n h / 4 ∧ t % 2 = inc f g n h % 2) := by
  obtain ⟨a1, a2, a3, a4⟩ := outg_s ho hh
  obtain ⟨b1, b2, b3, b4, b5⟩ := inc_s ho hh
  unfold plc
  rcases a4 with z | z
  · rw [b5, z]
  · rw [b5, z, ho.inv hh]
    exact or_comm
theorem slide_Dia {f g : Nat → Int32} {n cc e y z : Nat} (hD : Dia f g n cc) (he : e < 4 * n) (hxy : e / 4 ≠ y) (hyz : y ≠ z) (hxz : e / 4 ≠ z) (hb : slB f n y z e = true) : Dia (slS f g n (fol f n (fol f n e)) (slS f g n (fol f n e) (slS f g n e f))) g n cc := by
  have ho := hD.ot
  obtain ⟨h1, h2, h3, h4, h5, h6, h7⟩ := hD
  unfold slB at hb
  simp only [Bool.and_eq_true, Bool.or_eq_true, decide_eq_true_eq] at hb
  obtain ⟨⟨q1, q2⟩, -⟩ := hb
  have lb : fol f n e < 4 * n := (ho.pfol.2.1 e ⟨he, rfl⟩).1
  have lc : fol f n (fol f n e) < 4 * n := (ho.pfol.2.1 _ ⟨lb, rfl⟩).1
  have e1 : fol f n e = oth f n e / 4 * 4 + (oth f n e + 3) % 4 := rfl
  have e2 : fol f n (fol f n e) = oth f n (fol f n e) / 4 * 4 + (oth f n (fol f n e) + 3) % 4 := rfl
  have e3 : fol f n (fol f n (fol f n e)) = oth f n (fol f n (fol f n e)) / 4 * 4 + (oth f n (fol f n (fol f n e)) + 3) % 4 := rfl
  rw [q1] at e3
  generalize hB : fol f n e = b at *
  generalize hC : fol f n b = c at *
  -- three crossings
  have d1 : e / 4 ≠ b / 4 := by rcases q2 with r | r <;> omega
  have d2 : b / 4 ≠ c / 4 := by rcases q2 with r | r <;> omega
  have d3 : e / 4 ≠ c / 4 := by rcases q2 with r | r <;> omega
  have k1 : oth f n e / 4 = b / 4 ∧ oth f n e % 2 ≠ b % 2 := by omega
  have k2 : oth f n b / 4 = c / 4 ∧ oth f n b % 2 ≠ c % 2 := by omega
  have k3 : oth f n c / 4 = e / 4 ∧ oth f n c % 2 ≠ e % 2 := by omega
  clear q1 q2 e1 e2 e3
  have dAB : ∀ t, plc (oth f n) e t → ¬ plc (oth f n) b t := by
    unfold plc
    rintro t (r | r) (w | w) <;> omega
  have dAC : ∀ t, plc (oth f n) e t → ¬ plc (oth f n) c t := by
    unfold plc
    rintro t (r | r) (w | w) <;> omega
  have dBC : ∀ t, plc (oth f n) b t → ¬ plc (oth f n) c t := by
    unfold plc
    rintro t (r | r) (w | w) <;> omega
  have one : ∀ h F, h < 4 * n → h / 4 ≠ oth f n h / 4 → (∀ t, plc (oth f n) h t → F t = f t) → (∀ x y, pas (slS f g n h F) g n x y ↔ pas F g n x y) ∧ (inj2 F g n → inj2 (slS f g n h F) g n) ∧ (edg (4 * n) F → edg (4 * n) (slS f g n h F)) ∧ ∀ t, ¬ plc (oth f n) h t → slS f g n h F t = F t := by
    intro h F hh hne hF
    have pl := plc_io ho hh
    obtain ⟨a1, a2, a3, a4⟩ := outg_s ho hh
    obtain ⟨b1, b2, b3, b4, b5⟩ := inc_s ho hh
    have hdiv : outg f g n h / 4 ≠ inc f g n h / 4 := by
      rcases a4 with r | r
      · rw [b5, r]; exact hne
      · rw [b5, r, ho.inv hh]; exact hne.symm
    rw [slS_swp (fun t ht => hF t ((pl t).mpr ht)) a3 b3]
    have P := swp_pas hdiv (F := F) a1 b1 a2 b2
    exact ⟨P.1, P.2.1, P.2.2, fun t ht => swp_far (fun w => ht ((pl t).mpr (Or.inl w))) (fun w => ht ((pl t).mpr (Or.inr w)))⟩
  have O1 := one e f he (by omega) (fun t _ => rfl)
  have O2 := one b (slS f g n e f) lb (by omega) (fun t ht => O1.2.2.2 t (fun w => dAB t w ht))
  have O3 := one c (slS f g n b (slS f g n e f)) lc (by omega) (fun t ht => by rw [O2.2.2.2 t (fun w => dBC t w ht), O1.2.2.2 t (fun w => dAC t w ht)])
  have hs : ∀ x y, pas (slS f g n c (slS f g n b (slS f g n e f))) g n x y ↔ pas f g n x y := fun x y => (O3.1 x y).trans ((O2.1 x y).trans (O1.1 x y))
  refine ⟨h1, O3.2.2.1 (O2.2.2.1 (O1.2.2.1 h2)), h3, O3.2.1 (O2.2.1 (O1.2.1 h4)), ?_, h6, ?_⟩
  · rw [bal_congr hs]; exact h5
  · rw [bal_congr hs]; exact h7
theorem slS_congr {f g f' g' F : Nat → Int32} {n h : Nat} (h1 : ∀ t, t < 4 * n → f' t = f t) (h2 : ∀ x, x < n → g' x = g x) (ho : ∀ t, t < 4 * n → oth f n t < 4 * n) (hh : h < 4 * n) : slS f' g' n h F = slS f g n h F := by
  have hc : cin g' h = cin g h := cin_congr rfl (h2 (h / 4) (by omega))
  have eo : outg f' g' n h = outg f g n h := by
    unfold outg
    rw [hc]
    exact congrArg (fun z => if cin g h = true then z else h) (oth_congr h1 hh)
  have ei : inc f' g' n h = inc f g n h := by
    unfold inc
    rw [hc]
    exact congrArg (fun z => if cin g h = true then h else z) (oth_congr h1 hh)
  have lo : outg f g n h < 4 * n := by
    unfold outg
    split
    · exact ho h hh
    · exact hh
  have li : inc f g n h < 4 * n := by
    unfold inc
    split
    · exact hh
    · exact ho h hh
  unfold slS
  rw [eo, ei, h1 h hh, h1 _ (opp_ltn lo), h1 _ (opp_ltn li)]
theorem slM_ag {f g me mp F X : Nat → Int32} {n h : Nat} (ho : Ot f g n (oth f n)) (h1 : agE (4 * n) f me) (h2 : agP n g mp) (hh : h < 4 * n) (hF : agE (4 * n) F X) : agE (4 * n) (slS f g n h F) (slM me mp (oth f n) h X) ∧ ∀ t, 4 * n ≤ t → slM me mp (oth f n) h X t = X t := by
  have hin := inM_cin (g := g) (h2 (h / 4) (by omega))
  have eo : ouM mp (oth f n) h = outg f g n h := by
    unfold ouM outg
    rw [hin]
    rfl
  have ei : coM mp (oth f n) h = inc f g n h := by
    unfold coM inc
    rw [hin]
    rfl
  obtain ⟨a1, a2, a3, a4⟩ := outg_s ho hh
  obtain ⟨b1, b2, b3, b4, b5⟩ := inc_s ho hh
  unfold slS slM
  rw [eo, ei, opM_opp, opM_opp, h1 _ a1, h1 _ b1, h1 _ (opp_ltn a1), h1 _ (opp_ltn b1), a3, b3]
  have U : ∀ (G Y : Nat → Int32) (i : Nat) (v : Int32), agE (4 * n) G Y → agE (4 * n) (upd G i v) (upd Y i v) := fun G Y i v hG t ht => by
    by_cases w : t = i
    · rw [w, upd_self, upd_self]
    · rw [upd_ne _ _ w, upd_ne _ _ w]; exact hG t ht
  refine ⟨U _ _ _ _ (U _ _ _ _ (U _ _ _ _ (U _ _ _ _ hF))), fun t ht => ?_⟩
  have o1 := opp_ltn a1
  have o2 := opp_ltn b1
  rw [upd_ne _ _ (by omega), upd_ne _ _ (by omega), upd_ne _ _ (by omega), upd_ne _ _ (by omega)]
theorem cp_at {a : Nat → Int32} {i : Nat} : ∀ k h (x : Nat → Int32), itN (cpS a) h k x i = if h ≤ i ∧ i < h + k then a i else x i := by
  intro k
  induction k with
  | zero => intro h x; rw [itN_0, if_neg (by omega)]
  | succ k ih =>
    intro h x
    rw [itN_s, ih (h + 1) _]
    unfold cpS
    by_cases e : i = h
    · rw [e, if_neg (by omega), upd_self, if_pos (by omega)]
    · rw [upd_ne _ _ e]
      by_cases e2 : h + 1 ≤ i ∧ i < h + 1 + k
      · rw [if_pos e2, if_pos (by omega)]
      · rw [if_neg e2, if_neg (by omega)]
theorem slB_ag {f : Nat → Int32} {n y z e : Nat} : sbB (oth f n) y z e = slB f n y z e := by
  unfold sbB slB lvM upE
  rw [fM_fol, fM_fol, fM_fol]
  rfl
theorem st_slide : ∀ w, Inv w → ∀ (a : Int32) (b : Int32) (c : Int32), zOpI M_A_slide M_M_slide [.int a, .int b, .int c] Inv w := by
  rintro w ⟨nd, fd, gd, n, f, g, nf, ff, gf, s, q, oe, t, m, l, u, c0, ln, mi, wd, pl, lt, cc, me, mp, mw, mv, my, mt, ms, mq, mh, ma, mz, mk, mn, mr, mx, rfl, hd, hg, hw, hu⟩ a b c
  have hn := hg.1.1
  have ho := hg.1.ot
  have hwin := win_0 ho hg.2.1
  by_cases h : ¬ a = b ∧ ¬ b = c ∧ ¬ a = c ∧ (¬ a < 0 ∧ a < nI n) ∧ (¬ b < 0 ∧ b < nI n) ∧ (¬ c < 0 ∧ c < nI n)
  · obtain ⟨h1, h2, h3, ⟨k1, k2⟩, ⟨k3, k4⟩, k5, k6⟩ := h
    obtain ⟨x, hx, rfl⟩ := nI_of k1
    obtain ⟨y, hy, rfl⟩ := nI_of k3
    obtain ⟨z, hz, rfl⟩ := nI_of k5
    have hx' : x < n := (nI_ltI (by omega) (by omega)).mp k2
    have hy' : y < n := (nI_ltI (by omega) (by omega)).mp k4
    have hz' : z < n := (nI_ltI (by omega) (by omega)).mp k6
    have hxy : x ≠ y := fun z => h1 (by rw [z])
    have hyz : y ≠ z := fun z => h2 (by rw [z])
    have hxz : x ≠ z := fun z => h3 (by rw [z])
    have hfc : fiF (sbB (oth f n) y z) (4 * x) 4 = fiF (slB f n y z) (4 * x) 4 := fiF_congr 4 (4 * x) (fun t _ _ => slB_ag)
    cases hf : fiF (slB f n y z) (4 * x) 4 with
    | none => exact opI (fun T => sp_A_slide_none hx' hy' hz' hxy hyz hxz hn hf) (fun X => sp_M_slide_none hn hwin hx' hy' hz' hxy hyz hxz (by rw [hfc]; exact hf)) (Inv.of hd hg hw hu)
    | some e =>
      have hs := fiF_s 4 (4 * x) e hf
      have he4 : e / 4 = x := by have := hs.1; omega
      have he : e < 4 * n := by omega
      have D := slide_Dia hg.1 he (by omega) hyz (by omega) hs.2
      have lb : fol f n e < 4 * n := (ho.pfol.2.1 e ⟨he, rfl⟩).1
      have lc : fol f n (fol f n e) < 4 * n := (ho.pfol.2.1 _ ⟨lb, rfl⟩).1
      have f1 : ∀ i, i < 4 * n → va_cpy f ff 0 0 32 i = f i := fun i hi => by
        unfold va_cpy
        rw [if_pos (by omega)]
        congr 1
        omega
      have g1 : ∀ x, x < n → va_cpy g gf 0 0 8 x = g x := fun x hx => by
        unfold va_cpy
        rw [if_pos (by omega)]
        congr 1
        omega
      have hol : ∀ t, t < 4 * n → oth f n t < 4 * n := fun t ht => (ho t ht).1
      have eF : slF f g ff gf n e = slS f g n (fol f n (fol f n e)) (slS f g n (fol f n e) (slS f g n e f)) := by
        unfold slF
        rw [fol_congr f1 he, fol_congr f1 lb, slS_congr f1 g1 hol he, slS_congr f1 g1 hol lb, slS_congr f1 g1 hol lc]
      have X0 : agE (4 * n) f (itN (cpS me) 0 32 mx) := fun i hi => by
        rw [cp_at, if_pos (by omega)]
        exact hg.2.1 i hi
      have X1 := slM_ag ho hg.2.1 hg.2.2 he X0
      have X2 := slM_ag ho hg.2.1 hg.2.2 lb X1.1
      have X3 := slM_ag ho hg.2.1 hg.2.2 lc X2.1
      refine opI (fun T => sp_A_slide hx' hy' hz' hxy hyz hxz hn hf) (fun X => sp_M_slide hn hwin hx' hy' hz' hxy hyz hxz (hfc.trans hf)) (Inv.of (hd.keep (fun i _ => ?_) (fun x _ => rfl)) ⟨by rw [eF]; exact D, fun i hi => ?_, hg.2.2⟩ hw hu)
      · rw [cp_at, if_neg (by omega)]
      · rw [cp_at, if_pos (by omega), eF]
        unfold slX
        rw [fM_fol, fM_fol]
        exact X3.1 i hi
  · exact opI (fun T => sp_A_slide_no h) (fun X => sp_M_slide_no h) (Inv.of hd hg hw hu)
