/-- the crossings fit -/
def FitP (f g : Nat → Int32) (n : Nat) : Prop := ∀ e, e < 4 * n → ∃ j, j < 4 * n ∧ cin g j = (!cin g e) ∧ f j = f e ∧ ∀ i, i < 4 * n → f i = f e → i = e ∨ i = j
theorem opp_opp (e : Nat) : opp (opp e) = e := by unfold opp; omega
theorem opp_ltn {e n : Nat} (h : e < 4 * n) : opp e < 4 * n := by unfold opp; omega
theorem opp_ne (e : Nat) : opp e ≠ e := by unfold opp; omega
theorem opp_inj {a b : Nat} (h : opp a = opp b) : a = b := by rw [← opp_opp a, h, opp_opp]
theorem opM_opp (e : Nat) : opM e = opp e := by
  unfold opM opp
  split <;> omega
theorem mod4 (e : Nat) : e % 4 = 0 ∨ e % 4 = 1 ∨ e % 4 = 2 ∨ e % 4 = 3 := by omega
theorem cin_opp (g : Nat → Int32) (e : Nat) : cin g (opp e) = !cin g e := by
  unfold cin
  rw [opp_div]
  have h : opp e % 4 = (e + 2) % 4 := by unfold opp; omega
  rw [show opp e % 2 = e % 2 by unfold opp; omega, h]
  rcases mod4 e with h | h | h | h
  · rw [show e % 2 = 0 by omega, show (e + 2) % 4 = 2 by omega, h]; rfl
  · rw [show e % 2 = 1 by omega, show (e + 2) % 4 = 3 by omega, h]; cases decide (0 < g (e / 4)) <;> rfl
  · rw [show e % 2 = 0 by omega, show (e + 2) % 4 = 0 by omega, h]; rfl
  · rw [show e % 2 = 1 by omega, show (e + 2) % 4 = 1 by omega, h]; cases decide (0 < g (e / 4)) <;> rfl
theorem inM_cin {g mp : Nat → Int32} {h : Nat} (hp : mp (h / 4) = zb (decide (0 < g (h / 4)))) : inM mp h = cin g h := by
  unfold inM cin
  rw [hp]
  rcases mod4 h with e | e | e | e
  · rw [show h % 2 = 0 by omega, e]; rfl
  · rw [show h % 2 = 1 by omega, e]; cases decide (0 < g (h / 4)) <;> rfl
  · rw [show h % 2 = 0 by omega, e]; cases decide (0 < g (h / 4)) <;> rfl
  · rw [show h % 2 = 1 by omega, e]; cases decide (0 < g (h / 4)) <;> rfl
theorem cin_congr {g g' : Nat → Int32} {e e' : Nat} (h1 : e' % 4 = e % 4) (h2 : g' (e' / 4) = g (e / 4)) : cin g' e' = cin g e := by
  unfold cin
  rw [h1, h2, show e' % 2 = e % 2 by omega]
theorem oEnd_some {f : Nat → Int32} {e : Nat} : ∀ k i j, i ≤ j → j < i + k → j ≠ e → f j = f e → i ≤ oEnd f e i k ∧ oEnd f e i k < i + k ∧ oEnd f e i k ≠ e ∧ f (oEnd f e i k) = f e := by
  intro k
  induction k with
  | zero => intro i j h1 h2; omega
  | succ k ih =>
    intro i j h1 h2 h3 h4
    rw [oEnd]
    by_cases h : i ≠ e ∧ f i = f e
    · rw [if_pos h]
      exact ⟨by omega, by omega, h.1, h.2⟩
    · rw [if_neg h]
      have hij : j ≠ i := fun hh => h (hh ▸ ⟨h3, h4⟩)
      have := ih (i + 1) j (by omega) (by omega) h3 h4
      exact ⟨by omega, by omega, this.2.2⟩
/-- what otherEnd answers -/
def Ot (f g : Nat → Int32) (n : Nat) (o : Nat → Nat) : Prop := ∀ e, e < 4 * n → o e < 4 * n ∧ o e ≠ e ∧ f (o e) = f e ∧ cin g (o e) = (!cin g e) ∧ ∀ j, j < 4 * n → f j = f e → j = e ∨ j = o e
theorem FitP.ot {f g : Nat → Int32} {n : Nat} (h : FitP f g n) : Ot f g n (oth f n) := by
  intro e he
  obtain ⟨j, h1, h2, h3, h4⟩ := h e he
  have hne : j ≠ e := fun hh => by rw [hh] at h2; cases hc : cin g e <;> rw [hc] at h2 <;> cases h2
  have k := oEnd_some (4 * n) 0 j (by omega) (by omega) hne h3
  have e1 : oth f n e = j := by
    rcases h4 (oth f n e) (by have := k.2.1; unfold oth; omega) k.2.2.2 with hh | hh
    · exact absurd hh k.2.2.1
    · exact hh
  rw [e1]
  exact ⟨h1, hne, h3, h2, h4⟩
theorem FitP.of {f g : Nat → Int32} {n : Nat} (h1 : inj2 f g n) (h2 : bal (pas f g n)) : FitP f g n := by
  intro e he
  have hj : ∃ j, j < 4 * n ∧ cin g j = (!cin g e) ∧ f j = f e := by
    cases hc : cin g e with
    | true =>
      obtain ⟨a, h, k1, k2, k3, k4⟩ := (h2 (f e)).mp ⟨f (opp e), e, he, hc, rfl, rfl⟩
      exact ⟨opp h, opp_ltn k1, by rw [cin_opp, k2], k4⟩
    | false =>
      obtain ⟨b, h, k1, k2, k3, k4⟩ := (h2 (f e)).mpr ⟨f (opp e), opp e, opp_ltn he, by rw [cin_opp, hc]; rfl, rfl, by rw [opp_opp]⟩
      exact ⟨h, k1, k2, k3⟩
  obtain ⟨j, k1, k2, k3⟩ := hj
  refine ⟨j, k1, k2, k3, fun i hi hf => ?_⟩
  by_cases hc : cin g i = cin g e
  · exact Or.inl (h1 i e hi he hc hf)
  · refine Or.inr (h1 i j hi k1 ?_ (hf.trans k3.symm))
    rw [k2]
    cases h5 : cin g i <;> cases h6 : cin g e <;> simp_all
theorem FitP.inj2 {f g : Nat → Int32} {n : Nat} (h : FitP f g n) : inj2 f g n := by
  intro i j hi hj hc hf
  obtain ⟨k, k1, k2, k3, k4⟩ := h j hj
  rcases k4 i hi hf with e | e
  · exact e
  · subst e
    rw [k2] at hc
    cases h6 : cin g j <;> rw [h6] at hc <;> cases hc
theorem FitP.bal {f g : Nat → Int32} {n : Nat} (h : FitP f g n) : bal (pas f g n) := by
  intro v
  constructor
  · rintro ⟨b, e, he, hc, rfl, rfl⟩
    obtain ⟨j, k1, k2, k3, k4⟩ := h e he
    exact ⟨f (opp j), opp j, opp_ltn k1, by rw [cin_opp, k2, hc]; rfl, rfl, by rw [opp_opp, k3]⟩
  · rintro ⟨a, e, he, hc, rfl, rfl⟩
    obtain ⟨j, k1, k2, k3, k4⟩ := h (opp e) (opp_ltn he)
    exact ⟨f (opp j), j, k1, by rw [k2, cin_opp, hc]; rfl, k3, rfl⟩
theorem Dia.fit {f g : Nat → Int32} {n cc : Nat} (h : Dia f g n cc) : FitP f g n := FitP.of h.2.2.2.1 h.2.2.2.2.1
theorem Ot.inv {f g : Nat → Int32} {n : Nat} {o : Nat → Nat} (h : Ot f g n o) {e : Nat} (he : e < 4 * n) : o (o e) = e := by
  have h1 := h e he
  have h2 := h (o e) h1.1
  rcases h2.2.2.2.2 e he h1.2.2.1.symm with e1 | e1
  · exact absurd e1.symm h1.2.1
  · exact e1.symm
-- the reference's other
theorem oM_none {me : Nat → Int32} {h : Nat} : ∀ k j fd c, (∀ t, j ≤ t → t < j + k → t ≠ h → ¬ me t = me h) → oM me h j k fd c = if c = 1 then fd else -1 := by
  intro k
  induction k with
  | zero => intro j fd c _; rfl
  | succ k ih =>
    intro j fd c hn
    rw [oM, if_neg (fun q => hn j (by omega) (by omega) q.1 q.2)]
    exact ih (j + 1) fd c (fun t h1 h2 => hn t (by omega) (by omega))
theorem oM_one {me : Nat → Int32} {h t0 : Nat} (h0 : t0 ≠ h) (hm : me t0 = me h) : ∀ k j fd, j ≤ t0 → t0 < j + k → (∀ t, j ≤ t → t < j + k → t ≠ h → me t = me h → t = t0) → oM me h j k fd 0 = nI t0 := by
  intro k
  induction k with
  | zero => intro j fd h1 h2; omega
  | succ k ih =>
    intro j fd h1 h2 h3
    rw [oM]
    by_cases hj : j = t0
    · subst hj
      rw [if_pos ⟨h0, hm⟩, oM_none k (j + 1) (nI j) _ (fun t a b c d => absurd (h3 t (by omega) (by omega) c d) (by omega))]
      rfl
    · rw [if_neg (fun q => hj (h3 j (by omega) (by omega) q.1 q.2))]
      exact ih (j + 1) fd (by omega) (by omega) (fun t a b => h3 t (by omega) (by omega))
theorem oM_many {me : Nat → Int32} {h : Nat} : ∀ k j fd m, 2 ≤ m → m + k < 2 ^ 31 → oM me h j k fd (nI m) = -1 := by
  intro k
  induction k with
  | zero =>
    intro j fd m h2 hk
    rw [oM, if_neg (fun q => by have := (nI_eq (b := 1) (by omega) (by decide)).mp q; omega)]
  | succ k ih =>
    intro j fd m h2 hk
    rw [oM]
    split
    · rw [nI_1]
      exact ih (j + 1) _ (m + 1) (by omega) (by omega)
    · exact ih (j + 1) fd m h2 (by omega)
theorem oM_two {me : Nat → Int32} {h t2 : Nat} (h0 : t2 ≠ h) (hm : me t2 = me h) : ∀ k j fd, j ≤ t2 → t2 < j + k → k < 1000 → oM me h j k fd 1 = -1 := by
  intro k
  induction k with
  | zero => intro j fd h1 h2; omega
  | succ k ih =>
    intro j fd h1 h2 hk
    rw [oM]
    by_cases hj : j ≠ h ∧ me j = me h
    · rw [if_pos hj]
      exact oM_many k (j + 1) _ 2 (by omega) (by omega)
    · rw [if_neg hj]
      have : j ≠ t2 := fun q => hj (q ▸ ⟨h0, hm⟩)
      exact ih (j + 1) fd (by omega) (by omega) (by omega)
theorem oM_two' {me : Nat → Int32} {h t1 t2 : Nat} (h0 : t1 ≠ h) (hm : me t1 = me h) (h0' : t2 ≠ h) (hm' : me t2 = me h) (h12 : t1 < t2) : ∀ k j fd, j ≤ t1 → t2 < j + k → k < 1000 → oM me h j k fd 0 = -1 := by
  intro k
  induction k with
  | zero => intro j fd h1 h2; omega
  | succ k ih =>
    intro j fd h1 h2 hk
    rw [oM]
    by_cases hj : j ≠ h ∧ me j = me h
    · rw [if_pos hj]
      exact oM_two h0' hm' k (j + 1) _ (by omega) (by omega) (by omega)
    · rw [if_neg hj]
      have : j ≠ t1 := fun q => hj (q ▸ ⟨h0, hm⟩)
      exact ih (j + 1) fd (by omega) (by omega) (by omega)
/-- the reference's view of the ends that the class has from 0 on -/
def shf (v : Nat) (o : Nat → Nat) (h : Nat) : Nat := v + o (h - v)
theorem win_of {f g me : Nat → Int32} {n v : Nat} {o : Nat → Nat} (ho : Ot f g n o) (ha : agE (4 * n) f (fun i => me (v + i))) : win me v n (shf v o) := by
  intro h h1 h2
  have k := ho (h - v) (by omega)
  have e1 : me h = f (h - v) := by have := ha (h - v) (by omega); rw [← this]; congr 1; omega
  have e2 : me (v + o (h - v)) = f (o (h - v)) := ha _ k.1
  unfold shf
  refine ⟨oM_one (by omega) (by rw [e2, e1, k.2.2.1]) (4 * n) v (-1) (by omega) (by have := k.1; omega) (fun t t1 t2 t3 t4 => ?_), by omega, by have := k.1; omega⟩
  have e3 : me t = f (t - v) := by have := ha (t - v) (by omega); rw [← this]; congr 1; omega
  rw [e3, e1] at t4
  rcases k.2.2.2.2 (t - v) (by omega) t4 with q | q
  · omega
  · omega
theorem shf_0 (o : Nat → Nat) : shf 0 o = o := by
  funext h
  unfold shf
  simp
theorem win_0 {f g me : Nat → Int32} {n : Nat} {o : Nat → Nat} (ho : Ot f g n o) (ha : agE (4 * n) f me) : win me 0 n o := by
  have := win_of (v := 0) ho (by intro i hi; simpa using ha i hi)
  rw [shf_0] at this
  exact this
/-- does it fit: the reference -/
theorem ftM_iff {me mp : Nat → Int32} {v n : Nat} : ∀ k h, ftM me mp v n h k = true ↔ ∀ t, h ≤ t → t < h + k → ¬ (oMI me v n t < 0 ∨ inM mp (oMI me v n t).toNatClampNeg = inM mp t) := by
  intro k
  induction k with
  | zero => intro h; exact ⟨fun _ t h1 h2 => by omega, fun _ => rfl⟩
  | succ k ih =>
    intro h
    rw [ftM]
    by_cases hc : oMI me v n h < 0 ∨ inM mp (oMI me v n h).toNatClampNeg = inM mp h
    · rw [if_pos hc]
      exact ⟨fun h => (by cases h), fun hh => absurd hc (hh h (by omega) (by omega))⟩
    · rw [if_neg hc, ih (h + 1)]
      refine ⟨fun hh t h1 h2 => ?_, fun hh t h1 h2 => hh t (by omega) (by omega)⟩
      by_cases ht : t = h
      · rw [ht]; exact hc
      · exact hh t (by omega) (by omega)
theorem ftM_fit {f g me mp : Nat → Int32} {v n : Nat} (hn : n ≤ 8) (hv : v = 0 ∨ v = 32) (ha : agE (4 * n) f (fun i => me (v + i))) (hp : agP n g (fun x => mp (v / 4 + x))) : ftM me mp v n v (4 * n) = true ↔ FitP f g n := by
  have em : ∀ t, v ≤ t → t < v + 4 * n → me t = f (t - v) := fun t h1 h2 => by
    have := ha (t - v) (by omega); rw [← this]; congr 1; omega
  have ei : ∀ t, v ≤ t → t < v + 4 * n → inM mp t = cin g (t - v) := fun t h1 h2 => by
    rw [← inM_cin (mp := fun x => mp (v / 4 + x)) (hp ((t - v) / 4) (by omega))]
    unfold inM
    have e1 : (t - v) % 4 = t % 4 := by rcases hv with h | h <;> subst h <;> omega
    have e2 : v / 4 + (t - v) / 4 = t / 4 := by rcases hv with h | h <;> subst h <;> omega
    show _ = (decide ((t - v) % 4 = 0) || decide ((t - v) % 4 = if mp (v / 4 + (t - v) / 4) = 0 then 1 else 3))
    rw [e1, e2]
  rw [ftM_iff]
  constructor
  · intro hh e he
    have h1 := hh (v + e) (by omega) (by omega)
    by_cases hex : ∃ t, v ≤ t ∧ t < v + 4 * n ∧ t ≠ v + e ∧ me t = me (v + e)
    · obtain ⟨t, a1, a2, a3, a4⟩ := hex
      have hun : ∀ t', v ≤ t' → t' < v + 4 * n → t' ≠ v + e → me t' = me (v + e) → t' = t := by
        intro t' b1 b2 b3 b4
        rcases Nat.lt_trichotomy t t' with hlt | heq | hgt
        · exact absurd (Or.inl (by unfold oMI; rw [oM_two' a3 a4 b3 b4 hlt (4 * n) v (-1) (by omega) (by omega) (by omega)]; decide)) h1
        · exact heq.symm
        · exact absurd (Or.inl (by unfold oMI; rw [oM_two' b3 b4 a3 a4 hgt (4 * n) v (-1) (by omega) (by omega) (by omega)]; decide)) h1
      have e1 : oMI me v n (v + e) = nI t := oM_one a3 a4 (4 * n) v (-1) a1 a2 hun
      rw [e1, nI_clamp (by rcases hv with h | h <;> subst h <;> omega), ei t a1 a2, ei (v + e) (by omega) (by omega), show v + e - v = e by omega] at h1
      rw [em t a1 a2, em (v + e) (by omega) (by omega), show v + e - v = e by omega] at a4
      refine ⟨t - v, by omega, ?_, a4, fun i hi hf => ?_⟩
      · have := fun q => h1 (Or.inr q)
        cases h5 : cin g (t - v) <;> cases h6 : cin g e <;> simp_all
      · by_cases hie : i = e
        · exact Or.inl hie
        · have := hun (v + i) (by omega) (by omega) (by omega) (by rw [em (v + i) (by omega) (by omega), em (v + e) (by omega) (by omega), show v + i - v = i by omega, show v + e - v = e by omega]; exact hf)
          exact Or.inr (by omega)
    · refine absurd (Or.inl ?_) h1
      unfold oMI
      rw [oM_none (4 * n) v (-1) 0 (fun t a1 a2 a3 a4 => hex ⟨t, a1, a2, a3, a4⟩)]
      decide
  · intro hf t h1 h2
    have ho := hf.ot
    have k := win_of ho ha t h1 h2
    have k2 := ho (t - v) (by omega)
    rw [k.1]
    rintro (q | q)
    · exact nI_pos (by have := k.2.2; rcases hv with h | h <;> subst h <;> omega) q
    · rw [nI_clamp (by have := k.2.2; rcases hv with h | h <;> subst h <;> omega), ei _ k.2.1 k.2.2, ei t h1 h2] at q
      unfold shf at q
      rw [show v + oth f n (t - v) - v = oth f n (t - v) by omega, k2.2.2.2.1] at q
      cases h6 : cin g (t - v) <;> rw [h6] at q <;> cases q
