theorem mgA_at (a b lo : Int32) (t : Nat) : ∀ k i (l : Nat → Int32), mgA a b lo l i k t = if (i ≤ t ∧ t < i + k) ∧ (l t = a ∨ l t = b) then lo else l t := by
  intro k
  induction k with
  | zero => intro i l; rw [mgA, if_neg (by omega)]
  | succ k ih =>
    intro i l
    rw [mgA, ih]
    by_cases h : t = i
    · subst h
      rw [if_neg (by omega)]
      by_cases h2 : l t = a ∨ l t = b
      · rw [if_pos h2, if_pos ⟨by omega, h2⟩, upd_self]
      · rw [if_neg h2, if_neg (fun z => h2 z.2)]
    · have e : (if l i = a ∨ l i = b then upd l i lo else l) t = l t := by
        split
        · exact upd_ne _ _ h
        · rfl
      rw [e]
      by_cases h2 : (i + 1 ≤ t ∧ t < i + 1 + k) ∧ (l t = a ∨ l t = b)
      · rw [if_pos h2, if_pos ⟨by omega, h2.2⟩]
      · rw [if_neg h2, if_neg (fun z => h2 ⟨by omega, z.2⟩)]
theorem nuI_at (t : Nat) : ∀ k i (a : Nat → Int32), itN nuI i k a t = if i ≤ t ∧ t < i + k then nI (100 + t) else a t := by
  intro k
  induction k with
  | zero => intro i a; rw [itN_0, if_neg (by omega)]
  | succ k ih =>
    intro i a
    rw [itN_s, ih]
    unfold nuI
    by_cases h : t = i
    · subst h
      rw [if_neg (by omega), upd_self, if_pos (by omega)]
    · rw [upd_ne _ _ h]
      by_cases h2 : i + 1 ≤ t ∧ t < i + 1 + k
      · rw [if_pos h2, if_pos (by omega)]
      · rw [if_neg h2, if_neg (by omega)]
/-- both sides while arcs are merged -/
def Arc (f : Nat → Int32) (n : Nat) (l a : Nat → Int32) : Prop := ∀ d, d < 33 → ∃ x, l d = nI x ∧ a d = nI (100 + x) ∧ x ≤ d ∧ (1 ≤ d → 1 ≤ x) ∧ l x = nI x ∧ (x = d ∨ occ f (nI x) 0 (4 * n) = true)
theorem Arc.start {f : Nat → Int32} {n : Nat} (l ma : Nat → Int32) : Arc f n (piI l 0 33) (itN nuI 0 33 ma) := fun d hd => by
  refine ⟨d, ?_, ?_, Nat.le_refl _, fun h => h, ?_, Or.inl rfl⟩
  · rw [piI_at, if_pos (by omega)]
  · rw [nuI_at, if_pos (by omega)]
  · rw [piI_at, if_pos (by omega)]
theorem Arc.step {f me : Nat → Int32} {n i : Nat} {l a : Nat → Int32} (hi : i < n) (hf : edg (4 * n) f) (ha : agE (4 * n) f me) (h : Arc f n l a) : Arc f n (arS f i l) (nuS me i a) := by
  have e1 : ed me (4 * i + 1) = ed f (4 * i + 1) := by unfold ed; rw [ha _ (by omega)]
  have e3 : ed me (4 * i + 3) = ed f (4 * i + 3) := by unfold ed; rw [ha _ (by omega)]
  have d1 := edg_ed hf (e := 4 * i + 1) (by omega)
  have d3 := edg_ed hf (e := 4 * i + 3) (by omega)
  have o1 : occ f (nI (ed f (4 * i + 1))) 0 (4 * n) = true := (occ_iff _ _).mpr ⟨4 * i + 1, by omega, d1.1⟩
  have o3 : occ f (nI (ed f (4 * i + 3))) 0 (4 * n) = true := (occ_iff _ _).mpr ⟨4 * i + 3, by omega, d3.1⟩
  unfold arS nuS mgL mgM
  rw [e1, e3]
  generalize ed f (4 * i + 1) = p at d1 o1 ⊢
  generalize ed f (4 * i + 3) = q at d3 o3 ⊢
  obtain ⟨xp, p1, p2, p3, p4, p5, p6⟩ := h p (by omega)
  obtain ⟨xq, q1, q2, q3, q4, q5, q6⟩ := h q (by omega)
  have op : occ f (nI xp) 0 (4 * n) = true := by rcases p6 with e | e
                                                 · rw [e]; exact o1
                                                 · exact e
  have oq : occ f (nI xq) 0 (4 * n) = true := by rcases q6 with e | e
                                                 · rw [e]; exact o3
                                                 · exact e
  have hp1 := p4 d1.2.1
  have hq1 := q4 d3.2.1
  rw [p1, q1, p2, q2]
  -- the lesser of the two, and the greater
  have key : ∃ lo hi : Nat, mnI (nI xp) (nI xq) = nI lo ∧ (if nI (100 + xp) < nI (100 + xq) then nI (100 + xq) else nI (100 + xp)) = nI (100 + hi) ∧ (if nI (100 + xp) < nI (100 + xq) then nI (100 + xp) else nI (100 + xq)) = nI (100 + lo) ∧ lo ≤ hi ∧ ((lo = xp ∧ hi = xq) ∨ (lo = xq ∧ hi = xp)) := by
    have lt1 : nI (100 + xp) < nI (100 + xq) ↔ xp < xq := (nI_ltI (by omega) (by omega)).trans (by omega)
    have lt2 : nI xq < nI xp ↔ xq < xp := nI_ltI (by omega) (by omega)
    by_cases c : xp < xq
    · refine ⟨xp, xq, ?_, ?_, ?_, by omega, Or.inl ⟨rfl, rfl⟩⟩
      · unfold mnI; rw [if_neg (fun z => by have := lt2.mp z; omega)]
      · rw [if_pos (lt1.mpr c)]
      · rw [if_pos (lt1.mpr c)]
    · refine ⟨xq, xp, ?_, ?_, ?_, by omega, Or.inr ⟨rfl, rfl⟩⟩
      · unfold mnI
        by_cases c2 : xq < xp
        · rw [if_pos (lt2.mpr c2)]
        · rw [if_neg (fun z => c2 (lt2.mp z)), show xp = xq by omega]
      · rw [if_neg (fun z => c (lt1.mp z))]
      · rw [if_neg (fun z => c (lt1.mp z))]
  obtain ⟨lo, hi', k1, k2, k3, k4, k5⟩ := key
  rw [k1, k2, k3]
  have hlo : l lo = nI lo ∧ 1 ≤ lo ∧ lo ≤ 32 ∧ occ f (nI lo) 0 (4 * n) = true := by
    rcases k5 with ⟨z, _⟩ | ⟨z, _⟩
    · rw [z]; exact ⟨p5, hp1, by omega, op⟩
    · rw [z]; exact ⟨q5, hq1, by omega, oq⟩
  have ab : ∀ x, x < 33 → ((nI x = nI xp ∨ nI x = nI xq) ↔ (x = lo ∨ x = hi')) := fun x hx => by
    rw [nI_eq (by omega) (by omega), nI_eq (by omega) (by omega)]
    omega
  have hhi : hi' ≤ 32 := by omega
  have hL : ∀ d x, d < 33 → x < 33 → l d = nI x → mgA (nI xp) (nI xq) (nI lo) l 1 32 d = if 1 ≤ d ∧ (x = lo ∨ x = hi') then nI lo else nI x := fun d x hd hx hl => by
    rw [mgA_at, hl]
    by_cases c : 1 ≤ d ∧ (x = lo ∨ x = hi')
    · rw [if_pos c, if_pos ⟨by omega, (ab x hx).mpr c.2⟩]
    · rw [if_neg c, if_neg (fun z => c ⟨by omega, (ab x hx).mp z.2⟩)]
  intro d hd
  obtain ⟨x, x1, x2, x3, x4, x5, x6⟩ := h d hd
  have hA : itN (reS (nI (100 + hi')) (nI (100 + lo))) 1 32 a d = if 1 ≤ d ∧ x = hi' then nI (100 + lo) else nI (100 + x) := by
    rw [reS_at, x2]
    by_cases c : 1 ≤ d ∧ x = hi'
    · rw [if_pos c, if_pos ⟨by omega, by rw [c.2]⟩]
    · rw [if_neg c, if_neg (fun z => c ⟨by omega, by have := (nI_eq (by omega) (by omega)).mp z.2; omega⟩)]
  rw [hA, hL d x hd (by omega) x1]
  by_cases c : 1 ≤ d ∧ (x = lo ∨ x = hi')
  · refine ⟨lo, by rw [if_pos c], ?_, by omega, fun _ => hlo.2.1, ?_, Or.inr hlo.2.2.2⟩
    · rcases c.2 with z | z
      · by_cases y : 1 ≤ d ∧ x = hi'
        · rw [if_pos y]
        · rw [if_neg y, z]
      · rw [if_pos ⟨c.1, z⟩]
    · rw [hL lo lo (by omega) (by omega) hlo.1, if_pos ⟨hlo.2.1, Or.inl rfl⟩]
  · refine ⟨x, by rw [if_neg c], by rw [if_neg (fun z => c ⟨z.1, Or.inr z.2⟩)], x3, x4, ?_, x6⟩
    rw [hL x x (by omega) (by omega) x5]
    by_cases y : 1 ≤ x ∧ (x = lo ∨ x = hi')
    · exact absurd ⟨by omega, y.2⟩ c
    · rw [if_neg y]
theorem Arc.all {f me : Nat → Int32} {n : Nat} (hf : edg (4 * n) f) (ha : agE (4 * n) f me) : ∀ k i (l a : Nat → Int32), i + k = n → Arc f n l a → Arc f n (arM f l i k) (itN (nuS me) i k a) := by
  intro k
  induction k with
  | zero => intro i l a _ h; rw [arM_0, itN_0]; exact h
  | succ k ih =>
    intro i l a hi h
    rw [arM_s, itN_s]
    exact ih (i + 1) _ _ (by omega) (h.step (by omega) hf ha)
/-- both sides while arcs are numbered: those below i are done -/
def Num (f : Nat → Int32) (n i : Nat) (l u a : Nat → Int32) (c : Nat) : Prop := c < i ∧ ∀ d, d < 33 → ∃ x, l d = nI x ∧ x ≤ d ∧ l x = nI x ∧ (if (1 ≤ x ∧ x < i) ∧ occ f (nI x) 0 (4 * n) = true then ∃ k, k < c ∧ a d = nI k ∧ u x = nI k else a d = nI (100 + x))
theorem Num.step {f me : Nat → Int32} {n i : Nat} {l u : Nat → Int32} {S : (Nat → Int32) × Nat} (hi1 : 1 ≤ i) (hi : i < 33) (ha : agE (4 * n) f me) (h : Num f n i l u S.1 S.2) : Num f n (i + 1) l (if l i = nI i ∧ occ f (nI i) 0 (4 * n) = true then upd u i (nI S.2) else u) (nuT me n i S).1 (nuT me n i S).2 ∧ (nuT me n i S).2 = if l i = nI i ∧ occ f (nI i) 0 (4 * n) = true then S.2 + 1 else S.2 := by
  obtain ⟨a, c⟩ := S
  obtain ⟨hc, h⟩ := h
  simp only at hc h
  have ho : occ me (nI i) 0 (4 * n) = occ f (nI i) 0 (4 * n) := occ_ag ha _ (4 * n) 0 (by omega)
  have hx : ∀ x y, x < 33 → y < 33 → nI x = nI y → x = y := fun x y a b e => (nI_eq (by omega) (by omega)).mp e
  -- the two sides ask the same
  have same : a i = nI (100 + i) ∧ occ me (nI i) 0 (4 * n) = true ↔ l i = nI i ∧ occ f (nI i) 0 (4 * n) = true := by
    rw [ho]
    obtain ⟨x, x1, x2, x3, x4⟩ := h i hi
    constructor
    · rintro ⟨y1, y2⟩
      refine ⟨?_, y2⟩
      by_cases q : (1 ≤ x ∧ x < i) ∧ occ f (nI x) 0 (4 * n) = true
      · rw [if_pos q] at x4
        obtain ⟨k, k1, k2, _⟩ := x4
        rw [k2] at y1
        have := (nI_eq (by omega) (by omega)).mp y1
        omega
      · rw [if_neg q] at x4
        rw [x4] at y1
        have := (nI_eq (by omega) (by omega)).mp y1
        rw [x1, show x = i by omega]
    · rintro ⟨y1, y2⟩
      refine ⟨?_, y2⟩
      have : x = i := hx x i (by omega) hi (by rw [← x1, y1])
      subst this
      rw [if_neg (fun z => by omega)] at x4
      exact x4
  unfold nuT
  by_cases q : l i = nI i ∧ occ f (nI i) 0 (4 * n) = true
  · rw [if_pos q, if_pos q, if_pos (same.mpr q)]
    refine ⟨⟨by show c + 1 < i + 1; omega, fun d hd => ?_⟩, rfl⟩
    obtain ⟨x, x1, x2, x3, x4⟩ := h d hd
    refine ⟨x, x1, x2, x3, ?_⟩
    show if _ then ∃ k, k < c + 1 ∧ itN (reS (nI (100 + i)) (nI c)) i (33 - i) a d = nI k ∧ upd u i (nI c) x = nI k else itN (reS (nI (100 + i)) (nI c)) i (33 - i) a d = nI (100 + x)
    rw [reS_at]
    by_cases e : x = i
    · subst e
      rw [if_neg (fun z => by omega)] at x4
      rw [if_pos ⟨by omega, q.2⟩, if_pos ⟨by omega, x4⟩, upd_self]
      exact ⟨c, by omega, rfl, rfl⟩
    · rw [upd_ne _ _ e]
      by_cases y : (1 ≤ x ∧ x < i) ∧ occ f (nI x) 0 (4 * n) = true
      · rw [if_pos y] at x4
        obtain ⟨k, k1, k2, k3⟩ := x4
        rw [if_pos ⟨by omega, y.2⟩, if_neg (fun z => by
          have z2 := z.2
          rw [k2] at z2
          have := (nI_eq (by omega) (by omega)).mp z2
          omega)]
        exact ⟨k, by omega, k2, k3⟩
      · rw [if_neg y] at x4
        rw [if_neg (fun z => y ⟨by omega, z.2⟩), if_neg (fun z => by
          have z2 := z.2
          rw [x4] at z2
          have := (nI_eq (by omega) (by omega)).mp z2
          omega)]
        exact x4
  · rw [if_neg q, if_neg q, if_neg (fun z => q (same.mp z))]
    refine ⟨⟨by show c < i + 1; omega, fun d hd => ?_⟩, rfl⟩
    obtain ⟨x, x1, x2, x3, x4⟩ := h d hd
    refine ⟨x, x1, x2, x3, ?_⟩
    by_cases y : (1 ≤ x ∧ x < i) ∧ occ f (nI x) 0 (4 * n) = true
    · rw [if_pos y] at x4
      rw [if_pos ⟨by omega, y.2⟩]
      exact x4
    · rw [if_neg y] at x4
      rw [if_neg (fun z => by
        by_cases e : x = i
        · subst e; exact q ⟨x3, z.2⟩
        · exact y ⟨by omega, z.2⟩)]
      exact x4
theorem Num.all {f me : Nat → Int32} {n : Nat} {l : Nat → Int32} (ha : agE (4 * n) f me) : ∀ k i (u : Nat → Int32) (S : (Nat → Int32) × Nat), 1 ≤ i → i + k = 33 → Num f n i l u S.1 S.2 → Num f n 33 l (nuA f n l i k u S.2).2 (itN (nuT me n) i k S).1 (itN (nuT me n) i k S).2 ∧ (itN (nuT me n) i k S).2 = (nuA f n l i k u S.2).1 := by
  intro k
  induction k with
  | zero =>
    intro i u S _ hi h
    rw [itN_0, nuA, ← show i = 33 by omega]
    exact ⟨h, rfl⟩
  | succ k ih =>
    intro i u S h1 hi h
    rw [itN_s, nuA]
    have hs := h.step h1 (by omega) ha
    have := ih (i + 1) _ _ (by omega) (by omega) hs.1
    rw [hs.2] at this
    by_cases q : l i = nI i ∧ occ f (nI i) 0 (4 * n) = true
    · rw [if_pos q]
      rw [if_pos q, if_pos q] at this
      exact this
    · rw [if_neg q]
      rw [if_neg q, if_neg q] at this
      exact this
theorem arcs_eq {f g me : Nat → Int32} {n cc : Nat} (hD : Dia f g n cc) (ha : agE (4 * n) f me) (l u ma : Nat → Int32) : (nuN me ma n).2 = rA f n l u ∧ (∀ e, e < 4 * n → aN (nuN me ma n).1 me e = clN f (rL f n l) (rU f n l u) e) ∧ sml 133 33 (nuN me ma n).1 ∧ (1 ≤ rA f n l u + cc) := by
  have hf := hD.2.1
  have hA : Arc f n (rL f n l) (itN (nuS me) 0 n (itN nuI 0 33 ma)) := Arc.all hf ha n 0 _ _ (by omega) (Arc.start l ma)
  have h0 : Num f n 1 (rL f n l) u (itN (nuS me) 0 n (itN nuI 0 33 ma)) 0 := ⟨by omega, fun d hd => by
    obtain ⟨x, x1, x2, x3, x4, x5, x6⟩ := hA d hd
    exact ⟨x, x1, x3, x5, by rw [if_neg (fun z => by omega)]; exact x2⟩⟩
  have hN := Num.all (S := (itN (nuS me) 0 n (itN nuI 0 33 ma), 0)) ha 32 1 u (Nat.le_refl _) (by omega) h0
  have e1 : itN (nuT me n) 1 32 (itN (nuS me) 0 n (itN nuI 0 33 ma), 0) = nuN me ma n := rfl
  have e2 : nuA f n (rL f n l) 1 32 u 0 = (rA f n l u, rU f n l u) := rfl
  rw [e1] at hN
  simp only [e2] at hN
  generalize nuN me ma n = R at hN ⊢
  generalize rU f n l u = U at hN ⊢
  generalize rA f n l u = K at hN ⊢
  generalize rL f n l = Lr at hN hA ⊢
  have hend : ∀ e, e < 4 * n → ∃ x k, 1 ≤ ed f e ∧ ed f e < 33 ∧ Lr (ed f e) = nI x ∧ x < 33 ∧ k < R.2 ∧ R.1 (ed f e) = nI k ∧ U x = nI k := fun e he => by
    have d1 := edg_ed hf he
    obtain ⟨x, x1, x2, x3, x4, x5, x6⟩ := hA (ed f e) (by omega)
    obtain ⟨x', y1, y2, y3, y4⟩ := hN.1.2 (ed f e) (by omega)
    have : x' = x := (nI_eq (by omega) (by omega)).mp (by rw [← y1, x1])
    subst this
    have ho : occ f (nI x') 0 (4 * n) = true := by
      rcases x6 with z | z
      · rw [z]; exact (occ_iff _ _).mpr ⟨e, by omega, d1.1⟩
      · exact z
    rw [if_pos ⟨⟨x4 d1.2.1, by omega⟩, ho⟩] at y4
    obtain ⟨k, k1, k2, k3⟩ := y4
    exact ⟨x', k, d1.2.1, by omega, x1, by omega, k1, k2, k3⟩
  have hK := hN.1.1
  refine ⟨hN.2, fun e he => ?_, fun d hd => ?_, ?_⟩
  · obtain ⟨x, k, _, _, x1, x2, k1, k2, k3⟩ := hend e he
    unfold aN clN
    have : ed me e = ed f e := by unfold ed; rw [ha e he]
    rw [this, k2, x1, nI_clamp (n := x) (by omega), k3]
  · obtain ⟨x, x1, x2, x3, x4⟩ := hN.1.2 d hd
    by_cases y : (1 ≤ x ∧ x < 33) ∧ occ f (nI x) 0 (4 * n) = true
    · rw [if_pos y] at x4
      obtain ⟨k, k1, k2, _⟩ := x4
      exact ⟨k, by omega, k2⟩
    · rw [if_neg y] at x4
      exact ⟨100 + x, by omega, x4⟩
  · rcases hD.2.2.2.2.2.1 with z | z
    · obtain ⟨x, k, _, _, _, _, k1, _⟩ := hend 0 (by omega)
      have := hN.2
      omega
    · omega
