/-- the open ends of the strands that hang from the places p to nn, and their first edges -/
def enB (pl : Nat → Int32) (p nn : Nat) (v : Int32) : Prop := ∃ q, p ≤ q ∧ q ≤ nn ∧ pl q = v
def stB (p nn : Nat) (v : Int32) : Prop := ∃ q, p ≤ q ∧ q ≤ nn ∧ nI q = v
def Zr (S : Int32 → Int32 → Prop) (pl : Nat → Int32) (p nn : Nat) : Prop :=
  (∀ v, ((∃ b, S v b) ∨ enB pl p nn v) ↔ ((∃ a, S a v) ∨ stB p nn v)) ∧ (∀ v, (∃ b, S v b) → ¬ enB pl p nn v) ∧ (∀ v, (∃ a, S a v) → ¬ stB p nn v) ∧ (∀ q r, p ≤ q → q ≤ nn → p ≤ r → r ≤ nn → pl q = pl r → q = r) ∧ (∀ q r, p ≤ q → q ≤ nn → p ≤ r → r ≤ nn → pl q = nI r → q = r)
theorem Zr.weave {S S' : Int32 → Int32 → Prop} {pl : Nat → Int32} {nn k : Nat} {X Y : Int32} (h : Zr S pl 1 nn) (hS : ∀ x y, S' x y ↔ S x y ∨ (x = pl k ∧ y = Y) ∨ (x = pl (k + 1) ∧ y = X)) (hk : 1 ≤ k) (hk2 : k + 1 ≤ nn) (x1 : ¬ ∃ b, S X b) (x2 : ¬ enB pl 1 nn X) (x4 : ¬ stB 1 nn X) (y1 : ¬ ∃ b, S Y b) (y2 : ¬ enB pl 1 nn Y) (y4 : ¬ stB 1 nn Y) (hXY : X ≠ Y) : Zr S' (upd (upd pl k X) (k + 1) Y) 1 nn := by
  obtain ⟨z1, z2, z3, z4, z5⟩ := h
  have p1 : upd (upd pl k X) (k + 1) Y k = X := by rw [upd_ne _ _ (by omega), upd_self]
  have p2 : upd (upd pl k X) (k + 1) Y (k + 1) = Y := upd_self _ _ _
  have p3 : ∀ q, q ≠ k → q ≠ k + 1 → upd (upd pl k X) (k + 1) Y q = pl q := fun q a b => by rw [upd_ne _ _ b, upd_ne _ _ a]
  generalize hpl : upd (upd pl k X) (k + 1) Y = pl' at p1 p2 p3
  have hi : ∀ v, (∃ b, S' v b) ↔ (∃ b, S v b) ∨ v = pl k ∨ v = pl (k + 1) := fun v => by
    constructor
    · rintro ⟨b, hb⟩
      rcases (hS _ _).mp hb with a | a | a
      · exact Or.inl ⟨b, a⟩
      · exact Or.inr (Or.inl a.1)
      · exact Or.inr (Or.inr a.1)
    · rintro (⟨b, hb⟩ | a | a)
      · exact ⟨b, (hS _ _).mpr (Or.inl hb)⟩
      · exact ⟨Y, (hS _ _).mpr (Or.inr (Or.inl ⟨a, rfl⟩))⟩
      · exact ⟨X, (hS _ _).mpr (Or.inr (Or.inr ⟨a, rfl⟩))⟩
  have ho : ∀ v, (∃ a, S' a v) ↔ (∃ a, S a v) ∨ v = X ∨ v = Y := fun v => by
    constructor
    · rintro ⟨b, hb⟩
      rcases (hS _ _).mp hb with a | a | a
      · exact Or.inl ⟨b, a⟩
      · exact Or.inr (Or.inr a.2)
      · exact Or.inr (Or.inl a.2)
    · rintro (⟨b, hb⟩ | a | a)
      · exact ⟨b, (hS _ _).mpr (Or.inl hb)⟩
      · exact ⟨_, (hS _ _).mpr (Or.inr (Or.inr ⟨rfl, a⟩))⟩
      · exact ⟨_, (hS _ _).mpr (Or.inr (Or.inl ⟨rfl, a⟩))⟩
  have he : ∀ v, enB pl' 1 nn v ↔ v = X ∨ v = Y ∨ ∃ q, 1 ≤ q ∧ q ≤ nn ∧ q ≠ k ∧ q ≠ k + 1 ∧ pl q = v := fun v => by
    constructor
    · rintro ⟨q, q1, q2, q3⟩
      by_cases a : q = k
      · subst a; exact Or.inl (by rw [← q3, p1])
      by_cases b : q = k + 1
      · subst b; exact Or.inr (Or.inl (by rw [← q3, p2]))
      exact Or.inr (Or.inr ⟨q, q1, q2, a, b, by rw [← p3 q a b]; exact q3⟩)
    · rintro (a | a | ⟨q, q1, q2, q3, q4, q5⟩)
      · exact ⟨k, hk, by omega, by rw [p1, a]⟩
      · exact ⟨k + 1, by omega, hk2, by rw [p2, a]⟩
      · exact ⟨q, q1, q2, by rw [p3 q q3 q4]; exact q5⟩
  have he0 : ∀ v, enB pl 1 nn v ↔ v = pl k ∨ v = pl (k + 1) ∨ ∃ q, 1 ≤ q ∧ q ≤ nn ∧ q ≠ k ∧ q ≠ k + 1 ∧ pl q = v := fun v => by
    constructor
    · rintro ⟨q, q1, q2, q3⟩
      by_cases a : q = k
      · subst a; exact Or.inl q3.symm
      by_cases b : q = k + 1
      · subst b; exact Or.inr (Or.inl q3.symm)
      exact Or.inr (Or.inr ⟨q, q1, q2, a, b, q3⟩)
    · rintro (a | a | ⟨q, q1, q2, q3, q4, q5⟩)
      · exact ⟨k, hk, by omega, a.symm⟩
      · exact ⟨k + 1, by omega, hk2, a.symm⟩
      · exact ⟨q, q1, q2, q5⟩
  refine ⟨fun v => ?_, fun v a b => ?_, fun v a b => ?_, fun q r q1 q2 r1 r2 e => ?_, fun q r q1 q2 r1 r2 e => ?_⟩
  · have z := z1 v
    rw [he0] at z
    rw [hi, ho, he]
    constructor
    · rintro ((a | a | a) | a | a | a)
      · rcases z.mp (Or.inl a) with b | b
        · exact Or.inl (Or.inl b)
        · exact Or.inr b
      · rcases z.mp (Or.inr (Or.inl a)) with b | b
        · exact Or.inl (Or.inl b)
        · exact Or.inr b
      · rcases z.mp (Or.inr (Or.inr (Or.inl a))) with b | b
        · exact Or.inl (Or.inl b)
        · exact Or.inr b
      · exact Or.inl (Or.inr (Or.inl a))
      · exact Or.inl (Or.inr (Or.inr a))
      · rcases z.mp (Or.inr (Or.inr (Or.inr a))) with b | b
        · exact Or.inl (Or.inl b)
        · exact Or.inr b
    · have key : ((∃ a, S a v) ∨ stB 1 nn v) → ((∃ b, S v b) ∨ v = pl k ∨ v = pl (k + 1)) ∨ v = X ∨ v = Y ∨ ∃ q, 1 ≤ q ∧ q ≤ nn ∧ q ≠ k ∧ q ≠ k + 1 ∧ pl q = v := fun a => by
        rcases z.mpr a with b | b | b | b
        · exact Or.inl (Or.inl b)
        · exact Or.inl (Or.inr (Or.inl b))
        · exact Or.inl (Or.inr (Or.inr b))
        · exact Or.inr (Or.inr (Or.inr b))
      rintro ((a | a | a) | a)
      · exact key (Or.inl a)
      · exact Or.inr (Or.inl a)
      · exact Or.inr (Or.inr (Or.inl a))
      · exact key (Or.inr a)
  · rw [hi] at a
    rw [he] at b
    rcases b with rfl | rfl | ⟨q, q1, q2, q3, q4, rfl⟩
    · rcases a with a | a | a
      · exact x1 a
      · exact x2 ⟨k, hk, by omega, a.symm⟩
      · exact x2 ⟨k + 1, by omega, hk2, a.symm⟩
    · rcases a with a | a | a
      · exact y1 a
      · exact y2 ⟨k, hk, by omega, a.symm⟩
      · exact y2 ⟨k + 1, by omega, hk2, a.symm⟩
    · rcases a with a | a | a
      · exact z2 _ a ⟨q, q1, q2, rfl⟩
      · exact q3 (z4 q k q1 q2 hk (by omega) a)
      · exact q4 (z4 q (k + 1) q1 q2 (by omega) hk2 a)
  · rw [ho] at a
    rcases a with a | rfl | rfl
    · exact z3 v a b
    · exact x4 b
    · exact y4 b
  · have cl : ∀ q, 1 ≤ q → q ≤ nn → (q = k ∧ pl' q = X) ∨ (q = k + 1 ∧ pl' q = Y) ∨ (pl' q = pl q ∧ pl q ≠ X ∧ pl q ≠ Y) := fun q q1 q2 => by
      by_cases a : q = k
      · exact Or.inl ⟨a, by rw [a, p1]⟩
      by_cases b : q = k + 1
      · exact Or.inr (Or.inl ⟨b, by rw [b, p2]⟩)
      exact Or.inr (Or.inr ⟨p3 q a b, fun z => x2 ⟨q, q1, q2, z⟩, fun z => y2 ⟨q, q1, q2, z⟩⟩)
    rcases cl q q1 q2 with a | a | a <;> rcases cl r r1 r2 with b | b | b
    · rw [a.1, b.1]
    · exact absurd (by rw [← a.2, ← b.2, e]) hXY
    · exact absurd (by rw [← b.1, ← e, a.2]) b.2.1
    · exact absurd (by rw [← a.2, ← b.2, e]) hXY
    · rw [a.1, b.1]
    · exact absurd (by rw [← b.1, ← e, a.2]) b.2.2
    · exact absurd (by rw [← a.1, e, b.2]) a.2.1
    · exact absurd (by rw [← a.1, e, b.2]) a.2.2
    · exact z4 q r q1 q2 r1 r2 (by rw [← a.1, ← b.1, e])
  · by_cases a : q = k
    · subst a
      rw [p1] at e
      exact absurd ⟨r, r1, r2, e.symm⟩ x4
    by_cases b : q = k + 1
    · subst b
      rw [p2] at e
      exact absurd ⟨r, r1, r2, e.symm⟩ y4
    rw [p3 q a b] at e
    exact z5 q r q1 q2 r1 r2 e
/-- one place is closed: its last edge takes the name of its first -/
theorem Zr.close {S S' : Int32 → Int32 → Prop} {pl : Nat → Int32} {p nn : Nat} (hp : p ≤ nn) (hnn : nn < 2 ^ 31) (h : Zr S pl p nn) (hS : ∀ x y, S' x y ↔ ∃ z, S x z ∧ y = if z = pl p then nI p else z) : Zr S' pl (p + 1) nn := by
  obtain ⟨z1, z2, z3, z4, z5⟩ := h
  have hi : ∀ v, (∃ b, S' v b) ↔ ∃ b, S v b := fun v => ⟨fun ⟨b, hb⟩ => by obtain ⟨z, h1, _⟩ := (hS _ _).mp hb; exact ⟨z, h1⟩, fun ⟨b, hb⟩ => ⟨_, (hS _ _).mpr ⟨b, hb, rfl⟩⟩⟩
  have he : ∀ v, enB pl p nn v ↔ v = pl p ∨ enB pl (p + 1) nn v := fun v => by
    constructor
    · rintro ⟨q, q1, q2, q3⟩
      by_cases a : q = p
      · exact Or.inl (by rw [← q3, a])
      · exact Or.inr ⟨q, by omega, q2, q3⟩
    · rintro (a | ⟨q, q1, q2, q3⟩)
      · exact ⟨p, Nat.le_refl _, hp, a.symm⟩
      · exact ⟨q, by omega, q2, q3⟩
  have hs : ∀ v, stB p nn v ↔ v = nI p ∨ stB (p + 1) nn v := fun v => by
    constructor
    · rintro ⟨q, q1, q2, q3⟩
      by_cases a : q = p
      · exact Or.inl (by rw [← q3, a])
      · exact Or.inr ⟨q, by omega, q2, q3⟩
    · rintro (a | ⟨q, q1, q2, q3⟩)
      · exact ⟨p, Nat.le_refl _, hp, a.symm⟩
      · exact ⟨q, by omega, q2, q3⟩
  have e1 : ¬ enB pl (p + 1) nn (pl p) := fun ⟨q, q1, q2, q3⟩ => by have := z4 q p (by omega) q2 (Nat.le_refl _) hp q3; omega
  have e2 : ¬ stB (p + 1) nn (pl p) := fun ⟨q, q1, q2, q3⟩ => by have := z5 p q (Nat.le_refl _) hp (by omega) q2 q3.symm; omega
  have e3 : ¬ enB pl (p + 1) nn (nI p) := fun ⟨q, q1, q2, q3⟩ => by have := z5 q p (by omega) q2 (Nat.le_refl _) hp q3; omega
  have e4 : ¬ stB (p + 1) nn (nI p) := fun ⟨q, q1, q2, q3⟩ => by have := (nI_eq (by omega) (by omega)).mp q3; omega
  have hin : ¬ ∃ b, S (pl p) b := fun a => z2 _ a ((he _).mpr (Or.inl rfl))
  have hon : ¬ ∃ a, S a (nI p) := fun a => z3 _ a ((hs _).mpr (Or.inl rfl))
  have ho : ∀ v, (∃ a, S' a v) ↔ (v ≠ pl p ∧ ∃ a, S a v) ∨ (v = nI p ∧ pl p ≠ nI p) := fun v => by
    constructor
    · rintro ⟨a, ha⟩
      obtain ⟨z, h1, h2⟩ := (hS _ _).mp ha
      by_cases hz : z = pl p
      · rw [if_pos hz] at h2
        exact Or.inr ⟨h2, fun y => hon ⟨a, by rw [← y, ← hz]; exact h1⟩⟩
      · rw [if_neg hz] at h2
        exact Or.inl ⟨by rw [h2]; exact hz, a, by rw [h2]; exact h1⟩
    · rintro (⟨h1, a, ha⟩ | ⟨h1, h2⟩)
      · exact ⟨a, (hS _ _).mpr ⟨v, ha, by rw [if_neg h1]⟩⟩
      · rcases (z1 (pl p)).mp (Or.inr ((he _).mpr (Or.inl rfl))) with ⟨a, ha⟩ | b
        · exact ⟨a, (hS _ _).mpr ⟨pl p, ha, by rw [if_pos rfl]; exact h1⟩⟩
        · rcases (hs _).mp b with b | b
          · exact absurd b h2
          · exact absurd b e2
  refine ⟨fun v => ?_, fun v a b => ?_, fun v a b => ?_, fun q r q1 q2 r1 r2 e => z4 q r (by omega) q2 (by omega) r2 e, fun q r q1 q2 r1 r2 e => z5 q r (by omega) q2 (by omega) r2 e⟩
  · have z := z1 v
    rw [he, hs] at z
    rw [hi, ho]
    constructor
    · intro a
      by_cases c1 : v = nI p
      · by_cases c2 : pl p = nI p
        · rcases a with a | a
          · exact absurd (by rw [c2, ← c1]; exact a) hin
          · exact absurd (by rw [← c1]; exact a) e3
        · exact Or.inl (Or.inr ⟨c1, c2⟩)
      · have c2 : v ≠ pl p := fun y => by
          rcases a with a | a
          · exact hin (by rw [← y]; exact a)
          · exact e1 (by rw [← y]; exact a)
        rcases z.mp (a.elim Or.inl (fun b => Or.inr (Or.inr b))) with b | b | b
        · exact Or.inl (Or.inl ⟨c2, b⟩)
        · exact absurd b c1
        · exact Or.inr b
    · rintro ((⟨a, b⟩ | ⟨a, b⟩) | a)
      · rcases z.mpr (Or.inl b) with c | c | c
        · exact Or.inl c
        · exact absurd c a
        · exact Or.inr c
      · rcases z.mpr (Or.inr (Or.inl a)) with c | c | c
        · exact Or.inl c
        · exact absurd (by rw [← c, a]) b
        · exact Or.inr c
      · rcases z.mpr (Or.inr (Or.inr a)) with c | c | c
        · exact Or.inl c
        · exact absurd (by rw [← c]; exact a) e2
        · exact Or.inr c
  · exact z2 v ((hi v).mp a) ((he v).mpr (Or.inr b))
  · rcases (ho v).mp a with c | c
    · exact z3 v c.2 ((hs v).mpr (Or.inr b))
    · exact e4 (by rw [← c.1]; exact b)
theorem Zr.done {S : Int32 → Int32 → Prop} {pl : Nat → Int32} {nn : Nat} (h : Zr S pl (nn + 1) nn) : bal S := fun v => by
  have e1 : ¬ enB pl (nn + 1) nn v := fun ⟨q, q1, q2, _⟩ => by omega
  have e2 : ¬ stB (nn + 1) nn v := fun ⟨q, q1, q2, _⟩ => by omega
  have := h.1 v
  constructor
  · intro a
    exact (this.mp (Or.inl a)).resolve_right e2
  · intro a
    exact (this.mpr (Or.inl a)).resolve_right e1
theorem szI_abI (x : Int32) : szI x = abI x := by unfold szI abI; simp
theorem wBe_eq {wd mw : Nat → Int32} (x : Int32) : ∀ k i, (∀ j, i ≤ j → j < i + k → mw j = wd j) → wBeM mw x i k = wBel wd x i k := by
  intro k
  induction k with
  | zero => intro i _; rw [wBeM, wBel]
  | succ k ih =>
    intro i h
    rw [wBeM, wBel, h i (Nat.le_refl _) (by omega), szI_abI, ih (i + 1) (fun j a b => h j (by omega) (by omega))]
theorem wBel_lt {wd : Nat → Int32} {x : Int32} : ∀ k i, wBel wd x i k = true → ∀ j, i ≤ j → j < i + k → abI (wd j) < x := by
  intro k
  induction k with
  | zero => intro i _ j h1 h2; omega
  | succ k ih =>
    intro i h j h1 h2
    rw [wBel] at h
    by_cases c : abI (wd i) < x
    · rw [if_pos c] at h
      by_cases e : j = i
      · rw [e]; exact c
      · exact ih (i + 1) h j (by omega) (by omega)
    · rw [if_neg c] at h
      cases h
/-- both sides while the word is woven -/
def Wv (nn i : Nat) (me0 mp0 : Nat → Int32) (S M : z3) : Prop :=
  (∀ h, h < 4 * i → ∃ x, 1 ≤ x ∧ x ≤ nn + 2 * i ∧ S.1 h = nI x) ∧ (∀ q, 1 ≤ q → q ≤ nn → ∃ x, 1 ≤ x ∧ x ≤ nn + 2 * i ∧ S.2.2 q = nI x) ∧ sgOK i S.2.1 ∧ inj2 S.1 S.2.1 i ∧ Zr (pas S.1 S.2.1 i) S.2.2 1 nn ∧
  agE (4 * i) S.1 M.1 ∧ agP i S.2.1 M.2.1 ∧ (∀ q, 1 ≤ q → q ≤ nn → M.2.2 q = S.2.2 q) ∧ (∀ t, 32 ≤ t → M.1 t = me0 t) ∧ (∀ t, 8 ≤ t → M.2.1 t = mp0 t)
theorem Wv.step {wd mw : Nat → Int32} {nn i : Nat} {me0 mp0 : Nat → Int32} {S M : z3} (hnn : nn ≤ 4) (hi : i < 8) (hk1 : 1 ≤ aw wd i) (hk2 : aw wd i + 1 ≤ nn) (hm : mw i = wd i) (h : Wv nn i me0 mp0 S M) : Wv nn (i + 1) me0 mp0 (wvS wd nn i S) (wvM mw nn i M) := by
  obtain ⟨f, g, pl⟩ := S
  obtain ⟨me, mp, mx⟩ := M
  obtain ⟨l1, l2, l3, l4, l5, a1, a2, a3, a4, a5⟩ := h
  simp only at l1 l2 l3 l4 l5 a1 a2 a3 a4 a5
  have ha : awM mw i = aw wd i := by unfold awM aw; rw [hm, szI_abI]
  generalize hk : aw wd i = k at *
  have hX : ∀ x, x ≤ nn + 2 * i → nI x ≠ nI (nn + 1 + 2 * i) := fun x hx y => by have := (nI_eq (by omega) (by omega)).mp y; omega
  have hY : ∀ x, x ≤ nn + 2 * i → nI x ≠ nI (nn + 2 + 2 * i) := fun x hx y => by have := (nI_eq (by omega) (by omega)).mp y; omega
  have hXY : nI (nn + 1 + 2 * i) ≠ nI (nn + 2 + 2 * i) := fun y => by have := (nI_eq (by omega) (by omega)).mp y; omega
  have hpk : pl k ≠ pl (k + 1) := fun y => by have := l5.2.2.2.1 k (k + 1) hk1 (by omega) (by omega) hk2 y; omega
  have pin : ∀ v b, pas f g i v b → ∃ x, x ≤ nn + 2 * i ∧ v = nI x := fun v b ⟨t, t1, _, t3, _⟩ => by obtain ⟨x, _, x2, x3⟩ := l1 t t1; exact ⟨x, x2, by rw [← t3, x3]⟩
  have pout : ∀ v b, pas f g i b v → ∃ x, x ≤ nn + 2 * i ∧ v = nI x := fun v b ⟨t, t1, _, _, t4⟩ => by obtain ⟨x, _, x2, x3⟩ := l1 (opp t) (opp_ltn t1); exact ⟨x, x2, by rw [← t4, x3]⟩
  have pen : ∀ v, enB pl 1 nn v → ∃ x, x ≤ nn + 2 * i ∧ v = nI x := fun v ⟨q, q1, q2, q3⟩ => by obtain ⟨x, _, x2, x3⟩ := l2 q q1 q2; exact ⟨x, x2, by rw [← q3, x3]⟩
  have pst : ∀ v, stB 1 nn v → ∃ x, x ≤ nn + 2 * i ∧ v = nI x := fun v ⟨q, q1, q2, q3⟩ => ⟨q, by omega, q3.symm⟩
  have k1 : ¬ ∃ y, pas f g i (pl k) y := fun y => l5.2.1 _ y ⟨k, hk1, by omega, rfl⟩
  have k2 : ¬ ∃ y, pas f g i (pl (k + 1)) y := fun y => l5.2.1 _ y ⟨k + 1, by omega, hk2, rfl⟩
  have o1 : ¬ ∃ x, pas f g i x (nI (nn + 1 + 2 * i)) := fun ⟨x, hx⟩ => by obtain ⟨z, z1, z2⟩ := pout _ _ hx; exact hX z z1 z2.symm
  have o2 : ¬ ∃ x, pas f g i x (nI (nn + 2 + 2 * i)) := fun ⟨x, hx⟩ => by obtain ⟨z, z1, z2⟩ := pout _ _ hx; exact hY z z1 z2.symm
  have ein : ∀ x, 1 ≤ x → x ≤ nn + 2 * (i + 1) → isE (nI x) = true := fun x h1 h2 => edg_isE ⟨x, h1, by omega, rfl⟩
  have two : Zr (pas (wvS wd nn i (f, g, pl)).1 (wvS wd nn i (f, g, pl)).2.1 (i + 1)) (upd (upd pl k (nI (nn + 1 + 2 * i))) (k + 1) (nI (nn + 2 + 2 * i))) 1 nn ∧ inj2 (wvS wd nn i (f, g, pl)).1 (wvS wd nn i (f, g, pl)).2.1 (i + 1) := by
    constructor
    · refine Zr.weave l5 (fun x y => ?_) hk1 hk2 (fun ⟨b, hb⟩ => ?_) (fun hb => ?_) (fun hb => ?_) (fun ⟨b, hb⟩ => ?_) (fun hb => ?_) (fun hb => ?_) hXY
      · show pas (if 0 < wd i then _ else _) (upd g i (sgn (decide (0 < wd i)))) (i + 1) x y ↔ _
        rw [hk]
        by_cases c : 0 < wd i
        · rw [if_pos c, pas_ap, decide_eq_true c, if_pos rfl, if_pos rfl]
          constructor
          · rintro (z | z | z)
            · exact Or.inl z
            · exact Or.inr (Or.inr z)
            · exact Or.inr (Or.inl z)
          · rintro (z | z | z)
            · exact Or.inl z
            · exact Or.inr (Or.inr z)
            · exact Or.inr (Or.inl z)
        · rw [if_neg c, pas_ap, decide_eq_false c, if_neg (by decide), if_neg (by decide)]
      · obtain ⟨z, z1, z2⟩ := pin _ _ hb; exact hX z z1 z2.symm
      · obtain ⟨z, z1, z2⟩ := pen _ hb; exact hX z z1 z2.symm
      · obtain ⟨z, z1, z2⟩ := pst _ hb; exact hX z z1 z2.symm
      · obtain ⟨z, z1, z2⟩ := pin _ _ hb; exact hY z z1 z2.symm
      · obtain ⟨z, z1, z2⟩ := pen _ hb; exact hY z z1 z2.symm
      · obtain ⟨z, z1, z2⟩ := pst _ hb; exact hY z z1 z2.symm
    · show inj2 (if 0 < wd i then _ else _) (upd g i (sgn (decide (0 < wd i)))) (i + 1)
      rw [hk]
      by_cases c : 0 < wd i
      · rw [if_pos c, decide_eq_true c]
        exact inj2_ap l4 k2 (by rw [if_pos rfl]; exact k1) (by rw [if_pos rfl]; exact hpk.symm) o1 (by rw [if_pos rfl]; exact o2) (by rw [if_pos rfl]; exact hXY)
      · rw [if_neg c, decide_eq_false c]
        exact inj2_ap l4 k1 (by rw [if_neg (by decide)]; exact k2) (by rw [if_neg (by decide)]; exact hpk) o2 (by rw [if_neg (by decide)]; exact o1) (by rw [if_neg (by decide)]; exact hXY.symm)
  have hpl : (wvS wd nn i (f, g, pl)).2.2 = upd (upd pl k (nI (nn + 1 + 2 * i))) (k + 1) (nI (nn + 2 + 2 * i)) := by show upd (upd pl (aw wd i) _) (aw wd i + 1) _ = _; rw [hk]
  have hmx : (wvM mw nn i (me, mp, mx)).2.2 = upd (upd mx k (nI (nn + 1 + 2 * i))) (k + 1) (nI (nn + 2 + 2 * i)) := by show upd (upd mx (awM mw i) _) (awM mw i + 1) _ = _; rw [ha]
  have m1 := a3 k hk1 (by omega)
  have m2 := a3 (k + 1) (by omega) hk2
  have l2k := l2 k hk1 (by omega)
  have l2k' := l2 (k + 1) (by omega) hk2
  have w1 : ∀ v : Int32, (∃ x, 1 ≤ x ∧ x ≤ nn + 2 * i ∧ v = nI x) → ∃ x, 1 ≤ x ∧ x ≤ nn + 2 * (i + 1) ∧ v = nI x := fun v ⟨x, h1, h2, h3⟩ => ⟨x, h1, by omega, h3⟩
  refine ⟨?_, fun q q1 q2 => ?_, sgOK_up _ l3, two.2, by rw [hpl]; exact two.1, ?_, ?_, fun q q1 q2 => ?_, fun t ht => ?_, fun t ht => ?_⟩
  · show ∀ h, h < 4 * (i + 1) → ∃ x, 1 ≤ x ∧ x ≤ nn + 2 * (i + 1) ∧ (if 0 < wd i then apE f i _ _ _ _ else apE f i _ _ _ _) h = nI x
    rw [hk]
    have cX : ∃ x, 1 ≤ x ∧ x ≤ nn + 2 * (i + 1) ∧ nI (nn + 1 + 2 * i) = nI x := ⟨_, by omega, by omega, rfl⟩
    have cY : ∃ x, 1 ≤ x ∧ x ≤ nn + 2 * (i + 1) ∧ nI (nn + 2 + 2 * i) = nI x := ⟨_, by omega, by omega, rfl⟩
    by_cases c : 0 < wd i
    · rw [if_pos c]
      exact apE_all (P := fun _ v => ∃ x, 1 ≤ x ∧ x ≤ nn + 2 * (i + 1) ∧ v = nI x) (fun t ht => w1 _ (l1 t ht)) (w1 _ l2k') cY cX (w1 _ l2k)
    · rw [if_neg c]
      exact apE_all (P := fun _ v => ∃ x, 1 ≤ x ∧ x ≤ nn + 2 * (i + 1) ∧ v = nI x) (fun t ht => w1 _ (l1 t ht)) (w1 _ l2k) (w1 _ l2k') cY cX
  · rw [hpl]
    by_cases b : q = k + 1
    · rw [b, upd_self]
      exact ⟨_, by omega, by omega, rfl⟩
    by_cases a : q = k
    · rw [a, upd_ne _ _ (by omega), upd_self]
      exact ⟨_, by omega, by omega, rfl⟩
    rw [upd_ne _ _ b, upd_ne _ _ a]
    exact w1 _ (l2 q q1 q2)
  · show agE (4 * (i + 1)) (if 0 < wd i then apE f i _ _ _ _ else apE f i _ _ _ _) (if 0 < mw i then apE me i (mx (awM mw i + 1)) _ _ (mx (awM mw i)) else apE me i (mx (awM mw i)) (mx (awM mw i + 1)) _ _)
    rw [hm, ha, hk, m1, m2]
    by_cases c : 0 < wd i
    · rw [if_pos c, if_pos c]
      exact agE_ap _ _ _ _ a1
    · rw [if_neg c, if_neg c]
      exact agE_ap _ _ _ _ a1
  · show agP (i + 1) (upd g i (sgn (decide (0 < wd i)))) (upd mp i (zb (decide (0 < mw i))))
    rw [hm]
    exact agP_up _ a2
  · rw [hpl, hmx]
    by_cases b : q = k + 1
    · rw [b, upd_self, upd_self]
    by_cases a : q = k
    · rw [a, upd_ne _ _ (by omega), upd_self, upd_ne _ _ (by omega), upd_self]
    rw [upd_ne _ _ b, upd_ne _ _ a, upd_ne _ _ b, upd_ne _ _ a]
    exact a3 q q1 q2
  · show (if 0 < mw i then apE me i _ _ _ _ else apE me i _ _ _ _) t = _
    by_cases c : 0 < mw i
    · rw [if_pos c, apE_far _ _ _ _ (by omega)]; exact a4 t ht
    · rw [if_neg c, apE_far _ _ _ _ (by omega)]; exact a4 t ht
  · show upd mp i _ t = _
    rw [upd_ne _ _ (by omega)]
    exact a5 t ht
theorem Wv.all {wd mw : Nat → Int32} {nn lt : Nat} {me0 mp0 : Nat → Int32} (hnn : nn ≤ 4) (hlt : lt ≤ 8) (hk1 : ∀ i, i < lt → 1 ≤ aw wd i) (hk2 : ∀ i, i < lt → aw wd i + 1 ≤ nn) (hm : ∀ i, i < lt → mw i = wd i) : ∀ k i (S M : z3), i + k = lt → Wv nn i me0 mp0 S M → Wv nn lt me0 mp0 (itN (wvS wd nn) i k S) (itN (wvM mw nn) i k M) := by
  intro k
  induction k with
  | zero =>
    intro i S M h1 h2
    rw [itN_0, itN_0, ← show i = lt by omega]
    exact h2
  | succ k ih =>
    intro i S M h1 h2
    rw [itN_s, itN_s]
    exact ih (i + 1) _ _ (by omega) (Wv.step hnn (by omega) (hk1 i (by omega)) (hk2 i (by omega)) (hm i (by omega)) h2)
theorem Wv.start {f g pl me mp mx : Nat → Int32} {nn : Nat} (hnn : nn ≤ 4) : Wv nn 0 me mp (f, g, piI pl 1 nn) (me, mp, piI mx 1 nn) := by
  have hp : ∀ pl : Nat → Int32, ∀ q, 1 ≤ q → q ≤ nn → piI pl 1 nn q = nI q := fun pl q q1 q2 => by rw [piI_at, if_pos (by omega)]
  have hno : ∀ v b, ¬ pas f g 0 v b := fun v b ⟨t, t1, _⟩ => by omega
  refine ⟨fun h hh => by omega, fun q q1 q2 => ⟨q, q1, by omega, hp pl q q1 q2⟩, fun x hx => by omega, fun i j hi => by omega, ⟨fun v => ?_, fun v ⟨b, hb⟩ => (hno _ _ hb).elim, fun v ⟨b, hb⟩ => (hno _ _ hb).elim, fun q r q1 q2 r1 r2 e => ?_, fun q r q1 q2 r1 r2 e => ?_⟩, fun i hi => by omega, fun i hi => by omega, fun q q1 q2 => ?_, fun t _ => rfl, fun t _ => rfl⟩
  · constructor
    · rintro (⟨b, hb⟩ | ⟨q, q1, q2, q3⟩)
      · exact (hno _ _ hb).elim
      · exact Or.inr ⟨q, q1, q2, by rw [← q3]; exact (hp pl q q1 q2).symm⟩
    · rintro (⟨b, hb⟩ | ⟨q, q1, q2, q3⟩)
      · exact (hno _ _ hb).elim
      · exact Or.inr ⟨q, q1, q2, by rw [← q3]; exact hp pl q q1 q2⟩
  · simp only at e
    rw [hp pl q q1 q2, hp pl r r1 r2] at e
    exact (nI_eq (by omega) (by omega)).mp e
  · simp only at e
    rw [hp pl q q1 q2] at e
    exact (nI_eq (by omega) (by omega)).mp e
  · show piI mx 1 nn q = piI pl 1 nn q
    rw [hp _ q q1 q2, hp _ q q1 q2]
