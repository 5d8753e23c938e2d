/-- each edge has one that follows it, and follows one -/
def fnS (S : Int32 → Int32 → Prop) : Prop := (∀ x y y', S x y → S x y' → y = y') ∧ ∀ x x' y, S x y → S x' y → x = x'
def labS (S : Int32 → Int32 → Prop) : Prop := ∀ x y, S x y → ∃ k, k < 33 ∧ x = nI k
def insS (S : Int32 → Int32 → Prop) (e a b x y : Int32) : Prop := (S x y ∧ x ≠ e) ∨ (x = b ∧ S e y) ∨ (x = e ∧ y = a) ∨ (x = a ∧ y = b)
def delS (S : Int32 → Int32 → Prop) (p l q x y : Int32) : Prop := (S x y ∧ x ≠ p ∧ x ≠ l ∧ x ≠ q) ∨ (x = p ∧ S q y)
def cutS (S : Int32 → Int32 → Prop) (p l x y : Int32) : Prop := S x y ∧ x ≠ p ∧ x ≠ l
def newS (S : Int32 → Int32 → Prop) (a b x y : Int32) : Prop := S x y ∨ (x = a ∧ y = b) ∨ (x = b ∧ y = a)
theorem bal_ins {S : Int32 → Int32 → Prop} {e a b : Int32} (h : bal S) (he : ∃ y, S e y) : bal (insS S e a b) := by
  intro v
  constructor
  · rintro ⟨y, (⟨h1, h2⟩ | ⟨rfl, h1⟩ | ⟨rfl, rfl⟩ | ⟨rfl, rfl⟩)⟩
    · obtain ⟨x, hx⟩ := (h v).mp ⟨y, h1⟩
      by_cases q : x = e
      · exact ⟨b, Or.inr (Or.inl ⟨rfl, q ▸ hx⟩)⟩
      · exact ⟨x, Or.inl ⟨hx, q⟩⟩
    · exact ⟨a, Or.inr (Or.inr (Or.inr ⟨rfl, rfl⟩))⟩
    · obtain ⟨x, hx⟩ := (h v).mp he
      by_cases q : x = v
      · exact ⟨b, Or.inr (Or.inl ⟨rfl, by rw [q] at hx; exact hx⟩)⟩
      · exact ⟨x, Or.inl ⟨hx, q⟩⟩
    · exact ⟨e, Or.inr (Or.inr (Or.inl ⟨rfl, rfl⟩))⟩
  · rintro ⟨x, (⟨h1, h2⟩ | ⟨rfl, h1⟩ | ⟨rfl, rfl⟩ | ⟨rfl, rfl⟩)⟩
    · by_cases q : v = e
      · exact ⟨a, Or.inr (Or.inr (Or.inl ⟨q, rfl⟩))⟩
      · obtain ⟨y, hy⟩ := (h v).mpr ⟨x, h1⟩
        exact ⟨y, Or.inl ⟨hy, q⟩⟩
    · by_cases q : v = e
      · exact ⟨a, Or.inr (Or.inr (Or.inl ⟨q, rfl⟩))⟩
      · obtain ⟨y, hy⟩ := (h v).mpr ⟨e, h1⟩
        exact ⟨y, Or.inl ⟨hy, q⟩⟩
    · exact ⟨b, Or.inr (Or.inr (Or.inr ⟨rfl, rfl⟩))⟩
    · obtain ⟨y, hy⟩ := he
      exact ⟨y, Or.inr (Or.inl ⟨rfl, hy⟩)⟩
def insR (rk : Int32 → Nat) (a b c v : Int32) : Nat := if v = a then 3 * rk c + 2 else if v = b then 3 * rk c + 1 else 3 * rk v
theorem bas_ins {S : Int32 → Int32 → Prop} {e a b : Int32} {cc : Nat} (h : bas S cc) (hb : bal S) (hf : fnS S) (he : ∃ y, S e y) (ha : ¬ ∃ y, S a y) (hb' : ¬ ∃ y, S b y) (hab : a ≠ b) : bas (insS S e a b) cc := by
  obtain ⟨B, rk, h1, h2⟩ := h
  obtain ⟨c, hc⟩ := he
  have ne : ∀ v, (∃ y, S v y) → v ≠ a ∧ v ≠ b := fun v hv => ⟨fun q => ha (q ▸ hv), fun q => hb' (q ▸ hv)⟩
  have rN : ∀ v, (∃ y, S v y) → insR rk a b c v = 3 * rk v := fun v hv => by unfold insR; rw [if_neg (ne v hv).1, if_neg (ne v hv).2]
  have rO : ∀ x y, S x y → insR rk a b c y = 3 * rk y := fun x y h => rN y ((hb y).mpr ⟨x, h⟩)
  have ra : insR rk a b c a = 3 * rk c + 2 := by unfold insR; rw [if_pos rfl]
  have rb : insR rk a b c b = 3 * rk c + 1 := by unfold insR; rw [if_neg (fun q => hab q.symm), if_pos rfl]
  refine ⟨B, insR rk a b c, ?_, h2⟩
  rintro x y (⟨k1, k2⟩ | ⟨e1, k1⟩ | ⟨e1, e2⟩ | ⟨e1, e2⟩)
  · rcases h1 x y k1 with q | q
    · exact Or.inl q
    · refine Or.inr ?_
      rw [rO x y k1, rN x ⟨y, k1⟩]
      omega
  · refine Or.inr ?_
    rw [rO e y k1, e1, rb, hf.1 e y c k1 hc]
    omega
  · rw [e1, e2]
    rcases h1 e c hc with q | q
    · exact Or.inl q
    · refine Or.inr ?_
      rw [rN e ⟨c, hc⟩, ra]
      omega
  · refine Or.inr ?_
    rw [e1, e2, ra, rb]
    omega
theorem fnS_ins {S : Int32 → Int32 → Prop} {e a b : Int32} (hb : bal S) (hf : fnS S) (he : ∃ y, S e y) (ha : ¬ ∃ y, S a y) (hb' : ¬ ∃ y, S b y) (hab : a ≠ b) : fnS (insS S e a b) := by
  have ea : e ≠ a := fun q => ha (q ▸ he)
  have eb : e ≠ b := fun q => hb' (q ▸ he)
  have na : ∀ x, ¬ S x a := fun x h => ha ((hb a).mpr ⟨x, h⟩)
  have nb : ∀ x, ¬ S x b := fun x h => hb' ((hb b).mpr ⟨x, h⟩)
  constructor
  · rintro x y y' (⟨k1, k2⟩ | ⟨rfl, k1⟩ | ⟨rfl, rfl⟩ | ⟨rfl, rfl⟩) (⟨j1, j2⟩ | ⟨j2, j1⟩ | ⟨j2, rfl⟩ | ⟨j2, rfl⟩)
    · exact hf.1 x y y' k1 j1
    · exact absurd ⟨y, j2 ▸ k1⟩ hb'
    · exact absurd j2 k2
    · exact absurd ⟨y, j2 ▸ k1⟩ ha
    · exact absurd ⟨y', j1⟩ hb'
    · exact hf.1 e y y' k1 j1
    · exact absurd j2.symm eb
    · exact absurd j2.symm hab
    · exact absurd rfl j2
    · exact absurd j2 eb
    · rfl
    · exact absurd j2 ea
    · exact absurd ⟨y', j1⟩ ha
    · exact absurd j2 hab
    · exact absurd j2.symm ea
    · rfl
  · rintro x x' y (⟨k1, k2⟩ | ⟨rfl, k1⟩ | ⟨rfl, rfl⟩ | ⟨rfl, rfl⟩) (⟨j1, j2⟩ | ⟨rfl, j1⟩ | ⟨rfl, j2⟩ | ⟨rfl, j2⟩)
    · exact hf.2 x x' y k1 j1
    · exact absurd (hf.2 x _ y k1 j1) k2
    · exact absurd (j2 ▸ k1) (na x)
    · exact absurd (j2 ▸ k1) (nb x)
    · exact absurd (hf.2 x' _ y j1 k1) j2
    · rfl
    · exact absurd (j2 ▸ k1) (na _)
    · exact absurd (j2 ▸ k1) (nb _)
    · exact absurd j1 (na x')
    · exact absurd j1 (na _)
    · rfl
    · exact absurd j2 hab
    · exact absurd j1 (nb x')
    · exact absurd j1 (nb _)
    · exact absurd j2.symm hab
    · rfl
theorem cB_add (B : Int32 → Bool) (a : Int32) : cB (fun v => B v || decide (v = a)) ≤ cB B + 1 := by
  by_cases hk : ∃ k, k < 33 ∧ a = nI k
  · obtain ⟨k, hk, rfl⟩ := hk
    have := pig (l := (List.range 33).filter (fun i => B (nI i) || decide (nI i = nI k))) (l' := k :: (List.range 33).filter (fun i => B (nI i))) (List.Pairwise.filter _ List.nodup_range) (fun i hi => by
      have h := List.mem_filter.mp hi
      have h1 := List.mem_range.mp h.1
      rcases (Bool.or_eq_true _ _).mp h.2 with q | q
      · exact List.mem_cons_of_mem _ (List.mem_filter.mpr ⟨h.1, q⟩)
      · rw [(nI_eq (by omega) (by omega)).mp (of_decide_eq_true q)]
        exact List.mem_cons_self)
    rw [List.length_cons] at this
    exact this
  · have := pig (l := (List.range 33).filter (fun i => B (nI i) || decide (nI i = a))) (l' := (List.range 33).filter (fun i => B (nI i))) (List.Pairwise.filter _ List.nodup_range) (fun i hi => by
      have h := List.mem_filter.mp hi
      have h1 := List.mem_range.mp h.1
      rcases (Bool.or_eq_true _ _).mp h.2 with q | q
      · exact List.mem_filter.mpr ⟨h.1, q⟩
      · exact absurd ⟨i, h1, (of_decide_eq_true q).symm⟩ hk)
    exact Nat.le_trans this (Nat.le_succ _)
theorem cB_lt {B B' : Int32 → Bool} {k : Nat} (hk : k < 33) (h1 : B (nI k) = true) (h2 : B' (nI k) = false) (h : ∀ v, B' v = true → B v = true) : cB B' + 1 ≤ cB B := by
  have := pig (l := k :: (List.range 33).filter (fun i => B' (nI i))) (l' := (List.range 33).filter (fun i => B (nI i))) (List.nodup_cons.mpr ⟨fun q => (by have := (List.mem_filter.mp q).2; rw [h2] at this; cases this), List.Pairwise.filter _ List.nodup_range⟩) (fun i hi => by
    rcases List.mem_cons.mp hi with q | q
    · rw [q]; exact List.mem_filter.mpr ⟨List.mem_range.mpr hk, h1⟩
    · have := List.mem_filter.mp q
      exact List.mem_filter.mpr ⟨this.1, h _ this.2⟩)
  rw [List.length_cons] at this
  exact this
theorem cB_mono {B B' : Int32 → Bool} (h : ∀ v, B' v = true → B v = true) : cB B' ≤ cB B :=
  pig (List.Pairwise.filter _ List.nodup_range) (fun i hi => List.mem_filter.mpr ⟨(List.mem_filter.mp hi).1, h _ (List.mem_filter.mp hi).2⟩)
def newR (rk : Int32 → Nat) (a b v : Int32) : Nat := if v = a then 0 else if v = b then 1 else rk v
theorem bas_new {S : Int32 → Int32 → Prop} {a b : Int32} {cc : Nat} (h : bas S (cc + 1)) (hb : bal S) (ha : ¬ ∃ y, S a y) (hb' : ¬ ∃ y, S b y) (hab : a ≠ b) : bas (newS S a b) cc := by
  obtain ⟨B, rk, h1, h2⟩ := h
  have rN : ∀ v, (∃ y, S v y) → newR rk a b v = rk v := fun v hv => by
    have n1 : v ≠ a := fun q => ha (q ▸ hv)
    have n2 : v ≠ b := fun q => hb' (q ▸ hv)
    unfold newR
    rw [if_neg n1, if_neg n2]
  refine ⟨fun v => B v || decide (v = a), newR rk a b, ?_, by have := cB_add B a; omega⟩
  rintro x y (k1 | ⟨e1, e2⟩ | ⟨e1, e2⟩)
  · rw [rN x ⟨y, k1⟩, rN y ((hb y).mpr ⟨x, k1⟩)]
    rcases h1 x y k1 with q | q
    · exact Or.inl (by simp [q])
    · exact Or.inr q
  · exact Or.inl (by simp [e1])
  · refine Or.inr ?_
    rw [e1, e2]
    unfold newR
    rw [if_pos rfl, if_neg (fun q => hab q.symm), if_pos rfl]
    decide
theorem bal_new {S : Int32 → Int32 → Prop} {a b : Int32} (h : bal S) : bal (newS S a b) := by
  intro v
  constructor
  · rintro ⟨y, (k1 | ⟨rfl, rfl⟩ | ⟨rfl, rfl⟩)⟩
    · obtain ⟨x, hx⟩ := (h v).mp ⟨y, k1⟩
      exact ⟨x, Or.inl hx⟩
    · exact ⟨y, Or.inr (Or.inr ⟨rfl, rfl⟩)⟩
    · exact ⟨y, Or.inr (Or.inl ⟨rfl, rfl⟩)⟩
  · rintro ⟨x, (k1 | ⟨rfl, rfl⟩ | ⟨rfl, rfl⟩)⟩
    · obtain ⟨y, hy⟩ := (h v).mpr ⟨x, k1⟩
      exact ⟨y, Or.inl hy⟩
    · exact ⟨x, Or.inr (Or.inr ⟨rfl, rfl⟩)⟩
    · exact ⟨x, Or.inr (Or.inl ⟨rfl, rfl⟩)⟩
-- taking out
theorem bal_cut {S : Int32 → Int32 → Prop} {p l : Int32} (h : bal S) (hf : fnS S) (h1 : S p l) (h2 : S l p) : bal (cutS S p l) := by
  intro v
  constructor
  · rintro ⟨y, k1, k2, k3⟩
    obtain ⟨x, hx⟩ := (h v).mp ⟨y, k1⟩
    exact ⟨x, hx, fun q => k3 (hf.1 p v l (q ▸ hx) h1), fun q => k2 (hf.1 l v p (q ▸ hx) h2)⟩
  · rintro ⟨x, k1, k2, k3⟩
    obtain ⟨y, hy⟩ := (h v).mpr ⟨x, k1⟩
    exact ⟨y, hy, fun q => k3 (hf.2 x l p (q ▸ k1) h2), fun q => k2 (hf.2 x p l (q ▸ k1) h1)⟩
theorem fnS_cut {S : Int32 → Int32 → Prop} {p l : Int32} (hf : fnS S) : fnS (cutS S p l) := ⟨fun x y y' h k => hf.1 x y y' h.1 k.1, fun x x' y h k => hf.2 x x' y h.1 k.1⟩
theorem bas_cut {S : Int32 → Int32 → Prop} {p l : Int32} {cc : Nat} (h : bas S cc) (hl : labS S) (h1 : S p l) (h2 : S l p) : bas (cutS S p l) (cc + 1) := by
  obtain ⟨B, rk, k1, k2⟩ := h
  refine ⟨fun v => B v && !decide (v = p) && !decide (v = l), rk, ?_, ?_⟩
  · rintro x y ⟨j1, j2, j3⟩
    simp only [j2, j3, decide_false, Bool.not_false, Bool.and_true]
    exact k1 x y j1
  · have hm : ∀ v, (B v && !decide (v = p) && !decide (v = l)) = true → B v = true := fun v hv => by
      simp only [Bool.and_eq_true] at hv
      exact hv.1.1
    obtain ⟨kp, hp, ep⟩ := hl p l h1
    obtain ⟨kl, hl', el⟩ := hl l p h2
    have hor : B p = true ∨ B l = true := by
      rcases k1 p l h1 with q | q
      · exact Or.inl q
      · rcases k1 l p h2 with z | z
        · exact Or.inr z
        · omega
    have : cB (fun v => B v && !decide (v = p) && !decide (v = l)) + 1 ≤ cB B := by
      rcases hor with q | q
      · exact cB_lt hp (by rw [← ep]; exact q) (by simp [← ep]) hm
      · exact cB_lt hl' (by rw [← el]; exact q) (by simp [← el]) hm
    omega
theorem bal_del {S : Int32 → Int32 → Prop} {p l q : Int32} (h : bal S) (hf : fnS S) (h1 : S p l) (h2 : S l q) (hpq : p ≠ q) (hlq : l ≠ q) (hlp : l ≠ p) : bal (delS S p l q) := by
  obtain ⟨c, hc⟩ := (h q).mpr ⟨l, h2⟩
  intro v
  constructor
  · rintro ⟨y, (⟨k1, k2, k3, k4⟩ | ⟨rfl, k1⟩)⟩
    · obtain ⟨x, hx⟩ := (h v).mp ⟨y, k1⟩
      by_cases e : x = q
      · exact ⟨p, Or.inr ⟨rfl, e ▸ hx⟩⟩
      · exact ⟨x, Or.inl ⟨hx, fun z => k3 (hf.1 p v l (z ▸ hx) h1), fun z => k4 (hf.1 l v q (z ▸ hx) h2), e⟩⟩
    · obtain ⟨x, hx⟩ := (h v).mp ⟨l, h1⟩
      by_cases e : x = q
      · exact ⟨v, Or.inr ⟨rfl, e ▸ hx⟩⟩
      · exact ⟨x, Or.inl ⟨hx, fun z => hlp (hf.1 v l v h1 (by rw [z] at hx; exact hx)), fun z => hpq (hf.1 l v q (z ▸ hx) h2), e⟩⟩
  · rintro ⟨x, (⟨k1, k2, k3, k4⟩ | ⟨rfl, k1⟩)⟩
    · by_cases e : v = p
      · exact ⟨c, Or.inr ⟨e, hc⟩⟩
      · obtain ⟨y, hy⟩ := (h v).mpr ⟨x, k1⟩
        exact ⟨y, Or.inl ⟨hy, e, fun z => k2 (hf.2 x p l (z ▸ k1) h1), fun z => k3 (hf.2 x l q (z ▸ k1) h2)⟩⟩
    · by_cases e : v = x
      · exact ⟨c, Or.inr ⟨e, hc⟩⟩
      · obtain ⟨y, hy⟩ := (h v).mpr ⟨q, k1⟩
        exact ⟨y, Or.inl ⟨hy, e, fun z => hpq (hf.2 q x l (z ▸ k1) h1).symm, fun z => hlq (hf.2 q l q (by rw [z] at k1; exact k1) h2).symm⟩⟩
theorem fnS_del {S : Int32 → Int32 → Prop} {p l q : Int32} (hf : fnS S) : fnS (delS S p l q) := by
  constructor
  · rintro x y y' (⟨k1, k2, k3, k4⟩ | ⟨rfl, k1⟩) (⟨j1, j2, j3, j4⟩ | ⟨e, j1⟩)
    · exact hf.1 x y y' k1 j1
    · exact absurd e k2
    · exact absurd rfl j2
    · exact hf.1 q y y' k1 j1
  · rintro x x' y (⟨k1, k2, k3, k4⟩ | ⟨rfl, k1⟩) (⟨j1, j2, j3, j4⟩ | ⟨rfl, j1⟩)
    · exact hf.2 x x' y k1 j1
    · exact absurd (hf.2 x q y k1 j1) k4
    · exact absurd (hf.2 x' q y j1 k1) j4
    · rfl
theorem labS_del {S : Int32 → Int32 → Prop} {p l q : Int32} (h : labS S) (h1 : S p l) : labS (delS S p l q) := by
  rintro x y (⟨k1, k2, k3, k4⟩ | ⟨rfl, k1⟩)
  · exact h x y k1
  · exact h x l h1
theorem labS_cut {S : Int32 → Int32 → Prop} {p l : Int32} (h : labS S) : labS (cutS S p l) := fun x y k => h x y k.1
theorem bas_del {S : Int32 → Int32 → Prop} {p l q : Int32} {cc : Nat} (h : bas S cc) (hl : labS S) (hq : ∃ c, S q c) (h1 : S p l) (h2 : S l q) (hpq : p ≠ q) (hlp : l ≠ p) : bas (delS S p l q) cc := by
  obtain ⟨B, rk, k1, k2⟩ := h
  obtain ⟨c, hc⟩ := hq
  by_cases hor : B l = true ∨ B q = true
  · refine ⟨fun v => (B v || decide (v = p)) && !decide (v = l) && !decide (v = q), rk, ?_, ?_⟩
    · rintro x y (⟨j1, j2, j3, j4⟩ | ⟨rfl, j1⟩)
      · simp only [j2, j3, j4, decide_false, Bool.not_false, Bool.and_true, Bool.or_false]
        exact k1 x y j1
      · refine Or.inl ?_
        simp [hpq, Ne.symm hlp]
    · obtain ⟨kq, hq', eq⟩ := hl q c hc
      obtain ⟨kl, hl', el⟩ := hl l q h2
      have a1 := cB_add B p
      have hm : ∀ v, ((B v || decide (v = p)) && !decide (v = l) && !decide (v = q)) = true → (B v || decide (v = p)) = true := fun v hv => by
        simp only [Bool.and_eq_true] at hv
        exact hv.1.1
      have : cB (fun v => (B v || decide (v = p)) && !decide (v = l) && !decide (v = q)) + 1 ≤ cB (fun v => B v || decide (v = p)) := by
        rcases hor with z | z
        · exact cB_lt hl' (by rw [← el, z]; rfl) (by simp [← el]) hm
        · exact cB_lt hq' (by rw [← eq, z]; rfl) (by simp [← eq]) hm
      omega
  · refine ⟨B, rk, ?_, k2⟩
    rintro x y (⟨j1, j2, j3, j4⟩ | ⟨rfl, j1⟩)
    · exact k1 x y j1
    · rcases k1 x l h1 with z | z
      · exact Or.inl z
      · rcases k1 l q h2 with w | w
        · exact absurd (Or.inl w) hor
        · rcases k1 q y j1 with v | v
          · exact absurd (Or.inr v) hor
          · exact Or.inr (by omega)
