theorem pig : ∀ {l l' : List Nat}, l.Nodup → (∀ a, a ∈ l → a ∈ l') → l.length ≤ l'.length := by
  intro l
  induction l with
  | nil => intro l' _ _; exact Nat.zero_le _
  | cons a t ih =>
    intro l' hn hs
    have ha : a ∈ l' := hs a List.mem_cons_self
    have hn' := List.nodup_cons.mp hn
    have h1 := ih (l' := l'.erase a) hn'.2 (fun b hb => by
      have hne : b ≠ a := fun e => hn'.1 (by rw [← e]; exact hb)
      exact (List.mem_erase_of_ne hne).mpr (hs b (List.mem_cons_of_mem _ hb)))
    rw [List.length_erase_of_mem ha] at h1
    have := List.length_pos_of_mem ha
    rw [List.length_cons]
    omega
/-- a relation that no two of A share a partner in -/
theorem pigR {r : Nat → Nat → Prop} : ∀ {A B : List Nat}, A.Pairwise (fun a a' => ∀ b, r a b → r a' b → False) → (∀ a, a ∈ A → ∃ b, b ∈ B ∧ r a b) → A.length ≤ B.length := by
  intro A
  induction A with
  | nil => intro B _ _; exact Nat.zero_le _
  | cons a t ih =>
    intro B hp ht
    obtain ⟨b, hb, hr⟩ := ht a List.mem_cons_self
    have hp' := List.pairwise_cons.mp hp
    have h1 := ih (B := B.erase b) hp'.2 (fun a' ha' => by
      obtain ⟨b', hb', hr'⟩ := ht a' (List.mem_cons_of_mem _ ha')
      have hne : b' ≠ b := fun e => hp'.1 a' ha' b hr (by rw [← e]; exact hr')
      exact ⟨b', (List.mem_erase_of_ne hne).mpr hb', hr'⟩)
    rw [List.length_erase_of_mem hb] at h1
    have := List.length_pos_of_mem hb
    rw [List.length_cons]
    omega
/-- the least equivalence that holds what G holds -/
def Gen (G : Nat → Nat → Prop) (u v : Nat) : Prop := ∀ E : Nat → Nat → Prop, (∀ a, E a a) → (∀ a b, E a b → E b a) → (∀ a b c, E a b → E b c → E a c) → (∀ a b, G a b → E a b) → E u v
theorem Gen.rf {G : Nat → Nat → Prop} (a : Nat) : Gen G a a := fun _ h1 _ _ _ => h1 a
theorem Gen.sm {G : Nat → Nat → Prop} {a b : Nat} (h : Gen G a b) : Gen G b a := fun E h1 h2 h3 h4 => h2 a b (h E h1 h2 h3 h4)
theorem Gen.tr {G : Nat → Nat → Prop} {a b c : Nat} (h : Gen G a b) (k : Gen G b c) : Gen G a c := fun E h1 h2 h3 h4 => h3 a b c (h E h1 h2 h3 h4) (k E h1 h2 h3 h4)
theorem Gen.one {G : Nat → Nat → Prop} {a b : Nat} (h : G a b) : Gen G a b := fun _ _ _ _ h4 => h4 a b h
/-- what is kept both ways by every step is kept -/
theorem Gen.kept {G : Nat → Nat → Prop} {P : Nat → Prop} (hP : ∀ a b, G a b → (P a ↔ P b)) {u v : Nat} (h : Gen G u v) : P u ↔ P v :=
  h (fun a b => P a ↔ P b) (fun _ => Iff.rfl) (fun _ _ h => h.symm) (fun _ _ _ h k => h.trans k) hP
theorem Gen.mono {G K : Nat → Nat → Prop} (hG : ∀ a b, G a b → Gen K a b) {u v : Nat} (h : Gen G u v) : Gen K u v :=
  h (Gen K) Gen.rf (fun _ _ h => h.sm) (fun _ _ _ h k => h.tr k) hG
/-- L has just one of each kind in D -/
def Reps (cl : Nat → Nat → Prop) (D : Nat → Prop) (L : List Nat) : Prop := (∀ a, a ∈ L → D a) ∧ L.Pairwise (fun a b => ¬ cl a b) ∧ ∀ j, D j → ∃ a, a ∈ L ∧ cl a j
theorem Reps.le {G : Nat → Nat → Prop} {cl : Nat → Nat → Prop} {D D' : Nat → Prop} {L L' : List Nat} (h : Reps cl D L) (h' : Reps (Gen G) D' L') (r : Nat → Nat → Prop) (ht : ∀ a, D a → ∃ b, D' b ∧ r a b) (hr : ∀ a a' b b', D a → D a' → r a b → r a' b' → Gen G b b' → cl a a') : L.length ≤ L'.length := by
  refine pigR (r := fun a c => ∃ b, D' b ∧ r a b ∧ Gen G c b) ?_ ?_
  · refine List.Pairwise.imp_of_mem (R := fun a b => ¬ cl a b) ?_ h.2.1
    intro a a' ha ha' hn c ⟨b, h1, h2, h3⟩ ⟨b', k1, k2, k3⟩
    exact hn (hr a a' b b' (h.1 a ha) (h.1 a' ha') h2 k2 (h3.sm.tr k3))
  · intro a ha
    obtain ⟨b, h1, h2⟩ := ht a (h.1 a ha)
    obtain ⟨c, h3, h4⟩ := h'.2.2 b h1
    exact ⟨c, h3, b, h1, h2, h4⟩
/-- a list made one by one, each new one of a kind that was not there -/
theorem Reps.snoc {cl : Nat → Nat → Prop} {L : List Nat} {a : Nat} (h : L.Pairwise (fun a b => ¬ cl a b)) (hn : ∀ b, b ∈ L → ¬ cl b a) : (L ++ [a]).Pairwise (fun a b => ¬ cl a b) := by
  rw [List.pairwise_append]
  refine ⟨h, List.pairwise_singleton _ _, fun b hb c hc => ?_⟩
  rw [List.mem_singleton.mp hc]
  exact hn b hb
-- going round
def itf (nx : Nat → Nat) : Nat → Nat → Nat
  | 0, a => a
  | m + 1, a => itf nx m (nx a)
theorem itf_0 (nx : Nat → Nat) (a : Nat) : itf nx 0 a = a := rfl
theorem itf_s (nx : Nat → Nat) : ∀ m a, itf nx (m + 1) a = nx (itf nx m a) := by
  intro m
  induction m with
  | zero => intro a; rfl
  | succ m ih => intro a; rw [itf, ih (nx a)]; rfl
theorem itf_add (nx : Nat → Nat) (a : Nat) : ∀ m k, itf nx (m + k) a = itf nx m (itf nx k a) := by
  intro m
  induction m with
  | zero => intro k; rw [Nat.zero_add, itf_0]
  | succ m ih => intro k; rw [Nat.add_right_comm, itf_s, ih k, itf_s]
/-- nx goes one to one within D, which lies below N -/
def Prm (nx : Nat → Nat) (D : Nat → Prop) (N : Nat) : Prop := (∀ a, D a → a < N) ∧ (∀ a, D a → D (nx a)) ∧ ∀ a b, D a → D b → nx a = nx b → a = b
section PRM
variable {nx : Nat → Nat} {D : Nat → Prop} {N : Nat}
theorem Prm.itD (h : Prm nx D N) {a : Nat} (ha : D a) : ∀ m, D (itf nx m a) := by
  intro m
  induction m with
  | zero => exact ha
  | succ m ih => rw [itf_s]; exact h.2.1 _ ih
theorem Prm.itI (h : Prm nx D N) {a b : Nat} (ha : D a) (hb : D b) : ∀ m, itf nx m a = itf nx m b → a = b := by
  intro m
  induction m with
  | zero => intro e; exact e
  | succ m ih =>
    intro e
    rw [itf_s, itf_s] at e
    exact ih (h.2.2 _ _ (h.itD ha m) (h.itD hb m) e)
theorem least {P : Nat → Prop} : ∀ m, P m → ∃ k, k ≤ m ∧ P k ∧ ∀ j, j < k → ¬ P j := by
  intro m
  induction m using Nat.strongRecOn with
  | ind m ih =>
    intro hm
    by_cases h : ∃ j, j < m ∧ P j
    · obtain ⟨j, hj, hp⟩ := h
      obtain ⟨k, h1, h2, h3⟩ := ih j hj hp
      exact ⟨k, by omega, h2, h3⟩
    · exact ⟨m, Nat.le_refl _, hm, fun j hj hp => h ⟨j, hj, hp⟩⟩
/-- it comes back -/
theorem Prm.back (h : Prm nx D N) {a : Nat} (ha : D a) : ∃ m, 1 ≤ m ∧ m ≤ N ∧ itf nx m a = a ∧ ∀ j, 1 ≤ j → j < m → itf nx j a ≠ a := by
  have hex : ∃ m, (1 ≤ m ∧ m ≤ N) ∧ itf nx m a = a := by
    refine Classical.byContradiction fun hno => ?_
    have hnd : ((List.range (N + 1)).map (fun t => itf nx t a)).Nodup := by
      rw [List.Nodup, List.pairwise_map]
      refine List.Pairwise.imp_of_mem ?_ List.pairwise_lt_range
      intro x y hx hy hxy e
      refine hno ⟨y - x, ⟨by omega, by have := List.mem_range.mp hy; omega⟩, ?_⟩
      rw [show y = x + (y - x) by omega, itf_add] at e
      exact (h.itI ha (h.itD ha _) x e).symm
    have := pig (l' := List.range N) hnd (fun b hb => by
      obtain ⟨t, ht, rfl⟩ := List.mem_map.mp hb
      exact List.mem_range.mpr (h.1 _ (h.itD ha t)))
    simp at this
    omega
  obtain ⟨m, hm, he⟩ := hex
  obtain ⟨k, h1, h2, h3⟩ := least (P := fun m => 1 ≤ m ∧ itf nx m a = a) m ⟨hm.1, he⟩
  exact ⟨k, h2.1, by omega, h2.2, fun j j1 j2 e => h3 j j2 ⟨j1, e⟩⟩
def step (nx : Nat → Nat) (D : Nat → Prop) (a b : Nat) : Prop := D a ∧ b = nx a
theorem Gen.it (h : Prm nx D N) {a : Nat} (ha : D a) : ∀ m, Gen (step nx D) a (itf nx m a) := by
  intro m
  induction m with
  | zero => exact Gen.rf a
  | succ m ih => rw [itf_s]; exact ih.tr (Gen.one ⟨h.itD ha m, rfl⟩)
theorem Prm.cyc (h : Prm nx D N) {a m : Nat} (ha : D a) (h1 : 1 ≤ m) (he : itf nx m a = a) {b : Nat} (hb : Gen (step nx D) a b) : ∃ t, t < m ∧ b = itf nx t a := by
  refine (Gen.kept (P := fun x => ∃ t, t < m ∧ x = itf nx t a) ?_ hb).mp ⟨0, by omega, rfl⟩
  rintro x y ⟨hx, rfl⟩
  constructor
  · rintro ⟨t, ht, rfl⟩
    by_cases hl : t + 1 = m
    · exact ⟨0, by omega, by rw [← itf_s nx t a, hl, he]; rfl⟩
    · exact ⟨t + 1, by omega, (itf_s _ _ _).symm⟩
  · rintro ⟨t, ht, e⟩
    cases t with
    | zero =>
      refine ⟨m - 1, by omega, h.2.2 _ _ hx (h.itD ha _) ?_⟩
      rw [e, ← itf_s nx (m - 1) a, show m - 1 + 1 = m by omega, he]
      rfl
    | succ t =>
      rw [itf_s] at e
      exact ⟨t, by omega, h.2.2 _ _ hx (h.itD ha _) e⟩
theorem Prm.inD (h : Prm nx D N) {a b : Nat} (ha : D a) (hb : Gen (step nx D) a b) : D b := by
  obtain ⟨m, h1, h2, h3, h4⟩ := h.back ha
  obtain ⟨t, ht, rfl⟩ := h.cyc ha h1 h3 hb
  exact h.itD ha t
end PRM
