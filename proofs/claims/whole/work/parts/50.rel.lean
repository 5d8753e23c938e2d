/-- class and reference hold the same edges, and the same signs -/
def agE (N : Nat) (f me : Nat → Int32) : Prop := ∀ i, i < N → me i = f i
def agP (n : Nat) (g mp : Nat → Int32) : Prop := ∀ x, x < n → mp x = zb (decide (0 < g x))
def sgOK (n : Nat) (g : Nat → Int32) : Prop := ∀ x, x < n → g x = 1 ∨ g x = -1
def inj2 (f g : Nat → Int32) (n : Nat) : Prop := ∀ i j, i < 4 * n → j < 4 * n → cin g i = cin g j → f i = f j → i = j
/-- a strand comes in by the edge a and goes out by the edge b -/
def pas (f g : Nat → Int32) (n : Nat) (a b : Int32) : Prop := ∃ h, h < 4 * n ∧ cin g h = true ∧ f h = a ∧ f (opp h) = b
def bal (S : Int32 → Int32 → Prop) : Prop := ∀ v, (∃ b, S v b) ↔ ∃ a, S a v
def cB (B : Int32 → Bool) : Nat := ((List.range 33).filter (fun i => B (nI i))).length
/-- so few marked edges that with the circles they are at most 20, and every strand comes to one -/
def bas (S : Int32 → Int32 → Prop) (cc : Nat) : Prop := ∃ (B : Int32 → Bool) (rk : Int32 → Nat), (∀ a b, S a b → B a = true ∨ rk b < rk a) ∧ cB B + cc ≤ 20
def Dia (f g : Nat → Int32) (n cc : Nat) : Prop := n ≤ 8 ∧ edg (4 * n) f ∧ sgOK n g ∧ inj2 f g n ∧ bal (pas f g n) ∧ (1 ≤ n ∨ 1 ≤ cc) ∧ bas (pas f g n) cc
/-- the draft, on both sides -/
def Drf (nd : Nat) (fd gd me mp : Nat → Int32) : Prop := nd ≤ 8 ∧ edg (4 * nd) fd ∧ sgOK nd gd ∧ agE (4 * nd) fd (fun i => me (32 + i)) ∧ agP nd gd (fun x => mp (8 + x))
/-- the diagram, on both sides -/
def Dgm (n : Nat) (f g : Nat → Int32) (cc : Nat) (me mp : Nat → Int32) : Prop := Dia f g n cc ∧ agE (4 * n) f me ∧ agP n g mp
/-- the word, on both sides -/
def Wrd (lt : Nat) (wd mw : Nat → Int32) : Prop := lt ≤ 8 ∧ wOK wd lt ∧ ∀ i, i < lt → mw i = wd i
def Inv (w : zW) : Prop := ∃ (nd : Nat) (fd gd : Nat → Int32) (n : Nat) (f g : Nat → Int32) (nf : Nat) (ff gf s q oe t : Nat → Int32) (m : Nat → Int64) (l u c ln : Nat → Int32) (mi : Nat → Int64) (wd pl : Nat → Int32) (lt cc : Nat) (me mp mw : Nat → Int32) (mv my : Nat) (mt : Nat → Int32) (ms mq mh : Nat → Int64) (ma : Nat → Int32) (mz : Nat) (mk mn : Nat → Int32) (mr : Nat → Int64) (mx : Nat → Int32),
  w = kC nd fd gd n f g nf ff gf s q oe t m l u c ln mi wd pl lt cc (mT me mp n nd cc mw lt mv my mt ms mq mh ma mz mk mn mr mx) ∧ Drf nd fd gd me mp ∧ Dgm n f g cc me mp ∧ Wrd lt wd mw ∧ sml 100 33 u
section IN
variable {nd : Nat} {fd gd : Nat → Int32} {n : Nat} {f g : Nat → Int32} {nf : Nat} {ff gf s q oe t : Nat → Int32} {m : Nat → Int64} {l u c ln : Nat → Int32} {mi : Nat → Int64} {wd pl : Nat → Int32} {lt cc : Nat} {me mp mw : Nat → Int32} {mv my : Nat} {mt : Nat → Int32} {ms mq mh : Nat → Int64} {ma : Nat → Int32} {mz : Nat} {mk mn : Nat → Int32} {mr : Nat → Int64} {mx : Nat → Int32}
theorem Inv.of (h1 : Drf nd fd gd me mp) (h2 : Dgm n f g cc me mp) (h3 : Wrd lt wd mw) (h4 : sml 100 33 u) : Inv (kC nd fd gd n f g nf ff gf s q oe t m l u c ln mi wd pl lt cc (mT me mp n nd cc mw lt mv my mt ms mq mh ma mz mk mn mr mx)) := ⟨nd, fd, gd, n, f, g, nf, ff, gf, s, q, oe, t, m, l, u, c, ln, mi, wd, pl, lt, cc, me, mp, mw, mv, my, mt, ms, mq, mh, ma, mz, mk, mn, mr, mx, rfl, h1, h2, h3, h4⟩
end IN
def xC (w : zW) : Nat → zE := fun j => w.getD j (aI 0 (fun _ => 0))
section OPS
variable {nd : Nat} {fd gd : Nat → Int32} {n : Nat} {f g : Nat → Int32} {nf : Nat} {ff gf s q oe t : Nat → Int32} {m : Nat → Int64} {l u c ln : Nat → Int32} {mi : Nat → Int64} {wd pl : Nat → Int32} {lt cc : Nat} {me mp : Nat → Int32} {mc md mo : Nat} {mw : Nat → Int32} {ml mv my : Nat} {mt : Nat → Int32} {ms mq mh : Nat → Int64} {ma : Nat → Int32} {mz : Nat} {mk mn : Nat → Int32} {mr : Nat → Int64} {mx : Nat → Int32}
variable {nd' : Nat} {fd' gd' : Nat → Int32} {n' : Nat} {f' g' : Nat → Int32} {nf' : Nat} {ff' gf' s' q' oe' t' : Nat → Int32} {m' : Nat → Int64} {l' u' c' ln' : Nat → Int32} {mi' : Nat → Int64} {wd' pl' : Nat → Int32} {lt' cc' : Nat} {me' mp' : Nat → Int32} {mc' md' mo' : Nat} {mw' : Nat → Int32} {ml' mv' my' : Nat} {mt' : Nat → Int32} {ms' mq' mh' : Nat → Int64} {ma' : Nat → Int32} {mz' : Nat} {mk' mn' : Nat → Int32} {mr' : Nat → Int64} {mx' : Nat → Int32}
theorem opI {A B : zM} {as : List Value} {I : zW → Prop} {r : Int32} (hA : ∀ T, Sp A (.ref 0 :: as) (kC nd fd gd n f g nf ff gf s q oe t m l u c ln mi wd pl lt cc T) (some (.int r)) (kC nd' fd' gd' n' f' g' nf' ff' gf' s' q' oe' t' m' l' u' c' ln' mi' wd' pl' lt' cc' T)) (hB : ∀ X, Sp B (.ref 25 :: as) (kM X me mp mc md mo mw ml mv my mt ms mq mh ma mz mk mn mr mx) (some (.int r)) (kM X me' mp' mc' md' mo' mw' ml' mv' my' mt' ms' mq' mh' ma' mz' mk' mn' mr' mx')) (hI : I (kC nd' fd' gd' n' f' g' nf' ff' gf' s' q' oe' t' m' l' u' c' ln' mi' wd' pl' lt' cc' (mT me' mp' mc' md' mo' mw' ml' mv' my' mt' ms' mq' mh' ma' mz' mk' mn' mr' mx'))) : zOpI A B as I (kC nd fd gd n f g nf ff gf s q oe t m l u c ln mi wd pl lt cc (mT me mp mc md mo mw ml mv my mt ms mq mh ma mz mk mn mr mx)) :=
  ⟨r, _, _, _, _, hA _, hB (xC (kC nd' fd' gd' n' f' g' nf' ff' gf' s' q' oe' t' m' l' u' c' ln' mi' wd' pl' lt' cc' [])), hI, rfl, rfl, rfl, rfl⟩
theorem opL {A B : zM} {as : List Value} {I : zW → Prop} {r : Int64} (hA : ∀ T, Sp A (.ref 0 :: as) (kC nd fd gd n f g nf ff gf s q oe t m l u c ln mi wd pl lt cc T) (some (.long r)) (kC nd' fd' gd' n' f' g' nf' ff' gf' s' q' oe' t' m' l' u' c' ln' mi' wd' pl' lt' cc' T)) (hB : ∀ X, Sp B (.ref 25 :: as) (kM X me mp mc md mo mw ml mv my mt ms mq mh ma mz mk mn mr mx) (some (.long r)) (kM X me' mp' mc' md' mo' mw' ml' mv' my' mt' ms' mq' mh' ma' mz' mk' mn' mr' mx')) (hI : I (kC nd' fd' gd' n' f' g' nf' ff' gf' s' q' oe' t' m' l' u' c' ln' mi' wd' pl' lt' cc' (mT me' mp' mc' md' mo' mw' ml' mv' my' mt' ms' mq' mh' ma' mz' mk' mn' mr' mx'))) : zOpL A B as I (kC nd fd gd n f g nf ff gf s q oe t m l u c ln mi wd pl lt cc (mT me mp mc md mo mw ml mv my mt ms mq mh ma mz mk mn mr mx)) :=
  ⟨r, _, _, _, _, hA _, hB (xC (kC nd' fd' gd' n' f' g' nf' ff' gf' s' q' oe' t' m' l' u' c' ln' mi' wd' pl' lt' cc' [])), hI, rfl, rfl, rfl, rfl⟩
theorem opIe {A B : zM} {as : List Value} {I : zW → Prop} {r r2 : Int32} (hA : ∀ T, Sp A (.ref 0 :: as) (kC nd fd gd n f g nf ff gf s q oe t m l u c ln mi wd pl lt cc T) (some (.int r)) (kC nd' fd' gd' n' f' g' nf' ff' gf' s' q' oe' t' m' l' u' c' ln' mi' wd' pl' lt' cc' T)) (hB : ∀ X, Sp B (.ref 25 :: as) (kM X me mp mc md mo mw ml mv my mt ms mq mh ma mz mk mn mr mx) (some (.int r2)) (kM X me' mp' mc' md' mo' mw' ml' mv' my' mt' ms' mq' mh' ma' mz' mk' mn' mr' mx')) (hr : r2 = r) (hI : I (kC nd' fd' gd' n' f' g' nf' ff' gf' s' q' oe' t' m' l' u' c' ln' mi' wd' pl' lt' cc' (mT me' mp' mc' md' mo' mw' ml' mv' my' mt' ms' mq' mh' ma' mz' mk' mn' mr' mx'))) : zOpI A B as I (kC nd fd gd n f g nf ff gf s q oe t m l u c ln mi wd pl lt cc (mT me mp mc md mo mw ml mv my mt ms mq mh ma mz mk mn mr mx)) := by
  subst hr
  exact opI hA hB hI
theorem opLe {A B : zM} {as : List Value} {I : zW → Prop} {r r2 : Int64} (hA : ∀ T, Sp A (.ref 0 :: as) (kC nd fd gd n f g nf ff gf s q oe t m l u c ln mi wd pl lt cc T) (some (.long r)) (kC nd' fd' gd' n' f' g' nf' ff' gf' s' q' oe' t' m' l' u' c' ln' mi' wd' pl' lt' cc' T)) (hB : ∀ X, Sp B (.ref 25 :: as) (kM X me mp mc md mo mw ml mv my mt ms mq mh ma mz mk mn mr mx) (some (.long r2)) (kM X me' mp' mc' md' mo' mw' ml' mv' my' mt' ms' mq' mh' ma' mz' mk' mn' mr' mx')) (hr : r2 = r) (hI : I (kC nd' fd' gd' n' f' g' nf' ff' gf' s' q' oe' t' m' l' u' c' ln' mi' wd' pl' lt' cc' (mT me' mp' mc' md' mo' mw' ml' mv' my' mt' ms' mq' mh' ma' mz' mk' mn' mr' mx'))) : zOpL A B as I (kC nd fd gd n f g nf ff gf s q oe t m l u c ln mi wd pl lt cc (mT me mp mc md mo mw ml mv my mt ms mq mh ma mz mk mn mr mx)) := by
  subst hr
  exact opL hA hB hI
end OPS
theorem upd_self (f : Nat → Int32) (k : Nat) (x : Int32) : upd f k x k = x := by simp [upd]
theorem upd_ne (f : Nat → Int32) {k j : Nat} (x : Int32) (h : j ≠ k) : upd f k x j = f j := by simp [upd, h]
theorem zb_sgn (p : Bool) : zb p = zb (decide (0 < sgn p)) := by cases p <;> decide
theorem sgn_OK (p : Bool) : sgn p = 1 ∨ sgn p = -1 := by cases p <;> decide
theorem isE_edg {x : Int32} (h : isE x = true) : ∃ k, 1 ≤ k ∧ k ≤ 32 ∧ x = nI k := by
  have h1 := of_decide_eq_true h
  have h0 : ¬ x < 0 := fun h2 => by
    have a := Int32.lt_iff_toInt_lt.mp h2
    have b := Int32.le_iff_toInt_le.mp h1.1
    have c : (1 : Int32).toInt = 1 := by decide
    have d : (0 : Int32).toInt = 0 := by decide
    omega
  obtain ⟨j, hj, rfl⟩ := nI_of2 (M := 32) (n := 32) (by decide) h0 h1.2
  exact ⟨j, (nI_leI (a := 1) (by decide) (by omega)).mp h1.1, hj, rfl⟩
theorem ptE_apE (me : Nat → Int32) (x : Nat) (a b c d : Int32) : ptE me x a b c d = apE me x a b c d := rfl
theorem apE_lt (f : Nat → Int32) {n i : Nat} (a b c d : Int32) (h : i < 4 * n) : apE f n a b c d i = f i := by
  unfold apE
  rw [upd_ne _ _ (by omega), upd_ne _ _ (by omega), upd_ne _ _ (by omega), upd_ne _ _ (by omega)]
theorem apE_0 (f : Nat → Int32) (n : Nat) (a b c d : Int32) : apE f n a b c d (4 * n) = a := by
  unfold apE
  rw [upd_ne _ _ (by omega), upd_ne _ _ (by omega), upd_ne _ _ (by omega), upd_self]
theorem apE_1 (f : Nat → Int32) (n : Nat) (a b c d : Int32) : apE f n a b c d (4 * n + 1) = b := by
  unfold apE
  rw [upd_ne _ _ (by omega), upd_ne _ _ (by omega), upd_self]
theorem apE_2 (f : Nat → Int32) (n : Nat) (a b c d : Int32) : apE f n a b c d (4 * n + 2) = c := by
  unfold apE
  rw [upd_ne _ _ (by omega), upd_self]
theorem apE_3 (f : Nat → Int32) (n : Nat) (a b c d : Int32) : apE f n a b c d (4 * n + 3) = d := by
  unfold apE
  rw [upd_self]
theorem apE_all {P : Nat → Int32 → Prop} {f : Nat → Int32} {n : Nat} {a b c d : Int32} (h : ∀ i, i < 4 * n → P i (f i)) (h0 : P (4 * n) a) (h1 : P (4 * n + 1) b) (h2 : P (4 * n + 2) c) (h3 : P (4 * n + 3) d) : ∀ i, i < 4 * (n + 1) → P i (apE f n a b c d i) := by
  intro i hi
  by_cases hl : i < 4 * n
  · rw [apE_lt _ _ _ _ _ hl]
    exact h i hl
  · have : i = 4 * n ∨ i = 4 * n + 1 ∨ i = 4 * n + 2 ∨ i = 4 * n + 3 := by omega
    rcases this with rfl | rfl | rfl | rfl
    · rw [apE_0]; exact h0
    · rw [apE_1]; exact h1
    · rw [apE_2]; exact h2
    · rw [apE_3]; exact h3
theorem agE_ap {f me : Nat → Int32} {n : Nat} (a b c d : Int32) (h : agE (4 * n) f me) : agE (4 * (n + 1)) (apE f n a b c d) (apE me n a b c d) := by
  intro i hi
  by_cases hl : i < 4 * n
  · rw [apE_lt _ _ _ _ _ hl, apE_lt _ _ _ _ _ hl]
    exact h i hl
  · have : i = 4 * n ∨ i = 4 * n + 1 ∨ i = 4 * n + 2 ∨ i = 4 * n + 3 := by omega
    rcases this with rfl | rfl | rfl | rfl
    · rw [apE_0, apE_0]
    · rw [apE_1, apE_1]
    · rw [apE_2, apE_2]
    · rw [apE_3, apE_3]
theorem agP_up {g mp : Nat → Int32} {n : Nat} (p : Bool) (h : agP n g mp) : agP (n + 1) (upd g n (sgn p)) (upd mp n (zb p)) := by
  intro x hx
  by_cases hl : x < n
  · rw [upd_ne _ _ (by omega), upd_ne _ _ (by omega)]
    exact h x hl
  · rw [show x = n by omega, upd_self, upd_self]
    exact zb_sgn p
theorem sgOK_up {g : Nat → Int32} {n : Nat} (p : Bool) (h : sgOK n g) : sgOK (n + 1) (upd g n (sgn p)) := by
  intro x hx
  by_cases hl : x < n
  · rw [upd_ne _ _ (by omega)]
    exact h x hl
  · rw [show x = n by omega, upd_self]
    exact sgn_OK p
theorem edg_ap {f : Nat → Int32} {n : Nat} {a b c d : Int32} (h : edg (4 * n) f) (ha : isE a = true) (hb : isE b = true) (hc : isE c = true) (hd : isE d = true) : edg (4 * (n + 1)) (apE f n a b c d) :=
  apE_all (P := fun _ v => ∃ x, 1 ≤ x ∧ x ≤ 32 ∧ v = nI x) h (isE_edg ha) (isE_edg hb) (isE_edg hc) (isE_edg hd)
