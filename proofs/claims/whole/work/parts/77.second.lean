-- the matrix, on both sides
def ag64 (c k : Nat → Int32) : Prop := ∀ t, t < 64 → k t = c t
def bd64 (B : Int) (c : Nat → Int32) : Prop := ∀ t, t < 64 → ∃ z : Int, c t = Int32.ofInt z ∧ -B ≤ z ∧ z ≤ B
theorem ad_ag {c k : Nat → Int32} {cl order e x : Nat} (a : Int32) (he : e / 4 = x) (h : ag64 c k) : ag64 (adE cl order e a c) (adM order x cl a k) := fun t ht => by
  unfold adE adM
  rw [he, Nat.mul_comm x 8]
  by_cases q : cl < order
  · rw [if_pos q, if_pos q]
    by_cases y : t = 8 * x + cl
    · rw [y, upd_self, upd_self, h _ (by omega)]
    · rw [upd_ne _ _ y, upd_ne _ _ y]
      exact h t ht
  · rw [if_neg q, if_neg q]
    exact h t ht
theorem sb_ad (order x a : Nat) (c : Nat → Int32) : sbM order x a c = adM order x a (-1) c := by
  unfold sbM adM
  rw [Int32.sub_eq_add_neg]
theorem ad_0 (cl order e : Nat) (c : Nat → Int32) : adE cl order e 0 c = c := by
  unfold adE
  split
  · funext t
    by_cases y : t = e / 4 * 8 + cl
    · rw [y, upd_self, Int32.add_zero]
    · rw [upd_ne _ _ y]
  · rfl
theorem ad_bd {B : Int} {c : Nat → Int32} {cl order e : Nat} {z : Int} (h1 : -1 ≤ z) (h2 : z ≤ 1) (h : bd64 B c) : bd64 (B + 1) (adE cl order e (Int32.ofInt z) c) := fun t ht => by
  obtain ⟨y, y1, y2, y3⟩ := h t ht
  unfold adE
  by_cases q : cl < order
  · rw [if_pos q]
    by_cases w : t = e / 4 * 8 + cl
    · rw [w, upd_self, ← w, y1, ← Int32.ofInt_add]
      exact ⟨y + z, rfl, by omega, by omega⟩
    · rw [upd_ne _ _ w]
      exact ⟨y, y1, by omega, by omega⟩
  · rw [if_neg q]
    exact ⟨y, y1, by omega, by omega⟩
theorem rt_ends {g mp : Nat → Int32} {n i : Nat} (hi : i < n) (ha : agP n g mp) : rM mp i = rt g i ∧ lM mp i = opp (rt g i) ∧ rt g i < 4 * n ∧ rt g i / 4 = i ∧ opp (rt g i) < 4 * n ∧ opp (rt g i) / 4 = i := by
  have h := ha i hi
  unfold rM lM rt opp
  by_cases c : 0 < g i
  · have e : ¬ mp i = 0 := by rw [h, decide_eq_true c]; decide
    rw [if_neg e, if_neg e, if_pos c]
    omega
  · have e : mp i = 0 := by rw [h, decide_eq_false c]; decide
    rw [if_pos e, if_pos e, if_neg c]
    omega
theorem en_step {cl cl' : Nat → Nat} {g mp : Nat → Int32} {n i order : Nat} {c l : Nat → Int32} {S : i2} (hi : i < n) (ha : agP n g mp) (hc : ∀ e, e < 4 * n → cl' e = cl e) (h1 : ag64 c S.1) (h2 : ag64 l S.2) : ag64 (fmS cl g order 1 0 (-1) i c) (enS cl' mp order i S).1 ∧ ag64 (fmS cl g order (-1) 1 0 i l) (enS cl' mp order i S).2 := by
  obtain ⟨r1, r2, r3, r4, r5, r6⟩ := rt_ends hi ha
  unfold fmS enS
  simp only []
  rw [ad_0, ad_0, r1, r2, hc _ r3, hc _ r5, hc _ (by omega), sb_ad, sb_ad]
  exact ⟨ad_ag _ r6 (ad_ag _ (by omega) h1), ad_ag _ r4 (ad_ag _ (by omega) h2)⟩
theorem en_bd {cl : Nat → Nat} {g : Nat → Int32} {i order : Nat} {B : Int} {x y z : Int} {c : Nat → Int32} (hx : -1 ≤ x ∧ x ≤ 1) (hy : -1 ≤ y ∧ y ≤ 1) (hz : -1 ≤ z ∧ z ≤ 1) (h : bd64 B c) : bd64 (B + 3) (fmS cl g order (Int32.ofInt x) (Int32.ofInt y) (Int32.ofInt z) i c) := by
  unfold fmS
  have := ad_bd (cl := cl (opp (rt g i))) (order := order) (e := opp (rt g i)) hz.1 hz.2 (ad_bd (cl := cl (rt g i)) (order := order) (e := rt g i) hy.1 hy.2 (ad_bd (cl := cl (4 * i + 1)) (order := order) (e := 4 * i + 1) hx.1 hx.2 h))
  rw [show B + 3 = B + 1 + 1 + 1 by omega]
  exact this
theorem en_all {cl cl' : Nat → Nat} {g mp : Nat → Int32} {n order : Nat} (ha : agP n g mp) (hc : ∀ e, e < 4 * n → cl' e = cl e) : ∀ (k i : Nat) (c l : Nat → Int32) (S : i2), i + k ≤ n → ag64 c S.1 → ag64 l S.2 → bd64 (3 * i) c → bd64 (3 * i) l → ag64 (itN (fmS cl g order 1 0 (-1)) i k c) (itN (enS cl' mp order) i k S).1 ∧ ag64 (itN (fmS cl g order (-1) 1 0) i k l) (itN (enS cl' mp order) i k S).2 ∧ bd64 (3 * (i + k : Nat)) (itN (fmS cl g order 1 0 (-1)) i k c) ∧ bd64 (3 * (i + k : Nat)) (itN (fmS cl g order (-1) 1 0) i k l) := by
  intro k
  induction k with
  | zero => intro i c l S _ h1 h2 h3 h4; rw [itN_0, itN_0, itN_0]; exact ⟨h1, h2, h3, h4⟩
  | succ k ih =>
    intro i c l S hi h1 h2 h3 h4
    rw [itN_s, itN_s, itN_s, show i + (k + 1) = i + 1 + k by omega]
    have hs := en_step (order := order) (show i < n by omega) ha hc h1 h2
    have b1 : bd64 (3 * (i + 1 : Nat)) (fmS cl g order 1 0 (-1) i c) := by
      have := en_bd (cl := cl) (g := g) (i := i) (order := order) (x := 1) (y := 0) (z := -1) (by omega) (by omega) (by omega) h3
      rw [show (3 * (i + 1 : Nat) : Int) = 3 * i + 3 by omega]
      exact this
    have b2 : bd64 (3 * (i + 1 : Nat)) (fmS cl g order (-1) 1 0 i l) := by
      have := en_bd (cl := cl) (g := g) (i := i) (order := order) (x := -1) (y := 1) (z := 0) (by omega) (by omega) (by omega) h4
      rw [show (3 * (i + 1 : Nat) : Int) = 3 * i + 3 by omega]
      exact this
    exact ih (i + 1) _ _ _ (by omega) hs.1 hs.2 b1 b2
theorem sg_mul : ∀ j : Nat, j < 201 → ((1 : Int32) * Int32.ofInt ((j : Int) - 100)).toInt64 = 1 * (Int32.ofInt ((j : Int) - 100)).toInt64 ∧ ((-1 : Int32) * Int32.ofInt ((j : Int) - 100)).toInt64 = -1 * (Int32.ofInt ((j : Int) - 100)).toInt64 := by decide +kernel
theorem cs_eq {c k : Nat → Int32} {B : Int} {order s j : Nat} (hB : B ≤ 100) (ho : order ≤ 8) (hs : s < 2 ^ order) (hj : j < order) (hb : s / 2 ^ j % 2 = 0) (h : ag64 c k) (hd : bd64 B c) : sgM s j * (k (8 * (pc8 s) + j)).toInt64 = csC c (s + 2 ^ j) j := by
  have h256 := pow_256 ho
  obtain ⟨b1, b2, b3, b4, b5⟩ := bx2 j (by omega) s (by omega) hb
  have hT := bx3 order (by omega) j hj s hs hb
  have hp := pc8_n order (by omega) (s + 2 ^ j) hT
  unfold csC sgM sgI
  rw [b5, b4, show pc8 s + 1 - 1 = pc8 s by omega, Nat.mul_comm (pc8 s) 8, h _ (by omega)]
  obtain ⟨z, z1, z2, z3⟩ := hd (8 * pc8 s + j) (by omega)
  rw [z1]
  obtain ⟨y, hy⟩ : ∃ y : Nat, z = (y : Int) - 100 := ⟨(z + 100).toNat, by omega⟩
  have := sg_mul y (by omega)
  rw [← hy] at this
  by_cases q : pc8 ((s + 2 ^ j) / 2 ^ (j + 1)) % 2 = 0
  · rw [if_pos q, if_pos q, this.1]
  · rw [if_neg q, if_neg q, this.2]
theorem second_eq {f g me mp : Nat → Int32} {n cc order p : Nat} (hD : Dia f g n cc) (ha : agE (4 * n) f me) (hp : agP n g mp) (l u ma c ln mk mn : Nat → Int32) (mi mr : Nat → Int64) (hle : order ≤ n) : seR (sxM (enM (aN (nuN me ma n).1 me) mp order (mk, mn)).1 (enM (aN (nuN me ma n).1 me) mp order (mk, mn)).2 order mr) (10 * (2 ^ order - 1)) p = if p ≤ 8 then nrC (exM (rCo f g n l u c order) (rLi f g n l u ln order) order mi) ((2 ^ order - 1) * 9) p else 0 := by
  have hn := hD.1
  have hpw := pw_pos order
  obtain ⟨_, a2, _, _⟩ := arcs_eq hD ha l u ma
  have hE := en_all (order := order) hp a2 order 0 (fl0 c 64) (fl0 ln 64) (z64 (mk, mn)) (by omega) (fun t ht => by show (if t < 64 then 0 else mk t) = _; unfold fl0; rw [if_pos ht, if_pos ht]) (fun t ht => by show (if t < 64 then 0 else mn t) = _; unfold fl0; rw [if_pos ht, if_pos ht]) (fun t ht => ⟨0, by unfold fl0; rw [if_pos ht]; rfl, by omega, by omega⟩) (fun t ht => ⟨0, by unfold fl0; rw [if_pos ht]; rfl, by omega, by omega⟩)
  have e1 : itN (fmS (clN f (rL f n l) (rU f n l u)) g order 1 0 (-1)) 0 order (fl0 c 64) = rCo f g n l u c order := rfl
  have e2 : itN (fmS (clN f (rL f n l) (rU f n l u)) g order (-1) 1 0) 0 order (fl0 ln 64) = rLi f g n l u ln order := rfl
  have e3 : itN (enS (aN (nuN me ma n).1 me) mp order) 0 order (z64 (mk, mn)) = enM (aN (nuN me ma n).1 me) mp order (mk, mn) := rfl
  rw [e1, e2, e3] at hE
  generalize enM (aN (nuN me ma n).1 me) mp order (mk, mn) = E at hE ⊢
  generalize rCo f g n l u c order = C at hE ⊢
  generalize rLi f g n l u ln order = L at hE ⊢
  obtain ⟨g1, g2, g3, g4⟩ := hE
  have hP := (exM_spec (c := C) (ln := L) (order := order) (by omega) mi).pfx (by omega)
  have hM := sxM_spec (mk := E.1) (mn := E.2) hP (by omega) (fun s hs j hj hb => ⟨cs_eq (by omega) (by omega) hs hj hb g1 g3, cs_eq (by omega) (by omega) hs hj hb g2 g4⟩) mr
  refine read_eq (fun i hi => ?_) ?_
  · rw [hM i (by omega)]
    unfold pEx
    rw [if_pos hi]
  · rw [hM 9 (by omega)]
    rfl
theorem st_second : ∀ w, Inv w → ∀ (a : Int32), zOpL M_A_second M_M_second [.int a] Inv w := by
  rintro w ⟨nd, fd, gd, n, f, g, nf, ff, gf, s, q, oe, t, m, l, u, c0, ln, mi, wd, pl, lt, cc, me, mp, mw, mv, my, mt, ms, mq, mh, ma, mz, mk, mn, mr, mx, rfl, hd, hg, hw, hu⟩ p
  have hn := hg.1.1
  have hf := hg.1.2.1
  have hcc := hg.1.cc
  have hfm : edg (4 * n) me := fun e he => by rw [hg.2.1 e he]; exact hf e he
  obtain ⟨a1, a2, a3, a4⟩ := arcs_eq hg.1 hg.2.1 l u ma
  have hz : sZ me ma n cc = rA f n l u + cc := by unfold sZ; rw [a1]
  have hr : rA f n l u ≤ 32 := rA_le
  have hu' : sml 100 33 (rU f n l u) := (sml_nuA (f := f) (n := n) (l := rL f n l) 32 1 u 0 (by omega) hu).1
  have hI : ∀ (c' ln' : Nat → Int32) (mi' : Nat → Int64) (ma' : Nat → Int32) (mz' : Nat) (mk' mn' : Nat → Int32) (mr' : Nat → Int64), Inv (kC nd fd gd n f g nf ff gf s q oe t m (rL f n l) (rU f n l u) c' ln' mi' wd pl lt cc (mT me mp n nd cc mw lt mv my mt ms mq mh ma' mz' mk' mn' mr' mx)) := fun _ _ _ _ _ _ _ _ => Inv.of hd hg hw hu'
  have d0 : (0 : Int32).toInt = 0 := by decide
  have d8 : (8 : Int32).toInt = 8 := by decide
  have d9 : (9 : Int32).toInt = 9 := by decide
  by_cases hb : p < 0 ∨ 9 < p ∨ n < rA f n l u + cc - 1
  · refine opL (fun T => sp_A_second_no hn hf (by omega) a4 ?_) (fun X => sp_M_second_no hn hfm (by omega) (by omega) (by rw [hz]; exact hb)) (hI _ _ _ _ _ _ _ _)
    rcases hb with z | z | z
    · exact Or.inl z
    · refine Or.inr (Or.inl ?_)
      rw [Int32.lt_iff_toInt_lt] at z ⊢
      omega
    · exact Or.inr (Or.inr z)
  · have h1 : ¬ p < 0 := fun z => hb (Or.inl z)
    have h2 : ¬ 9 < p := fun z => hb (Or.inr (Or.inl z))
    have h3 : ¬ n < rA f n l u + cc - 1 := fun z => hb (Or.inr (Or.inr z))
    obtain ⟨k, hk, rfl⟩ := nI_of2 (M := 9) (n := 9) (by decide) h1 (by
      rw [Int32.le_iff_toInt_le]
      rw [Int32.lt_iff_toInt_lt] at h2
      omega)
    have hle : rA f n l u + cc - 1 ≤ n := by omega
    have hs := second_eq (p := k) hg.1 hg.2.1 hg.2.2 l u ma c0 ln mk mn mi mr hle
    by_cases k8 : k ≤ 8
    · rw [if_pos k8] at hs
      exact opLe (fun T => sp_A_second hn hf hu (by omega) k8 a4 rfl hle) (fun X => sp_M_second hk hn hfm (by omega) a3 (by omega) (by rw [hz]) hle) hs (hI _ _ _ _ _ _ _ _)
    · rw [if_neg k8] at hs
      refine opLe (fun T => sp_A_second_no hn hf (by omega) a4 (Or.inr (Or.inl ?_))) (fun X => sp_M_second hk hn hfm (by omega) a3 (by omega) (by rw [hz]) hle) hs (hI _ _ _ _ _ _ _ _)
      exact nI_lt (a := 8) (by omega) (by omega)
