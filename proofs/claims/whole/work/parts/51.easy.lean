theorem ptE_off (me : Nat → Int32) (d : Nat) (a b c x : Int32) : (fun i => ptE me (8 + d) a b c x (32 + i)) = apE (fun i => me (32 + i)) d a b c x := by
  funext i
  unfold ptE apE upd
  simp only [show ∀ j, (32 + i = 4 * (8 + d) + j) = (i = 4 * d + j) from fun j => propext (by omega), show (32 + i = 4 * (8 + d)) = (i = 4 * d) from propext (by omega)]
theorem upd_off (mp : Nat → Int32) (d : Nat) (v : Int32) : (fun i => upd mp (8 + d) v (8 + i)) = upd (fun i => mp (8 + i)) d v := by
  funext i
  unfold upd
  simp only [show (8 + i = 8 + d) = (i = d) from propext (by omega)]
theorem st_cross : ∀ w, Inv w → ∀ (a : Int32) (b : Int32) (c : Int32) (d : Int32) (e : Bool), zOpI M_A_cross M_M_cross [.int a, .int b, .int c, .int d, .int (zb e)] Inv w := by
  rintro w ⟨nd, fd, gd, n, f, g, nf, ff, gf, s, q, oe, t, m, l, u, c0, ln, mi, wd, pl, lt, cc, me, mp, mw, mv, my, mt, ms, mq, mh, ma, mz, mk, mn, mr, mx, rfl, hd, hg, hw, hu⟩ a b c d e
  by_cases h : nd < 8 ∧ isE a = true ∧ isE b = true ∧ isE c = true ∧ isE d = true
  · refine opI (fun T => sp_A_cross h.1 h.2.1 h.2.2.1 h.2.2.2.1 h.2.2.2.2) (fun X => sp_M_cross h.1 h.2.1 h.2.2.1 h.2.2.2.1 h.2.2.2.2) (Inv.of ⟨by omega, edg_ap hd.2.1 h.2.1 h.2.2.1 h.2.2.2.1 h.2.2.2.2, sgOK_up e hd.2.2.1, ?_, ?_⟩ ⟨hg.1, ?_, ?_⟩ hw hu)
    · rw [ptE_off]
      exact agE_ap a b c d hd.2.2.2.1
    · rw [upd_off]
      exact agP_up e hd.2.2.2.2
    · intro i hi
      rw [ptE_apE, apE_lt _ _ _ _ _ (by have := hg.1.1; omega)]
      exact hg.2.1 i hi
    · intro x hx
      rw [upd_ne _ _ (by have := hg.1.1; omega)]
      exact hg.2.2 x hx
  · exact opI (fun T => sp_A_cross_no hd.1 h) (fun X => sp_M_cross_no hd.1 h) (Inv.of hd hg hw hu)
theorem rmE_lt (f : Nat → Int32) {n i : Nat} (k : Nat) (h : i < 4 * k) : rmE f n k i = f i := by
  unfold rmE va_cpy
  rw [if_neg (by omega)]
theorem rmS_lt (g : Nat → Int32) {n i : Nat} (k : Nat) (h : i < k) : rmS g n k i = g i := by
  unfold rmS va_cpy
  rw [if_neg (by omega)]
theorem st_drop : ∀ w, Inv w → zOpI M_A_drop M_M_drop [] Inv w := by
  rintro w ⟨nd, fd, gd, n, f, g, nf, ff, gf, s, q, oe, t, m, l, u, c0, ln, mi, wd, pl, lt, cc, me, mp, mw, mv, my, mt, ms, mq, mh, ma, mz, mk, mn, mr, mx, rfl, hd, hg, hw, hu⟩
  cases nd with
  | zero => exact opI (fun T => sp_A_drop0 rfl) (fun X => sp_M_drop0) (Inv.of hd hg hw hu)
  | succ nd =>
    have h8 : nd < 8 := hd.1
    refine opI (fun T => sp_A_drop h8) (fun X => sp_M_drop h8) (Inv.of ⟨by omega, fun i hi => ?_, fun x hx => ?_, fun i hi => ?_, fun x hx => ?_⟩ hg hw hu)
    · rw [rmE_lt _ _ hi]
      exact hd.2.1 i (by omega)
    · rw [rmS_lt _ _ hx]
      exact hd.2.2.1 x (by omega)
    · rw [rmE_lt _ _ hi]
      exact hd.2.2.2.1 i (by omega)
    · rw [rmS_lt _ _ hx]
      exact hd.2.2.2.2 x (by omega)
theorem wOK_1 {x : Int32} (h1 : ¬ x = 0) (h2 : ¬ x < -3) (h3 : ¬ 3 < x) : ∃ k, 1 ≤ k ∧ k ≤ 3 ∧ ((x = nI k ∧ 0 < x) ∨ (x = -nI k ∧ ¬ 0 < x)) ∧ abI x = nI k := by
  have h : x = 1 ∨ x = 2 ∨ x = 3 ∨ x = -1 ∨ x = -2 ∨ x = -3 := by
    rw [Int32.lt_iff_toInt_lt] at h2 h3
    have a : (-3 : Int32).toInt = -3 := by decide
    have b : (3 : Int32).toInt = 3 := by decide
    have e : ∀ y : Int32, x.toInt = y.toInt → x = y := fun y hy => Int32.toInt_inj.mp hy
    have z : x.toInt ≠ 0 := fun hz => h1 (e 0 hz)
    have : x.toInt = 1 ∨ x.toInt = 2 ∨ x.toInt = 3 ∨ x.toInt = -1 ∨ x.toInt = -2 ∨ x.toInt = -3 := by omega
    rcases this with h | h | h | h | h | h
    · exact Or.inl (e 1 h)
    · exact Or.inr (Or.inl (e 2 h))
    · exact Or.inr (Or.inr (Or.inl (e 3 h)))
    · exact Or.inr (Or.inr (Or.inr (Or.inl (e (-1) h))))
    · exact Or.inr (Or.inr (Or.inr (Or.inr (Or.inl (e (-2) h)))))
    · exact Or.inr (Or.inr (Or.inr (Or.inr (Or.inr (e (-3) h)))))
  rcases h with rfl | rfl | rfl | rfl | rfl | rfl
  · exact ⟨1, by decide, by decide, Or.inl (by decide), by decide⟩
  · exact ⟨2, by decide, by decide, Or.inl (by decide), by decide⟩
  · exact ⟨3, by decide, by decide, Or.inl (by decide), by decide⟩
  · exact ⟨1, by decide, by decide, Or.inr (by decide), by decide⟩
  · exact ⟨2, by decide, by decide, Or.inr (by decide), by decide⟩
  · exact ⟨3, by decide, by decide, Or.inr (by decide), by decide⟩
theorem st_letter : ∀ w, Inv w → ∀ (a : Int32), zOpI M_A_letter M_M_letter [.int a] Inv w := by
  rintro w ⟨nd, fd, gd, n, f, g, nf, ff, gf, s, q, oe, t, m, l, u, c0, ln, mi, wd, pl, lt, cc, me, mp, mw, mv, my, mt, ms, mq, mh, ma, mz, mk, mn, mr, mx, rfl, hd, hg, hw, hu⟩ a
  by_cases h : ¬ a = 0 ∧ ¬ a < -3 ∧ ¬ 3 < a ∧ lt < 8
  · refine opI (fun T => sp_A_letter h.2.2.2 h.1 h.2.1 h.2.2.1) (fun X => sp_M_letter h.2.2.2 h.1 h.2.1 h.2.2.1) (Inv.of hd hg ⟨h.2.2.2, fun i hi => ?_, fun i hi => ?_⟩ hu)
    · by_cases hl : i < lt
      · rw [upd_ne _ _ (by omega)]
        exact hw.2.1 i hl
      · rw [show i = lt by omega, upd_self]
        exact wOK_1 h.1 h.2.1 h.2.2.1
    · by_cases hl : i < lt
      · rw [upd_ne _ _ (by omega), upd_ne _ _ (by omega)]
        exact hw.2.2 i hl
      · rw [show i = lt by omega, upd_self, upd_self]
  · exact opI (fun T => sp_A_letter_no hw.1 h) (fun X => sp_M_letter_no hw.1 h) (Inv.of hd hg hw hu)
theorem st_end : ∀ w, Inv w → ∀ (a : Int32) (b : Int32), zOpI M_A_end M_M_end [.int a, .int b] Inv w := by
  rintro w ⟨nd, fd, gd, n, f, g, nf, ff, gf, s, q, oe, t, m, l, u, c0, ln, mi, wd, pl, lt, cc, me, mp, mw, mv, my, mt, ms, mq, mh, ma, mz, mk, mn, mr, mx, rfl, hd, hg, hw, hu⟩ a b
  have hn := hg.1.1
  by_cases h : (¬ a < 0 ∧ a < nI n) ∧ ¬ b < 0 ∧ b ≤ 4
  · obtain ⟨⟨h1, h2⟩, h3, h4⟩ := h
    obtain ⟨x, hx, rfl⟩ := nI_of h1
    obtain ⟨k, hk, rfl⟩ := nI_of2 (M := 4) (n := 4) (by decide) h3 h4
    have hx' : x < n := (nI_ltI (by omega) (by omega)).mp h2
    by_cases h5 : k = 4
    · subst h5
      have e : sgn (decide (¬ mp x = 0)) = sgn (decide (0 < g x)) := by
        rw [hg.2.2 x hx']
        cases decide (0 < g x) <;> decide
      exact opIe (fun T => sp_A_end4 hx' hn) (fun X => sp_M_end4 hx' hn) e (Inv.of hd hg hw hu)
    · have hk4 : k < 4 := by omega
      exact opIe (fun T => sp_A_end hx' hn hk4) (fun X => sp_M_end hx' hn hk4) (hg.2.1 (4 * x + k) (by omega)) (Inv.of hd hg hw hu)
  · exact opI (fun T => sp_A_end_no h) (fun X => sp_M_end_no h) (Inv.of hd hg hw hu)
/-- the writhe, on both sides -/
theorem wr_eq {g mp : Nat → Int32} : ∀ k i (a : Int32), (∀ x, i ≤ x → x < i + k → (g x = 1 ∨ g x = -1) ∧ mp x = zb (decide (0 < g x))) → wrM mp i k a = wrI g i k a := by
  intro k
  induction k with
  | zero => intro i a _; rfl
  | succ k ih =>
    intro i a h
    rw [wrM, wrI]
    have h1 := h i (by omega) (by omega)
    rw [ih (i + 1) _ (fun x h2 h3 => h x (by omega) (by omega))]
    congr 1
    rw [h1.2]
    rcases h1.1 with e | e <;> rw [e]
    · rw [if_neg (by decide)]
    · rw [if_pos (by decide), Int32.sub_eq_add_neg]
