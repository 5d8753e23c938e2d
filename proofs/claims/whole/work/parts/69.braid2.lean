theorem reS_at (a b : Int32) (t : Nat) : ∀ k i (e : Nat → Int32), itN (reS a b) i k e t = if (i ≤ t ∧ t < i + k) ∧ e t = a then b else e t := by
  intro k
  induction k with
  | zero => intro i e; rw [itN_0, if_neg (by omega)]
  | succ k ih =>
    intro i e
    rw [itN_s, ih]
    unfold reS
    by_cases h : t = i
    · subst h
      rw [if_neg (by omega), upd_self]
      by_cases h2 : e t = a
      · rw [if_pos h2, if_pos ⟨by omega, h2⟩]
      · rw [if_neg h2, if_neg (fun z => h2 z.2)]
    · rw [upd_ne _ _ h]
      by_cases h2 : (i + 1 ≤ t ∧ t < i + 1 + k) ∧ e t = a
      · rw [if_pos h2, if_pos ⟨by omega, h2.2⟩]
      · rw [if_neg h2, if_neg (fun z => h2 ⟨by omega, z.2⟩)]
/-- the edges with one name changed -/
def rnF (a b : Int32) (f : Nat → Int32) : Nat → Int32 := fun t => if f t = a then b else f t
theorem pas_rn {f f' g : Nat → Int32} {n : Nat} {a b : Int32} (hf : ∀ t, t < 4 * n → f' t = if f t = a then b else f t) (hin : ¬ ∃ y, pas f g n a y) (x y : Int32) : pas f' g n x y ↔ ∃ z, pas f g n x z ∧ y = if z = a then b else z := by
  constructor
  · rintro ⟨h, h1, h2, h3, h4⟩
    rw [hf h h1] at h3
    rw [hf _ (opp_ltn h1)] at h4
    have : f h ≠ a := fun z => hin ⟨_, pas_in' z h1 h2⟩
    rw [if_neg this] at h3
    exact ⟨f (opp h), ⟨h, h1, h2, h3, rfl⟩, h4.symm⟩
  · rintro ⟨z, ⟨h, h1, h2, h3, h4⟩, rfl⟩
    have : f h ≠ a := fun z => hin ⟨_, pas_in' z h1 h2⟩
    refine ⟨h, h1, h2, ?_, ?_⟩
    · rw [hf h h1, if_neg this]; exact h3
    · rw [hf _ (opp_ltn h1), h4]
theorem inj2_rn {f f' g : Nat → Int32} {n : Nat} {a b : Int32} (hf : ∀ t, t < 4 * n → f' t = if f t = a then b else f t) (h : inj2 f g n) (hin : ¬ ∃ y, pas f g n a y) (hout : a ≠ b → ¬ ∃ x, pas f g n x b) : inj2 f' g n := by
  intro i j hi hj hc he
  rw [hf i hi, hf j hj] at he
  by_cases hab : a = b
  · subst hab
    refine h i j hi hj hc ?_
    by_cases a1 : f i = a <;> by_cases a2 : f j = a
    · rw [a1, a2]
    · rw [if_pos a1, if_neg a2] at he; exact absurd he.symm a2
    · rw [if_neg a1, if_pos a2] at he; exact absurd he a1
    · rw [if_neg a1, if_neg a2] at he; exact he
  · have ho := hout hab
    have h1 : ∀ t, t < 4 * n → cin g t = true → f t ≠ a := fun t ht hc z => hin ⟨_, pas_in' z ht hc⟩
    have h2 : ∀ t, t < 4 * n → cin g t = false → f t ≠ b := fun t ht hc z => ho ⟨_, pas_out' z ht hc⟩
    refine h i j hi hj hc ?_
    by_cases a1 : f i = a <;> by_cases a2 : f j = a
    · rw [a1, a2]
    · rw [if_pos a1, if_neg a2] at he
      cases hci : cin g i with
      | true => exact absurd a1 (h1 i hi hci)
      | false => exact absurd he.symm (h2 j hj (by rw [← hc, hci]))
    · rw [if_neg a1, if_pos a2] at he
      cases hci : cin g i with
      | true => exact absurd a2 (h1 j hj (by rw [← hc, hci]))
      | false => exact absurd he (h2 i hi hci)
    · rw [if_neg a1, if_neg a2] at he; exact he
/-- both sides while the places are closed -/
def Cl (nn n p : Nat) (g pl me0 : Nat → Int32) (S M : (Nat → Int32) × Nat) : Prop :=
  (∀ h, h < 4 * n → ∃ x, 1 ≤ x ∧ x ≤ 32 ∧ S.1 h = nI x) ∧ inj2 S.1 g n ∧ Zr (pas S.1 g n) pl p nn ∧ agE (4 * n) S.1 M.1 ∧ M.2 = S.2 ∧ (∀ t, 32 ≤ t → M.1 t = me0 t) ∧ S.2 < p ∧ (n = 0 → S.2 + 1 = p)
theorem Cl.step {nn n p : Nat} {g pl mx me0 : Nat → Int32} {S M : (Nat → Int32) × Nat} (hn : n ≤ 8) (hnn : nn ≤ 4) (hp1 : 1 ≤ p) (hp : p ≤ nn) (hm : mx p = pl p) (h0 : n = 0 → pl p = nI p) (h : Cl nn n p g pl me0 S M) : Cl nn n (p + 1) g pl me0 (clS n pl p S) (clP n mx p M) := by
  obtain ⟨f, cc⟩ := S
  obtain ⟨me, mo⟩ := M
  obtain ⟨c1, c2, c3, c4, c5, c6, c7, c8⟩ := h
  simp only at c1 c2 c3 c4 c5 c6 c7 c8
  have hin : ¬ ∃ y, pas f g n (pl p) y := fun y => c3.2.1 _ y ⟨p, Nat.le_refl _, hp, rfl⟩
  have hout : pl p ≠ nI p → ¬ ∃ x, pas f g n x (nI p) := fun _ y => c3.2.2.1 _ y ⟨p, Nat.le_refl _, hp, rfl⟩
  have hf : ∀ t, t < 4 * n → (clS n pl p (f, cc)).1 t = if f t = pl p then nI p else f t := fun t ht => by
    unfold clS
    by_cases c : pl p = nI p
    · rw [if_pos c]
      show f t = _
      by_cases d : f t = pl p
      · rw [if_pos d, d, c]
      · rw [if_neg d]
    · rw [if_neg c]
      show renA (pl p) (nI p) f 0 (4 * n) t = _
      rw [renA_at _ _ _ _ _ _ c]
      by_cases d : f t = pl p
      · rw [if_pos d, if_pos ⟨by omega, d⟩]
      · rw [if_neg d, if_neg (fun z => d z.2)]
  have hM : ∀ t, (clP n mx p (me, mo)).1 t = if (0 ≤ t ∧ t < 0 + 4 * n) ∧ me t = pl p then nI p else me t := fun t => by
    show itN (reS (mx p) (nI p)) 0 (4 * n) me t = _
    rw [reS_at, hm]
  have hc : (clS n pl p (f, cc)).2 = if pl p = nI p then cc + 1 else cc := by
    unfold clS
    by_cases c : pl p = nI p
    · rw [if_pos c, if_pos c]
    · rw [if_neg c, if_neg c]
  have hc' : (clP n mx p (me, mo)).2 = if pl p = nI p then cc + 1 else cc := by
    show (if mx p = nI p then mo + 1 else mo) = _
    rw [hm, c5]
  refine ⟨fun t ht => ?_, inj2_rn hf c2 hin hout, Zr.close hp (by omega) c3 (pas_rn hf hin), fun t ht => ?_, by rw [hc, hc'], fun t ht => ?_, ?_, fun z => ?_⟩
  · rw [hf t ht]
    by_cases d : f t = pl p
    · rw [if_pos d]; exact ⟨p, hp1, by omega, rfl⟩
    · rw [if_neg d]; exact c1 t ht
  · rw [hM, hf t ht, c4 t ht]
    by_cases d : f t = pl p
    · rw [if_pos d, if_pos ⟨by omega, d⟩]
    · rw [if_neg d, if_neg (fun z => d z.2)]
  · rw [hM, if_neg (by omega)]
    exact c6 t ht
  · rw [hc]
    split <;> omega
  · rw [hc, if_pos (h0 z), c8 z]
theorem Cl.all {nn n : Nat} {g pl mx me0 : Nat → Int32} (hn : n ≤ 8) (hnn : nn ≤ 4) (hm : ∀ p, 1 ≤ p → p ≤ nn → mx p = pl p) (h0 : n = 0 → ∀ p, 1 ≤ p → p ≤ nn → pl p = nI p) : ∀ k p (S M : (Nat → Int32) × Nat), 1 ≤ p → p + k = nn + 1 → Cl nn n p g pl me0 S M → Cl nn n (nn + 1) g pl me0 (itN (clS n pl) p k S) (itN (clP n mx) p k M) := by
  intro k
  induction k with
  | zero =>
    intro p S M _ h1 h2
    rw [itN_0, itN_0, ← show p = nn + 1 by omega]
    exact h2
  | succ k ih =>
    intro p S M hp h1 h2
    rw [itN_s, itN_s]
    exact ih (p + 1) _ _ (by omega) (by omega) (Cl.step hn hnn hp (by omega) (hm p hp (by omega)) (fun z => h0 z p hp (by omega)) h2)
theorem braid_all {wd mw f g pl me mp mx : Nat → Int32} {nn lt : Nat} (h1 : 1 ≤ nn) (hnn : nn ≤ 4) (hlt : lt ≤ 8) (hw : wOK wd lt) (hb : wBel wd (nI nn) 0 lt = true) (hm : ∀ i, i < lt → mw i = wd i) :
    Dia (brC lt (brW wd f g pl nn lt).2.2 (brW wd f g pl nn lt).1 nn).1 (brW wd f g pl nn lt).2.1 lt (brC lt (brW wd f g pl nn lt).2.2 (brW wd f g pl nn lt).1 nn).2 ∧ agE (4 * lt) (brC lt (brW wd f g pl nn lt).2.2 (brW wd f g pl nn lt).1 nn).1 (bmC lt (bmW mw me mp mx nn lt).2.2 (bmW mw me mp mx nn lt).1 nn).1 ∧ agP lt (brW wd f g pl nn lt).2.1 (bmW mw me mp mx nn lt).2.1 ∧ (bmC lt (bmW mw me mp mx nn lt).2.2 (bmW mw me mp mx nn lt).1 nn).2 = (brC lt (brW wd f g pl nn lt).2.2 (brW wd f g pl nn lt).1 nn).2 ∧ (∀ t, 32 ≤ t → (bmC lt (bmW mw me mp mx nn lt).2.2 (bmW mw me mp mx nn lt).1 nn).1 t = me t) ∧ ∀ t, 8 ≤ t → (bmW mw me mp mx nn lt).2.1 t = mp t := by
  have hk : ∀ i, i < lt → 1 ≤ aw wd i ∧ aw wd i + 1 ≤ nn := fun i hi => by
    obtain ⟨k, k1, k2, _, k4⟩ := hw i hi
    have h3 := wBel_lt lt 0 hb i (Nat.zero_le _) (by omega)
    rw [k4] at h3
    have h4 := (nI_ltI (by omega) (by omega)).mp h3
    have h5 : aw wd i = k := by unfold aw; rw [k4, nI_clamp (by omega)]
    omega
  have hW := Wv.all (wd := wd) (mw := mw) (nn := nn) (lt := lt) hnn hlt (fun i hi => (hk i hi).1) (fun i hi => (hk i hi).2) hm lt 0 _ _ (by omega) (Wv.start (f := f) (g := g) (pl := pl) (me := me) (mp := mp) (mx := mx) hnn)
  have e1 : itN (wvS wd nn) 0 lt (f, g, piI pl 1 nn) = brW wd f g pl nn lt := rfl
  have e2 : itN (wvM mw nn) 0 lt (me, mp, piI mx 1 nn) = bmW mw me mp mx nn lt := rfl
  rw [e1, e2] at hW
  have hz : lt = 0 → ∀ p, 1 ≤ p → p ≤ nn → (brW wd f g pl nn lt).2.2 p = nI p := fun z p p1 p2 => by
    subst z
    show piI pl 1 nn p = nI p
    rw [piI_at, if_pos (by omega)]
  generalize brW wd f g pl nn lt = S at hW hz ⊢
  generalize bmW mw me mp mx nn lt = M at hW ⊢
  obtain ⟨w1, w2, w3, w4, w5, w6, w7, w8, w9, w10⟩ := hW
  have hC := Cl.all (nn := nn) (n := lt) (g := S.2.1) (pl := S.2.2) (mx := M.2.2) (me0 := me) hlt hnn w8 hz nn 1 (S.1, 0) (M.1, 0) (Nat.le_refl _) (by omega) ⟨fun h hh => by obtain ⟨x, x1, x2, x3⟩ := w1 h hh; exact ⟨x, x1, by omega, x3⟩, w4, w5, w6, rfl, w9, Nat.zero_lt_one, fun _ => rfl⟩
  have e3 : itN (clS lt S.2.2) 1 nn (S.1, 0) = brC lt S.2.2 S.1 nn := rfl
  have e4 : itN (clP lt M.2.2) 1 nn (M.1, 0) = bmC lt M.2.2 M.1 nn := rfl
  rw [e3, e4] at hC
  obtain ⟨c1, c2, c3, c4, c5, c6, c7, c8⟩ := hC
  refine ⟨⟨hlt, c1, w3, c2, c3.done, ?_, bas_all hlt (by omega)⟩, c4, w7, c5, c6, w10⟩
  by_cases z : lt = 0
  · have := c8 z; omega
  · omega
theorem st_braid : ∀ w, Inv w → ∀ (a : Int32), zOpI M_A_braid M_M_braid [.int a] Inv w := by
  rintro w ⟨nd, fd, gd, n, f, g, nf, ff, gf, s, q, oe, t, m, l, u, c0, ln, mi, wd, pl, lt, cc, me, mp, mw, mv, my, mt, ms, mq, mh, ma, mz, mk, mn, mr, mx, rfl, hd, hg, hw, hu⟩ a
  have hb := wBe_eq (wd := wd) (mw := mw) a lt 0 (fun j _ h => hw.2.2 j (by omega))
  have h4 : ¬ 4 < a ↔ a ≤ 4 := by
    rw [Int32.le_iff_toInt_le, Int32.lt_iff_toInt_lt]
    omega
  by_cases h : ¬ a < 1 ∧ ¬ 4 < a ∧ wBel wd a 0 lt = true
  · obtain ⟨h1, h2, h3⟩ := h
    have h0 : ¬ a < 0 := fun z => h1 (by
      rw [Int32.lt_iff_toInt_lt] at z ⊢
      have c1 : (1 : Int32).toInt = 1 := by decide
      have c2 : (0 : Int32).toInt = 0 := by decide
      omega)
    obtain ⟨nn, hnn, rfl⟩ := nI_of2 (M := 4) (n := 4) (by decide) h0 (h4.mp h2)
    have hn1 : 1 ≤ nn := by
      rcases Nat.eq_zero_or_pos nn with z | z
      · subst z; exact absurd (by decide) h1
      · exact z
    have hA := braid_all (f := f) (g := g) (pl := pl) (me := me) (mp := mp) (mx := mx) hn1 hnn hw.1 hw.2.1 h3 hw.2.2
    obtain ⟨b1, b2, b3, b4, b5, b6⟩ := hA
    have hB : ∀ X : Nat → zE, Sp M_M_braid [.ref 25, .int (nI nn)] (kM X me mp n nd cc mw lt mv my mt ms mq mh ma mz mk mn mr mx) (some (.int (zb true))) (kM X ((bmC lt (bmW mw me mp mx nn lt).2.2 (bmW mw me mp mx nn lt).1 nn).1) ((bmW mw me mp mx nn lt).2.1) (lt) nd ((brC lt (brW wd f g pl nn lt).2.2 (brW wd f g pl nn lt).1 nn).2) mw (0) mv my mt ms mq mh ma mz mk mn mr ((bmW mw me mp mx nn lt).2.2)) := fun X => by
      rw [← b4]
      exact sp_M_braid hn1 hnn hw.1 (fun i hi => by
        obtain ⟨k, k1, k2, _, k4⟩ := hw.2.1 i hi
        exact ⟨k, k1, k2, by rw [szI_abI, hw.2.2 i hi]; exact k4⟩) (by rw [hb]; exact h3)
    refine opI (fun T => sp_A_braid hn1 hnn hw.1 hw.2.1 h3) hB (Inv.of (hd.keep (fun i _ => b5 _ (by omega)) (fun x _ => b6 _ (by omega))) ⟨b1, b2, b3⟩ ⟨Nat.zero_le _, fun i hi => by omega, fun i hi => by omega⟩ hu)
  · refine opI (fun T => sp_A_braid_no hw.1 h) (fun X => sp_M_braid_no hw.1 (fun z => h ⟨z.1, h4.mpr z.2.1, by rw [← hb]; exact z.2.2⟩)) (Inv.of hd hg hw hu)
