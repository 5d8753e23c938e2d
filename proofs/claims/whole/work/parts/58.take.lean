/-- how many of k from i on -/
def cP (p : Nat → Bool) (i k : Nat) : Nat := ((List.range' i k).filter p).length
theorem cP_s (p : Nat → Bool) (i k : Nat) : cP p i (k + 1) = (if p i = true then 1 else 0) + cP p (i + 1) k := by
  unfold cP
  rw [List.range'_succ, List.filter_cons]
  by_cases h : p i = true
  · rw [if_pos h, if_pos h, List.length_cons]; omega
  · rw [if_neg h, if_neg h]; omega
theorem cP_le (p : Nat → Bool) (i k : Nat) : cP p i k ≤ k := by
  unfold cP
  have := List.length_filter_le p (List.range' i k)
  rw [List.length_range'] at this
  exact this
theorem cP_1 {p : Nat → Bool} {i k : Nat} : cP p i k = 1 ↔ ∃ a, (i ≤ a ∧ a < i + k) ∧ p a = true ∧ ∀ t, i ≤ t → t < i + k → p t = true → t = a := by
  unfold cP
  have hm : ∀ t, t ∈ (List.range' i k).filter p ↔ (i ≤ t ∧ t < i + k) ∧ p t = true := fun t => by rw [List.mem_filter, List.mem_range'_1]
  constructor
  · intro h
    match e : (List.range' i k).filter p, h with
    | [a], _ =>
      have h1 := (hm a).mp (by rw [e]; exact List.mem_cons_self)
      refine ⟨a, h1.1, h1.2, fun t a1 a2 a3 => ?_⟩
      have := (hm t).mpr ⟨⟨a1, a2⟩, a3⟩
      rw [e] at this
      exact List.mem_singleton.mp this
  · rintro ⟨a, h1, h2, h3⟩
    have hnd : ((List.range' i k).filter p).Nodup := List.Pairwise.filter _ List.nodup_range'
    have l1 := pig (l' := [a]) hnd (fun t ht => by have := (hm t).mp ht; rw [h3 t this.1.1 this.1.2 this.2]; exact List.mem_cons_self)
    have l2 := List.length_pos_of_mem ((hm a).mpr ⟨h1, h2⟩)
    simp at l1
    omega
theorem cP_2 {p : Nat → Bool} {i k e : Nat} (he : i ≤ e ∧ e < i + k) (hp : p e = true) : cP p i k = 2 ↔ ∃ a, (i ≤ a ∧ a < i + k) ∧ a ≠ e ∧ p a = true ∧ ∀ t, i ≤ t → t < i + k → p t = true → t = e ∨ t = a := by
  unfold cP
  have hm : ∀ t, t ∈ (List.range' i k).filter p ↔ (i ≤ t ∧ t < i + k) ∧ p t = true := fun t => by rw [List.mem_filter, List.mem_range'_1]
  have hnd : ((List.range' i k).filter p).Nodup := List.Pairwise.filter _ List.nodup_range'
  constructor
  · intro h
    match q : (List.range' i k).filter p, h with
    | [a, b], _ =>
      rw [q] at hnd
      have hab : a ≠ b := fun z => (List.nodup_cons.mp hnd).1 (by rw [z]; exact List.mem_cons_self)
      have ha := (hm a).mp (by rw [q]; exact List.mem_cons_self)
      have hb := (hm b).mp (by rw [q]; exact List.mem_cons_of_mem _ List.mem_cons_self)
      have hall : ∀ t, i ≤ t → t < i + k → p t = true → t = a ∨ t = b := fun t a1 a2 a3 => by
        have := (hm t).mpr ⟨⟨a1, a2⟩, a3⟩
        rw [q] at this
        rcases List.mem_cons.mp this with z | z
        · exact Or.inl z
        · exact Or.inr (List.mem_singleton.mp z)
      rcases hall e he.1 he.2 hp with z | z
      · exact ⟨b, hb.1, fun y => hab (by rw [y, z]), hb.2, fun t a1 a2 a3 => by rw [z]; exact hall t a1 a2 a3⟩
      · exact ⟨a, ha.1, fun y => hab (by rw [y, z]), ha.2, fun t a1 a2 a3 => by rw [z]; exact (hall t a1 a2 a3).symm⟩
  · rintro ⟨a, h1, h2, h3, h4⟩
    have l1 := pig (l' := [e, a]) hnd (fun t ht => by
      have := (hm t).mp ht
      rcases h4 t this.1.1 this.1.2 this.2 with z | z <;> rw [z]
      · exact List.mem_cons_self
      · exact List.mem_cons_of_mem _ List.mem_cons_self)
    have l2 := pig (l := [e, a]) (l' := (List.range' i k).filter p) (by
      refine List.nodup_cons.mpr ⟨fun z => h2 (List.mem_singleton.mp z).symm, List.pairwise_singleton _ _⟩) (fun t ht => by
      rcases List.mem_cons.mp ht with z | z
      · rw [z]; exact (hm e).mpr ⟨he, hp⟩
      · rw [List.mem_singleton.mp z]; exact (hm a).mpr ⟨h1, h3⟩)
    simp at l1 l2
    omega
theorem ftA_eq {f g : Nat → Int32} {e : Nat} : ∀ k i a b, a + k < 1000 → b + k < 1000 → ftA f g e i k (nI a) (nI b) = (decide (a + cP (fun t => decide (f t = f e)) i k = 2) && decide (b + cP (fun t => decide (f t = f e) && cin g t) i k = 1)) := by
  intro k
  induction k with
  | zero =>
    intro i a b ha hb
    rw [ftA]
    show _ = (decide (a + 0 = 2) && decide (b + 0 = 1))
    rw [decide_eq_decide.mpr (show nI a = 2 ↔ a + 0 = 2 from nI_eq (b := 2) (by omega) (by decide)), decide_eq_decide.mpr (show nI b = 1 ↔ b + 0 = 1 from nI_eq (b := 1) (by omega) (by decide))]
  | succ k ih =>
    intro i a b ha hb
    rw [ftA, cP_s, cP_s]
    by_cases h : f i = f e
    · rw [if_pos h, nI_1, if_pos (decide_eq_true h), show (decide (f i = f e) && cin g i) = cin g i by rw [decide_eq_true h]; rfl]
      cases hc : cin g i with
      | true =>
        rw [if_pos rfl, show zb true = 1 from rfl, nI_1, ih (i + 1) (a + 1) (b + 1) (by omega) (by omega), Nat.add_assoc, Nat.add_assoc]
      | false =>
        rw [if_neg (by decide), show nI b + zb false = nI b from nI_add b 0, ih (i + 1) (a + 1) b (by omega) (by omega), Nat.add_assoc, Nat.zero_add]
    · rw [if_neg h, if_neg (by simp [h]), if_neg (by simp [h]), ih (i + 1) a b (by omega) (by omega), Nat.zero_add, Nat.zero_add]
theorem ftA_fit {f g : Nat → Int32} {n e : Nat} (hn : n ≤ 8) (he : e < 4 * n) : ftA f g e 0 (4 * n) 0 0 = true ↔ ∃ j, j < 4 * n ∧ cin g j = (!cin g e) ∧ f j = f e ∧ ∀ i, i < 4 * n → f i = f e → i = e ∨ i = j := by
  have h0 := ftA_eq (f := f) (g := g) (e := e) (4 * n) 0 0 0 (by omega) (by omega)
  rw [show ftA f g e 0 (4 * n) 0 0 = ftA f g e 0 (4 * n) (nI 0) (nI 0) from rfl, h0, Bool.and_eq_true, decide_eq_true_eq, decide_eq_true_eq, Nat.zero_add, Nat.zero_add, cP_2 (e := e) (by omega) (by simp), cP_1]
  constructor
  · rintro ⟨⟨a, a1, a2, a3, a4⟩, b, b1, b2, b3⟩
    simp only [Bool.and_eq_true, decide_eq_true_eq] at a3 a4 b2 b3
    refine ⟨a, by omega, ?_, a3, fun i hi hf => a4 i (by omega) (by omega) hf⟩
    rcases a4 b (by omega) (by omega) b2.1 with z | z
    · rw [z] at b2
      cases hc : cin g a with
      | false => rw [b2.2]; rfl
      | true => exact absurd ((b3 a (by omega) (by omega) ⟨a3, hc⟩).trans z) a2
    · rw [z] at b2
      cases hc : cin g e with
      | false => exact b2.2
      | true => exact absurd ((b3 e (by omega) (by omega) ⟨rfl, hc⟩).trans z).symm a2
  · rintro ⟨j, j1, j2, j3, j4⟩
    have hne : j ≠ e := fun z => by rw [z] at j2; cases hc : cin g e <;> rw [hc] at j2 <;> cases j2
    refine ⟨⟨j, by omega, hne, decide_eq_true j3, fun t _ h2 h3 => j4 t (by omega) (of_decide_eq_true h3)⟩, ?_⟩
    cases hc : cin g e with
    | true =>
      refine ⟨e, by omega, by simp [hc], fun t _ h2 h3 => ?_⟩
      simp only [Bool.and_eq_true, decide_eq_true_eq] at h3
      rcases j4 t (by omega) h3.1 with z | z
      · exact z
      · rw [z, j2, hc] at h3; cases h3.2
    | false =>
      refine ⟨j, by omega, by simp [j3, j2, hc], fun t _ h2 h3 => ?_⟩
      simp only [Bool.and_eq_true, decide_eq_true_eq] at h3
      rcases j4 t (by omega) h3.1 with z | z
      · rw [z, hc] at h3; cases h3.2
      · exact z
theorem ftAll_iff {f g : Nat → Int32} {n : Nat} : ∀ k i, ftAll f g n i k = true ↔ ∀ t, i ≤ t → t < i + k → ftA f g t 0 (4 * n) 0 0 = true := by
  intro k
  induction k with
  | zero => intro i; exact ⟨fun _ t h1 h2 => by omega, fun _ => rfl⟩
  | succ k ih =>
    intro i
    rw [ftAll]
    by_cases hc : ftA f g i 0 (4 * n) 0 0 = true
    · rw [if_pos hc, ih (i + 1)]
      refine ⟨fun hh t h1 h2 => ?_, fun hh t h1 h2 => hh t (by omega) (by omega)⟩
      by_cases ht : t = i
      · rw [ht]; exact hc
      · exact hh t (by omega) (by omega)
    · rw [if_neg hc]
      exact ⟨fun h => (by cases h), fun hh => absurd (hh i (by omega) (by omega)) hc⟩
theorem ftAll_fit {f g : Nat → Int32} {n : Nat} (hn : n ≤ 8) : ftAll f g n 0 (4 * n) = true ↔ FitP f g n := by
  rw [ftAll_iff]
  exact ⟨fun h e he => (ftA_fit hn he).mp (h e (by omega) (by omega)), fun h e _ he => (ftA_fit hn (by omega)).mpr (h e (by omega))⟩
/-- so few crossings that all edges may be marked -/
theorem bas_all {f g : Nat → Int32} {n cc : Nat} (hn : n ≤ 8) (hc : cc ≤ 4) : bas (pas f g n) cc := by
  classical
  refine ⟨fun v => decide (∃ b, pas f g n v b), fun _ => 0, fun a b h => Or.inl (decide_eq_true ⟨b, h⟩), ?_⟩
  have : cB (fun v => decide (∃ b, pas f g n v b)) ≤ (List.range (2 * n)).length := by
    unfold cB
    refine pigR (r := fun i p => ∃ h, h < 4 * n ∧ cin g h = true ∧ f h = nI i ∧ p = h / 4 * 2 + h % 2) ?_ ?_
    · refine List.Pairwise.imp_of_mem ?_ (List.Pairwise.filter _ (List.pairwise_lt_range (n := 33)))
      rintro i j hi hj hij p ⟨h, h1, h2, h3, h4⟩ ⟨k, k1, k2, k3, k4⟩
      have e : h = k := by
        have e1 : h / 4 = k / 4 := by omega
        have e2 : h % 2 = k % 2 := by omega
        by_cases e3 : h % 4 = k % 4
        · omega
        · have : k = opp h := by unfold opp; omega
          rw [this, cin_opp, h2] at k2
          cases k2
      rw [e] at h3
      have hi' := List.mem_range.mp (List.mem_filter.mp hi).1
      have hj' := List.mem_range.mp (List.mem_filter.mp hj).1
      have := (nI_eq (by omega) (by omega)).mp (h3.symm.trans k3)
      omega
    · intro i hi
      obtain ⟨b, h, h1, h2, h3, h4⟩ := of_decide_eq_true (List.mem_filter.mp hi).2
      exact ⟨h / 4 * 2 + h % 2, List.mem_range.mpr (by omega), h, h1, h2, h3, rfl⟩
  rw [List.length_range] at this
  omega
theorem tk_at : ∀ k h (S : (Nat → Int32) × (Nat → Int32)), h + k = 32 → (∀ t, t < 32 → (itN tkS h k S).1 t = if h ≤ t then S.1 (32 + t) else S.1 t) ∧ ∀ x, x < 8 → (itN tkS h k S).2 x = if h / 4 ≤ x ∧ h < 32 then vp_nar .boolean (S.2 (8 + x)) else S.2 x := by
  intro k
  induction k with
  | zero =>
    intro h S hh
    rw [itN_0]
    exact ⟨fun t ht => by rw [if_neg (by omega)], fun x hx => by rw [if_neg (by omega)]⟩
  | succ k ih =>
    intro h S hh
    rw [itN_s]
    have k1 := ih (h + 1) (tkS h S) (by omega)
    refine ⟨fun t ht => ?_, fun x hx => ?_⟩
    · rw [k1.1 t ht]
      show (if h + 1 ≤ t then upd S.1 h (S.1 (32 + h)) (32 + t) else upd S.1 h (S.1 (32 + h)) t) = _
      by_cases e : t = h
      · rw [e, if_neg (by omega), if_pos (by omega), upd_self]
      · rw [upd_ne _ _ (by omega), upd_ne _ _ e]
        by_cases e2 : h + 1 ≤ t
        · rw [if_pos e2, if_pos (by omega)]
        · rw [if_neg e2, if_neg (by omega)]
    · rw [k1.2 x hx]
      show (if (h + 1) / 4 ≤ x ∧ h + 1 < 32 then vp_nar .boolean (upd S.2 (h / 4) (vp_nar .boolean (S.2 (8 + h / 4))) (8 + x)) else upd S.2 (h / 4) (vp_nar .boolean (S.2 (8 + h / 4))) x) = _
      rw [upd_ne _ _ (by omega)]
      by_cases e : (h + 1) / 4 ≤ x ∧ h + 1 < 32
      · rw [if_pos e, if_pos (by omega)]
      · rw [if_neg e]
        by_cases e2 : x = h / 4
        · rw [e2, upd_self, if_pos (by omega)]
        · rw [upd_ne _ _ e2, if_neg (by omega)]
theorem pas_congr {f g f' g' : Nat → Int32} {n : Nat} (h1 : ∀ i, i < 4 * n → f' i = f i) (h2 : ∀ x, x < n → g' x = g x) : pas f' g' n = pas f g n := by
  funext a b
  apply propext
  have c : ∀ h, h < 4 * n → cin g' h = cin g h := fun h hh => cin_congr rfl (h2 (h / 4) (by omega))
  constructor
  · rintro ⟨h, k1, k2, k3, k4⟩
    exact ⟨h, k1, by rw [← c h k1]; exact k2, by rw [← h1 h k1]; exact k3, by rw [← h1 _ (opp_ltn k1)]; exact k4⟩
  · rintro ⟨h, k1, k2, k3, k4⟩
    exact ⟨h, k1, by rw [c h k1]; exact k2, by rw [h1 h k1]; exact k3, by rw [h1 _ (opp_ltn k1)]; exact k4⟩
theorem inj2_congr {f g f' g' : Nat → Int32} {n : Nat} (h1 : ∀ i, i < 4 * n → f' i = f i) (h2 : ∀ x, x < n → g' x = g x) (h : inj2 f g n) : inj2 f' g' n := by
  have c : ∀ h, h < 4 * n → cin g' h = cin g h := fun h hh => cin_congr rfl (h2 (h / 4) (by omega))
  intro i j hi hj k1 k2
  rw [c i hi, c j hj] at k1
  rw [h1 i hi, h1 j hj] at k2
  exact h i j hi hj k1 k2
theorem st_take : ∀ w, Inv w → ∀ (a : Int32), zOpI M_A_take M_M_take [.int a] Inv w := by
  rintro w ⟨nd, fd, gd, n, f, g, nf, ff, gf, s, q, oe, t, m, l, u, c0, ln, mi, wd, pl, lt, cc, me, mp, mw, mv, my, mt, ms, mq, mh, ma, mz, mk, mn, mr, mx, rfl, hd, hg, hw, hu⟩ a
  have hn := hd.1
  by_cases h1 : a < 0
  · exact opI (fun T => sp_A_take1 (Or.inl h1) hn) (fun X => sp_M_take1 (Or.inl h1) hn) (Inv.of hd hg hw hu)
  by_cases h2 : 4 < a
  · exact opI (fun T => sp_A_take1 (Or.inr (Or.inl h2)) hn) (fun X => sp_M_take1 (Or.inr (Or.inl h2)) hn) (Inv.of hd hg hw hu)
  by_cases h3 : a = 0 ∧ nd = 0
  · exact opI (fun T => sp_A_take1 (Or.inr (Or.inr h3)) hn) (fun X => sp_M_take1 (Or.inr (Or.inr h3)) hn) (Inv.of hd hg hw hu)
  have hmf := ftM_fit (v := 32) hn (Or.inr rfl) hd.2.2.2.1 hd.2.2.2.2
  by_cases hf : FitP fd gd nd
  · have ho := hf.ot
    have hwin := win_of ho hd.2.2.2.1
    have hr := faces_rch (v := 32) hn ho rfl (by omega)
    have he := faces_eq (v := 32) hn ho rfl (by omega) s
    obtain ⟨R, r1, r2⟩ := piecesB (v := 32) hn ho rfl (by omega) q mt
    by_cases hp : (fN fd nd s).1 = nI nd + 2 * (pN fd nd q).1
    · obtain ⟨k, hk, rfl⟩ := nI_of2 (M := 4) (n := 4) (by decide) h1 (by
        rw [Int32.le_iff_toInt_le]
        rw [Int32.lt_iff_toInt_lt] at h2
        omega)
      have h3' : ¬ (k = 0 ∧ nd = 0) := fun z => h3 ⟨by rw [z.1]; rfl, z.2⟩
      have f1 : ∀ i, i < 4 * nd → va_cpy fd f 0 0 32 i = fd i := fun i hi => by
        unfold va_cpy
        rw [if_pos (by omega)]
        congr 1
        omega
      have g1 : ∀ x, x < nd → va_cpy gd g 0 0 8 x = gd x := fun x hx => by
        unfold va_cpy
        rw [if_pos (by omega)]
        congr 1
        omega
      have tk := tk_at 32 0 (me, mp) rfl
      refine opI (fun T => sp_A_take0 hk h3' hn ((ftAll_fit hn).mpr hf) hp) (fun X => sp_M_take0 hk h3' hn (hmf.mpr hf) hwin hr r1 (by rw [he, r2]; exact hp)) (Inv.of ⟨by omega, fun i hi => by omega, fun x hx => by omega, fun i hi => by omega, fun x hx => by omega⟩ ⟨⟨hn, fun i hi => ?_, fun x hx => ?_, inj2_congr f1 g1 hf.inj2, ?_, by omega, ?_⟩, fun i hi => ?_, fun x hx => ?_⟩ hw hu)
      · rw [f1 i hi]; exact hd.2.1 i hi
      · rw [g1 x hx]; exact hd.2.2.1 x hx
      · rw [pas_congr f1 g1]; exact hf.bal
      · exact bas_all hn hk
      · rw [tk.1 i (by omega), if_pos (by omega), f1 i hi]
        exact hd.2.2.2.1 i hi
      · rw [tk.2 x (by omega), if_pos (by omega), g1 x hx]
        show vp_nar .boolean (mp (8 + x)) = _
        rw [show mp (8 + x) = zb (decide (0 < gd x)) from hd.2.2.2.2 x hx, vz]
    · exact opI (fun T => sp_A_take3 h1 h2 h3 hn ((ftAll_fit hn).mpr hf) hp) (fun X => sp_M_take3 h1 h2 h3 hn (hmf.mpr hf) hwin hr r1 (by rw [he, r2]; exact hp)) (Inv.of hd hg hw hu)
  · have a1 : ftAll fd gd nd 0 (4 * nd) = false := by cases z : ftAll fd gd nd 0 (4 * nd) with | false => rfl | true => exact absurd ((ftAll_fit hn).mp z) hf
    have a2 : ftM me mp 32 nd 32 (4 * nd) = false := by cases z : ftM me mp 32 nd 32 (4 * nd) with | false => rfl | true => exact absurd (hmf.mp z) hf
    exact opI (fun T => sp_A_take2 h1 h2 h3 hn a1) (fun X => sp_M_take2 h1 h2 h3 hn a2) (Inv.of hd hg hw hu)
