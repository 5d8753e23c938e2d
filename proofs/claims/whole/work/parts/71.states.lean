theorem bit_smod : ∀ e, e < 32 → ((nI e &&& 31).toBitVec.smod 32).toNat = e := by decide +kernel
theorem bit_0 (s : Int32) {e : Nat} (he : e < 32) : (s >>> (nI e &&& 31)) &&& 1 = 0 ↔ s.toBitVec.getLsbD e = false := by
  have h1 : ((s >>> (nI e &&& 31)) &&& 1).toBitVec = (s.toBitVec.sshiftRight e) &&& 1#32 := by
    rw [Int32.toBitVec_and, Int32.toBitVec_shiftRight, BitVec.sshiftRight', bit_smod e he]
    rfl
  rw [← Int32.toBitVec_inj, h1, BitVec.and_one_eq_setWidth_ofBool_getLsbD]
  rw [BitVec.getLsbD_sshiftRight]
  simp only [Nat.add_zero, if_pos he]
  cases s.toBitVec.getLsbD e <;> decide
theorem bit_1 (s : Int32) {e : Nat} (he : e < 32) : (s >>> (nI e &&& 31)) &&& 1 = 1 ↔ s.toBitVec.getLsbD e = true := by
  have h1 : ((s >>> (nI e &&& 31)) &&& 1).toBitVec = (s.toBitVec.sshiftRight e) &&& 1#32 := by
    rw [Int32.toBitVec_and, Int32.toBitVec_shiftRight, BitVec.sshiftRight', bit_smod e he]
    rfl
  rw [← Int32.toBitVec_inj, h1, BitVec.and_one_eq_setWidth_ofBool_getLsbD]
  rw [BitVec.getLsbD_sshiftRight]
  simp only [Nat.add_zero, if_pos he]
  cases s.toBitVec.getLsbD e <;> decide
theorem bit_sh : ∀ e, e < 32 → ((1 : Int32) <<< (nI e &&& 31)).toBitVec = BitVec.twoPow 32 e := by decide +kernel
/-- the marks that a mask of bits holds -/
def mB (s : Int32) : Nat → Bool := fun t => s.toBitVec.getLsbD t
theorem mB_or (s : Int32) {e p : Nat} (he : e < 32) (hp : p < 32) : mB (s ||| ((1 <<< (nI e &&& 31)) ||| (1 <<< (nI p &&& 31)))) = fun t => mB s t || decide (t = e) || decide (t = p) := by
  funext t
  unfold mB
  rw [Int32.toBitVec_or, Int32.toBitVec_or, BitVec.getLsbD_or, BitVec.getLsbD_or, bit_sh e he, bit_sh p hp, BitVec.getLsbD_twoPow, BitVec.getLsbD_twoPow]
  simp only [he, hp, decide_true, Bool.true_and, ← Bool.or_assoc, @eq_comm Nat e t, @eq_comm Nat p t]
theorem swc_g {o : Nat → Nat} {st : Int32} {N : Nat} (hN : N ≤ 32) (h4 : N % 4 = 0) (ho : ∀ e, e < N → o e < N) : ∀ k s e, e < N → mB (swc o st k s e) = gW o (thr st) k (mB s) e := by
  intro k
  induction k with
  | zero => intro s e _; rfl
  | succ k ih =>
    intro s e he
    rw [swc, gW]
    by_cases h : (s >>> (nI e &&& 31)) &&& 1 = 0
    · have h' := (bit_0 s (by omega)).mp h
      rw [if_pos h, if_neg (by show ¬ s.toBitVec.getLsbD e = true; rw [h']; decide), ih _ _ (thr_lt h4 (ho e he)), mB_or s (by omega) (by have := ho e he; omega)]
    · have h' : ¬ s.toBitVec.getLsbD e = false := fun z => h ((bit_0 s (by omega)).mpr z)
      rw [if_neg h, if_pos (by show s.toBitVec.getLsbD e = true; cases z : s.toBitVec.getLsbD e with | true => rfl | false => exact absurd z h')]
theorem cvs_g {o : Nat → Nat} {st : Int32} {N : Nat} (hN : N ≤ 32) (h4 : N % 4 = 0) (ho : ∀ e, e < N → o e < N) : ∀ k i s c, i + k = N → cvs o st i k s c = (gS o (thr st) i k (mB s) c).1 := by
  intro k
  induction k with
  | zero => intro i s c _; rw [cvs, gS]
  | succ k ih =>
    intro i s c hi
    rw [cvs, gS]
    by_cases h : (s >>> (nI i &&& 31)) &&& 1 = 0
    · have h' := (bit_0 s (by omega)).mp h
      rw [if_pos h, if_neg (by show ¬ s.toBitVec.getLsbD i = true; rw [h']; decide), ih _ _ _ (by omega), swc_g hN h4 ho 32 s i (by omega)]
    · have h' : ¬ s.toBitVec.getLsbD i = false := fun z => h ((bit_0 s (by omega)).mpr z)
      rw [if_neg h, if_pos (by show s.toBitVec.getLsbD i = true; cases z : s.toBitVec.getLsbD i with | true => rfl | false => exact absurd z h'), ih _ _ _ (by omega)]
theorem mB_0 : mB 0 = fun _ => false := by
  funext t
  unfold mB
  show (0#32).getLsbD t = false
  exact BitVec.getLsbD_zero
theorem thr_thM {i : Nat} (hi : i < 256) : thM (nI (1 + i)) = thr (nI i) := by
  funext h
  unfold thM thr al ac
  have e1 : ¬ nI (1 + i) = 0 := fun z => by have := (nI_eq (b := 0) (by omega) (by omega)).mp z; omega
  have e2 : nI (1 + i) - 1 = nI i := by rw [Nat.add_comm]; exact nI_pred i
  rw [if_neg e1, e2]
  by_cases c : (nI i >>> (nI (h / 4) &&& 31)) &&& 1 = 1
  · rw [if_pos c, if_pos c]
    split <;> omega
  · rw [if_neg c, if_neg c]
    omega
theorem thr_smo (st : Int32) (n : Nat) : Smo (thr st) n := fun x hx => by
  have d0 : 4 * x / 4 = x := by omega
  have d1 : (4 * x + 1) / 4 = x := by omega
  have d2 : (4 * x + 2) / 4 = x := by omega
  have d3 : (4 * x + 3) / 4 = x := by omega
  unfold thr al ac
  rw [d0, d1, d2, d3]
  by_cases c : (st >>> (nI x &&& 31)) &&& 1 = 1
  · rw [if_pos c, if_pos c, if_pos c, if_pos c]
    exact Or.inl (by omega)
  · rw [if_neg c, if_neg c, if_neg c, if_neg c]
    exact Or.inr (by omega)
/-- the curves of the i-th state, as the class counts them -/
theorem cvs_n {f g : Nat → Int32} {n i : Nat} (hn : n ≤ 8) (h : Ot f g n (oth f n)) : cvs (oth f n) (nI i) 0 (4 * n) 0 0 = nCv (oth f n) (thr (nI i)) n := by
  rw [cvs_g (N := 4 * n) (by omega) (by omega) (fun e he => (h e he).1) (4 * n) 0 0 0 (by omega), mB_0]
  rfl
/-- and as the reference does -/
theorem rdT_n {f g : Nat → Int32} {n i : Nat} (hn : n ≤ 8) (hi : i < 256) (h : Ot f g n (oth f n)) (mt : Nat → Int32) : (rds (oth f n) (nI (1 + i)) 33 0 (4 * n) (clM mt) 0).isSome = true ∧ (rdT (oth f n) (nI (1 + i)) 33 n mt).1 = nCv (oth f n) (thr (nI i)) n := by
  have hs := thr_smo (nI i) n
  obtain ⟨R, r1, r2⟩ := rds_g (o := oth f n) (way := nI (1 + i)) (N := 4 * n) (by omega) h.par (fun a ha => thM_lt ha) (4 * n) 0 (clM mt) 0 (by omega)
  obtain ⟨L, l1, l2⟩ := gS_clM (o := oth f n) (τ := thr (nI i)) (N := 4 * n) (by omega) h.par hs.par mt
  obtain ⟨L', l1', l2'⟩ := gS_all (o := oth f n) (τ := thr (nI i)) (N := 4 * n) (by omega) h.par hs.par
  refine ⟨by rw [r1]; rfl, ?_⟩
  unfold rdT
  rw [r1]
  show R.1 = _
  rw [r2, thr_thM hi, l1, Reps.same l2 l2', ← l1']
  rfl
