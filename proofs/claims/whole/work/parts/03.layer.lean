abbrev zE : Type := (FieldType × vp_A) ⊕ (Nat × List Value)
abbrev zW : Type := List zE
def z_v (b : Nat) (ad : List Nat) (v : Value) : Value := match v with
  | .ref j => .ref (ad.getD j b)
  | v => v
def z_c (b : Nat) (ad : List Nat) (dA : FieldType → ClassId) (c : zE) : va_E := match c with
  | .inl a => .inl (dA a.1, a.2)
  | .inr o => .inr (o.1, o.2.map (z_v b ad))
def z_w (b : Nat) (ad : List Nat) (dA : FieldType → ClassId) (w : zW) : va_W := List.zipWith (fun a c => (a, z_c b ad dA c)) ad w
def zG : List Cond := lw_tbl.filter goodWord
def z_ws (M : zM) : List Cond := Cond.code M.1 M.2.1 M.2.2.1 M.2.2.2.1 :: zG
theorem zG_mem {w : Cond} (h : w ∈ lw_tbl) (hg : goodWord w = true) : w ∈ zG := List.mem_filter.mpr ⟨h, hg⟩
theorem zG_good {w : Cond} (h : w ∈ zG) : (w.onTables && w.keeps) = true ∨ ∃ ty, w = .arrayClass ty := good_of_word (List.mem_filter.mp h).2
theorem z_goodIn {M : zM} (h : Cond.code M.1 M.2.1 M.2.2.1 M.2.2.2.1 ∈ zG) : GoodIn zG (z_ws M) := by
  intro w hw
  rcases List.mem_cons.mp hw with rfl | h1
  · exact ⟨h, zG_good h⟩
  · exact ⟨h1, zG_good h1⟩
theorem z_v_cat (b : Nat) (ad : List Nat) (v : Value) : (z_v b ad v).category = v.category := by cases v <;> rfl
theorem z_w_at {b : Nat} {ad : List Nat} {dA : FieldType → ClassId} {w : zW} {j : Nat} {c : zE} (hl : ad.length = w.length) (h : w[j]? = some c) : ad[j]? = some (ad.getD j b) ∧ (z_w b ad dA w)[j]? = some (ad.getD j b, z_c b ad dA c) := by
  have hj : j < w.length := (List.getElem?_eq_some_iff.mp h).1
  have h1 : ad[j]? = some (ad.getD j b) := by
    rw [List.getD_eq_getElem?_getD, List.getElem?_eq_getElem (show j < ad.length by omega)]; rfl
  refine ⟨h1, ?_⟩
  unfold z_w
  rw [List.getElem?_zipWith, h1, h]
theorem z_w_set {b : Nat} {ad : List Nat} {dA : FieldType → ClassId} {w : zW} {j : Nat} {c0 c : zE} (hl : ad.length = w.length) (h : w[j]? = some c0) : (z_w b ad dA w).set j (ad.getD j b, z_c b ad dA c) = z_w b ad dA (w.set j c) := by
  have hj : j < w.length := (List.getElem?_eq_some_iff.mp h).1
  have ha := (z_w_at (b := b) (dA := dA) hl h).1
  apply List.ext_getElem?
  intro k
  unfold z_w
  rw [List.getElem?_set, List.getElem?_zipWith, List.getElem?_zipWith, List.getElem?_set]
  by_cases hk : j = k
  · subst hk
    have h2 : j < (List.zipWith (fun a c => (a, z_c b ad dA c)) ad w).length := by rw [List.length_zipWith]; omega
    rw [if_pos rfl, if_pos h2, if_pos rfl, if_pos hj, ha]
  · rw [if_neg hk, if_neg hk]
/-- a value that keeps its meaning when the n-th place comes -/
def z_ok (n : Nat) (v : Value) : Bool := match v with
  | .ref j => Nat.blt j n || Nat.ble 1000000 j
  | _ => true
def z_nr (v : Value) : Bool := match v with
  | .ref _ => false
  | _ => true
def z_okc (n : Nat) (c : zE) : Bool := match c with
  | .inl _ => true
  | .inr o => o.2.all (z_ok n)
theorem z_far0 {b : Nat} {ad ad2 : List Nat} (hb : (ad ++ ad2).length < 1000000) (k : Nat) (h : k < ad.length ∨ 1000000 ≤ k) : (ad ++ ad2).getD k b = ad.getD k b := by
  rw [List.length_append] at hb
  rw [List.getD_eq_getElem?_getD, List.getD_eq_getElem?_getD]
  rcases h with h1 | h1
  · rw [List.getElem?_append_left h1]
  · rw [List.getElem?_eq_none (by rw [List.length_append]; omega), List.getElem?_eq_none (by omega)]
theorem z_ok_ref {n : Nat} {k : Nat} (h : z_ok n (.ref k) = true) : k < n ∨ 1000000 ≤ k := by
  unfold z_ok at h
  rw [Bool.or_eq_true] at h
  rcases h with h | h
  · exact Or.inl (Nat.le_of_ble_eq_true h)
  · exact Or.inr (Nat.le_of_ble_eq_true h)
theorem z_over {b : Nat} {ad ad2 : List Nat} (n : Nat) (hn : ad.length = n) (hb : (ad ++ ad2).length < 1000000) {v : Value} (h : z_ok n v = true) : z_v b (ad ++ ad2) v = z_v b ad v := by
  cases v with
  | ref j =>
    show Value.ref _ = Value.ref _
    congr 1
    exact z_far0 hb j (by rw [hn]; exact z_ok_ref h)
  | _ => rfl
theorem z_v_more {b : Nat} {ad : List Nat} {q : Nat} (hb : ad.length + 1 < 1000000) {v : Value} (h : z_ok ad.length v = true) : z_v b (ad ++ [q]) v = z_v b ad v := z_over _ rfl (by rw [List.length_append]; exact hb) h
theorem z_map_more {b : Nat} {ad : List Nat} {q : Nat} (hb : ad.length + 1 < 1000000) {st : List Value} (h : st.all (z_ok ad.length) = true) : st.map (z_v b (ad ++ [q])) = st.map (z_v b ad) := by
  apply List.map_congr_left
  intro v hv
  exact z_v_more hb (List.all_eq_true.mp h v hv)
theorem z_c_more {b : Nat} {ad : List Nat} {q : Nat} {dA : FieldType → ClassId} (hb : ad.length + 1 < 1000000) {c : zE} (h : z_okc ad.length c = true) : z_c b (ad ++ [q]) dA c = z_c b ad dA c := by
  cases c with
  | inl a => rfl
  | inr o =>
    show Sum.inr (o.1, o.2.map (z_v b (ad ++ [q]))) = Sum.inr (o.1, o.2.map (z_v b ad))
    rw [z_map_more hb h]
theorem z_w_push {b : Nat} {ad : List Nat} {q : Nat} {dA : FieldType → ClassId} {w : zW} {c : zE} (hl : ad.length = w.length) (hb : ad.length + 1 < 1000000) (h : w.all (z_okc w.length) = true) : z_w b (ad ++ [q]) dA (w ++ [c]) = z_w b ad dA w ++ [(q, z_c b (ad ++ [q]) dA c)] := by
  unfold z_w
  rw [List.zipWith_append hl]
  congr 1
  apply List.ext_getElem?
  intro k
  rw [List.getElem?_zipWith, List.getElem?_zipWith]
  cases hk : w[k]? with
  | none => cases ad[k]? <;> rfl
  | some c0 =>
    cases ad[k]? with
    | none => rfl
    | some a =>
      show some (a, z_c b (ad ++ [q]) dA c0) = some (a, z_c b ad dA c0)
      rw [z_c_more hb (by rw [hl]; exact List.all_eq_true.mp h c0 (List.mem_of_getElem? hk))]
/-- the tables, at a state -/
def z_K0 (D : va_G) (dA : FieldType → ClassId) (s : State) : Prop := va_K D vwCl [] s ∧ (∀ (ty : FieldType) (cA : ClassId), s.vm.findClass ("[" ++ ty.toString) = some cA → cA = dA ty) ∧ ∀ u ∈ zN, va_Nw u s
/-- the arrays of a world are of their classes -/
def z_K1 (dA : FieldType → ClassId) (w : zW) (s : State) : Prop := ∀ (j : Nat) (ty : FieldType) (a : vp_A), w[j]? = some (.inl (ty, a)) → ArrOfT s (dA ty) ty ∧ va_RA s (dA ty) ty
theorem z_K0.moved {D : va_G} {dA : FieldType → ClassId} {s U : State} (hW : s.WarmedH U.vm) (h : z_K0 D dA s) : z_K0 D dA U := by
  refine ⟨va_K.moved hW.alike h.1, fun ty cA hc => h.2.1 ty cA ?_, fun u hu => zN_warm hW u hu (h.2.2 u hu)⟩
  rw [hW.alike.findClass] at hc
  exact hc
theorem z_K0.same {D : va_G} {dA : FieldType → ClassId} {s U : State} (hv : s.vm = U.vm) (h : z_K0 D dA s) : z_K0 D dA U := by
  refine ⟨va_K.moved (by rw [hv]; exact Vm.Alike.refl _) h.1, fun ty cA hc => h.2.1 ty cA ?_, fun u hu => va_Nw.same (zN_on u hu) hv (h.2.2 u hu)⟩
  rw [hv]
  exact hc
theorem z_K1.moved {dA : FieldType → ClassId} {w : zW} {s U : State} (hvm : s.vm.Alike U.vm) (h : z_K1 dA w s) : z_K1 dA w U := fun j ty a hj => ⟨arrOfT_moved hvm (h j ty a hj).1, (h j ty a hj).2.moved hvm⟩
theorem z_K1.set {dA : FieldType → ClassId} {w : zW} {s : State} (h : z_K1 dA w s) {j : Nat} {c : zE} (hc : ∀ (ty : FieldType) (a : vp_A), c = .inl (ty, a) → ∃ (i : Nat) (a' : vp_A), w[i]? = some (.inl (ty, a'))) : z_K1 dA (w.set j c) s := by
  intro k ty a hk
  rw [List.getElem?_set] at hk
  by_cases hjk : j = k
  · rw [if_pos hjk] at hk
    split at hk
    · obtain ⟨i, a', hi⟩ := hc ty a (Option.some.inj hk)
      exact h i ty a' hi
    · cases hk
  · rw [if_neg hjk] at hk
    exact h k ty a hk
theorem z_K1.one {D : va_G} {dA : FieldType → ClassId} {w : zW} {s : State} (h0 : va_K D vwCl [] s) (h : z_K1 dA w s) {j : Nat} {ty : FieldType} {a : vp_A} (hj : w[j]? = some (.inl (ty, a))) : va_K D vwCl [(dA ty, ty)] s := by
  refine ⟨h0.1, fun k q hk => ?_⟩
  have hz : k < 1 := (List.getElem?_eq_some_iff.mp hk).1
  rw [show k = 0 by omega] at hk
  cases hk
  exact h j ty a hj
def zB (D : va_G) (dA : FieldType → ClassId) (b : Nat) (ad0 ad : List Nat) (w : zW) (s : State) (H : Heap) (locs : List Loc) (A : Nat → Prop) : Prop :=
  ad.length = w.length ∧ ad.length < 1000000 ∧ (∃ ad2, ad = ad0 ++ ad2) ∧ va_P D vwCl (z_w b ad dA w) H ∧ va_D A (z_w b ad dA w) ∧ z_K1 dA w s ∧ va_S A s.heap H locs
def zC (M : zM) (X : Option (Nat × (Nat → Int32))) (p : Program) (s : State) (m : MethodId) (args : Array Value) (meth : Method) (c : Code) (D : va_G) (dA : FieldType → ClassId) (b : Nat) (A : Nat → Prop) : Prop :=
  p.tables.exec = Jvm.exec ∧ c.code = M.2.1 ∧ c.maxLocals = M.2.2.1 ∧ (∀ w ∈ zG, w.before args s = true) ∧ s.vm.findClass M.1.cls = some m.cls ∧ meth.name = M.1.name ∧ (∀ q, s.heap.size ≤ q → A q) ∧ (∀ (L : Nat) (xs : Nat → Int32), X = some (L, xs) → va_X b L xs s s.heap ∧ b < s.heap.size ∧ ¬ A b) ∧ z_K0 D dA s
def zRet (M : zM) (pc : Nat) (r : Option Value) : Prop := match r with
  | none => decode M.2.1 pc = .ok (.return_, 1) ∧ M.2.2.2.1 = none
  | some (.int v) => decode M.2.1 pc = .ok (.ireturn, 1) ∧ ∃ ty, M.2.2.2.1 = some ty ∧ narrow ty (.int v) = .int v
  | some (.long _) => decode M.2.1 pc = .ok (.lreturn, 1) ∧ M.2.2.2.1 = some .long
  | _ => False
/-- the method M, at pc with these locals, stack and world, comes to its end with the answer r and the world wf -/
def Ev (M : zM) (X : Option (Nat × (Nat → Int32))) (r : Option Value) (wf : zW) (pc : Nat) (lv : List (Nat × Value)) (st : List Value) (w : zW) (nc ns : Nat) : Prop :=
  ∀ (p : Program) (l : Launch) (e : Env) (s : State) (m : MethodId) (args : Array Value) (below : List Frame) (meth : Method) (c : Code) (Q : State → Prop) (D : va_G) (dA : FieldType → ClassId) (b : Nat) (A : Nat → Prop) (ad0 : List Nat),
    zC M X p s m args meth c D dA b A →
    (∀ (pc' nc' ns' : Nat) (ls : Array Slot) (H : Heap) (locs : List Loc) (ad : List Nat), zRet M pc' r → nc' ≤ M.2.2.2.2.cells → ns' ≤ M.2.2.2.2.slots → zB D dA b ad0 ad wf s H locs A → W p l e M.2.2.2.2 s m args below meth c H locs nc' ns' Q (F0 m pc' ls ((r.map (z_v b ad)).toList))) →
    ∀ (H : Heap) (locs : List Loc) (ad : List Nat) (ls : Array Slot), zB D dA b ad0 ad w s H locs A → lv_has ls M.2.2.1 (lv.map (fun q => (q.1, z_v b ad q.2))) →
      W p l e M.2.2.2.2 s m args below meth c H locs nc ns Q (F0 m pc ls (st.map (z_v b ad)))
def z_Q (D : va_G) (dA : FieldType → ClassId) (b : Nat) (ad : List Nat) (w : zW) (sz : Nat) (r : Option Value) (w' : zW) : Array Value → State → Outcome → State → Prop := fun _ st oc t =>
  (∃ ad' : List Nat, (∃ ad2, ad' = ad ++ ad2) ∧ ad'.length = w'.length ∧ ad'.length < 1000000 ∧ oc = .returned (r.map (z_v b ad')) ∧ va_P D vwCl (z_w b ad' dA w') t.heap ∧ z_K1 dA w' t ∧ va_D (va_A (z_w b ad dA w) sz) (z_w b ad' dA w')) ∧ va_F (va_A (z_w b ad dA w) sz) st t
def z_P (D : va_G) (dA : FieldType → ClassId) (b : Nat) (ad : List Nat) (w : zW) (sz : Nat) : State → Prop := fun U => U.heap.size = sz ∧ va_P D vwCl (z_w b ad dA w) U.heap ∧ z_K0 D dA U ∧ z_K1 dA w U ∧ va_D (fun _ => True) (z_w b ad dA w)
/-- the method M, called with these arguments in the world w, answers r and leaves the world w' -/
def Sp (M : zM) (as : List Value) (w : zW) (r : Option Value) (w' : zW) : Prop :=
  ∀ (l : Launch) (D : va_G) (dA : FieldType → ClassId) (b : Nat) (ad : List Nat) (sz : Nat), ad.length = w.length → ad.length < 1000000 →
    Met l M.1 (z_ws M) M.2.2.2.2 (va_Pc (as.map (z_v b ad)) (z_P D dA b ad w sz)) (z_Q D dA b ad w sz r w') M.2.2.2.2.cells M.2.2.2.2.slots (va_A (z_w b ad dA w) sz)
theorem z_lv_args (b : Nat) (ad : List Nat) (as : List Value) : ∀ i : Nat, lv_args i (as.map (z_v b ad)) = (lv_args i as).map (fun q => (q.1, z_v b ad q.2)) := by
  induction as with
  | nil => intro i; rfl
  | cons v t ih =>
    intro i
    show (i, z_v b ad v) :: lv_args (if (z_v b ad v).category = 2 then i + 2 else i + 1) (t.map (z_v b ad)) = (i, z_v b ad v) :: (lv_args (if v.category = 2 then i + 2 else i + 1) t).map (fun q => (q.1, z_v b ad q.2))
    rw [z_v_cat, ih]
theorem z_lg_sl (b : Nat) (ad : List Nat) (as : List Value) : (lg_sl (as.map (z_v b ad))).length = (lg_sl as).length := by
  induction as with
  | nil => rfl
  | cons v t ih =>
    have h : ∀ (u : Value) (r : List Value), lg_sl (u :: r) = (if u.category = 2 then [Slot.val u, Slot.second] else [Slot.val u]) ++ lg_sl r := fun u r => by simp [lg_sl]
    rw [List.map_cons, h, h, List.length_append, List.length_append, ih, z_v_cat]
    split <;> rfl
theorem Sp.of {M : zM} {as : List Value} {w w' : zW} {r : Option Value} (hy : plainName M.1.cls = true) (hn : (lg_sl as).length ≤ M.2.2.1) (h : Ev M none r w' 0 (lv_args 0 as) [] w 0 0) : Sp M as w r w' := by
  intro l D dA b ad sz hl hb
  refine Met.ofW (cc := M.2.1) (maxL := M.2.2.1) (ret := M.2.2.2.1) hy rfl ?_
  intro p e s m args below meth c s₁ B hml hv
  obtain ⟨rfl, hsz, hP, hK0, hK1, hD0⟩ := hv
  subst hsz
  have hts := atoms_spec (ws := z_ws M) B.pre
  rw [lg_entry_eq]
  refine h p l e s m _ below meth c _ D dA b (va_A (z_w b ad dA w) s.heap.size) ad ⟨B.exec, B.bytes, hml, fun w hw => hts w (List.mem_cons_of_mem _ hw), findClass_of_methodNamed B.named, (name_of_methodNamed B.named B.method).1, fun q h => Or.inr h, fun _ _ h => (by cases h), hK0⟩ ?_ s.heap [] ad _ ⟨hl, hb, ⟨[], (List.append_nil _).symm⟩, hP, hD0.self, hK1, va_S.rf⟩ ?_
  · intro pc' nc' ns' ls H locs ad' hr hc hs hB
    obtain ⟨e1, e2, e3, e4, e5, e6, e7⟩ := hB
    refine W.widen hc hs ?_
    have hlocks := B.notSynchronized
    match r, hr with
    | none, hr => exact W.vret B.exec B.bytes (B.returns.trans hr.2) (fun t ht hW => ⟨⟨ad', e3, e1, e2, rfl, by rw [ht]; exact e4, z_K1.moved hW.alike e6, e5⟩, e7.F ht⟩) e7.2.2 hr.1
    | some (.int v), hr =>
      obtain ⟨hd, ty, h1, h2⟩ := hr
      exact W.zret (ty := ty) B.exec B.bytes (B.returns.trans h1) h2 (fun t ht hW => ⟨⟨ad', e3, e1, e2, rfl, by rw [ht]; exact e4, z_K1.moved hW.alike e6, e5⟩, e7.F ht⟩) e7.2.2 hd
    | some (.long v), hr => exact W.lret B.exec B.bytes (B.returns.trans hr.2) (fun t ht hW => ⟨⟨ad', e3, e1, e2, rfl, by rw [ht]; exact e4, z_K1.moved hW.alike e6, e5⟩, e7.F ht⟩) e7.2.2 hr.1
  · have h1 := lv_entry (as.map (z_v b ad)) (n := M.2.2.1) (by rw [z_lg_sl]; exact hn)
    rw [z_lv_args] at h1
    exact h1
section ZROWS
variable {M : zM} {X : Option (Nat × (Nat → Int32))} {r : Option Value} {wf : zW} {pc : Nat} {lv : List (Nat × Value)} {st : List Value} {w : zW} {nc ns : Nat}
theorem ev_iconst {n : Int} {v : Int32} (hd : decode M.2.1 pc = .ok (.iconst n, 1)) (hv : Int32.ofInt n = v) (k : Ev M X r wf (pc + 1) lv (.int v :: st) w nc ns) : Ev M X r wf pc lv (st) w nc ns := fun p l e s m args below meth c Q D dA b A ad0 C E H locs ad ls B hl => lv_iconst C.1 C.2.1 hd hv (k p l e s m args below meth c Q D dA b A ad0 C E H locs ad ls B hl)
theorem ev_bipush {n : Int} {v : Int32} (hd : decode M.2.1 pc = .ok (.bipush n, 2)) (hv : (Int8.ofInt n).toInt32 = v) (k : Ev M X r wf (pc + 2) lv (.int v :: st) w nc ns) : Ev M X r wf pc lv (st) w nc ns := fun p l e s m args below meth c Q D dA b A ad0 C E H locs ad ls B hl => lv_bipush C.1 C.2.1 hd hv (k p l e s m args below meth c Q D dA b A ad0 C E H locs ad ls B hl)
theorem ev_sipush {n : Int} {v : Int32} (hd : decode M.2.1 pc = .ok (.sipush n, 3)) (hv : (Int16.ofInt n).toInt32 = v) (k : Ev M X r wf (pc + 3) lv (.int v :: st) w nc ns) : Ev M X r wf pc lv (st) w nc ns := fun p l e s m args below meth c Q D dA b A ad0 C E H locs ad ls B hl => lv_sipush C.1 C.2.1 hd hv (k p l e s m args below meth c Q D dA b A ad0 C E H locs ad ls B hl)
theorem ev_lconst {n : Fin 2} {v : Int64} (hd : decode M.2.1 pc = .ok (.lconst n, 1)) (hv : Int64.ofNat (n : Nat) = v) (k : Ev M X r wf (pc + 1) lv (.long v :: st) w nc ns) : Ev M X r wf pc lv (st) w nc ns := fun p l e s m args below meth c Q D dA b A ad0 C E H locs ad ls B hl => lv_lconst C.1 C.2.1 hd hv (k p l e s m args below meth c Q D dA b A ad0 C E H locs ad ls B hl)
theorem ev_iadd {x y : Int32} (hd : decode M.2.1 pc = .ok (.iadd, 1)) (k : Ev M X r wf (pc + 1) lv (.int (x + y) :: st) w nc ns) : Ev M X r wf pc lv (.int y :: .int x :: st) w nc ns := fun p l e s m args below meth c Q D dA b A ad0 C E H locs ad ls B hl => lv_iadd C.1 C.2.1 hd (k p l e s m args below meth c Q D dA b A ad0 C E H locs ad ls B hl)
theorem ev_isub {x y : Int32} (hd : decode M.2.1 pc = .ok (.isub, 1)) (k : Ev M X r wf (pc + 1) lv (.int (x - y) :: st) w nc ns) : Ev M X r wf pc lv (.int y :: .int x :: st) w nc ns := fun p l e s m args below meth c Q D dA b A ad0 C E H locs ad ls B hl => lv_isub C.1 C.2.1 hd (k p l e s m args below meth c Q D dA b A ad0 C E H locs ad ls B hl)
theorem ev_imul {x y : Int32} (hd : decode M.2.1 pc = .ok (.imul, 1)) (k : Ev M X r wf (pc + 1) lv (.int (x * y) :: st) w nc ns) : Ev M X r wf pc lv (.int y :: .int x :: st) w nc ns := fun p l e s m args below meth c Q D dA b A ad0 C E H locs ad ls B hl => lv_imul C.1 C.2.1 hd (k p l e s m args below meth c Q D dA b A ad0 C E H locs ad ls B hl)
theorem ev_iand {x y : Int32} (hd : decode M.2.1 pc = .ok (.iand, 1)) (k : Ev M X r wf (pc + 1) lv (.int (x &&& y) :: st) w nc ns) : Ev M X r wf pc lv (.int y :: .int x :: st) w nc ns := fun p l e s m args below meth c Q D dA b A ad0 C E H locs ad ls B hl => lv_iand C.1 C.2.1 hd (k p l e s m args below meth c Q D dA b A ad0 C E H locs ad ls B hl)
theorem ev_ior {x y : Int32} (hd : decode M.2.1 pc = .ok (.ior, 1)) (k : Ev M X r wf (pc + 1) lv (.int (x ||| y) :: st) w nc ns) : Ev M X r wf pc lv (.int y :: .int x :: st) w nc ns := fun p l e s m args below meth c Q D dA b A ad0 C E H locs ad ls B hl => lv_ior C.1 C.2.1 hd (k p l e s m args below meth c Q D dA b A ad0 C E H locs ad ls B hl)
theorem ev_ixor {x y : Int32} (hd : decode M.2.1 pc = .ok (.ixor, 1)) (k : Ev M X r wf (pc + 1) lv (.int (x ^^^ y) :: st) w nc ns) : Ev M X r wf pc lv (.int y :: .int x :: st) w nc ns := fun p l e s m args below meth c Q D dA b A ad0 C E H locs ad ls B hl => lv_ixor C.1 C.2.1 hd (k p l e s m args below meth c Q D dA b A ad0 C E H locs ad ls B hl)
theorem ev_ishl {x y : Int32} (hd : decode M.2.1 pc = .ok (.ishl, 1)) (k : Ev M X r wf (pc + 1) lv (.int (x <<< (y &&& 31)) :: st) w nc ns) : Ev M X r wf pc lv (.int y :: .int x :: st) w nc ns := fun p l e s m args below meth c Q D dA b A ad0 C E H locs ad ls B hl => lv_ishl C.1 C.2.1 hd (k p l e s m args below meth c Q D dA b A ad0 C E H locs ad ls B hl)
theorem ev_ishr {x y : Int32} (hd : decode M.2.1 pc = .ok (.ishr, 1)) (k : Ev M X r wf (pc + 1) lv (.int (x >>> (y &&& 31)) :: st) w nc ns) : Ev M X r wf pc lv (.int y :: .int x :: st) w nc ns := fun p l e s m args below meth c Q D dA b A ad0 C E H locs ad ls B hl => lv_ishr C.1 C.2.1 hd (k p l e s m args below meth c Q D dA b A ad0 C E H locs ad ls B hl)
theorem ev_idiv {x y : Int32} (hd : decode M.2.1 pc = .ok (.idiv, 1)) (hne : ¬ y = 0) (k : Ev M X r wf (pc + 1) lv (.int (x / y) :: st) w nc ns) : Ev M X r wf pc lv (.int y :: .int x :: st) w nc ns := fun p l e s m args below meth c Q D dA b A ad0 C E H locs ad ls B hl => lv_idiv C.1 C.2.1 hd hne (k p l e s m args below meth c Q D dA b A ad0 C E H locs ad ls B hl)
theorem ev_irem {x y : Int32} (hd : decode M.2.1 pc = .ok (.irem, 1)) (hne : ¬ y = 0) (k : Ev M X r wf (pc + 1) lv (.int (x - x / y * y) :: st) w nc ns) : Ev M X r wf pc lv (.int y :: .int x :: st) w nc ns := fun p l e s m args below meth c Q D dA b A ad0 C E H locs ad ls B hl => lv_irem C.1 C.2.1 hd hne (k p l e s m args below meth c Q D dA b A ad0 C E H locs ad ls B hl)
theorem ev_iushr {x y v : Int32} (hd : decode M.2.1 pc = .ok (.iushr, 1)) (hv : (x.toUInt32 >>> (y.toUInt32 &&& Int32.toUInt32 31)).toInt32 = v) (k : Ev M X r wf (pc + 1) lv (.int v :: st) w nc ns) : Ev M X r wf pc lv (.int y :: .int x :: st) w nc ns := fun p l e s m args below meth c Q D dA b A ad0 C E H locs ad ls B hl => lv_iushr C.1 C.2.1 hd hv (k p l e s m args below meth c Q D dA b A ad0 C E H locs ad ls B hl)
theorem ev_ineg {x : Int32} (hd : decode M.2.1 pc = .ok (.ineg, 1)) (k : Ev M X r wf (pc + 1) lv (.int (-x) :: st) w nc ns) : Ev M X r wf pc lv (.int x :: st) w nc ns := fun p l e s m args below meth c Q D dA b A ad0 C E H locs ad ls B hl => lv_ineg C.1 C.2.1 hd (k p l e s m args below meth c Q D dA b A ad0 C E H locs ad ls B hl)
theorem ev_ladd {x y : Int64} (hd : decode M.2.1 pc = .ok (.ladd, 1)) (k : Ev M X r wf (pc + 1) lv (.long (x + y) :: st) w nc ns) : Ev M X r wf pc lv (.long y :: .long x :: st) w nc ns := fun p l e s m args below meth c Q D dA b A ad0 C E H locs ad ls B hl => lv_ladd C.1 C.2.1 hd (k p l e s m args below meth c Q D dA b A ad0 C E H locs ad ls B hl)
theorem ev_lsub {x y : Int64} (hd : decode M.2.1 pc = .ok (.lsub, 1)) (k : Ev M X r wf (pc + 1) lv (.long (x - y) :: st) w nc ns) : Ev M X r wf pc lv (.long y :: .long x :: st) w nc ns := fun p l e s m args below meth c Q D dA b A ad0 C E H locs ad ls B hl => lv_lsub C.1 C.2.1 hd (k p l e s m args below meth c Q D dA b A ad0 C E H locs ad ls B hl)
theorem ev_lmul {x y : Int64} (hd : decode M.2.1 pc = .ok (.lmul, 1)) (k : Ev M X r wf (pc + 1) lv (.long (x * y) :: st) w nc ns) : Ev M X r wf pc lv (.long y :: .long x :: st) w nc ns := fun p l e s m args below meth c Q D dA b A ad0 C E H locs ad ls B hl => lv_lmul C.1 C.2.1 hd (k p l e s m args below meth c Q D dA b A ad0 C E H locs ad ls B hl)
theorem ev_ldiv {x y : Int64} (hd : decode M.2.1 pc = .ok (.ldiv, 1)) (hne : ¬ y = 0) (k : Ev M X r wf (pc + 1) lv (.long (x / y) :: st) w nc ns) : Ev M X r wf pc lv (.long y :: .long x :: st) w nc ns := fun p l e s m args below meth c Q D dA b A ad0 C E H locs ad ls B hl => lv_ldiv C.1 C.2.1 hd hne (k p l e s m args below meth c Q D dA b A ad0 C E H locs ad ls B hl)
theorem ev_lrem {x y : Int64} (hd : decode M.2.1 pc = .ok (.lrem, 1)) (hne : ¬ y = 0) (k : Ev M X r wf (pc + 1) lv (.long (x - x / y * y) :: st) w nc ns) : Ev M X r wf pc lv (.long y :: .long x :: st) w nc ns := fun p l e s m args below meth c Q D dA b A ad0 C E H locs ad ls B hl => lv_lrem C.1 C.2.1 hd hne (k p l e s m args below meth c Q D dA b A ad0 C E H locs ad ls B hl)
theorem ev_lneg {x : Int64} (hd : decode M.2.1 pc = .ok (.lneg, 1)) (k : Ev M X r wf (pc + 1) lv (.long (-x) :: st) w nc ns) : Ev M X r wf pc lv (.long x :: st) w nc ns := fun p l e s m args below meth c Q D dA b A ad0 C E H locs ad ls B hl => lv_lneg C.1 C.2.1 hd (k p l e s m args below meth c Q D dA b A ad0 C E H locs ad ls B hl)
theorem ev_i2l {x : Int32} {v : Int64} (hd : decode M.2.1 pc = .ok (.i2l, 1)) (hv : x.toInt64 = v) (k : Ev M X r wf (pc + 1) lv (.long v :: st) w nc ns) : Ev M X r wf pc lv (.int x :: st) w nc ns := fun p l e s m args below meth c Q D dA b A ad0 C E H locs ad ls B hl => lv_i2l C.1 C.2.1 hd hv (k p l e s m args below meth c Q D dA b A ad0 C E H locs ad ls B hl)
theorem ev_l2i {x : Int64} {v : Int32} (hd : decode M.2.1 pc = .ok (.l2i, 1)) (hv : x.toInt32 = v) (k : Ev M X r wf (pc + 1) lv (.int v :: st) w nc ns) : Ev M X r wf pc lv (.long x :: st) w nc ns := fun p l e s m args below meth c Q D dA b A ad0 C E H locs ad ls B hl => lv_l2i C.1 C.2.1 hd hv (k p l e s m args below meth c Q D dA b A ad0 C E H locs ad ls B hl)
theorem ev_lcmp {x y : Int64} (hd : decode M.2.1 pc = .ok (.lcmp, 1)) (k : Ev M X r wf (pc + 1) lv (.int (lg_cmp x y) :: st) w nc ns) : Ev M X r wf pc lv (.long y :: .long x :: st) w nc ns := fun p l e s m args below meth c Q D dA b A ad0 C E H locs ad ls B hl => W.lcmp C.1 C.2.1 hd (k p l e s m args below meth c Q D dA b A ad0 C E H locs ad ls B hl)
theorem ev_dup {v : Value} (hd : decode M.2.1 pc = .ok (.dup, 1)) (hc : v.category = 1) (k : Ev M X r wf (pc + 1) lv (v :: v :: st) w nc ns) : Ev M X r wf pc lv (v :: st) w nc ns := fun p l e s m args below meth c Q D dA b A ad0 C E H locs ad ls B hl => lv_dup C.1 C.2.1 hd ((z_v_cat b ad v).trans hc) (k p l e s m args below meth c Q D dA b A ad0 C E H locs ad ls B hl)
theorem ev_pop {v : Value} (hd : decode M.2.1 pc = .ok (.pop, 1)) (hc : v.category = 1) (k : Ev M X r wf (pc + 1) lv (st) w nc ns) : Ev M X r wf pc lv (v :: st) w nc ns := fun p l e s m args below meth c Q D dA b A ad0 C E H locs ad ls B hl => lv_pop C.1 C.2.1 hd ((z_v_cat b ad v).trans hc) (k p l e s m args below meth c Q D dA b A ad0 C E H locs ad ls B hl)
theorem ev_dup2 {v u : Value} (hd : decode M.2.1 pc = .ok (.dup2, 1)) (hc : v.category = 1) (hc2 : u.category = 1) (k : Ev M X r wf (pc + 1) lv (v :: u :: v :: u :: st) w nc ns) : Ev M X r wf pc lv (v :: u :: st) w nc ns := fun p l e s m args below meth c Q D dA b A ad0 C E H locs ad ls B hl => lv_dup2_11 C.1 C.2.1 hd ((z_v_cat b ad v).trans hc) ((z_v_cat b ad u).trans hc2) (k p l e s m args below meth c Q D dA b A ad0 C E H locs ad ls B hl)
def z_get (lv : List (Nat × Value)) (i : Nat) : Option Value := match lv with
  | [] => none
  | q :: t => if q.1 = i then some q.2 else z_get t i
theorem z_get_mem {i : Nat} {v : Value} : ∀ {lv : List (Nat × Value)}, z_get lv i = some v → (i, v) ∈ lv := by
  intro lv
  induction lv with
  | nil => intro h; cases h
  | cons q t ih =>
    intro h
    unfold z_get at h
    split at h
    · next hq =>
      obtain ⟨a, u⟩ := q
      cases h
      cases hq
      exact List.mem_cons_self
    · exact List.mem_cons_of_mem _ (ih h)
theorem z_lv {b : Nat} {ad : List Nat} {ls : Array Slot} {n i : Nat} {v : Value} (hl : lv_has ls n (lv.map (fun q => (q.1, z_v b ad q.2)))) (h : z_get lv i = some v) : ls[i]? = some (.val (z_v b ad v)) :=
  hl.2.2 (i, z_v b ad v) (List.mem_map.mpr ⟨(i, v), z_get_mem h, rfl⟩)
/-- in its place, or at the end -/
def z_put (i : Nat) (v : Value) (lv : List (Nat × Value)) : List (Nat × Value) := match lv with
  | [] => [(i, v)]
  | q :: t => if q.1 = i then (i, v) :: t else q :: z_put i v t
/-- each place once; no long that ends at i -/
def z_fit1 (i : Nat) (lv : List (Nat × Value)) : Bool := match lv with
  | [] => true
  | q :: t => if q.1 = i then t.all (fun x => !(x.1 == i) && !(x.1 + 1 == i && x.2.category == 2)) else !(q.1 + 1 == i && q.2.category == 2) && z_fit1 i t
def z_fit2 (i : Nat) (lv : List (Nat × Value)) : Bool := z_fit1 i lv && lv.all (fun x => !(x.1 == i + 1))
theorem z_put_sub {i : Nat} {v : Value} : ∀ {lv : List (Nat × Value)}, z_fit1 i lv = true → ∀ q ∈ z_put i v lv, q = (i, v) ∨ (q ∈ lv ∧ (!(q.1 == i) && !(q.1 + 1 == i && q.2.category == 2)) = true) := by
  intro lv
  induction lv with
  | nil =>
    intro _ q hq
    exact Or.inl (List.mem_singleton.mp hq)
  | cons a t ih =>
    intro h q hq
    unfold z_fit1 at h
    unfold z_put at hq
    by_cases ha : a.1 = i
    · rw [if_pos ha] at h hq
      rcases List.mem_cons.mp hq with h1 | h1
      · exact Or.inl h1
      · exact Or.inr ⟨List.mem_cons_of_mem _ h1, List.all_eq_true.mp h q h1⟩
    · rw [if_neg ha] at h hq
      rw [Bool.and_eq_true] at h
      rcases List.mem_cons.mp hq with h1 | h1
      · subst h1
        refine Or.inr ⟨List.mem_cons_self, ?_⟩
        rw [h.1, Bool.and_true]
        simp [ha]
      · rcases ih h.2 q h1 with h2 | ⟨h2, h3⟩
        · exact Or.inl h2
        · exact Or.inr ⟨List.mem_cons_of_mem _ h2, h3⟩
theorem lv_has.less {ls : Array Slot} {n : Nat} {l l' : List (Nat × Value)} (h : lv_has ls n l) (hs : ∀ q ∈ l', q ∈ l) : lv_has ls n l' := ⟨h.1, h.2.1, fun q hq => h.2.2 q (hs q hq)⟩
theorem z_stored1 {b : Nat} {ad : List Nat} {ls : Array Slot} {n i : Nat} {v : Value} (hf : z_fit1 i lv = true) (h : lv_has ls n ((i, z_v b ad v) :: (lv.map (fun q => (q.1, z_v b ad q.2))).filter (fun q => !(q.1 == i) && !(q.1 + 1 == i && q.2.category == 2)))) : lv_has ls n ((z_put i v lv).map (fun q => (q.1, z_v b ad q.2))) := by
  refine h.less fun q hq => ?_
  obtain ⟨q0, h0, rfl⟩ := List.mem_map.mp hq
  rcases z_put_sub hf q0 h0 with rfl | ⟨h1, h2⟩
  · exact List.mem_cons_self
  · refine List.mem_cons_of_mem _ (List.mem_filter.mpr ⟨List.mem_map.mpr ⟨q0, h1, rfl⟩, ?_⟩)
    show (!(q0.1 == i) && !(q0.1 + 1 == i && (z_v b ad q0.2).category == 2)) = true
    rw [z_v_cat]
    exact h2
theorem z_stored2 {b : Nat} {ad : List Nat} {ls : Array Slot} {n i : Nat} {v : Value} (hf : z_fit2 i lv = true) (h : lv_has ls n ((i, z_v b ad v) :: (lv.map (fun q => (q.1, z_v b ad q.2))).filter (fun q => !(q.1 == i) && (!(q.1 == i + 1) && !(q.1 + 1 == i && q.2.category == 2))))) : lv_has ls n ((z_put i v lv).map (fun q => (q.1, z_v b ad q.2))) := by
  unfold z_fit2 at hf
  rw [Bool.and_eq_true] at hf
  refine h.less fun q hq => ?_
  obtain ⟨q0, h0, rfl⟩ := List.mem_map.mp hq
  rcases z_put_sub hf.1 q0 h0 with rfl | ⟨h1, h2⟩
  · exact List.mem_cons_self
  · refine List.mem_cons_of_mem _ (List.mem_filter.mpr ⟨List.mem_map.mpr ⟨q0, h1, rfl⟩, ?_⟩)
    show (!(q0.1 == i) && (!(q0.1 == i + 1) && !(q0.1 + 1 == i && (z_v b ad q0.2).category == 2))) = true
    rw [z_v_cat]
    rw [Bool.and_eq_true] at h2
    rw [h2.1, h2.2, List.all_eq_true.mp hf.2 q0 h1]
    rfl
/-- fewer locals -/
theorem ev_sub {lv' : List (Nat × Value)} (h : ∀ q ∈ lv', q ∈ lv) (k : Ev M X r wf pc lv' st w nc ns) : Ev M X r wf pc lv st w nc ns := fun p l e s m args below meth c Q D dA b A ad0 C E H locs ad ls B hl => k p l e s m args below meth c Q D dA b A ad0 C E H locs ad ls B (hl.less fun q hq => by
  obtain ⟨q0, h0, rfl⟩ := List.mem_map.mp hq
  exact List.mem_map.mpr ⟨q0, h q0 h0, rfl⟩)
theorem ev_iload_n (i : Nat) {x : Int32} {k : Fin 4} (hd : decode M.2.1 pc = .ok (.iload_n k, 1)) (hi : (k : Nat) = i) (h : z_get lv i = some (.int x)) (kk : Ev M X r wf (pc + 1) lv (.int x :: st) w nc ns) : Ev M X r wf pc lv st w nc ns := fun p l e s m args below meth c Q D dA b A ad0 C E H locs ad ls B hl => lv_iload_n C.1 C.2.1 hd hi (z_lv hl h) (kk p l e s m args below meth c Q D dA b A ad0 C E H locs ad ls B hl)
theorem ev_iload {i : Nat} {x : Int32} (hd : decode M.2.1 pc = .ok (.iload i, 2)) (h : z_get lv i = some (.int x)) (kk : Ev M X r wf (pc + 2) lv (.int x :: st) w nc ns) : Ev M X r wf pc lv st w nc ns := fun p l e s m args below meth c Q D dA b A ad0 C E H locs ad ls B hl => lv_iload C.1 C.2.1 hd (z_lv hl h) (kk p l e s m args below meth c Q D dA b A ad0 C E H locs ad ls B hl)
theorem ev_istore_n (i : Nat) {x : Int32} {k : Fin 4} (hd : decode M.2.1 pc = .ok (.istore_n k, 1)) (hi : (k : Nat) = i) (hn : i < M.2.2.1) (hf : z_fit1 i lv = true) (kk : Ev M X r wf (pc + 1) (z_put i (.int x) lv) st w nc ns) : Ev M X r wf pc lv (.int x :: st) w nc ns := fun p l e s m args below meth c Q D dA b A ad0 C E H locs ad ls B hl => lv_istore_n C.1 C.2.1 hd hi hl hn rfl (fun ls' hl' => kk p l e s m args below meth c Q D dA b A ad0 C E H locs ad ls' B (z_stored1 hf hl'))
theorem ev_istore {i : Nat} {x : Int32} (hd : decode M.2.1 pc = .ok (.istore i, 2)) (hn : i < M.2.2.1) (hf : z_fit1 i lv = true) (kk : Ev M X r wf (pc + 2) (z_put i (.int x) lv) st w nc ns) : Ev M X r wf pc lv (.int x :: st) w nc ns := fun p l e s m args below meth c Q D dA b A ad0 C E H locs ad ls B hl => lv_istore C.1 C.2.1 hd hl hn rfl (fun ls' hl' => kk p l e s m args below meth c Q D dA b A ad0 C E H locs ad ls' B (z_stored1 hf hl'))
theorem ev_lload_n (i : Nat) {x : Int64} {k : Fin 4} (hd : decode M.2.1 pc = .ok (.lload_n k, 1)) (hi : (k : Nat) = i) (h : z_get lv i = some (.long x)) (kk : Ev M X r wf (pc + 1) lv (.long x :: st) w nc ns) : Ev M X r wf pc lv st w nc ns := fun p l e s m args below meth c Q D dA b A ad0 C E H locs ad ls B hl => lv_lload_n C.1 C.2.1 hd hi (z_lv hl h) (kk p l e s m args below meth c Q D dA b A ad0 C E H locs ad ls B hl)
theorem ev_lload {i : Nat} {x : Int64} (hd : decode M.2.1 pc = .ok (.lload i, 2)) (h : z_get lv i = some (.long x)) (kk : Ev M X r wf (pc + 2) lv (.long x :: st) w nc ns) : Ev M X r wf pc lv st w nc ns := fun p l e s m args below meth c Q D dA b A ad0 C E H locs ad ls B hl => lv_lload C.1 C.2.1 hd (z_lv hl h) (kk p l e s m args below meth c Q D dA b A ad0 C E H locs ad ls B hl)
theorem ev_lstore_n (i : Nat) {x : Int64} {k : Fin 4} (hd : decode M.2.1 pc = .ok (.lstore_n k, 1)) (hi : (k : Nat) = i) (hn : i + 1 < M.2.2.1) (hf : z_fit2 i lv = true) (kk : Ev M X r wf (pc + 1) (z_put i (.long x) lv) st w nc ns) : Ev M X r wf pc lv (.long x :: st) w nc ns := fun p l e s m args below meth c Q D dA b A ad0 C E H locs ad ls B hl => lv_lstore_n C.1 C.2.1 hd hi hl hn rfl (fun ls' hl' => kk p l e s m args below meth c Q D dA b A ad0 C E H locs ad ls' B (z_stored2 hf hl'))
theorem ev_lstore {i : Nat} {x : Int64} (hd : decode M.2.1 pc = .ok (.lstore i, 2)) (hn : i + 1 < M.2.2.1) (hf : z_fit2 i lv = true) (kk : Ev M X r wf (pc + 2) (z_put i (.long x) lv) st w nc ns) : Ev M X r wf pc lv (.long x :: st) w nc ns := fun p l e s m args below meth c Q D dA b A ad0 C E H locs ad ls B hl => lv_lstore C.1 C.2.1 hd hl hn rfl (fun ls' hl' => kk p l e s m args below meth c Q D dA b A ad0 C E H locs ad ls' B (z_stored2 hf hl'))
theorem ev_aload_n (i : Nat) {x : Nat} {k : Fin 4} (hd : decode M.2.1 pc = .ok (.aload_n k, 1)) (hi : (k : Nat) = i) (h : z_get lv i = some (.ref x)) (kk : Ev M X r wf (pc + 1) lv (.ref x :: st) w nc ns) : Ev M X r wf pc lv st w nc ns := fun p l e s m args below meth c Q D dA b A ad0 C E H locs ad ls B hl => lv_aload_n C.1 C.2.1 hd hi (z_lv hl h) (kk p l e s m args below meth c Q D dA b A ad0 C E H locs ad ls B hl)
theorem ev_aload {i : Nat} {x : Nat} (hd : decode M.2.1 pc = .ok (.aload i, 2)) (h : z_get lv i = some (.ref x)) (kk : Ev M X r wf (pc + 2) lv (.ref x :: st) w nc ns) : Ev M X r wf pc lv st w nc ns := fun p l e s m args below meth c Q D dA b A ad0 C E H locs ad ls B hl => lv_aload C.1 C.2.1 hd (z_lv hl h) (kk p l e s m args below meth c Q D dA b A ad0 C E H locs ad ls B hl)
theorem ev_astore_n (i : Nat) {x : Nat} {k : Fin 4} (hd : decode M.2.1 pc = .ok (.astore_n k, 1)) (hi : (k : Nat) = i) (hn : i < M.2.2.1) (hf : z_fit1 i lv = true) (kk : Ev M X r wf (pc + 1) (z_put i (.ref x) lv) st w nc ns) : Ev M X r wf pc lv (.ref x :: st) w nc ns := fun p l e s m args below meth c Q D dA b A ad0 C E H locs ad ls B hl => lv_astore_n C.1 C.2.1 hd hi hl hn rfl (fun ls' hl' => kk p l e s m args below meth c Q D dA b A ad0 C E H locs ad ls' B (z_stored1 hf hl'))
theorem ev_astore {i : Nat} {x : Nat} (hd : decode M.2.1 pc = .ok (.astore i, 2)) (hn : i < M.2.2.1) (hf : z_fit1 i lv = true) (kk : Ev M X r wf (pc + 2) (z_put i (.ref x) lv) st w nc ns) : Ev M X r wf pc lv (.ref x :: st) w nc ns := fun p l e s m args below meth c Q D dA b A ad0 C E H locs ad ls B hl => lv_astore C.1 C.2.1 hd hl hn rfl (fun ls' hl' => kk p l e s m args below meth c Q D dA b A ad0 C E H locs ad ls' B (z_stored1 hf hl'))
theorem ev_iinc {i : Nat} {n : Int} {x v : Int32} (hd : decode M.2.1 pc = .ok (.iinc i n, 3)) (h : z_get lv i = some (.int x)) (hv : x + Int32.ofInt n = v) (hn : i < M.2.2.1) (hf : z_fit1 i lv = true) (kk : Ev M X r wf (pc + 3) (z_put i (.int v) lv) st w nc ns) : Ev M X r wf pc lv st w nc ns := fun p l e s m args below meth c Q D dA b A ad0 C E H locs ad ls B hl => by
  obtain ⟨k, hk⟩ := List.getElem?_of_mem (List.mem_map.mpr ⟨(i, Value.int x), z_get_mem h, rfl⟩ : (i, z_v b ad (.int x)) ∈ lv.map (fun q => (q.1, z_v b ad q.2)))
  exact lv_iinc C.1 C.2.1 hd hl (k := k) (x := x) hk hv hn rfl (fun ls' hl' => kk p l e s m args below meth c Q D dA b A ad0 C E H locs ad ls' B (z_stored1 hf hl'))
theorem ev_if_eq (tgt : Nat) {x : Int32} {off : Int} (hd : decode M.2.1 pc = .ok (.ifCond .eq off, 3)) (ht : (pc : Int) + off = (tgt : Int)) (kt : x = 0 → Ev M X r wf tgt lv st w nc ns) (kf : ¬ x = 0 → Ev M X r wf (pc + 3) lv st w nc ns) : Ev M X r wf pc lv (.int x :: st) w nc ns := fun p l e s m args below meth c Q D dA b A ad0 C E H locs ad ls B hl => lv_if_eq C.1 C.2.1 hd ht (fun h => kt h p l e s m args below meth c Q D dA b A ad0 C E H locs ad ls B hl) (fun h => kf h p l e s m args below meth c Q D dA b A ad0 C E H locs ad ls B hl)
theorem ev_icmp_eq (tgt : Nat) {x y : Int32} {off : Int} (hd : decode M.2.1 pc = .ok (.if_icmp .eq off, 3)) (ht : (pc : Int) + off = (tgt : Int)) (kt : x = y → Ev M X r wf tgt lv st w nc ns) (kf : ¬ x = y → Ev M X r wf (pc + 3) lv st w nc ns) : Ev M X r wf pc lv (.int y :: .int x :: st) w nc ns := fun p l e s m args below meth c Q D dA b A ad0 C E H locs ad ls B hl => lv_icmp_eq C.1 C.2.1 hd ht (fun h => kt h p l e s m args below meth c Q D dA b A ad0 C E H locs ad ls B hl) (fun h => kf h p l e s m args below meth c Q D dA b A ad0 C E H locs ad ls B hl)
theorem ev_if_ne (tgt : Nat) {x : Int32} {off : Int} (hd : decode M.2.1 pc = .ok (.ifCond .ne off, 3)) (ht : (pc : Int) + off = (tgt : Int)) (kt : ¬ x = 0 → Ev M X r wf tgt lv st w nc ns) (kf : x = 0 → Ev M X r wf (pc + 3) lv st w nc ns) : Ev M X r wf pc lv (.int x :: st) w nc ns := fun p l e s m args below meth c Q D dA b A ad0 C E H locs ad ls B hl => lv_if_ne C.1 C.2.1 hd ht (fun h => kt h p l e s m args below meth c Q D dA b A ad0 C E H locs ad ls B hl) (fun h => kf h p l e s m args below meth c Q D dA b A ad0 C E H locs ad ls B hl)
theorem ev_icmp_ne (tgt : Nat) {x y : Int32} {off : Int} (hd : decode M.2.1 pc = .ok (.if_icmp .ne off, 3)) (ht : (pc : Int) + off = (tgt : Int)) (kt : ¬ x = y → Ev M X r wf tgt lv st w nc ns) (kf : x = y → Ev M X r wf (pc + 3) lv st w nc ns) : Ev M X r wf pc lv (.int y :: .int x :: st) w nc ns := fun p l e s m args below meth c Q D dA b A ad0 C E H locs ad ls B hl => lv_icmp_ne C.1 C.2.1 hd ht (fun h => kt h p l e s m args below meth c Q D dA b A ad0 C E H locs ad ls B hl) (fun h => kf h p l e s m args below meth c Q D dA b A ad0 C E H locs ad ls B hl)
theorem ev_if_lt (tgt : Nat) {x : Int32} {off : Int} (hd : decode M.2.1 pc = .ok (.ifCond .lt off, 3)) (ht : (pc : Int) + off = (tgt : Int)) (kt : x < 0 → Ev M X r wf tgt lv st w nc ns) (kf : ¬ x < 0 → Ev M X r wf (pc + 3) lv st w nc ns) : Ev M X r wf pc lv (.int x :: st) w nc ns := fun p l e s m args below meth c Q D dA b A ad0 C E H locs ad ls B hl => lv_if_lt C.1 C.2.1 hd ht (fun h => kt h p l e s m args below meth c Q D dA b A ad0 C E H locs ad ls B hl) (fun h => kf h p l e s m args below meth c Q D dA b A ad0 C E H locs ad ls B hl)
theorem ev_icmp_lt (tgt : Nat) {x y : Int32} {off : Int} (hd : decode M.2.1 pc = .ok (.if_icmp .lt off, 3)) (ht : (pc : Int) + off = (tgt : Int)) (kt : x < y → Ev M X r wf tgt lv st w nc ns) (kf : ¬ x < y → Ev M X r wf (pc + 3) lv st w nc ns) : Ev M X r wf pc lv (.int y :: .int x :: st) w nc ns := fun p l e s m args below meth c Q D dA b A ad0 C E H locs ad ls B hl => lv_icmp_lt C.1 C.2.1 hd ht (fun h => kt h p l e s m args below meth c Q D dA b A ad0 C E H locs ad ls B hl) (fun h => kf h p l e s m args below meth c Q D dA b A ad0 C E H locs ad ls B hl)
theorem ev_if_ge (tgt : Nat) {x : Int32} {off : Int} (hd : decode M.2.1 pc = .ok (.ifCond .ge off, 3)) (ht : (pc : Int) + off = (tgt : Int)) (kt : 0 ≤ x → Ev M X r wf tgt lv st w nc ns) (kf : ¬ 0 ≤ x → Ev M X r wf (pc + 3) lv st w nc ns) : Ev M X r wf pc lv (.int x :: st) w nc ns := fun p l e s m args below meth c Q D dA b A ad0 C E H locs ad ls B hl => lv_if_ge C.1 C.2.1 hd ht (fun h => kt h p l e s m args below meth c Q D dA b A ad0 C E H locs ad ls B hl) (fun h => kf h p l e s m args below meth c Q D dA b A ad0 C E H locs ad ls B hl)
theorem ev_icmp_ge (tgt : Nat) {x y : Int32} {off : Int} (hd : decode M.2.1 pc = .ok (.if_icmp .ge off, 3)) (ht : (pc : Int) + off = (tgt : Int)) (kt : y ≤ x → Ev M X r wf tgt lv st w nc ns) (kf : ¬ y ≤ x → Ev M X r wf (pc + 3) lv st w nc ns) : Ev M X r wf pc lv (.int y :: .int x :: st) w nc ns := fun p l e s m args below meth c Q D dA b A ad0 C E H locs ad ls B hl => lv_icmp_ge C.1 C.2.1 hd ht (fun h => kt h p l e s m args below meth c Q D dA b A ad0 C E H locs ad ls B hl) (fun h => kf h p l e s m args below meth c Q D dA b A ad0 C E H locs ad ls B hl)
theorem ev_if_gt (tgt : Nat) {x : Int32} {off : Int} (hd : decode M.2.1 pc = .ok (.ifCond .gt off, 3)) (ht : (pc : Int) + off = (tgt : Int)) (kt : 0 < x → Ev M X r wf tgt lv st w nc ns) (kf : ¬ 0 < x → Ev M X r wf (pc + 3) lv st w nc ns) : Ev M X r wf pc lv (.int x :: st) w nc ns := fun p l e s m args below meth c Q D dA b A ad0 C E H locs ad ls B hl => lv_if_gt C.1 C.2.1 hd ht (fun h => kt h p l e s m args below meth c Q D dA b A ad0 C E H locs ad ls B hl) (fun h => kf h p l e s m args below meth c Q D dA b A ad0 C E H locs ad ls B hl)
theorem ev_icmp_gt (tgt : Nat) {x y : Int32} {off : Int} (hd : decode M.2.1 pc = .ok (.if_icmp .gt off, 3)) (ht : (pc : Int) + off = (tgt : Int)) (kt : y < x → Ev M X r wf tgt lv st w nc ns) (kf : ¬ y < x → Ev M X r wf (pc + 3) lv st w nc ns) : Ev M X r wf pc lv (.int y :: .int x :: st) w nc ns := fun p l e s m args below meth c Q D dA b A ad0 C E H locs ad ls B hl => lv_icmp_gt C.1 C.2.1 hd ht (fun h => kt h p l e s m args below meth c Q D dA b A ad0 C E H locs ad ls B hl) (fun h => kf h p l e s m args below meth c Q D dA b A ad0 C E H locs ad ls B hl)
theorem ev_if_le (tgt : Nat) {x : Int32} {off : Int} (hd : decode M.2.1 pc = .ok (.ifCond .le off, 3)) (ht : (pc : Int) + off = (tgt : Int)) (kt : x ≤ 0 → Ev M X r wf tgt lv st w nc ns) (kf : ¬ x ≤ 0 → Ev M X r wf (pc + 3) lv st w nc ns) : Ev M X r wf pc lv (.int x :: st) w nc ns := fun p l e s m args below meth c Q D dA b A ad0 C E H locs ad ls B hl => lv_if_le C.1 C.2.1 hd ht (fun h => kt h p l e s m args below meth c Q D dA b A ad0 C E H locs ad ls B hl) (fun h => kf h p l e s m args below meth c Q D dA b A ad0 C E H locs ad ls B hl)
theorem ev_icmp_le (tgt : Nat) {x y : Int32} {off : Int} (hd : decode M.2.1 pc = .ok (.if_icmp .le off, 3)) (ht : (pc : Int) + off = (tgt : Int)) (kt : x ≤ y → Ev M X r wf tgt lv st w nc ns) (kf : ¬ x ≤ y → Ev M X r wf (pc + 3) lv st w nc ns) : Ev M X r wf pc lv (.int y :: .int x :: st) w nc ns := fun p l e s m args below meth c Q D dA b A ad0 C E H locs ad ls B hl => lv_icmp_le C.1 C.2.1 hd ht (fun h => kt h p l e s m args below meth c Q D dA b A ad0 C E H locs ad ls B hl) (fun h => kf h p l e s m args below meth c Q D dA b A ad0 C E H locs ad ls B hl)
theorem ev_goto (tgt : Nat) {off : Int} (hd : decode M.2.1 pc = .ok (.goto off, 3)) (ht : (pc : Int) + off = (tgt : Int)) (k : Ev M X r wf tgt lv st w nc ns) : Ev M X r wf pc lv st w nc ns := fun p l e s m args below meth c Q D dA b A ad0 C E H locs ad ls B hl => lv_goto C.1 C.2.1 hd ht (k p l e s m args below meth c Q D dA b A ad0 C E H locs ad ls B hl)
theorem ev_tabOut (tgt : Nat) {dflt lo hi : Int} {offs : Array Int} {len : Nat} {x : Int32} (hd : decode M.2.1 pc = .ok (.tableswitch dflt lo hi offs, len)) (h : x.toInt < lo ∨ hi < x.toInt) (ht : (pc : Int) + dflt = (tgt : Int)) (k : Ev M X r wf tgt lv st w nc ns) : Ev M X r wf pc lv (.int x :: st) w nc ns := fun p l e s m args below meth c Q D dA b A ad0 C E H locs ad ls B hl => lv_tableOut C.1 C.2.1 hd h ht (k p l e s m args below meth c Q D dA b A ad0 C E H locs ad ls B hl)
theorem ev_tabIn (tgt : Nat) {dflt lo hi : Int} {offs : Array Int} {len : Nat} {x : Int32} {off : Int} (hd : decode M.2.1 pc = .ok (.tableswitch dflt lo hi offs, len)) (h1 : ¬ x.toInt < lo) (h2 : ¬ hi < x.toInt) (ho : offs[(x.toInt - lo).toNat]? = some off) (ht : (pc : Int) + off = (tgt : Int)) (k : Ev M X r wf tgt lv st w nc ns) : Ev M X r wf pc lv (.int x :: st) w nc ns := fun p l e s m args below meth c Q D dA b A ad0 C E H locs ad ls B hl => lv_tableIn C.1 C.2.1 hd h1 h2 ho ht (k p l e s m args below meth c Q D dA b A ad0 C E H locs ad ls B hl)
theorem ev_ldc2 {index : Nat} {v : Int64} (hw : Cond.constantLong M.1.cls index v ∈ zG) (hd : decode M.2.1 pc = .ok (.ldc2_w index, 3)) (k : Ev M X r wf (pc + 3) lv (.long v :: st) w nc ns) : Ev M X r wf pc lv st w nc ns := fun p l e s m args below meth c Q D dA b A ad0 C E H locs ad ls B hl => lv_ldc2 C.1 C.2.1 C.2.2.2.2.1 (C.2.2.2.1 _ hw) hd (k p l e s m args below meth c Q D dA b A ad0 C E H locs ad ls B hl)
theorem ev_ret (hd : decode M.2.1 pc = .ok (.return_, 1)) (hr : M.2.2.2.1 = none) (hc : nc ≤ M.2.2.2.2.cells) (hs : ns ≤ M.2.2.2.2.slots) : Ev M X none w pc lv [] w nc ns := fun p l e s m args below meth c Q D dA b A ad0 C E H locs ad ls B hl => E pc nc ns ls H locs ad ⟨hd, hr⟩ hc hs B
theorem ev_iret {v : Int32} {ty : FieldType} (hd : decode M.2.1 pc = .ok (.ireturn, 1)) (hr : M.2.2.2.1 = some ty) (hn : narrow ty (.int v) = .int v) (hc : nc ≤ M.2.2.2.2.cells) (hs : ns ≤ M.2.2.2.2.slots) : Ev M X (some (.int v)) w pc lv [.int v] w nc ns := fun p l e s m args below meth c Q D dA b A ad0 C E H locs ad ls B hl => E pc nc ns ls H locs ad ⟨hd, ty, hr, hn⟩ hc hs B
theorem ev_lret {v : Int64} (hd : decode M.2.1 pc = .ok (.lreturn, 1)) (hr : M.2.2.2.1 = some .long) (hc : nc ≤ M.2.2.2.2.cells) (hs : ns ≤ M.2.2.2.2.slots) : Ev M X (some (.long v)) w pc lv [.long v] w nc ns := fun p l e s m args below meth c Q D dA b A ad0 C E H locs ad ls B hl => E pc nc ns ls H locs ad ⟨hd, hr⟩ hc hs B
theorem ev_iald {j n : Nat} {f : Nat → Int32} {i : Int32} (hd : decode M.2.1 pc = .ok (.iaload, 1)) (hj : w[j]? = some (.inl (.int, n, .inl f))) (hin : vp_in i n) (k : Ev M X r wf (pc + 1) lv (.int (f i.toNatClampNeg) :: st) w nc ns) : Ev M X r wf pc lv (.int i :: .ref j :: st) w nc ns := fun p l e s m args below meth c Q D dA b A ad0 C E H locs ad ls B hl => va_iald (t0 := 0) C.1 C.2.1 (z_K1.one C.2.2.2.2.2.2.2.2.1 B.2.2.2.2.2.1 hj) B.2.2.2.1 j (z_w_at B.1 hj).2 rfl hin hd (k p l e s m args below meth c Q D dA b A ad0 C E H locs ad ls B hl)
theorem ev_zald {j n : Nat} {f : Nat → Int32} {i : Int32} (hd : decode M.2.1 pc = .ok (.baload, 1)) (hj : w[j]? = some (.inl (.boolean, n, .inl f))) (hin : vp_in i n) (k : Ev M X r wf (pc + 1) lv (.int (f i.toNatClampNeg) :: st) w nc ns) : Ev M X r wf pc lv (.int i :: .ref j :: st) w nc ns := fun p l e s m args below meth c Q D dA b A ad0 C E H locs ad ls B hl => va_zald (t0 := 0) C.1 C.2.1 (z_K1.one C.2.2.2.2.2.2.2.2.1 B.2.2.2.2.2.1 hj) B.2.2.2.1 j (z_w_at B.1 hj).2 rfl hin hd (k p l e s m args below meth c Q D dA b A ad0 C E H locs ad ls B hl)
theorem ev_lald {j n : Nat} {f : Nat → Int64} {i : Int32} (hd : decode M.2.1 pc = .ok (.laload, 1)) (hj : w[j]? = some (.inl (.long, n, .inr (.inl f)))) (hin : vp_in i n) (k : Ev M X r wf (pc + 1) lv (.long (f i.toNatClampNeg) :: st) w nc ns) : Ev M X r wf pc lv (.int i :: .ref j :: st) w nc ns := fun p l e s m args below meth c Q D dA b A ad0 C E H locs ad ls B hl => va_lald (t0 := 0) C.1 C.2.1 (z_K1.one C.2.2.2.2.2.2.2.2.1 B.2.2.2.2.2.1 hj) B.2.2.2.1 j (z_w_at B.1 hj).2 rfl hin hd (k p l e s m args below meth c Q D dA b A ad0 C E H locs ad ls B hl)
theorem ev_iast {j n : Nat} {f : Nat → Int32} {i : Int32} {x : Int32} (hd : decode M.2.1 pc = .ok (.iastore, 1)) (hj : w[j]? = some (.inl (.int, n, .inl f))) (hin : vp_in i n) (k : Ev M X r wf (pc + 1) lv st (w.set j (.inl (.int, n, .inl (upd f i.toNatClampNeg x)))) nc ns) : Ev M X r wf pc lv (.int x :: .int i :: .ref j :: st) w nc ns := fun p l e s m args below meth c Q D dA b A ad0 C E H locs ad ls B hl => va_iast (t0 := 0) C.1 C.2.1 (z_K1.one C.2.2.2.2.2.2.2.2.1 B.2.2.2.2.2.1 hj) B.2.2.2.1 B.2.2.2.2.1 B.2.2.2.2.2.2 j (z_w_at B.1 hj).2 rfl hin hd (fun H1 locs1 hP hD hS => k p l e s m args below meth c Q D dA b A ad0 C E H1 locs1 ad ls ⟨by rw [List.length_set]; exact B.1, B.2.1, B.2.2.1, by rw [← z_w_set B.1 hj]; exact hP, by rw [← z_w_set B.1 hj]; exact hD, z_K1.set B.2.2.2.2.2.1 (fun ty a h => by cases h; exact ⟨j, _, hj⟩), hS⟩ hl)
theorem ev_zast {j n : Nat} {f : Nat → Int32} {i : Int32} {x : Int32} (hd : decode M.2.1 pc = .ok (.bastore, 1)) (hj : w[j]? = some (.inl (.boolean, n, .inl f))) (hin : vp_in i n) (k : Ev M X r wf (pc + 1) lv st (w.set j (.inl (.boolean, n, .inl (upd f i.toNatClampNeg (vp_nar .boolean x))))) nc ns) : Ev M X r wf pc lv (.int x :: .int i :: .ref j :: st) w nc ns := fun p l e s m args below meth c Q D dA b A ad0 C E H locs ad ls B hl => va_zast (t0 := 0) C.1 C.2.1 (z_K1.one C.2.2.2.2.2.2.2.2.1 B.2.2.2.2.2.1 hj) B.2.2.2.1 B.2.2.2.2.1 B.2.2.2.2.2.2 j (z_w_at B.1 hj).2 rfl hin hd (fun H1 locs1 hP hD hS => k p l e s m args below meth c Q D dA b A ad0 C E H1 locs1 ad ls ⟨by rw [List.length_set]; exact B.1, B.2.1, B.2.2.1, by rw [← z_w_set B.1 hj]; exact hP, by rw [← z_w_set B.1 hj]; exact hD, z_K1.set B.2.2.2.2.2.1 (fun ty a h => by cases h; exact ⟨j, _, hj⟩), hS⟩ hl)
theorem ev_last {j n : Nat} {f : Nat → Int64} {i : Int32} {x : Int64} (hd : decode M.2.1 pc = .ok (.lastore, 1)) (hj : w[j]? = some (.inl (.long, n, .inr (.inl f)))) (hin : vp_in i n) (k : Ev M X r wf (pc + 1) lv st (w.set j (.inl (.long, n, .inr (.inl (vp_updL f i.toNatClampNeg x))))) nc ns) : Ev M X r wf pc lv (.long x :: .int i :: .ref j :: st) w nc ns := fun p l e s m args below meth c Q D dA b A ad0 C E H locs ad ls B hl => va_last (t0 := 0) C.1 C.2.1 (z_K1.one C.2.2.2.2.2.2.2.2.1 B.2.2.2.2.2.1 hj) B.2.2.2.1 B.2.2.2.2.1 B.2.2.2.2.2.2 j (z_w_at B.1 hj).2 rfl hin hd (fun H1 locs1 hP hD hS => k p l e s m args below meth c Q D dA b A ad0 C E H1 locs1 ad ls ⟨by rw [List.length_set]; exact B.1, B.2.1, B.2.2.1, by rw [← z_w_set B.1 hj]; exact hP, by rw [← z_w_set B.1 hj]; exact hD, z_K1.set B.2.2.2.2.2.1 (fun ty a h => by cases h; exact ⟨j, _, hj⟩), hS⟩ hl)
theorem ev_alen {j : Nat} {ty : FieldType} {x : vp_A} {v : Int32} (hd : decode M.2.1 pc = .ok (.arraylength, 1)) (hj : w[j]? = some (.inl (ty, x))) (hv : Int32.ofNat x.1 = v) (k : Ev M X r wf (pc + 1) lv (.int v :: st) w nc ns) : Ev M X r wf pc lv (.ref j :: st) w nc ns := fun p l e s m args below meth c Q D dA b A ad0 C E H locs ad ls B hl => va_alen (t0 := 0) C.1 C.2.1 (z_K1.one C.2.2.2.2.2.2.2.2.1 B.2.2.2.2.2.1 hj) B.2.2.2.1 j (z_w_at B.1 hj).2 rfl hv hd (k p l e s m args below meth c Q D dA b A ad0 C E H locs ad ls B hl)
/-- the script of the law: the place 1000000 -/
theorem z_far {D : va_G} {dA : FieldType → ClassId} {b : Nat} {ad0 ad : List Nat} {s : State} {H : Heap} {locs : List Loc} {A : Nat → Prop} (B : zB D dA b ad0 ad w s H locs A) : ad.getD 1000000 b = b := by
  rw [List.getD_eq_getElem?_getD, List.getElem?_eq_none (Nat.le_of_lt B.2.1)]
  rfl
theorem ev_sld {L : Nat} {xs : Nat → Int32} {i : Int32} (hd : decode M.2.1 pc = .ok (.iaload, 1)) (hin : vp_in i L) (k : Ev M (some (L, xs)) r wf (pc + 1) lv (.int (xs i.toNatClampNeg) :: st) w nc ns) : Ev M (some (L, xs)) r wf pc lv (.int i :: .ref 1000000 :: st) w nc ns := fun p l e s m args below meth c Q D dA b A ad0 C E H locs ad ls B hl => by
  obtain ⟨h1, h2, h3⟩ := C.2.2.2.2.2.2.2.1 L xs rfl
  show W _ _ _ _ _ _ _ _ _ _ _ _ _ _ _ (F0 m pc ls (.int i :: .ref (ad.getD 1000000 b) :: st.map (z_v b ad)))
  rw [z_far B]
  exact va_sld C.1 C.2.1 h1 h2 h3 B.2.2.2.2.2.2 hin hd (k p l e s m args below meth c Q D dA b A ad0 C E H locs ad ls B hl)
theorem ev_slen {L : Nat} {xs : Nat → Int32} (hd : decode M.2.1 pc = .ok (.arraylength, 1)) (k : Ev M (some (L, xs)) r wf (pc + 1) lv (.int (Int32.ofNat L) :: st) w nc ns) : Ev M (some (L, xs)) r wf pc lv (.ref 1000000 :: st) w nc ns := fun p l e s m args below meth c Q D dA b A ad0 C E H locs ad ls B hl => by
  obtain ⟨h1, h2, h3⟩ := C.2.2.2.2.2.2.2.1 L xs rfl
  show W _ _ _ _ _ _ _ _ _ _ _ _ _ _ _ (F0 m pc ls (.ref (ad.getD 1000000 b) :: st.map (z_v b ad)))
  rw [z_far B]
  exact va_slen C.1 C.2.1 h1 h2 h3 B.2.2.2.2.2.2 hd (k p l e s m args below meth c Q D dA b A ad0 C E H locs ad ls B hl)
/-- a field that an instruction of the class named own links: the k-th of the ci-th class -/
def zF (own : String) (idx ci k : Nat) : Prop := ∃ (C : String) (T : u_T) (N : Nat), vwCl[ci]? = some (C, T, N) ∧ k < N ∧ Cond.fieldLink own idx (T k).1 (T k).2.1 (T k).2.2.1 ∈ zG ∧ (∀ w ∈ u_ws C T N, w ∈ zG)
/-- and it may be written -/
def zFp (own : String) (idx ci k : Nat) (fin : Bool) (ty : FieldType) : Prop := ∃ (C : String) (T : u_T) (N : Nat) (ty0 : Nat → FieldType), vwCl[ci]? = some (C, T, N) ∧ k < N ∧ Cond.fieldLink own idx (T k).1 (T k).2.1 (T k).2.2.1 ∈ zG ∧ (∀ w ∈ u_ws C T N, w ∈ zG) ∧ (∀ k, k < N → parseFieldDescriptor (T k).2.2.1 = some (ty0 k)) ∧ (∀ a, a < N → ∀ b, b < N → a ≠ b → (T a).2.1 ≠ (T b).2.1) ∧ (T k).2.2.2 = fin ∧ (T k).1 = own ∧ parseFieldDescriptor (T k).2.2.1 = some ty
theorem ev_get {idx ci kf j : Nat} {fs : List Value} {v : Value} (hF : zF M.1.cls idx ci kf) (hd : decode M.2.1 pc = .ok (.getfield idx, 3)) (hj : w[j]? = some (.inr (ci, fs))) (hv : fs[kf]? = some v) (k : Ev M X r wf (pc + 3) lv (v :: st) w nc ns) : Ev M X r wf pc lv (.ref j :: st) w nc ns := fun p l e s m args below meth c Q D dA b A ad0 C E H locs ad ls B hl => by
  obtain ⟨Cn, T, N, h1, h2, h3, h4⟩ := hF
  exact va_get C.1 C.2.1 C.2.2.2.1 h4 C.2.2.2.2.1 C.2.2.2.2.2.2.2.2.1 B.2.2.2.1 j (z_w_at B.1 hj).2 h1 kf h2 (C.2.2.2.1 _ h3) (fun _ h9 => h9) (v := z_v b ad v) (by rw [List.getElem?_map, hv]; rfl) hd (k p l e s m args below meth c Q D dA b A ad0 C E H locs ad ls B hl)
theorem z_c_set {b : Nat} {ad : List Nat} {dA : FieldType → ClassId} {ci kf : Nat} {fs : List Value} {v : Value} : (Sum.inr (ci, (fs.map (z_v b ad)).set kf (z_v b ad v)) : va_E) = z_c b ad dA (.inr (ci, fs.set kf v)) := by
  show _ = Sum.inr (ci, (fs.set kf v).map (z_v b ad))
  rw [List.map_set]
theorem ev_put {idx ci kf j : Nat} {fs : List Value} {v : Value} {ty : FieldType} (hF : zFp M.1.cls idx ci kf false ty) (hd : decode M.2.1 pc = .ok (.putfield idx, 3)) (hj : w[j]? = some (.inr (ci, fs))) (hn : ∀ (b : Nat) (ad : List Nat), narrow ty (z_v b ad v) = z_v b ad v ∧ fits ty (z_v b ad v) = true) (hk : kf < fs.length) (k : Ev M X r wf (pc + 3) lv st (w.set j (.inr (ci, fs.set kf v))) nc ns) : Ev M X r wf pc lv (v :: .ref j :: st) w nc ns := fun p l e s m args below meth c Q D dA b A ad0 C E H locs ad ls B hl => by
  obtain ⟨Cn, T, N, ty0, h1, h2, h3, h4, h5, h6, h7, h8, h9⟩ := hF
  refine va_put C.1 C.2.1 C.2.2.2.1 h4 ty0 h5 h6 C.2.2.2.2.1 C.2.2.2.2.2.2.2.2.1 B.2.2.2.1 B.2.2.2.2.1 B.2.2.2.2.2.2 j (z_w_at B.1 hj).2 h1 kf h2 (C.2.2.2.1 _ h3) (fun _ h9 => h9) h7 h9 (hn b ad).1 (hn b ad).2 (by rw [List.length_map]; exact hk) hd (fun H1 locs1 hP hD hS => ?_)
  rw [z_c_set (dA := dA)] at hP hD
  exact k p l e s m args below meth c Q D dA b A ad0 C E H1 locs1 ad ls ⟨by rw [List.length_set]; exact B.1, B.2.1, B.2.2.1, by rw [← z_w_set B.1 hj]; exact hP, by rw [← z_w_set B.1 hj]; exact hD, z_K1.set B.2.2.2.2.2.1 (fun ty a h => by cases h), hS⟩ hl
theorem ev_putF {idx ci kf j : Nat} {fs : List Value} {v : Value} {ty : FieldType} (hF : zFp M.1.cls idx ci kf true ty) (hi : M.1.name = "<init>") (hd : decode M.2.1 pc = .ok (.putfield idx, 3)) (hj : w[j]? = some (.inr (ci, fs))) (hn : ∀ (b : Nat) (ad : List Nat), narrow ty (z_v b ad v) = z_v b ad v ∧ fits ty (z_v b ad v) = true) (hk : kf < fs.length) (k : Ev M X r wf (pc + 3) lv st (w.set j (.inr (ci, fs.set kf v))) nc ns) : Ev M X r wf pc lv (v :: .ref j :: st) w nc ns := fun p l e s m args below meth c Q D dA b A ad0 C E H locs ad ls B hl => by
  obtain ⟨Cn, T, N, ty0, h1, h2, h3, h4, h5, h6, h7, h8, h9⟩ := hF
  refine va_putF C.1 C.2.1 C.2.2.2.1 h4 ty0 h5 h6 C.2.2.2.2.1 C.2.2.2.2.2.2.2.2.1 B.2.2.2.1 B.2.2.2.2.1 B.2.2.2.2.2.2 j (z_w_at B.1 hj).2 h1 kf h2 (C.2.2.2.1 _ h3) (fun _ h9 => h9) h7 (C.2.2.2.2.2.1.trans hi) h8 h9 (hn b ad).1 (hn b ad).2 (by rw [List.length_map]; exact hk) hd (fun H1 locs1 hP hD hS => ?_)
  rw [z_c_set (dA := dA)] at hP hD
  exact k p l e s m args below meth c Q D dA b A ad0 C E H1 locs1 ad ls ⟨by rw [List.length_set]; exact B.1, B.2.1, B.2.2.1, by rw [← z_w_set B.1 hj]; exact hP, by rw [← z_w_set B.1 hj]; exact hD, z_K1.set B.2.2.2.2.2.1 (fun ty a h => by cases h), hS⟩ hl
/-- a class that an instruction makes an object of -/
def zNew (own : String) (idx ci : Nat) (fs : List Value) : Prop := ∃ (C : String) (T : u_T) (ty0 : Nat → FieldType), vwCl[ci]? = some (C, T, fs.length) ∧ (∀ w ∈ u_ws C T fs.length, w ∈ zG) ∧ (∀ k, k < fs.length → parseFieldDescriptor (T k).2.2.1 = some (ty0 k)) ∧ Cond.classLink own idx C ∈ zG ∧ Cond.instantiable C fs.length ∈ zG ∧ Cond.initialized C ∈ zG ∧ (∀ j, j < fs.length → defaultValue (ty0 j) = vp_V fs j)
theorem z_more {b : Nat} {ad : List Nat} {q : Nat} {ls : Array Slot} {n : Nat} (hb : ad.length + 1 < 1000000) (hlv : lv.all (fun q => z_ok ad.length q.2) = true) (hl : lv_has ls n (lv.map (fun q => (q.1, z_v b ad q.2)))) : lv_has ls n (lv.map (fun x => (x.1, z_v b (ad ++ [q]) x.2))) := by
  have h : lv.map (fun x => (x.1, z_v b (ad ++ [q]) x.2)) = lv.map (fun q => (q.1, z_v b ad q.2)) := by
    apply List.map_congr_left
    intro x hx
    rw [z_v_more hb (List.all_eq_true.mp hlv x hx)]
  rw [h]
  exact hl
theorem z_at_new {b : Nat} {ad : List Nat} {q : Nat} : (ad ++ [q]).getD ad.length b = q := by
  rw [List.getD_eq_getElem?_getD, List.getElem?_append_right (Nat.le_refl _), Nat.sub_self]
  rfl
theorem ev_new {idx ci : Nat} {fs : List Value} (hN : zNew M.1.cls idx ci fs) (hd : decode M.2.1 pc = .ok (.new idx, 3)) (hfs : fs.all z_nr = true) (hlen : w.length + 1 < 1000000) (hw : w.all (z_okc w.length) = true) (hlv : lv.all (fun q => z_ok w.length q.2) = true) (hst : st.all (z_ok w.length) = true) (hc : nc + 1 ≤ M.2.2.2.2.cells) (hs : ns + fs.length ≤ M.2.2.2.2.slots) (k : Ev M X r wf (pc + 3) lv (.ref w.length :: st) (w ++ [.inr (ci, fs)]) (nc + 1) (ns + fs.length)) : Ev M X r wf pc lv st w nc ns := fun p l e s m args below meth c Q D dA b A ad0 C E H locs ad ls B hl => by
  obtain ⟨Cn, T, ty0, h1, h2, h3, h4, h5, h6, h7⟩ := hN
  refine va_new C.1 C.2.1 C.2.2.2.1 h2 ty0 h3 C.2.2.2.2.1 (C.2.2.2.1 _ h4) (C.2.2.2.1 _ h5) (C.2.2.2.1 _ h6) C.2.2.2.2.2.2.2.2.1 B.2.2.2.1 B.2.2.2.2.1 B.2.2.2.2.2.2 C.2.2.2.2.2.2.1 h1 h7 hc hs hd (fun q H1 hP hD hS => ?_)
  have hb : ad.length + 1 < 1000000 := by rw [B.1]; exact hlen
  have hm : fs.map (z_v b (ad ++ [q])) = fs := by
    have : ∀ v ∈ fs, z_v b (ad ++ [q]) v = v := by
      intro v hv
      have h := List.all_eq_true.mp hfs v hv
      cases v with
      | ref j => cases h
      | _ => rfl
    exact (List.map_congr_left this).trans (List.map_id _)
  have e1 := z_w_push (b := b) (q := q) (dA := dA) (c := .inr (ci, fs)) B.1 hb hw
  have e2 : z_c b (ad ++ [q]) dA (.inr (ci, fs)) = .inr (ci, fs) := by
    show Sum.inr (ci, fs.map (z_v b (ad ++ [q]))) = Sum.inr (ci, fs)
    rw [hm]
  rw [e2] at e1
  have k1 := k p l e s m args below meth c Q D dA b A ad0 C E H1 locs (ad ++ [q]) ls ⟨by rw [List.length_append, List.length_append, B.1]; rfl, by rw [List.length_append]; exact hb, by obtain ⟨ad2, h⟩ := B.2.2.1; exact ⟨ad2 ++ [q], by rw [h, List.append_assoc]⟩, by rw [e1]; exact hP, by rw [e1]; exact hD, ?_, hS⟩ (z_more hb (by rw [B.1]; exact hlv) hl)
  · rw [List.map_cons, z_map_more hb (by rw [B.1]; exact hst)] at k1
    have e3 : z_v b (ad ++ [q]) (.ref w.length) = .ref q := by
      show Value.ref _ = Value.ref _
      rw [← B.1, z_at_new]
    rw [e3] at k1
    exact k1
  · intro j ty a hj
    rw [List.getElem?_append] at hj
    split at hj
    · exact B.2.2.2.2.2.1 j ty a hj
    · have hz := (List.getElem?_eq_some_iff.mp hj).1
      rw [show j - w.length = 0 by simp at hz; omega] at hj
      cases hj
theorem ev_newa {atype : ArrayType} {ty : FieldType} {n : Int32} {N : Nat} {a0 : vp_A} (hW : Cond.arrayClass ty ∈ zG) (hty : newarray.typeOf atype = ty) (ha : ∀ cA : ClassId, vp_cell cA a0 = arrV cA N (fun _ => defaultValue ty)) (hn : ¬ n < 0) (hN : n.toNatClampNeg = N) (hbytes : N * componentBytes ty ≤ 536870912) (hprim : ∀ (U : State) (cA : ClassId), va_RA U cA ty → U.vm.findClass ("[" ++ ty.toString) = some cA) (hd : decode M.2.1 pc = .ok (.newarray atype, 2)) (hlen : w.length + 1 < 1000000) (hw : w.all (z_okc w.length) = true) (hlv : lv.all (fun q => z_ok w.length q.2) = true) (hst : st.all (z_ok w.length) = true) (hc : nc + 1 ≤ M.2.2.2.2.cells) (hs : ns + N ≤ M.2.2.2.2.slots) (k : Ev M X r wf (pc + 2) lv (.ref w.length :: st) (w ++ [.inl (ty, a0)]) (nc + 1) (ns + N)) : Ev M X r wf pc lv (.int n :: st) w nc ns := fun p l e s m args below meth c Q D dA b A ad0 C E H locs ad ls B hl => by
  refine va_newa C.1 C.2.1 (by rw [hty]; exact C.2.2.2.1 _ hW) hty C.2.2.2.2.2.2.2.2.1 B.2.2.2.1 B.2.2.2.2.1 B.2.2.2.2.2.2 C.2.2.2.2.2.2.1 ha hn hN hbytes hc hs hd (fun q cA H1 hK hP hD hS => ?_)
  have hb : ad.length + 1 < 1000000 := by rw [B.1]; exact hlen
  have hKc := hK.2 0 (cA, ty) rfl
  have hcA : cA = dA ty := C.2.2.2.2.2.2.2.2.2.1 ty cA (hprim s cA hKc.2)
  subst hcA
  have e1 := z_w_push (b := b) (q := q) (dA := dA) (c := .inl (ty, a0)) B.1 hb hw
  have k1 := k p l e s m args below meth c Q D dA b A ad0 C E H1 locs (ad ++ [q]) ls ⟨by rw [List.length_append, List.length_append, B.1]; rfl, by rw [List.length_append]; exact hb, by obtain ⟨ad2, h⟩ := B.2.2.1; exact ⟨ad2 ++ [q], by rw [h, List.append_assoc]⟩, by rw [e1]; exact hP, by rw [e1]; exact hD, ?_, hS⟩ (z_more hb (by rw [B.1]; exact hlv) hl)
  · rw [List.map_cons, z_map_more hb (by rw [B.1]; exact hst)] at k1
    have e3 : z_v b (ad ++ [q]) (.ref w.length) = .ref q := by
      show Value.ref _ = Value.ref _
      rw [← B.1, z_at_new]
    rw [e3] at k1
    exact k1
  · intro j ty' a hj
    rw [List.getElem?_append] at hj
    split at hj
    · exact B.2.2.2.2.2.1 j ty' a hj
    · have hz := (List.getElem?_eq_some_iff.mp hj).1
      rw [show j - w.length = 0 by simp at hz; omega] at hj
      cases hj
      exact hKc
/-- the callee's words, and that it may be called from the class named own -/
def zCb (M' : zM) (n : Nat) : Prop := Cond.code M'.1 M'.2.1 M'.2.2.1 M'.2.2.2.1 ∈ zG ∧ Cond.initialized M'.1.cls ∈ zG ∧ M'.1.cls ≠ "java/lang/invoke/MethodHandle" ∧ M'.1.cls ≠ "java/lang/invoke/VarHandle" ∧ (parseMethodDescriptor M'.1.desc).map (fun d => d.parameters.length) = some n
def zLk (own : String) (idx : Nat) (y : MethodName) : Prop := Cond.methodLink own idx y ∈ zG ∨ ∃ host : String, Cond.methodLinkNest own idx y host ∈ zN
def zV (own : String) (idx ci : Nat) (M' : zM) (n : Nat) : Prop := zCb M' n ∧ zLk own idx M'.1 ∧ Cond.instanceMethod M'.1 ∈ zG ∧ Cond.selects M'.1.cls M'.1 M'.1 ∈ zG ∧ ∃ (T : u_T) (N : Nat), vwCl[ci]? = some (M'.1.cls, T, N)
def zS (own : String) (idx : Nat) (M' : zM) (n : Nat) : Prop := zCb M' n ∧ zLk own idx M'.1 ∧ Cond.static M'.1 ∈ zG
def zI (own : String) (idx : Nat) (M' : zM) (n : Nat) : Prop := zCb M' n ∧ zLk own idx M'.1 ∧ Cond.instanceMethod M'.1 ∈ zG ∧ M'.1.name = "<init>" ∧ M'.2.2.2.1 = none
abbrev zRm (M M' : zM) (nc ns : Nat) : Prop := (M'.2.2.2.2.frames + 1 ≤ M.2.2.2.2.frames ∧ 8 + (M'.2.2.1 + 11) + M'.2.2.2.2.locals ≤ M.2.2.2.2.locals) ∧ nc + M'.2.2.2.2.cells ≤ M.2.2.2.2.cells ∧ ns + M'.2.2.2.2.slots ≤ M.2.2.2.2.slots
theorem z_blind {D : va_G} {dA : FieldType → ClassId} {b : Nat} {ad : List Nat} {sz : Nat} {av : List Value} : FrameBlind (va_Pc av (z_P D dA b ad w sz)) := by
  intro a U g mk q
  obtain ⟨q0, q1, qP, qK0, qK1, qD⟩ := q
  exact ⟨q0, q1, qP, z_K0.same (s := U) (U := U.calling g mk a) rfl qK0, z_K1.moved (s := U) (U := U.calling g mk a) (Vm.Alike.refl U.vm) qK1, qD⟩
theorem z_pre {D : va_G} {dA : FieldType → ClassId} {b : Nat} {ad0 ad : List Nat} {s : State} {H : Heap} {locs : List Loc} {A : Nat → Prop} {as : List Value} (B : zB D dA b ad0 ad w s H locs A) (hK : z_K0 D dA s) : ∀ U : State, U.heap = H → s.WarmedH U.vm → va_Pc (as.map (z_v b ad)) (z_P D dA b ad w H.size) (as.map (z_v b ad)).toArray U := by
  intro U hU hW
  refine ⟨rfl, by rw [hU], by rw [hU]; exact B.2.2.2.1, z_K0.moved hW hK, z_K1.moved hW.alike B.2.2.2.2.2.1, B.2.2.2.2.1.weaken (fun _ _ _ _ => trivial)⟩
theorem z_back {p : Program} {l : Launch} {e : Env} {R : Room} {s : State} {m : MethodId} {args : Array Value} {below : List Frame} {meth : Method} {c : Code} {H : Heap} {locs : List Loc} {cells slots mc ms : Nat} {Q : State → Prop} {D : va_G} {dA : FieldType → ClassId} {b : Nat} {ad0 ad : List Nat} {A : Nat → Prop} {ls : Array Slot} {st0 rest : List Value} {r1 : Option Value} {w1 : zW} {a : Array Value}
    (hr : va_Run p l e R s m args below meth c H locs cells slots mc ms (F0 m pc ls st0) rest (z_Q D dA b ad w H.size r1 w1 a) (va_A (z_w b ad dA w) H.size)) (hA : ∀ q, s.heap.size ≤ q → A q) (B : zB D dA b ad0 ad w s H locs A)
    (kk : ∀ (H1 : Heap) (locs1 : List Loc) (ad' : List Nat), (∃ ad2, ad' = ad ++ ad2) → zB D dA b ad0 ad' w1 s H1 locs1 A → W p l e R s m args below meth c H1 locs1 (cells + mc) (slots + ms) Q (F0 m (pc + 3) ls ((r1.map (z_v b ad')).toList ++ rest))) : W p l e R s m args below meth c H locs cells slots Q (F0 m pc ls st0) := by
  intro T hT X
  obtain ⟨v, st₀, t, T', L, h0, X', hL, e1, e2, ⟨⟨ad', hp, g1, g2, hv, hP1, hK1, hD1⟩, hz, hk⟩, st⟩ := hr T hT X
  cases hv
  rw [h0] at hz hk
  have hF : ∀ q, va_A (z_w b ad dA w) H.size q → A q := by
    intro q hq
    rcases hq with ⟨k, e, h⟩ | h
    · exact B.2.2.2.2.1.2 k (q, e) h
    · exact hA q (Nat.le_trans B.2.2.2.2.2.2.1 h)
  have hS := B.2.2.2.2.2.2
  obtain ⟨t2, a1, b1⟩ := kk T'.heap (locs ++ L) ad' hp ⟨g1, g2, by obtain ⟨x, hx⟩ := B.2.2.1; obtain ⟨y, hy⟩ := hp; exact ⟨x ++ y, by rw [hy, hx, List.append_assoc]⟩, by rw [e1]; exact hP1, hD1.weaken (fun _ q _ h => hF q.1 h), z_K1.moved (by have h := X'.warmed.alike; rw [e2] at h; exact h.symm) hK1,
    ⟨Nat.le_trans hS.1 (by rw [e1]; exact hz), fun q h1 h2 => by rw [e1, hk q (Nat.lt_of_lt_of_le h1 hS.1) (fun z => h2 (hF q z))]; exact hS.2.1 q h1 h2, fun q hq => by
      rcases List.mem_append.mp hq with h | h
      · exact hS.2.2 q h
      · exact hF _ (hL q h)⟩⟩ T' rfl X'
  exact ⟨t2, st t2 a1, b1⟩
theorem ev_callV (M' : zM) (As : List Value) {n idx : Nat} {ci j : Nat} {fs : List Value}  {r1 : Option Value} {w1 : zW} (hs : Sp M' (.ref j :: As) w r1 w1) (hz : zV M.1.cls idx ci M' n) (hd : decode M.2.1 pc = .ok (.invokevirtual idx, 3)) (hj : w[j]? = some (.inr (ci, fs))) (hn : As.length = n) (hR : zRm M M' nc ns) (hcat : (st.map fun v => v.category).sum ≤ 8) (h0 : M'.2.2.2.2.cells = 0 ∧ M'.2.2.2.2.slots = 0) (hlen : w1.length = w.length) (k : Ev M X r wf (pc + 3) lv (r1.toList ++ st) w1 nc ns) : Ev M X r wf pc lv (As.reverse ++ .ref j :: st) w nc ns := fun p l e s m args below meth c Q D dA b A ad0 C E H locs ad ls B hl => by
  obtain ⟨⟨c1, c2, c3, c4, c5⟩, c6, c7, c8, Tt, Nn, c9⟩ := hz
  have hsum : ((st.map (z_v b ad)).map fun v => v.category).sum ≤ 8 := by
    have h : (st.map (z_v b ad)).map (fun v => v.category) = st.map (fun v => v.category) := by
      rw [List.map_map]
      apply List.map_congr_left
      intro v _
      exact z_v_cat b ad v
    rw [h]
    exact hcat
  refine z_back (mc := M'.2.2.2.2.cells) (ms := M'.2.2.2.2.slots) (ad0 := ad0) (r1 := r1) (w1 := w1) (rest := st.map (z_v b ad)) (a := ((.ref j :: As).map (z_v b ad)).toArray) ?_ C.2.2.2.2.2.2.1 B (fun H1 locs1 ad' hp B' => ?_)
  · rcases c6 with c6 | ⟨host, c6⟩
    · exact va_runV (n := n) (As := As.map (z_v b ad)) (rest := st.map (z_v b ad)) (b := ad.getD j b) ⟨C.1, C.2.1, C.2.2.1, C.2.2.2.2.1, C.2.2.2.1⟩ (hs l D dA b ad H.size B.1 B.2.1) ⟨callB_of n C.2.2.2.1 (z_goodIn c1) rfl rfl rfl (C.2.2.2.1 _ c2) (C.2.2.2.1 _ c6) ⟨c3, c4, c5⟩ hR.1, C.2.2.2.1 _ c7, C.2.2.2.1 _ c8⟩ ⟨z_blind, va_recv C.2.2.2.2.2.2.2.2.1 B.2.2.2.1 c9 (z_w_at B.1 hj).2, z_pre (as := .ref j :: As) B C.2.2.2.2.2.2.2.2⟩ rfl (by rw [List.length_map]; exact hn) hl.1 (by rw [List.map_append, List.map_reverse] <;> rfl) (lv_room hsum) hd hR.2
    · exact va_runVN (n := n) (As := As.map (z_v b ad)) (rest := st.map (z_v b ad)) (b := ad.getD j b) ⟨C.1, C.2.1, C.2.2.1, C.2.2.2.2.1, C.2.2.2.1⟩ (hs l D dA b ad H.size B.1 B.2.1) ⟨va_cnB n C.2.2.2.1 (z_goodIn c1) rfl rfl rfl (C.2.2.2.2.2.2.2.2.2.2 _ c6) (C.2.2.2.1 _ c2) ⟨c3, c4, c5⟩ hR.1, C.2.2.2.1 _ c7, C.2.2.2.1 _ c8⟩ ⟨z_blind, va_recv C.2.2.2.2.2.2.2.2.1 B.2.2.2.1 c9 (z_w_at B.1 hj).2, z_pre (as := .ref j :: As) B C.2.2.2.2.2.2.2.2⟩ rfl (by rw [List.length_map]; exact hn) hl.1 (by rw [List.map_append, List.map_reverse] <;> rfl) (lv_room hsum) hd hR.2
  obtain ⟨ad2, rfl⟩ := hp
  have h0 : ad2 = [] := by
    have := B'.1
    rw [List.length_append, hlen, B.1] at this
    exact List.length_eq_zero_iff.mp (by omega)
  subst h0
  rw [List.append_nil] at B' ⊢
  have k1 := k p l e s m args below meth c Q D dA b A ad0 C E H1 locs1 ad ls B' hl
  have e9 : ((r1.map (z_v b ad)).toList ++ st.map (z_v b ad)) = (r1.toList ++ st).map (z_v b ad) := by
    cases r1 <;> simp
  rw [e9, h0.1, h0.2]
  exact k1
theorem ev_callS (M' : zM) (As : List Value) {n idx : Nat}  {r1 : Option Value} {w1 : zW} (hs : Sp M' (As) w r1 w1) (hz : zS M.1.cls idx M' n) (hd : decode M.2.1 pc = .ok (.invokestatic idx, 3)) (hn : As.length = n) (hR : zRm M M' nc ns) (hcat : (st.map fun v => v.category).sum ≤ 8) (h0 : M'.2.2.2.2.cells = 0 ∧ M'.2.2.2.2.slots = 0) (hlen : w1.length = w.length) (k : Ev M X r wf (pc + 3) lv (r1.toList ++ st) w1 nc ns) : Ev M X r wf pc lv (As.reverse ++ st) w nc ns := fun p l e s m args below meth c Q D dA b A ad0 C E H locs ad ls B hl => by
  obtain ⟨⟨c1, c2, c3, c4, c5⟩, c6, c7⟩ := hz
  have hsum : ((st.map (z_v b ad)).map fun v => v.category).sum ≤ 8 := by
    have h : (st.map (z_v b ad)).map (fun v => v.category) = st.map (fun v => v.category) := by
      rw [List.map_map]
      apply List.map_congr_left
      intro v _
      exact z_v_cat b ad v
    rw [h]
    exact hcat
  refine z_back (mc := M'.2.2.2.2.cells) (ms := M'.2.2.2.2.slots) (ad0 := ad0) (r1 := r1) (w1 := w1) (rest := st.map (z_v b ad)) (a := ((As).map (z_v b ad)).toArray) ?_ C.2.2.2.2.2.2.1 B (fun H1 locs1 ad' hp B' => ?_)
  · rcases c6 with c6 | ⟨host, c6⟩
    · exact va_runS (n := n) (As := As.map (z_v b ad)) (rest := st.map (z_v b ad)) ⟨C.1, C.2.1, C.2.2.1, C.2.2.2.2.1, C.2.2.2.1⟩ (hs l D dA b ad H.size B.1 B.2.1) ⟨callB_of n C.2.2.2.1 (z_goodIn c1) rfl rfl rfl (C.2.2.2.1 _ c2) (C.2.2.2.1 _ c6) ⟨c3, c4, c5⟩ hR.1, C.2.2.2.1 _ c7⟩ ⟨z_blind, z_pre (as := As) B C.2.2.2.2.2.2.2.2⟩ rfl (by rw [List.length_map]; exact hn) hl.1 (by rw [List.map_append, List.map_reverse] <;> rfl) (lv_room hsum) hd hR.2
    · exact va_runSN (n := n) (As := As.map (z_v b ad)) (rest := st.map (z_v b ad)) ⟨C.1, C.2.1, C.2.2.1, C.2.2.2.2.1, C.2.2.2.1⟩ (hs l D dA b ad H.size B.1 B.2.1) ⟨va_cnB n C.2.2.2.1 (z_goodIn c1) rfl rfl rfl (C.2.2.2.2.2.2.2.2.2.2 _ c6) (C.2.2.2.1 _ c2) ⟨c3, c4, c5⟩ hR.1, C.2.2.2.1 _ c7, trivial⟩ ⟨z_blind, z_pre (as := As) B C.2.2.2.2.2.2.2.2⟩ rfl (by rw [List.length_map]; exact hn) hl.1 (by rw [List.map_append, List.map_reverse] <;> rfl) (lv_room hsum) hd hR.2
  obtain ⟨ad2, rfl⟩ := hp
  have h0 : ad2 = [] := by
    have := B'.1
    rw [List.length_append, hlen, B.1] at this
    exact List.length_eq_zero_iff.mp (by omega)
  subst h0
  rw [List.append_nil] at B' ⊢
  have k1 := k p l e s m args below meth c Q D dA b A ad0 C E H1 locs1 ad ls B' hl
  have e9 : ((r1.map (z_v b ad)).toList ++ st.map (z_v b ad)) = (r1.toList ++ st).map (z_v b ad) := by
    cases r1 <;> simp
  rw [e9, h0.1, h0.2]
  exact k1
theorem ev_callI (M' : zM) (As : List Value) {n idx : Nat} {j : Nat}  {w1 : zW} (hs : Sp M' (.ref j :: As) w none w1) (hz : zI M.1.cls idx M' n) (hd : decode M.2.1 pc = .ok (.invokespecial idx, 3)) (hn : As.length = n) (hR : zRm M M' nc ns) (hcat : (st.map fun v => v.category).sum ≤ 8) (hlen : w1.length = w.length) (k : Ev M X r wf (pc + 3) lv (st) w1 (nc + M'.2.2.2.2.cells) (ns + M'.2.2.2.2.slots)) : Ev M X r wf pc lv (As.reverse ++ .ref j :: st) w nc ns := fun p l e s m args below meth c Q D dA b A ad0 C E H locs ad ls B hl => by
  obtain ⟨⟨c1, c2, c3, c4, c5⟩, c6, c7, c8, c9⟩ := hz
  have hsum : ((st.map (z_v b ad)).map fun v => v.category).sum ≤ 8 := by
    have h : (st.map (z_v b ad)).map (fun v => v.category) = st.map (fun v => v.category) := by
      rw [List.map_map]
      apply List.map_congr_left
      intro v _
      exact z_v_cat b ad v
    rw [h]
    exact hcat
  refine z_back (mc := M'.2.2.2.2.cells) (ms := M'.2.2.2.2.slots) (ad0 := ad0) (r1 := none) (w1 := w1) (rest := st.map (z_v b ad)) (a := ((.ref j :: As).map (z_v b ad)).toArray) ?_ C.2.2.2.2.2.2.1 B (fun H1 locs1 ad' hp B' => ?_)
  · rcases c6 with c6 | ⟨host, c6⟩
    · exact va_runI (n := n) (As := As.map (z_v b ad)) (rest := st.map (z_v b ad)) (b := ad.getD j b) ⟨C.1, C.2.1, C.2.2.1, C.2.2.2.2.1, C.2.2.2.1⟩ (hs l D dA b ad H.size B.1 B.2.1) ⟨(by rw [← c9]; exact callB_of n C.2.2.2.1 (z_goodIn c1) rfl rfl rfl (C.2.2.2.1 _ c2) (C.2.2.2.1 _ c6) ⟨c3, c4, c5⟩ hR.1), c8, C.2.2.2.1 _ c7⟩ ⟨z_blind, z_pre (as := .ref j :: As) B C.2.2.2.2.2.2.2.2⟩ rfl (by rw [List.length_map]; exact hn) hl.1 (by rw [List.map_append, List.map_reverse] <;> rfl) (lv_room hsum) hd hR.2
    · exact va_runIN (n := n) (As := As.map (z_v b ad)) (rest := st.map (z_v b ad)) (b := ad.getD j b) ⟨C.1, C.2.1, C.2.2.1, C.2.2.2.2.1, C.2.2.2.1⟩ (hs l D dA b ad H.size B.1 B.2.1) ⟨(by rw [← c9]; exact va_cnB n C.2.2.2.1 (z_goodIn c1) rfl rfl rfl (C.2.2.2.2.2.2.2.2.2.2 _ c6) (C.2.2.2.1 _ c2) ⟨c3, c4, c5⟩ hR.1), c8, C.2.2.2.1 _ c7⟩ ⟨z_blind, z_pre (as := .ref j :: As) B C.2.2.2.2.2.2.2.2⟩ rfl (by rw [List.length_map]; exact hn) hl.1 (by rw [List.map_append, List.map_reverse] <;> rfl) (lv_room hsum) hd hR.2
  obtain ⟨ad2, rfl⟩ := hp
  have h0 : ad2 = [] := by
    have := B'.1
    rw [List.length_append, hlen, B.1] at this
    exact List.length_eq_zero_iff.mp (by omega)
  subst h0
  rw [List.append_nil] at B' ⊢
  have k1 := k p l e s m args below meth c Q D dA b A ad0 C E H1 locs1 ad ls B' hl
  exact k1
theorem ev_callIG (M' : zM) (As : List Value) {n idx : Nat} {j : Nat}  {w1 : zW} (hs : Sp M' (.ref j :: As) w none w1) (hz : zI M.1.cls idx M' n) (hd : decode M.2.1 pc = .ok (.invokespecial idx, 3)) (hn : As.length = n) (hR : zRm M M' nc ns) (hcat : (st.map fun v => v.category).sum ≤ 8) (hlv : lv.all (fun q => z_ok w.length q.2) = true) (hst : st.all (z_ok w.length) = true) (k : Ev M X r wf (pc + 3) lv (st) w1 (nc + M'.2.2.2.2.cells) (ns + M'.2.2.2.2.slots)) : Ev M X r wf pc lv (As.reverse ++ .ref j :: st) w nc ns := fun p l e s m args below meth c Q D dA b A ad0 C E H locs ad ls B hl => by
  obtain ⟨⟨c1, c2, c3, c4, c5⟩, c6, c7, c8, c9⟩ := hz
  have hsum : ((st.map (z_v b ad)).map fun v => v.category).sum ≤ 8 := by
    have h : (st.map (z_v b ad)).map (fun v => v.category) = st.map (fun v => v.category) := by
      rw [List.map_map]
      apply List.map_congr_left
      intro v _
      exact z_v_cat b ad v
    rw [h]
    exact hcat
  refine z_back (mc := M'.2.2.2.2.cells) (ms := M'.2.2.2.2.slots) (ad0 := ad0) (r1 := none) (w1 := w1) (rest := st.map (z_v b ad)) (a := ((.ref j :: As).map (z_v b ad)).toArray) ?_ C.2.2.2.2.2.2.1 B (fun H1 locs1 ad' hp B' => ?_)
  · rcases c6 with c6 | ⟨host, c6⟩
    · exact va_runI (n := n) (As := As.map (z_v b ad)) (rest := st.map (z_v b ad)) (b := ad.getD j b) ⟨C.1, C.2.1, C.2.2.1, C.2.2.2.2.1, C.2.2.2.1⟩ (hs l D dA b ad H.size B.1 B.2.1) ⟨(by rw [← c9]; exact callB_of n C.2.2.2.1 (z_goodIn c1) rfl rfl rfl (C.2.2.2.1 _ c2) (C.2.2.2.1 _ c6) ⟨c3, c4, c5⟩ hR.1), c8, C.2.2.2.1 _ c7⟩ ⟨z_blind, z_pre (as := .ref j :: As) B C.2.2.2.2.2.2.2.2⟩ rfl (by rw [List.length_map]; exact hn) hl.1 (by rw [List.map_append, List.map_reverse] <;> rfl) (lv_room hsum) hd hR.2
    · exact va_runIN (n := n) (As := As.map (z_v b ad)) (rest := st.map (z_v b ad)) (b := ad.getD j b) ⟨C.1, C.2.1, C.2.2.1, C.2.2.2.2.1, C.2.2.2.1⟩ (hs l D dA b ad H.size B.1 B.2.1) ⟨(by rw [← c9]; exact va_cnB n C.2.2.2.1 (z_goodIn c1) rfl rfl rfl (C.2.2.2.2.2.2.2.2.2.2 _ c6) (C.2.2.2.1 _ c2) ⟨c3, c4, c5⟩ hR.1), c8, C.2.2.2.1 _ c7⟩ ⟨z_blind, z_pre (as := .ref j :: As) B C.2.2.2.2.2.2.2.2⟩ rfl (by rw [List.length_map]; exact hn) hl.1 (by rw [List.map_append, List.map_reverse] <;> rfl) (lv_room hsum) hd hR.2
  obtain ⟨ad2, rfl⟩ := hp
  have k1 := k p l e s m args below meth c Q D dA b A ad0 C E H1 locs1 (ad ++ ad2) ls B' (by
    have h : lv.map (fun x => (x.1, z_v b (ad ++ ad2) x.2)) = lv.map (fun q => (q.1, z_v b ad q.2)) := by
      apply List.map_congr_left
      intro x hx
      rw [z_over w.length B.1 B'.2.1 (List.all_eq_true.mp hlv x hx)]
    rw [h]
    exact hl)
  have hst' : st.map (z_v b (ad ++ ad2)) = st.map (z_v b ad) := by
    apply List.map_congr_left
    intro x hx
    rw [z_over w.length B.1 B'.2.1 (List.all_eq_true.mp hst x hx)]
  rw [hst'] at k1
  exact k1
theorem ev_objInit {idx j : Nat} (h1 : Cond.methodLink M.1.cls idx objectInit ∈ zG) (h2 : Cond.instanceMethod objectInit ∈ zG) (h3 : Cond.code objectInit ⟨#[0xb1]⟩ 1 none ∈ zG) (hd : decode M.2.1 pc = .ok (.invokespecial idx, 3)) (hf : 1 ≤ M.2.2.2.2.frames) (hlo : (st.map fun v => v.category).sum + 12 ≤ M.2.2.2.2.locals) (k : Ev M X r wf (pc + 3) lv st w nc ns) : Ev M X r wf pc lv (.ref j :: st) w nc ns := fun p l e s m args below meth c Q D dA b A ad0 C E H locs ad ls B hl => by
  have hsum : 2 * (F0 m pc ls ((Value.ref j :: st).map (z_v b ad))).monitorRoom + ((st.map (z_v b ad)).map fun v => v.category).sum + 12 ≤ M.2.2.2.2.locals := by
    have h : (st.map (z_v b ad)).map (fun v => v.category) = st.map (fun v => v.category) := by
      rw [List.map_map]
      apply List.map_congr_left
      intro v _
      exact z_v_cat b ad v
    rw [h]
    show 2 * 0 + _ + 12 ≤ _
    omega
  exact W.objInit C.1 C.2.1 C.2.2.2.2.1 (C.2.2.2.1 _ h1) (C.2.2.2.1 _ h2) (C.2.2.2.1 _ h3) rfl (by rw [C.2.2.1]; exact hl.1) (a := ad.getD j b) (rest := st.map (z_v b ad)) rfl hd hf hsum (k p l e s m args below meth c Q D dA b A ad0 C E H locs ad ls B hl)
theorem ev_mabs {idx : Nat} {x : Int32} (h1 : Cond.methodLink M.1.cls idx Lib.Math.abs.name ∈ zG) (h2 : Cond.static Lib.Math.abs.name ∈ zG) (h3 : Cond.initialized "java/lang/Math" ∈ zG) (h4 : Cond.code Lib.Math.abs.name Lib.Math.abs.code 1 (some .int) ∈ zG) (hd : decode M.2.1 pc = .ok (.invokestatic idx, 3)) (hf : 1 ≤ M.2.2.2.2.frames) (hlo : (st.map fun v => v.category).sum + 13 ≤ M.2.2.2.2.locals) (hc : nc ≤ M.2.2.2.2.cells) (hs : ns ≤ M.2.2.2.2.slots) (k : Ev M X r wf (pc + 3) lv (.int (if 0 ≤ x then x else 0 - x) :: st) w nc ns) : Ev M X r wf pc lv (.int x :: st) w nc ns := fun p l e s m args below meth c Q D dA b A ad0 C E H locs ad ls B hl => by
  have h : (st.map (z_v b ad)).map (fun v => v.category) = st.map (fun v => v.category) := by
    rw [List.map_map]
    apply List.map_congr_left
    intro v _
    exact z_v_cat b ad v
  exact va_mabs C.1 C.2.1 (C.2.2.1.trans hl.1.symm) C.2.2.2.2.1 (C.2.2.2.1 _ h1) (C.2.2.2.1 _ h2) (C.2.2.2.1 _ h3) (C.2.2.2.1 _ h4) hf (by rw [h]; exact hlo) hc hs hd (k p l e s m args below meth c Q D dA b A ad0 C E H locs ad ls B hl)
theorem ev_mmin {idx : Nat} {x y : Int32} (h1 : Cond.methodLink M.1.cls idx Lib.Math.min.name ∈ zG) (h2 : Cond.static Lib.Math.min.name ∈ zG) (h3 : Cond.initialized "java/lang/Math" ∈ zG) (h4 : Cond.code Lib.Math.min.name Lib.Math.min.code 2 (some .int) ∈ zG) (hd : decode M.2.1 pc = .ok (.invokestatic idx, 3)) (hf : 1 ≤ M.2.2.2.2.frames) (hlo : (st.map fun v => v.category).sum + 13 ≤ M.2.2.2.2.locals) (hc : nc ≤ M.2.2.2.2.cells) (hs : ns ≤ M.2.2.2.2.slots) (k : Ev M X r wf (pc + 3) lv (.int (if y < x then y else x) :: st) w nc ns) : Ev M X r wf pc lv (.int y :: .int x :: st) w nc ns := fun p l e s m args below meth c Q D dA b A ad0 C E H locs ad ls B hl => by
  have h : (st.map (z_v b ad)).map (fun v => v.category) = st.map (fun v => v.category) := by
    rw [List.map_map]
    apply List.map_congr_left
    intro v _
    exact z_v_cat b ad v
  exact va_mmin C.1 C.2.1 (C.2.2.1.trans hl.1.symm) C.2.2.2.2.1 (C.2.2.2.1 _ h1) (C.2.2.2.1 _ h2) (C.2.2.2.1 _ h3) (C.2.2.2.1 _ h4) hf (by rw [h]; exact hlo) hc hs hd (k p l e s m args below meth c Q D dA b A ad0 C E H locs ad ls B hl)
theorem ev_mmax {idx : Nat} {x y : Int32} (h1 : Cond.methodLink M.1.cls idx Lib.Math.max.name ∈ zG) (h2 : Cond.static Lib.Math.max.name ∈ zG) (h3 : Cond.initialized "java/lang/Math" ∈ zG) (h4 : Cond.code Lib.Math.max.name Lib.Math.max.code 2 (some .int) ∈ zG) (hd : decode M.2.1 pc = .ok (.invokestatic idx, 3)) (hf : 1 ≤ M.2.2.2.2.frames) (hlo : (st.map fun v => v.category).sum + 13 ≤ M.2.2.2.2.locals) (hc : nc ≤ M.2.2.2.2.cells) (hs : ns ≤ M.2.2.2.2.slots) (k : Ev M X r wf (pc + 3) lv (.int (if x < y then y else x) :: st) w nc ns) : Ev M X r wf pc lv (.int y :: .int x :: st) w nc ns := fun p l e s m args below meth c Q D dA b A ad0 C E H locs ad ls B hl => by
  have h : (st.map (z_v b ad)).map (fun v => v.category) = st.map (fun v => v.category) := by
    rw [List.map_map]
    apply List.map_congr_left
    intro v _
    exact z_v_cat b ad v
  exact va_mmax C.1 C.2.1 (C.2.2.1.trans hl.1.symm) C.2.2.2.2.1 (C.2.2.2.1 _ h1) (C.2.2.2.1 _ h2) (C.2.2.2.1 _ h3) (C.2.2.2.1 _ h4) hf (by rw [h]; exact hlo) hc hs hd (k p l e s m args below meth c Q D dA b A ad0 C E H locs ad ls B hl)
theorem ev_copyi {idx j0 j1 n0 n1 : Nat} {f g : Nat → Int32} {sp dp n : Int32} (h1 : Cond.methodLink M.1.cls idx arraycopyName ∈ zG) (h2 : Cond.native arraycopyName ∈ zG) (h3 : Cond.static arraycopyName ∈ zG) (h4 : Cond.initialized "java/lang/System" ∈ zG) (hd : decode M.2.1 pc = .ok (.invokestatic idx, 3)) (hj0 : w[j0]? = some (.inl (.int, n0, .inl f))) (hj1 : w[j1]? = some (.inl (.int, n1, .inl g))) (a1 : ¬ sp < 0) (a2 : ¬ dp < 0) (a3 : ¬ n < 0) (a4 : sp.toNatClampNeg + n.toNatClampNeg ≤ n0) (a5 : dp.toNatClampNeg + n.toNatClampNeg ≤ n1) (hf : 1 ≤ M.2.2.2.2.frames) (hlo : (st.map fun v => v.category).sum + (nativeFrameWords "java/lang/System" "arraycopy" 5 + 11) ≤ M.2.2.2.2.locals) (k : Ev M X r wf (pc + 3) lv st (w.set j1 (.inl (.int, n1, .inl (va_cpy f g sp.toNatClampNeg dp.toNatClampNeg n.toNatClampNeg)))) nc ns) : Ev M X r wf pc lv (.int n :: .int dp :: .ref j1 :: .int sp :: .ref j0 :: st) w nc ns := fun p l e s m args below meth c Q D dA b A ad0 C E H locs ad ls B hl => by
  have h : (st.map (z_v b ad)).map (fun v => v.category) = st.map (fun v => v.category) := by
    rw [List.map_map]
    apply List.map_congr_left
    intro v _
    exact z_v_cat b ad v
  refine va_copyi (t0 := 0) (t1 := 0) (ty := .int) C.1 C.2.1 (C.2.2.1.trans hl.1.symm) C.2.2.2.2.1 (C.2.2.2.1 _ h1) (C.2.2.2.1 _ h2) (C.2.2.2.1 _ h3) (C.2.2.2.1 _ h4) (z_K1.one C.2.2.2.2.2.2.2.2.1 B.2.2.2.2.2.1 hj0) B.2.2.2.1 B.2.2.2.2.1 B.2.2.2.2.2.2 j0 j1 (z_w_at B.1 hj0).2 (z_w_at B.1 hj1).2 rfl rfl rfl a1 a2 a3 a4 a5 (fun _ _ => rfl) hf (by rw [h]; exact hlo) hd (fun H1 locs1 hP hD hS => ?_)
  have e1 : (z_w b ad dA w).set j1 (ad.getD j1 b, .inl (dA .int, n1, .inl (va_cpy f g sp.toNatClampNeg dp.toNatClampNeg n.toNatClampNeg))) = z_w b ad dA (w.set j1 (.inl (.int, n1, .inl (va_cpy f g sp.toNatClampNeg dp.toNatClampNeg n.toNatClampNeg)))) := z_w_set (c := .inl (.int, n1, .inl (va_cpy f g sp.toNatClampNeg dp.toNatClampNeg n.toNatClampNeg))) B.1 hj1
  rw [e1] at hP hD
  exact k p l e s m args below meth c Q D dA b A ad0 C E H1 locs1 ad ls ⟨by rw [List.length_set]; exact B.1, B.2.1, B.2.2.1, hP, hD, z_K1.set B.2.2.2.2.2.1 (fun ty a h => by cases h; exact ⟨j1, _, hj1⟩), hS⟩ hl
theorem zs_self {w : zW} {j : Nat} {c0 c : zE} (h : w[j]? = some c0) : (w.set j c)[j]? = some c := by
  rw [List.getElem?_set_self (List.getElem?_eq_some_iff.mp h).1]
theorem zs_ne {w : zW} {i j : Nat} {c0 c : zE} (hn : i ≠ j) (h : w[j]? = some c0) : (w.set i c)[j]? = some c0 := by
  rw [List.getElem?_set_ne hn]
  exact h
end ZROWS
