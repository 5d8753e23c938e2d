def R_law : String := "LinkDiagramLaw"
def lw_P (b : Addr) (xs : List Int32) (args : Array Value) (s : State) : Prop := args = #[.ref b] ∧ s.IntsAt b xs ∧ xs.length ≤ 3072 ∧ (Jvm.Cond.and given_1 narrow_1).before args s = true
def lw_Q (_ : Array Value) (s : State) (o : Outcome) (t : State) : Prop := o = .returned (some (.int 1)) ∧ Framed s o t [] 38 6813
def lw_Z (below : List Frame) (a : Array Value) (s : State) : State → Prop := fun t => ∃ o, t.status = .running ∧ Ended t below o ∧ lw_Q a s o t
/-- the law's own end, with 1 on the stack, nothing written that was there before, its room as the claim has it -/
theorem lw_ret {p : Program} {l : Launch} {e : Env} {s : State} {m : MethodId} {below : List Frame} {meth : Method} {c : Code} {b : Nat} (hx : p.tables.exec = Jvm.exec) (hb : c.code = code) (hr : meth.sig.returnType = ret) (hlocks : meth.locks = false) {pc : Nat} {H : Heap} {ls : Array Slot} (hdg : decode code pc = .ok (.ireturn, 1)) : W p l e room_1 s m #[Value.ref b] below meth c H [] 38 6813 (lw_Z below #[Value.ref b] s) (F0 m pc ls [.int 1]) := by
  intro T hT X
  obtain ⟨fs, hret, hrun, hended, hW, hframe⟩ := X.leave (v := some (.int 1)) (hlocks := hlocks) (fun h => by rw [hr] at h; cases h)
  have hmeth' : T.vm.method? m = some meth := X.method'
  refine ⟨T.setFrames fs, ?_, .returned (some (.int 1)), hrun, hended, rfl, ⟨_, rfl⟩, hW, hframe⟩
  jvm_step X.here [X.here.top, hx, hb, hdg, hmeth', hr, ret, narrow_b1]
  (try refine ⟨rfl, ?_⟩); (try refine ⟨rfl, ?_⟩)
  first | (intro acts; rw [hret _ acts rfl rfl rfl]) | rw [hret _ _ rfl rfl rfl]
  exact Steps.refl _
/-- what holds at the law's entry: the machine, the code, the tables' words (any of lw_tbl by 'hts w (by decide +kernel)'), the script of L ints xs at the cell b, what the Statement gives of the start (any of its parts by flat_of_before) -/
def lw_At (p : Program) (s : State) (m : MethodId) (meth : Method) (c : Code) (b L : Nat) (xs : Nat → Int32) : Prop :=
  p.tables.exec = Jvm.exec ∧ c.code = code ∧ meth.sig.returnType = ret ∧ c.maxLocals = 4 ∧ s.vm.findClass R_law = some m.cls ∧ (∀ w ∈ lw_tbl, w.before #[Value.ref b] s = true) ∧ va_X b L xs s s.heap ∧ b < s.heap.size ∧ meth.locks = false ∧ (Jvm.Cond.and given_1 narrow_1).before #[Value.ref b] s = true ∧ meth.name = "law"

theorem z_known {own : String} {idx ci : Nat} {fs : List Value} {s : State} {args : Array Value} (hts : ∀ w ∈ zG, w.before args s = true) (h : zNew own idx ci fs) : ∃ (cC : ClassId) (iS : Nat → Nat), ∀ q : vw_C, vwCl[ci]? = some q → u_Kn s q.1 q.2.1 q.2.2 cC iS := by
  obtain ⟨C, T, ty0, h1, h2, h3, h4, h5, h6, h7⟩ := h
  obtain ⟨cC, iS, hk⟩ := u_known hts h2 (hts _ h5)
  refine ⟨cC, iS, fun q hq => ?_⟩
  rw [h1] at hq
  cases hq
  exact hk
theorem z_knownAll {s : State} {args : Array Value} (hts : ∀ w ∈ zG, w.before args s = true) : ∃ D : va_G, va_K D vwCl [] s := by
  obtain ⟨c0, i0, k0⟩ := z_known hts n_A_36
  obtain ⟨c1, i1, k1⟩ := z_known hts n_A_29
  obtain ⟨c2, i2, k2⟩ := z_known hts n_A_7
  obtain ⟨c3, i3, k3⟩ := z_known hts n_A_22
  obtain ⟨c4, i4, k4⟩ := z_known hts n_L_7
  obtain ⟨c5, i5, k5⟩ := z_known hts n_L_10
  refine ⟨(fun n => match n with | 0 => c0 | 1 => c1 | 2 => c2 | 3 => c3 | 4 => c4 | _ => c5, fun n => match n with | 0 => i0 | 1 => i1 | 2 => i2 | 3 => i3 | 4 => i4 | _ => i5), fun n q hq => ?_, fun k q hq => by cases hq⟩
  match n, hq with
  | 0, hq => exact k0 q hq
  | 1, hq => exact k1 q hq
  | 2, hq => exact k2 q hq
  | 3, hq => exact k3 q hq
  | 4, hq => exact k4 q hq
  | 5, hq => exact k5 q hq
  | n + 6, hq => exact absurd hq (by simp)
theorem whole_of {I : zW → Prop} (S : zStep I) (h0 : I (kC 0 i0 i0 0 i0 i0 0 i0 i0 i0 i0 i0 i0 l0 i0 i0 i0 i0 l0 i0 i0 0 1 (mT i0 i0 0 0 1 i0 0 0 0 i0 l0 l0 l0 i0 0 i0 i0 l0 i0))) {p : Program} {e : Env} {s : State} {m : MethodId} {below : List Frame} {meth : Method} {c : Code} (l : Launch) {b L : Nat} {xs : Nat → Int32} (hL : L ≤ 3072) (C0 : lw_At p s m meth c b L xs) : W p l e room_1 s m #[Value.ref b] below meth c s.heap [] 0 0 (lw_Z below #[Value.ref b] s) (entryFrame m ([Value.ref b] : List Value).toArray 4) := by
  obtain ⟨hx, hcode, hret, hml, hown, htb, hX, hbl, hlk, hgv, hnm⟩ := C0
  have hts : ∀ w ∈ zG, w.before #[Value.ref b] s = true := fun w hw => htb w (List.mem_filter.mp hw).1
  obtain ⟨D, hD⟩ := z_knownAll hts
  obtain ⟨wf, hE⟩ := law_all (L := L) (xs := xs) S hL h0
  rw [lg_entry_eq]
  refine hE p l e s m #[Value.ref b] below meth c (lw_Z below #[Value.ref b] s) D (fun ty => (s.vm.findClass ("[" ++ ty.toString)).getD 0) b (fun q => s.heap.size ≤ q) [] ⟨hx, hcode, hml, hts, hown, hnm, fun q h => h, fun L' xs' h => ?_, hD, fun ty cA h => ?_, fun u hu => va_Nw.of (zN_on u hu) (htb u (zN_tbl u hu))⟩ ?_ s.heap [] [] _ ⟨rfl, by decide, ⟨[], rfl⟩, fun k q h => (by cases h), ⟨fun i j p q h => (by cases h), fun k q h => (by cases h)⟩, fun j ty a h => (by cases h), va_S.rf⟩ ?_
  · cases h
    exact ⟨hX, hbl, by omega⟩
  · show cA = (s.vm.findClass ("[" ++ ty.toString)).getD 0
    rw [h]
    rfl
  · intro pc' nc' ns' ls H locs ad hr hc hs hB
    obtain ⟨hd, -⟩ := hr
    refine va_forget (fun q hq => hB.2.2.2.2.2.2.2.2 q hq) ?_
    exact W.widen hc hs (lw_ret hx hcode hret hlk hd)
  · exact lv_entry [Value.ref b] (n := 4) (Nat.le_of_ble_eq_true rfl)
