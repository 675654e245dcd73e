/-! multianewarray of six rows of six ints, from the model's own multianewarray (nothing of JvmDerived/Shelf42) -/
section MU
variable {p : Program} {l : Launch} {e : Env} {R : Room} {s : State} {m : MethodId} {args : Array Value} {below : List Frame} {meth : Method} {c : Code} {locs : List Loc}
/-- behind j rows: the cells below n are the old ones, at n stands the outer row, behind it j rows of zeros -/
def mu_row (cA cI : ClassId) (H0 : Heap) (vm0 : Vm) (j : Nat) (V : State) : Prop :=
  V.heap.size = H0.size + 1 + j ∧ (∀ q, q < H0.size → V.heap[q]? = H0[q]?) ∧ V.heap[H0.size]? = some (arrV cA 6 (fun i => if i < j then .ref (H0.size + 1 + i) else .null)) ∧ (∀ i, i < j → V.heap[H0.size + 1 + i]? = some (arrV cI 6 (fun _ => .int 0))) ∧ V.vm = vm0
theorem mu_over {first t : State} {o : Option Outcome} {idx : List Nat} (h : (Cond.arrayOver (.array .int)).holds args first o t idx = true) : ∃ comp k cA, t.vm.findClass "[I" = some comp ∧ t.vm.classes[cA]? = some k ∧ k.kind = .array comp (.array .int) ∧ t.vm.findClass "[[I" = some cA := by
  have e1 : (FieldType.array .int).toString = "[I" := by decide
  have e2 : ("[" ++ "[I" : String) = "[[I" := by decide
  simp only [Cond.holds, Cond.value, beq_iff_eq, e1, e2] at h
  cases hc : t.vm.findClass "[I" with
  | none => simp [hc] at h
  | some comp =>
    simp only [hc, Option.bind_some, Option.bind_eq_some_iff, Option.map_eq_some_iff] at h
    obtain ⟨cA, hi, k, hk, hb⟩ := h
    obtain ⟨_, hp, _⟩ := Array.findIdx?_eq_some_iff_getElem.mp hi
    rw [(Array.getElem?_eq_some_iff.mp hk).2] at hp
    cases hkind : k.kind with
    | array q ty =>
      rw [hkind] at hb hp
      simp at hb hp
      exact ⟨comp, k, cA, rfl, hk, by rw [hkind, hp, hb.1], hb.2⟩
    | _ => rw [hkind] at hb; simp at hb
/-- one row made and put into its place -/
theorem mu_one {cA cI q : ClassId} {kA kI : Class} {H0 : Heap} {vm0 : Vm} {j cells slots : Nat} {V : State} (X : Stand p l e R s m args below meth c V locs cells slots) (h : mu_row cA cI H0 vm0 j V) (hj : j < 6) (hge : s.heap.size ≤ H0.size) (hkA : vm0.classes[cA]? = some kA) (hkindA : kA.kind = .array cI (.array .int)) (hkI : vm0.classes[cI]? = some kI) (hkindI : kI.kind = .array q .int) (hc : cells + 1 ≤ R.cells) (hs : slots + 6 ≤ R.slots) :
    ∃ V', Stand p l e R s m args below meth c V' locs (cells + 1) (slots + 6) ∧ mu_row cA cI H0 vm0 (j + 1) V' ∧
      ∀ {Q : Unit → Pre} {E : CtlPost} {d : Bool} {acts : List Action} {f : JFrame}, (∀ acts', Q () true acts' (V'.setTop f)) → wp (Op.multianewarray.make cI [6] >>= fun a => Jvm.writeLoc H0.size j (.ref a)) Q E e d acts (V.setTop f) := by
  obtain ⟨h1, h2, h3, h4, h5⟩ := h
  obtain ⟨r1, r2⟩ := X.roomAbove hc hs
  have z1 : H0.size < V.heap.size := by omega
  have z2 : H0.size < V.heap.size + 1 := by omega
  have z3 : ∀ x : Nat, x < H0.size → ¬ H0.size = x := fun x hx => by omega
  have z4 : ∀ x : Nat, x < H0.size → x < V.heap.size := fun x hx => by omega
  have z5 : ∀ i : Nat, ¬ H0.size = H0.size + 1 + i := fun i => by omega
  have z6 : ∀ i : Nat, i < j → H0.size + 1 + i < V.heap.size := fun i hi => by omega
  have n6 : (6 : Int32).toNatClampNeg = 6 := by decide
  have hlim : ¬ (6 : Nat) > e.platform.arrayLengthLimit := by rw [Launch.admits_arrayLengthLimit X.admits]; decide
  have hby : ¬ (6 : Nat) * componentBytes .int > e.platform.maxHeapBytes := by rw [Launch.admits_maxHeapBytes X.admits]; decide
  have hin : (V.pushCell { cls := cI, slots := Array.replicate 6 (.int 0) }).heap[H0.size]? = some (arrV cA 6 (fun i => if i < j then .ref (H0.size + 1 + i) else .null)) := by
    exact (State.heap_pushCell_of_lt _ _ z1).trans h3
  have X1 := (X.pushed { cls := cI, slots := Array.replicate 6 (.int 0) }).stored hin j (.ref V.heap.size)
  have X2 := Stand.forget X1 (by intro y hy; rw [List.mem_singleton.mp hy]; exact hge)
  refine ⟨_, X2, ⟨?_, fun x hx => ?_, ?_, fun i hi => ?_, h5⟩, ?_⟩
  · simp only [State.heap_setCell, Array.size_setIfInBounds, State.heap_pushCell, Array.size_push]; omega
  · exact (heapAt_setCell_ne (a := H0.size) (b := x) _ (z3 x hx)).trans ((State.heap_pushCell_of_lt _ _ (z4 x hx)).trans (h2 x hx))
  · refine (heapAt_setCell_self (s := V.pushCell { cls := cI, slots := Array.replicate 6 (.int 0) }) (a := H0.size) _ (by rw [State.heap_size_pushCell]; exact z2)).trans ?_
    rw [arrV_store]
    have e1 : (updV (fun i => if i < j then Value.ref (H0.size + 1 + i) else .null) j (.ref V.heap.size)) = fun i => if i < j + 1 then Value.ref (H0.size + 1 + i) else .null := by
      funext i
      show (if i = j then Value.ref V.heap.size else if i < j then Value.ref (H0.size + 1 + i) else .null) = _
      by_cases a1 : i = j
      · rw [if_pos a1, if_pos (by omega), a1, h1]
      · rw [if_neg a1]
        by_cases a2 : i < j
        · rw [if_pos a2, if_pos (by omega)]
        · rw [if_neg a2, if_neg (by omega)]
    rw [e1]
  · refine (heapAt_setCell_ne (a := H0.size) (b := H0.size + 1 + i) _ (z5 i)).trans ?_
    by_cases a1 : i = j
    · subst a1
      rw [← h1, ← arrV_new]
      exact State.heap_pushCell_size _ _
    · exact (State.heap_pushCell_of_lt _ _ (z6 i (by omega))).trans (h4 i (by omega))
  · intro Q E d acts f hq
    rw [wp_bind']
    unfold Op.multianewarray.make
    rw [if_neg (by decide)]
    simp only [wp_bind', wp_pure', W.theClass, State.vm_setTop, h5, hkI, Option.some.injEq, exists_eq_left', hkindI, n6]
    refine W.newArray_of (s := V.setTop f) (c := cI) (k := kI) (comp := q) (type := .int) (by rw [State.vm_setTop, h5]; exact hkI) hkindI hlim hby (by show V.heap.size < _; omega) (by show V.slotsUsed + 6 ≤ _; omega) rfl (fun acts' => ?_)
    rw [W.writeLoc]
    refine ⟨_, hin, (fun hu => by cases hu), (by rw [arrV_size]; exact hj), ?_, hq _⟩
    show State.fitsSlot V cA .none j (.ref V.heap.size) = true
    simp [State.fitsSlot, State.slotType?, h5, hkA, hkindA, fits]
/-- the rows from the j-th on -/
theorem mu_loop {cA cI q : ClassId} {kA kI : Class} {H0 : Heap} {vm0 : Vm} (hge : s.heap.size ≤ H0.size) (hkA : vm0.classes[cA]? = some kA) (hkindA : kA.kind = .array cI (.array .int)) (hkI : vm0.classes[cI]? = some kI) (hkindI : kI.kind = .array q .int) :
    ∀ (n j cells slots : Nat) (V : State), j + n = 6 → Stand p l e R s m args below meth c V locs cells slots → mu_row cA cI H0 vm0 j V → cells + n ≤ R.cells → slots + 6 * n ≤ R.slots →
    ∃ V', Stand p l e R s m args below meth c V' locs (cells + n) (slots + 6 * n) ∧ mu_row cA cI H0 vm0 6 V' ∧
      ∀ {Q : PUnit → Pre} {E : CtlPost} {d : Bool} {acts : List Action} {f : JFrame}, (∀ d' acts', Q PUnit.unit d' acts' (V'.setTop f)) →
        wp (forIn (List.range' j n 1) PUnit.unit (fun i _ => do
          Jvm.writeLoc H0.size i (.ref (← Op.multianewarray.make cI [6]))
          Pure.pure (ForInStep.yield PUnit.unit))) Q E e d acts (V.setTop f) := by
  intro n
  induction n with
  | zero =>
    intro j cells slots V h6 X h hc hs
    have e6 : j = 6 := by omega
    subst e6
    refine ⟨V, X, h, ?_⟩
    intro Q E d acts f hq
    exact hq _ _
  | succ n ih =>
    intro j cells slots V h6 X h hc hs
    obtain ⟨V1, X1, h1, w1⟩ := mu_one X h (by omega) hge hkA hkindA hkI hkindI (by omega) (by omega)
    obtain ⟨V2, X2, h2, w2⟩ := ih (j + 1) (cells + 1) (slots + 6) V1 (by omega) X1 h1 (by omega) (by omega)
    rw [show cells + 1 + n = cells + (n + 1) by omega, show slots + 6 + 6 * n = slots + 6 * (n + 1) by omega] at X2
    refine ⟨V2, X2, h2, ?_⟩
    intro Q E d acts f hq
    rw [List.range'_succ, List.forIn_cons, wp_bind', ← LawfulMonad.bind_assoc, wp_bind']
    refine w1 (fun acts' => ?_)
    rw [wp_pure']
    exact w2 hq
/-- the model's own making of six rows of six ints -/
theorem mu_make {cA cI q : ClassId} {kA kI : Class} {cells slots : Nat} {T : State} (X : Stand p l e R s m args below meth c T locs cells slots) (hkA : T.vm.classes[cA]? = some kA) (hkindA : kA.kind = .array cI (.array .int)) (hkI : T.vm.classes[cI]? = some kI) (hkindI : kI.kind = .array q .int) (hc : cells + 7 ≤ R.cells) (hs : slots + 42 ≤ R.slots) :
    ∃ V', Stand p l e R s m args below meth c V' locs (cells + 7) (slots + 42) ∧ mu_row cA cI T.heap T.vm 6 V' ∧
      ∀ {Q : Addr → Pre} {E : CtlPost} {d : Bool} {acts : List Action} {f : JFrame}, (∀ d' acts', Q T.heap.size d' acts' (V'.setTop f)) → wp (Op.multianewarray.make cA [6, 6]) Q E e d acts (T.setTop f) := by
  have hge : s.heap.size ≤ T.heap.size := X.same.2.1
  obtain ⟨r1, r2⟩ := X.roomAbove hc hs
  have n6 : (6 : Int32).toNatClampNeg = 6 := by decide
  have hlim : ¬ (6 : Nat) > e.platform.arrayLengthLimit := by rw [Launch.admits_arrayLengthLimit X.admits]; decide
  have hby : ¬ (6 : Nat) * componentBytes (.array .int) > e.platform.maxHeapBytes := by rw [Launch.admits_maxHeapBytes X.admits]; decide
  have X1 := X.pushed { cls := cA, slots := Array.replicate 6 .null }
  have hrow : mu_row cA cI T.heap T.vm 0 (T.pushCell { cls := cA, slots := Array.replicate 6 .null }) := by
    refine ⟨State.heap_size_pushCell _ _, fun x hx => State.heap_pushCell_of_lt _ _ hx, ?_, fun i hi => absurd hi (Nat.not_lt_zero i), rfl⟩
    refine (State.heap_pushCell_size _ _).trans ?_
    rw [arrV_new]
    rfl
  obtain ⟨V', X2, h2, w2⟩ := mu_loop hge hkA hkindA hkI hkindI 6 0 (cells + 1) (slots + 6) _ rfl X1 hrow (by omega) (by omega)
  rw [show cells + 1 + 6 = cells + 7 by omega, show slots + 6 + 6 * 6 = slots + 42 by omega] at X2
  refine ⟨V', X2, h2, ?_⟩
  intro Q E d acts f hq
  unfold Op.multianewarray.make
  rw [if_neg (by decide)]
  simp only [wp_bind', wp_pure', W.theClass, State.vm_setTop, hkA, Option.some.injEq, exists_eq_left', hkindA, n6]
  refine W.newArray_of (s := T.setTop f) (c := cA) (k := kA) (comp := cI) (type := .array .int) (by rw [State.vm_setTop]; exact hkA) hkindA hlim hby (by show T.heap.size < _; omega) (by show T.slotsUsed + 6 ≤ _; omega) rfl (fun acts' => ?_)
  rw [if_neg (by decide), wp_bind', Std.Legacy.Range.forIn_eq_forIn_range', State.pushCell_setTop]
  refine w2 (fun d' acts' => ?_)
  rw [wp_pure']
  exact hq _ _
/-- the instruction: six rows of six ints, and the outer row on the stack -/
theorem mu_new {cells slots : Nat} {T : State} (X : Stand p l e R s m args below meth c T locs cells slots) (hexec : p.tables.exec = Jvm.exec) {own : String} {index : Nat}
    (hown : s.vm.findClass own = some m.cls) (hclink : (Cond.classLink own index "[[I").before args s = true) (hover : (Cond.arrayOver (.array .int)).before args s = true) (hac : (Cond.arrayClass .int).before args s = true)
    {g : JFrame} (hg : g.method = m) (hdg : decode c.code g.pc = .ok (.multianewarray index 2, 4)) {rest : List Value} (hstack : g.stack = .int 6 :: .int 6 :: rest) (hc : cells + 7 ≤ R.cells) (hs : slots + 42 ≤ R.slots) :
    ∃ (cA cI : ClassId) (vm1 : Vm) (V : State), s.vm.findClass "[[I" = some cA ∧ s.vm.findClass "[I" = some cI ∧ Stand p l e R s m args below meth c V locs (cells + 7) (slots + 42) ∧ mu_row cA cI T.heap vm1 6 V ∧
      ∀ target, Steps p.tables e below (V.setTop { g with pc := g.pc + 4, stack := .ref T.heap.size :: rest }) target → Steps p.tables e below (T.setTop g) target := by
  subst hg
  have hpl : e.platform.magicAccessors = ({} : Platform).magicAccessors := by rw [X.admits.platform]
  obtain ⟨cI, kA, cA, hcI, hkA, hkindA, hcA⟩ := mu_over hover
  obtain ⟨cI2, kI, q, hcI2, hkI, hkindI⟩ := Cond.arrayClass_spec hac
  rw [show ("[" ++ FieldType.int.toString : String) = "[I" by decide] at hcI2
  cases hcI.symm.trans hcI2
  obtain ⟨cc, hfcc, hcl⟩ := Cond.classLink_spec hown hclink e.platform hpl
  cases hcA.symm.trans hfcc
  obtain ⟨hg1, hwarm, hready⟩ := State.classEntry (e := e) X.warmed hcl
  generalize T.vm.noted g.method.cls index (.cls cA) = vm1 at hg1 hwarm hready
  obtain ⟨kA1, hkA1, heA⟩ := hwarm.alike.2.2 _ _ hkA
  obtain ⟨kI1, hkI1, heI⟩ := hwarm.alike.2.2 _ _ hkI
  have hkindA1 : kA1.kind = .array cI (.array .int) := by rw [heA]; exact hkindA
  have hkindI1 : kI1.kind = .array q .int := by rw [heI]; exact hkindI
  obtain ⟨V, X2, h2, w2⟩ := mu_make (X.noted hwarm) hkA1 hkindA1 hkI1 hkindI1 hc hs
  refine ⟨cA, cI, vm1, V, hcA, hcI, X2, h2, fun target hrest => ?_⟩
  refine Steps.instr (c := c) X.here ?_
  rw [hdg]
  show wpRun (p.tables.exec (.multianewarray index 2)) _ _ e (T.setTop g)
  rw [hexec]
  show wp (Op.multianewarray.sem index 2) _ _ e false [] (T.setTop g)
  unfold Op.multianewarray.sem
  rw [wp_bind']
  refine (W.resolveClassAt_transfer (s := T.setTop g) (State.method?_setTop g X.here.top) hg1 hready).mpr ?_
  refine (W.resolveClassAt_ready (s := (T.setTop g).setVm vm1) (State.method?_setTop g X.here.top) hready).mpr ?_
  rw [wp_bind']
  refine (Op.popN_top (s := T.setVm vm1) (f := g) (args := [.int 6, .int 6]) (rest := rest) X.here.top hstack).mpr ?_
  rw [wp_bind', List.mapM_cons, List.mapM_cons, List.mapM_nil]
  simp only [wp_bind', wp_pure']
  refine w2 (fun d' acts' => ?_)
  rw [wp_bind', W.mark, W.pushRef]
  refine ⟨_, State.topJava?_setTop' _ X2.here.top, fun acts2 => ?_⟩
  rw [State.setTop_setTop, afterInstr_ok]
  exact hrest
end MU
