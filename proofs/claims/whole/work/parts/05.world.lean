/-! The plain world over the machine's heap; the judgement T; contracts Cl -/
def fty (ci k : Nat) : FieldType := match ci with
  | 0 => tyX0 k
  | 1 => tyX1 k
  | 2 => tyX2 k
  | 3 => tyX3 k
  | 4 => tyX4 k
  | 5 => tyX5 k
  | 6 => tyX6 k
  | 7 => tyX7 k
  | 8 => tyX8 k
  | 9 => tyX9 k
  | 10 => tyX10 k
  | _ => tyX11 k
def tgTy (t : Nat) : FieldType := match t with
  | 0 => .int
  | 1 => .char
  | 2 => .boolean
  | 3 => .object "RopeWords$Standing"
  | 4 => .object "RopeWords$Image"
  | _ => .array .int
def isRf : FieldType → Bool
  | .object _ => true
  | .array _ => true
  | _ => false
def sv (b : Nat) (r : Bool) (z : Int) : Value := if r = true then rf b z.toNat else .int (i32 z)
def cellOK (D : va_G) (dA : Nat → ClassId) (b : Nat) (H : Heap) (a : Nat) (p : Nat × Nat) (f : Nat → Int) : Prop :=
  match p.1 with
  | 0 => ∃ r : vw_C, vwCl[p.2]? = some r ∧ t_OB (b + a) (D.1 p.2) r.2.2 (D.2 p.2) H (fun k => sv b (isRf (fty p.2 k)) (f k))
  | t + 1 => H[b + a]? = some (arrV (dA t) p.2 (fun j => sv b (isRf (tgTy t)) (f j)))
/-- a place that may be held fixed: a final field of an object, or an array of references -/
def finAt (sh : SHP) (a k : Nat) : Prop := (∃ ci r, sh[a]? = some (0, ci) ∧ vwCl[ci]? = some r ∧ (r.2.1 k).2.2.2 = true) ∨ ∃ t n, sh[a]? = some (t + 1, n) ∧ isRf (tgTy t) = true
def RelH (D : va_G) (dA : Nat → ClassId) (b : Nat) (fin : Nat → Nat → Option Nat) (sh : SHP) (c : HC) (H : Heap) : Prop :=
  H.size = b + sh.length ∧ (∀ a p, 0 < a → sh[a]? = some p → cellOK D dA b H a p (c a)) ∧ (∀ a k, InR (c a k)) ∧ (∀ a k r, fin a k = some r → c a k = (r : Int)) ∧ (∀ a k r, fin a k = some r → finAt sh a k) ∧ (∀ a k, sh.length ≤ a → c a k = 0)
def tysL (dA : Nat → ClassId) : List (ClassId × FieldType) := [(dA 0, .int), (dA 1, .char), (dA 2, .boolean), (dA 3, .object "RopeWords$Standing"), (dA 4, .object "RopeWords$Image"), (dA 5, .array .int)]
def goodK : Cond → Bool
  | .arrayClass _ => true
  | .arrayOver _ => true
  | .fieldLinkNest .. => true
  | .methodLinkNest .. => true
  | w => w.onTables && w.keeps
def Kt (D : va_G) (dA : Nat → ClassId) (U : State) : Prop := (∀ w ∈ lw_tbl, goodK w = true → w.before #[] U = true) ∧ va_K D vwCl (tysL dA) U
theorem ao_moved {t : FieldType} {A A' : Array Value} {u U : State} (hvm : u.vm.Alike U.vm) (h : (Cond.arrayOver t).before A u = true) : (Cond.arrayOver t).before A' U = true := by
  have hi : ∀ comp : ClassId, (U.vm.classes.findIdx? fun (x : Class) => match x.kind with | .array component _ => component == comp | _ => false) = (u.vm.classes.findIdx? fun (x : Class) => match x.kind with | .array component _ => component == comp | _ => false) := fun comp => hvm.findIdx?_eqK _ (fun k => rfl)
  have hf : ∀ n : String, U.vm.findClass n = u.vm.findClass n := fun n => hvm.findClass n none
  unfold Cond.before Cond.holds at h ⊢
  simp only [Cond.value, hi, hf] at h ⊢
  rw [beq_iff_eq] at h ⊢
  obtain ⟨comp, h1, h2⟩ := Option.bind_eq_some_iff.mp h
  obtain ⟨cA, h3, h4⟩ := Option.bind_eq_some_iff.mp h2
  obtain ⟨k, h5, h6⟩ := Option.map_eq_some_iff.mp h4
  obtain ⟨k', hk', he⟩ := hvm.2.2 _ _ h5
  refine Option.bind_eq_some_iff.mpr ⟨comp, h1, Option.bind_eq_some_iff.mpr ⟨cA, (hi comp).trans h3, Option.map_eq_some_iff.mpr ⟨k', hk', ?_⟩⟩⟩
  rw [show k'.kind = k.kind by rw [he]]
  exact h6
theorem word_warm {w : Cond} (hg : goodK w = true) {A A' : Array Value} {s U : State} (hW : s.WarmedH U.vm) (h : w.before A s = true) : w.before A' U = true := by
  cases w with
  | arrayClass ty => exact word_at hW (Or.inr ⟨ty, rfl⟩) h
  | arrayOver ty => exact ao_moved hW.alike h
  | fieldLinkNest a i b' n d h' => exact va_Nw.use rfl (va_Nw.warmF hW (va_Nw.of rfl h))
  | methodLinkNest a i x h' => exact va_Nw.use rfl (va_Nw.warmM hW (va_Nw.of rfl h))
  | _ => exact word_at hW (Or.inl hg) h
theorem word_same {w : Cond} (hg : goodK w = true) {A A' : Array Value} {u U : State} (hvm : u.vm = U.vm) (h : w.before A u = true) : w.before A' U = true := by
  cases w with
  | arrayClass ty =>
    unfold Cond.before Cond.holds at h ⊢
    simp only [Cond.value] at h ⊢
    rw [← hvm]
    exact h
  | arrayOver ty => exact ao_moved (by rw [hvm]; exact Vm.Alike.refl _) h
  | fieldLinkNest a i b' n d h' => exact va_tabs rfl hvm h
  | methodLinkNest a i x h' => exact va_tabs rfl hvm h
  | _ => exact va_tabs (by first | rfl | (have := hg; simp only [goodK, Bool.and_eq_true] at this; exact this.1)) hvm h
theorem Kt.word {D : va_G} {dA : Nat → ClassId} {U : State} (h : Kt D dA U) {w : Cond} (hw : w ∈ lw_tbl) (hg : goodK w = true) {A : Array Value} : w.before A U = true := word_same hg rfl (h.1 w hw hg)
theorem Kt.warm {D : va_G} {dA : Nat → ClassId} {s U : State} (hW : s.WarmedH U.vm) (h : Kt D dA s) : Kt D dA U := ⟨fun w hw hg => word_warm hg hW (h.1 w hw hg), va_K.moved hW.alike h.2⟩
theorem Kt.same {D : va_G} {dA : Nat → ClassId} {s U : State} (hv : s.vm = U.vm) (h : Kt D dA s) : Kt D dA U := ⟨fun w hw hg => word_same hg hv (h.1 w hw hg), va_K.moved (by rw [hv]; exact Vm.Alike.refl _) h.2⟩
theorem Kt.calling {D : va_G} {dA : Nat → ClassId} {U : State} {g : JFrame} {mk : MethodId} {a : Array Value} (h : Kt D dA U) : Kt D dA (U.calling g mk a) := Kt.same (s := U) rfl h
/-- a call's result fits the method's own type -/
def retOK : Option FieldType → Option PV → Prop
  | none, none => True
  | some .int, some (.inl _) => True
  | some .boolean, some (.inl z) => z = 0 ∨ z = 1
  | some .long, some (.inr (.inl _)) => True
  | _, _ => False
def retIns : Option PV → Instr
  | none => .return_
  | some (.inl _) => .ireturn
  | some (.inr (.inl _)) => .lreturn
  | some (.inr (.inr _)) => .areturn
def okO : Option PV → Prop
  | none => True
  | some v => okv v
def cvL (b qs : Nat) (ls : PL) : List (Nat × Value) := ls.map (fun q => (q.1, cv b qs q.2))
def okL (ls : PL) : Prop := ∀ q ∈ ls, okv q.2
def okS (st : List PV) : Prop := ∀ v ∈ st, okv v
/-- what stays through a method -/
def Fx (μ : MI) (d : Nat) (p : Program) (R : Room) (s : State) (m : MethodId) (meth : Method) (c_ : Code) (D : va_G) (dA : Nat → ClassId) : Prop :=
  p.tables.exec = Jvm.exec ∧ c_.code = μ.2.1 ∧ c_.maxLocals = μ.2.2.1 ∧ s.vm.findClass μ.1.cls = some m.cls ∧ meth.name = μ.1.name ∧ (d ≤ R.frames ∧ 64 * d ≤ R.locals) ∧ Kt D dA s
/-- what moves -/
def Mv (fin : Nat → Nat → Option Nat) (bc bs : Nat) (sh : SHP) (c : HC) (R : Room) (s : State) (D : va_G) (dA : Nat → ClassId) (b : Nat) (H : Heap) (locs : List Loc) (cells slots : Nat) : Prop :=
  cells + bc ≤ R.cells ∧ slots + bs ≤ R.slots ∧ RelH D dA b fin sh c H ∧ (∀ q : Nat, q ≤ b → H[q]? = s.heap[q]?) ∧ (∀ q ∈ locs, b + 1 ≤ q.base)
/-- the law's script: the cell ahead of the world -/
def ScOK (X : Option (Nat × (Nat → Int32))) (s : State) (b : Nat) (qs : Nat) : Prop := match X with
  | none => True
  | some x => qs ≤ b ∧ va_X qs x.1 x.2 s s.heap
/-- the plain judgement: from pc on, with these values, the method comes to its end with Q -/
def T (X : Option (Nat × (Nat → Int32))) (μ : MI) (d : Nat) (fin : Nat → Nat → Option Nat) (bc bs : Nat) (sh : SHP) (pc : Nat) (ls : PL) (st : List PV) (c : HC) (Q : Option PV → SHP → HC → Prop) : Prop :=
  ∀ (p : Program) (l : Launch) (e : Env) (R : Room) (s : State) (m : MethodId) (args : Array Value) (below : List Frame) (meth : Method) (c_ : Code) (D : va_G) (dA : Nat → ClassId) (b qs : Nat) (Qr : State → Prop),
    Fx μ d p R s m meth c_ D dA → ScOK X s b qs →
    (∀ (pcx : Nat) (v : Option PV) (sh' : SHP) (c' : HC) (H : Heap) (locs : List Loc) (cells slots : Nat) (ls_ : Array Slot), decode μ.2.1 pcx = .ok (retIns v, 1) → retOK μ.2.2.2 v → okO v → Q v sh' c' → Mv fin 0 0 sh' c' R s D dA b H locs cells slots →
      W p l e R s m args below meth c_ H locs cells slots Qr (F0 m pcx ls_ (v.map (cv b qs)).toList)) →
    ∀ (H : Heap) (locs : List Loc) (cells slots : Nat) (ls_ : Array Slot), Mv fin bc bs sh c R s D dA b H locs cells slots → okS st → okL ls → lv_has ls_ μ.2.2.1 (cvL b qs ls) → W p l e R s m args below meth c_ H locs cells slots Qr (F0 m pc ls_ (st.map (cv b qs)))

/-- a method's contract, in plain words -/
def rmOf (d mc ms : Nat) : Room := { frames := d, cells := mc, slots := ms, locals := 64 * d }
def PcOf (D : va_G) (dA : Nat → ClassId) (b qs : Nat) (fin : Nat → Nat → Option Nat) (sh : SHP) (c : HC) (args : List PV) : Array Value → State → Prop := fun a U => a = (args.map (cv b qs)).toArray ∧ Kt D dA U ∧ RelH D dA b fin sh c U.heap ∧ okS args
def QcOf (D : va_G) (dA : Nat → ClassId) (b qs : Nat) (fin : Nat → Nat → Option Nat) (Q : Option PV → SHP → HC → Prop) : Array Value → State → Outcome → State → Prop := fun _ st o t =>
  ∃ v sh' c', o = .returned (v.map (cv b qs)) ∧ Q v sh' c' ∧ okO v ∧ RelH D dA b fin sh' c' t.heap ∧ Kt D dA t ∧ ∀ q : Nat, q ≤ b → t.heap[q]? = st.heap[q]?
def Cl (μ : MI) (d mc ms : Nat) (fin : Nat → Nat → Option Nat) (sh : SHP) (c : HC) (args : List PV) (Q : Option PV → SHP → HC → Prop) : Prop :=
  ∀ (l : Launch) (D : va_G) (dA : Nat → ClassId) (b qs : Nat), Met l μ.1 [Cond.code μ.1 μ.2.1 μ.2.2.1 μ.2.2.2] (rmOf d mc ms) (PcOf D dA b qs fin sh c args) (QcOf D dA b qs fin Q) mc ms (fun q => b + 1 ≤ q)
/-- a method's first locals -/
def lsOf : Nat → List PV → PL
  | _, [] => []
  | i, .inr (.inl z) :: vs => (i, .inr (.inl z)) :: lsOf (i + 2) vs
  | i, v :: vs => (i, v) :: lsOf (i + 1) vs
def wds : List PV → Nat
  | [] => 0
  | .inr (.inl _) :: vs => 2 + wds vs
  | _ :: vs => 1 + wds vs
theorem cv_cat (b qs : Nat) (v : PV) : (cv b qs v).category = 1 ∨ ∃ z, v = vl z := by
  rcases v with z | z | n | u
  · exact Or.inl rfl
  · exact Or.inr ⟨z, rfl⟩
  · refine Or.inl ?_
    show (rf b n).category = 1
    unfold rf
    split <;> rfl
  · exact Or.inl rfl
theorem lsOf_cv (b qs : Nat) : ∀ (vs : List PV) (i : Nat), lv_args i (vs.map (cv b qs)) = cvL b qs (lsOf i vs)
  | [], i => rfl
  | v :: vs, i => by
    rcases cv_cat b qs v with h | ⟨z, rfl⟩
    · have e : lsOf i (v :: vs) = (i, v) :: lsOf (i + 1) vs := by
        rcases v with z | z | n
        · rfl
        · exact absurd h (by show ¬ (2 = 1); decide)
        · rfl
      rw [e]
      show lv_args i (cv b qs v :: vs.map (cv b qs)) = (i, cv b qs v) :: cvL b qs (lsOf (i + 1) vs)
      rw [← lsOf_cv b qs vs (i + 1)]
      simp [lv_args, h]
    · show lv_args i (cv b qs (vl z) :: vs.map (cv b qs)) = (i, cv b qs (vl z)) :: cvL b qs (lsOf (i + 2) vs)
      rw [← lsOf_cv b qs vs (i + 2)]
      rfl
theorem wds_cv (b qs : Nat) : ∀ (vs : List PV), (lg_sl (vs.map (cv b qs))).length = wds vs
  | [] => rfl
  | v :: vs => by
    rcases cv_cat b qs v with h | ⟨z, rfl⟩
    · have e : wds (v :: vs) = 1 + wds vs := by
        rcases v with z | z | n
        · rfl
        · exact absurd h (by show ¬ (2 = 1); decide)
        · rfl
      rw [e, ← wds_cv b qs vs]
      show (lg_sl (cv b qs v :: vs.map (cv b qs))).length = _
      simp only [lg_sl, List.flatMap_cons, List.length_append]
      rw [h]
      rfl
    · show (lg_sl (cv b qs (vl z) :: vs.map (cv b qs))).length = 2 + wds vs
      rw [← wds_cv b qs vs]
      simp only [lg_sl, List.flatMap_cons, List.length_append]
      rfl
theorem okL_lsOf : ∀ (vs : List PV) (i : Nat), okS vs → okL (lsOf i vs)
  | [], i, _ => fun q h => by cases h
  | v :: vs, i, h => by
    have h1 : okv v := h v List.mem_cons_self
    have h2 : okS vs := fun x hx => h x (List.mem_cons_of_mem _ hx)
    intro q hq
    rcases v with z | z | n
    · rcases List.mem_cons.mp hq with e | e
      · rw [e]; exact h1
      · exact okL_lsOf vs (i + 1) h2 q e
    · rcases List.mem_cons.mp hq with e | e
      · rw [e]; exact h1
      · exact okL_lsOf vs (i + 2) h2 q e
    · rcases List.mem_cons.mp hq with e | e
      · rw [e]; exact h1
      · exact okL_lsOf vs (i + 1) h2 q e
theorem nar_bool {z : Int} (h : z = 0 ∨ z = 1) : narrow .boolean (.int (i32 z)) = .int (i32 z) := by
  rcases h with rfl | rfl <;> rfl
set_option maxHeartbeats 1000000 in
/-- a contract out of a walk -/
theorem Cl.of {μ : MI} {d mc ms : Nat} {fin : Nat → Nat → Option Nat} {sh : SHP} {c : HC} {args : List PV} {Q : Option PV → SHP → HC → Prop} (hp : plainName μ.1.cls = true) (hw : wds args ≤ μ.2.2.1)
    (h : okS args → T none μ d fin mc ms sh 0 (lsOf 0 args) [] c Q) : Cl μ d mc ms fin sh c args Q := by
  intro l D dA b qs
  refine Met.ofW (cc := μ.2.1) (maxL := μ.2.2.1) (ret := μ.2.2.2) hp rfl ?_
  intro p e s m args_ below meth c_ s₁ B hml hv
  obtain ⟨rfl, hK, hR, hok⟩ := hv
  have hlocks := B.notSynchronized
  have hl := lv_entry (args.map (cv b qs)) (n := μ.2.2.1) (by rw [wds_cv]; exact hw)
  rw [lg_entry_eq]
  rw [lsOf_cv] at hl
  generalize (lg_sl (args.map (cv b qs)) ++ List.replicate (μ.2.2.1 - (lg_sl (args.map (cv b qs))).length) Slot.unset).toArray = ls_ at hl ⊢
  refine h hok p l e (headSpec [Cond.code μ.1 μ.2.1 μ.2.2.1 μ.2.2.2] (rmOf d mc ms)).room s m _ below meth c_ D dA b qs _ ⟨B.exec, B.bytes, hml, findClass_of_methodNamed B.named, (name_of_methodNamed B.named B.method).1, ⟨Nat.le_refl _, Nat.le_refl _⟩, hK⟩ trivial ?_ s.heap [] 0 0 ls_ ⟨by show 0 + mc ≤ mc; omega, by show 0 + ms ≤ ms; omega, hR, fun q _ => rfl, fun q h => by cases h⟩ (fun q h => by cases h) (okL_lsOf args 0 hok) hl
  intro pcx v sh' c' H locs cells slots ls2 hdec hret hokv hQ hM
  obtain ⟨h1, h2, h3, h4, h5⟩ := hM
  have h1' : cells ≤ mc := by have : cells + 0 ≤ mc := h1; omega
  have h2' : slots ≤ ms := by have : slots + 0 ≤ ms := h2; omega
  refine W.widen (k := mc) (n := ms) h1' h2' ?_
  have hq : ∀ t : State, t.heap = H → s.WarmedH t.vm → QcOf D dA b qs fin Q (args.map (cv b qs)).toArray s (.returned (v.map (cv b qs))) t := fun t ht hW => ⟨v, sh', c', rfl, hQ, hokv, by rw [ht]; exact h3, hK.warm hW, fun q hq => by rw [ht]; exact h4 q hq⟩
  have hr := B.returns
  rcases v with _ | z | z | n
  · have e : meth.sig.returnType = none := by
      rw [hr]
      generalize μ.2.2.2 = rt at hret
      cases rt with
      | none => rfl
      | some ty => cases ty <;> exact hret.elim
    exact W.vret B.exec B.bytes e hq h5 hdec hlocks
  · generalize hrt : μ.2.2.2 = rt at hret hr
    cases rt with
    | none => exact hret.elim
    | some ty =>
      have hn : narrow ty (.int (i32 z)) = .int (i32 z) := by
        cases ty with
        | int => rfl
        | boolean => exact nar_bool hret
        | _ => exact hret.elim
      exact W.zret B.exec B.bytes hr hn hq h5 hdec hlocks
  · have e : meth.sig.returnType = some .long := by
      rw [hr]
      generalize μ.2.2.2 = rt at hret
      cases rt with
      | none => exact hret.elim
      | some ty => cases ty <;> first | rfl | exact hret.elim
    exact W.lret B.exec B.bytes e hq h5 hdec hlocks
  · exfalso
    generalize μ.2.2.2 = rt at hret
    cases rt with
    | none => exact hret.elim
    | some ty => cases ty <;> exact hret.elim
