/-! Rows of the plain judgement, an instruction each -/
theorem okS_c {v : PV} {st : List PV} (h : okS (v :: st)) : okv v ∧ okS st := ⟨h v List.mem_cons_self, fun x hx => h x (List.mem_cons_of_mem _ hx)⟩
theorem okS_p {v : PV} {st : List PV} (h : okv v) (h2 : okS st) : okS (v :: st) := fun x hx => (List.mem_cons.mp hx).elim (fun e => by rw [e]; exact h) (h2 x)
def lk : PL → Nat → Option PV
  | [], _ => none
  | q :: r, i => bif q.1 == i then some q.2 else lk r i
theorem lk_mem : ∀ {ls : PL} {i : Nat} {v : PV}, lk ls i = some v → (i, v) ∈ ls
  | [], i, v, h => by cases h
  | q :: r, i, v, h => by
    unfold lk at h
    by_cases e : q.1 = i
    · have e2 : (q.1 == i) = true := by simp [e]
      rw [e2] at h
      have h3 : q.2 = v := Option.some.inj h
      rw [← e, ← h3]
      exact List.mem_cons_self
    · have e2 : (q.1 == i) = false := by simp [e]
      rw [e2] at h
      exact List.mem_cons_of_mem _ (lk_mem h)
def stI : PL → Nat → PV → PL
  | [], i, v => [(i, v)]
  | q :: r, i, v => bif q.1 == i then (i, v) :: r else q :: stI r i v
def isLg : PV → Bool
  | .inr (.inl _) => true
  | _ => false
def okSt (ls : PL) (i : Nat) (v : PV) : Bool := ls.all (fun q => !(isLg q.2 && q.1 + 1 == i) && !(isLg v && q.1 == i + 1)) && va_nd (ls.map (·.1))
theorem stI_mem : ∀ {ls : PL} {i : Nat} {v : PV}, va_nd (ls.map (·.1)) = true → ∀ q ∈ stI ls i v, q = (i, v) ∨ (q ∈ ls ∧ q.1 ≠ i)
  | [], i, v, _, q, h => Or.inl (by simpa [stI] using h)
  | x :: r, i, v, hn, q, h => by
    simp only [List.map_cons, va_nd, Bool.and_eq_true, decide_eq_true_eq] at hn
    unfold stI at h
    by_cases e : x.1 = i
    · have e2 : (x.1 == i) = true := by simp [e]
      rw [e2] at h
      rcases List.mem_cons.mp h with h | h
      · exact Or.inl h
      · refine Or.inr ⟨List.mem_cons_of_mem _ h, fun hq => hn.1 ?_⟩
        rw [e, ← hq]
        exact List.mem_map.mpr ⟨q, h, rfl⟩
    · have e2 : (x.1 == i) = false := by simp [e]
      rw [e2] at h
      rcases List.mem_cons.mp h with h | h
      · exact Or.inr ⟨by rw [h]; exact List.mem_cons_self, by rw [h]; exact e⟩
      · rcases stI_mem hn.2 q h with h | h
        · exact Or.inl h
        · exact Or.inr ⟨List.mem_cons_of_mem _ h.1, h.2⟩
theorem okL_st {ls : PL} {i : Nat} {v : PV} (h : okL ls) (hv : okv v) (hs : okSt ls i v = true) : okL (stI ls i v) := by
  unfold okSt at hs
  rw [Bool.and_eq_true] at hs
  intro q hq
  rcases stI_mem hs.2 q hq with e | e
  · rw [e]; exact hv
  · exact h q e.1
theorem isLg_cat (b qs : Nat) (v : PV) : isLg v = ((cv b qs v).category == 2) := by
  rcases v with z | z | n | u
  · rfl
  · rfl
  · show false = ((rf b n).category == 2)
    unfold rf
    split <;> rfl
  · rfl
theorem lvh_st {b qs n i : Nat} {ls : PL} {v : PV} {a : Array Slot} (hs : okSt ls i v = true) (h : lv_has a n ((i, cv b qs v) :: (cvL b qs ls).filter (fun q => !(q.1 == i) && !(q.1 + 1 == i && q.2.category == 2)))) : lv_has a n (cvL b qs (stI ls i v)) := by
  unfold okSt at hs
  rw [Bool.and_eq_true] at hs
  refine ⟨h.1, h.2.1, fun q hq => ?_⟩
  obtain ⟨x, hx, rfl⟩ := List.mem_map.mp hq
  rcases stI_mem hs.2 x hx with e | e
  · rw [e]; exact h.2.2 _ List.mem_cons_self
  · refine h.2.2 _ (List.mem_cons_of_mem _ (List.mem_filter.mpr ⟨List.mem_map.mpr ⟨x, e.1, rfl⟩, ?_⟩))
    have h1 := List.all_eq_true.mp hs.1 x e.1
    simp only [Bool.and_eq_true, Bool.not_eq_true'] at h1
    simp only [Bool.and_eq_true, Bool.not_eq_true']
    rw [← isLg_cat]
    refine ⟨by simp [e.2], ?_⟩
    rw [Bool.and_comm]
    exact h1.1
theorem lvh_st2 {b qs n i : Nat} {ls : PL} {v : PV} {a : Array Slot} (hv : isLg v = true) (hs : okSt ls i v = true) (h : lv_has a n ((i, cv b qs v) :: (cvL b qs ls).filter (fun q => !(q.1 == i) && (!(q.1 == i + 1) && !(q.1 + 1 == i && q.2.category == 2))))) : lv_has a n (cvL b qs (stI ls i v)) := by
  unfold okSt at hs
  rw [Bool.and_eq_true] at hs
  refine ⟨h.1, h.2.1, fun q hq => ?_⟩
  obtain ⟨x, hx, rfl⟩ := List.mem_map.mp hq
  rcases stI_mem hs.2 x hx with e | e
  · rw [e]; exact h.2.2 _ List.mem_cons_self
  · refine h.2.2 _ (List.mem_cons_of_mem _ (List.mem_filter.mpr ⟨List.mem_map.mpr ⟨x, e.1, rfl⟩, ?_⟩))
    have h1 := List.all_eq_true.mp hs.1 x e.1
    rw [hv] at h1
    simp only [Bool.and_eq_true, Bool.not_eq_true', Bool.true_and] at h1
    simp only [Bool.and_eq_true, Bool.not_eq_true']
    rw [← isLg_cat]
    refine ⟨by simp [e.2], h1.2, ?_⟩
    rw [Bool.and_comm]
    exact h1.1
theorem cvL_get {b qs n i : Nat} {ls : PL} {v : PV} {a : Array Slot} (h : lv_has a n (cvL b qs ls)) (hl : lk ls i = some v) : a[i]? = some (.val (cv b qs v)) := h.2.2 (i, cv b qs v) (List.mem_map.mpr ⟨(i, v), lk_mem hl, rfl⟩)
section TR
variable {X : Option (Nat × (Nat → Int32))} {μ : MI} {d : Nat} {fin : Nat → Nat → Option Nat} {bc bs : Nat} {sh : SHP} {pc : Nat} {ls : PL} {st : List PV} {c : HC} {Q : Option PV → SHP → HC → Prop}
theorem T_iconst {n : Int} (hd : decode μ.2.1 pc = .ok (.iconst n, 1)) (hn : InR n) (k : T X μ d fin bc bs sh (pc + 1) ls (vi n :: st) c Q) : T X μ d fin bc bs sh pc ls st c Q := by
  intro p l e R s m args below meth c_ D dA b qs Qr F S K H locs cells slots ls_ M O L V
  exact lv_iconst F.1 F.2.1 hd rfl (k p l e R s m args below meth c_ D dA b qs Qr F S K H locs cells slots ls_ M (okS_p hn O) L V)
theorem T_bipush {n : Int} (hd : decode μ.2.1 pc = .ok (.bipush n, 2)) (hv : (Int8.ofInt n).toInt32 = i32 n) (hn : InR n) (k : T X μ d fin bc bs sh (pc + 2) ls (vi n :: st) c Q) : T X μ d fin bc bs sh pc ls st c Q := by
  intro p l e R s m args below meth c_ D dA b qs Qr F S K H locs cells slots ls_ M O L V
  exact lv_bipush F.1 F.2.1 hd hv (k p l e R s m args below meth c_ D dA b qs Qr F S K H locs cells slots ls_ M (okS_p hn O) L V)
theorem T_sipush {n : Int} (hd : decode μ.2.1 pc = .ok (.sipush n, 3)) (hv : (Int16.ofInt n).toInt32 = i32 n) (hn : InR n) (k : T X μ d fin bc bs sh (pc + 3) ls (vi n :: st) c Q) : T X μ d fin bc bs sh pc ls st c Q := by
  intro p l e R s m args below meth c_ D dA b qs Qr F S K H locs cells slots ls_ M O L V
  exact lv_sipush F.1 F.2.1 hd hv (k p l e R s m args below meth c_ D dA b qs Qr F S K H locs cells slots ls_ M (okS_p hn O) L V)
theorem T_ldc {n : Int} {idx : Nat} (hd : decode μ.2.1 pc = .ok (.ldc idx, 2)) (hw : Cond.constant μ.1.cls idx (i32 n) ∈ lw_tbl) (hn : InR n) (k : T X μ d fin bc bs sh (pc + 2) ls (vi n :: st) c Q) : T X μ d fin bc bs sh pc ls st c Q := by
  intro p l e R s m args below meth c_ D dA b qs Qr F S K H locs cells slots ls_ M O L V
  exact lv_ldc F.1 F.2.1 F.2.2.2.1 (F.2.2.2.2.2.2.word hw rfl) hd (k p l e R s m args below meth c_ D dA b qs Qr F S K H locs cells slots ls_ M (okS_p hn O) L V)
theorem T_ldcw {n : Int} {idx : Nat} (hd : decode μ.2.1 pc = .ok (.ldc_w idx, 3)) (hw : Cond.constant μ.1.cls idx (i32 n) ∈ lw_tbl) (hn : InR n) (k : T X μ d fin bc bs sh (pc + 3) ls (vi n :: st) c Q) : T X μ d fin bc bs sh pc ls st c Q := by
  intro p l e R s m args below meth c_ D dA b qs Qr F S K H locs cells slots ls_ M O L V
  exact lv_ldcw F.1 F.2.1 F.2.2.2.1 (F.2.2.2.2.2.2.word hw rfl) hd (k p l e R s m args below meth c_ D dA b qs Qr F S K H locs cells slots ls_ M (okS_p hn O) L V)
theorem T_ldc2 {n : Int} {idx : Nat} (hd : decode μ.2.1 pc = .ok (.ldc2_w idx, 3)) (hw : Cond.constantLong μ.1.cls idx (i64 n) ∈ lw_tbl) (hn : InL n) (k : T X μ d fin bc bs sh (pc + 3) ls (vl n :: st) c Q) : T X μ d fin bc bs sh pc ls st c Q := by
  intro p l e R s m args below meth c_ D dA b qs Qr F S K H locs cells slots ls_ M O L V
  exact lv_ldc2 F.1 F.2.1 F.2.2.2.1 (F.2.2.2.2.2.2.word hw rfl) hd (k p l e R s m args below meth c_ D dA b qs Qr F S K H locs cells slots ls_ M (okS_p hn O) L V)
theorem T_lconst {n : Fin 2} {z : Int} (hd : decode μ.2.1 pc = .ok (.lconst n, 1)) (hv : Int64.ofNat (n : Nat) = i64 z) (hz : InL z) (k : T X μ d fin bc bs sh (pc + 1) ls (vl z :: st) c Q) : T X μ d fin bc bs sh pc ls st c Q := by
  intro p l e R s m args below meth c_ D dA b qs Qr F S K H locs cells slots ls_ M O L V
  exact lv_lconst F.1 F.2.1 hd hv (k p l e R s m args below meth c_ D dA b qs Qr F S K H locs cells slots ls_ M (okS_p hz O) L V)
theorem T_iloadn {j : Fin 4} {i : Nat} {z : Int} (hd : decode μ.2.1 pc = .ok (.iload_n j, 1)) (hi : (j : Nat) = i) (hl : lk ls i = some (vi z)) (k : T X μ d fin bc bs sh (pc + 1) ls (vi z :: st) c Q) : T X μ d fin bc bs sh pc ls st c Q := by
  intro p l e R s m args below meth c_ D dA b qs Qr F S K H locs cells slots ls_ M O L V
  exact lv_iload_n F.1 F.2.1 hd hi (cvL_get V hl) (k p l e R s m args below meth c_ D dA b qs Qr F S K H locs cells slots ls_ M (okS_p (L _ (lk_mem hl)) O) L V)
theorem T_lloadn {j : Fin 4} {i : Nat} {z : Int} (hd : decode μ.2.1 pc = .ok (.lload_n j, 1)) (hi : (j : Nat) = i) (hl : lk ls i = some (vl z)) (k : T X μ d fin bc bs sh (pc + 1) ls (vl z :: st) c Q) : T X μ d fin bc bs sh pc ls st c Q := by
  intro p l e R s m args below meth c_ D dA b qs Qr F S K H locs cells slots ls_ M O L V
  exact lv_lload_n F.1 F.2.1 hd hi (cvL_get V hl) (k p l e R s m args below meth c_ D dA b qs Qr F S K H locs cells slots ls_ M (okS_p (L _ (lk_mem hl)) O) L V)
theorem T_aloadn {j : Fin 4} {i : Nat} {a : Nat} (hd : decode μ.2.1 pc = .ok (.aload_n j, 1)) (hi : (j : Nat) = i) (hl : lk ls i = some (vr a)) (k : T X μ d fin bc bs sh (pc + 1) ls (vr a :: st) c Q) : T X μ d fin bc bs sh pc ls st c Q := by
  intro p l e R s m args below meth c_ D dA b qs Qr F S K H locs cells slots ls_ M O L V
  have h := k p l e R s m args below meth c_ D dA b qs Qr F S K H locs cells slots ls_ M (okS_p trivial O) L V
  have g := cvL_get V hl
  show W _ _ _ _ _ _ _ _ _ _ _ _ _ _ _ _
  by_cases e0 : a = 0
  · subst e0
    exact lv_aload_nN F.1 F.2.1 hd hi g h
  · have e1 : cv b qs (vr a) = .ref (b + a) := by show rf b a = _; unfold rf; rw [if_neg e0]
    rw [e1] at g
    rw [List.map_cons, e1] at h
    exact lv_aload_n F.1 F.2.1 hd hi g h
theorem T_sloadn {j : Fin 4} {i : Nat} (hd : decode μ.2.1 pc = .ok (.aload_n j, 1)) (hi : (j : Nat) = i) (hl : lk ls i = some vscr) (k : T X μ d fin bc bs sh (pc + 1) ls (vscr :: st) c Q) : T X μ d fin bc bs sh pc ls st c Q := by
  intro p l e R s m args below meth c_ D dA b qs Qr F S K H locs cells slots ls_ M O L V
  exact lv_aload_n F.1 F.2.1 hd hi (cvL_get V hl) (k p l e R s m args below meth c_ D dA b qs Qr F S K H locs cells slots ls_ M (okS_p trivial O) L V)
theorem T_iload {i : Nat} {z : Int} (hd : decode μ.2.1 pc = .ok (.iload i, 2)) (hl : lk ls i = some (vi z)) (k : T X μ d fin bc bs sh (pc + 2) ls (vi z :: st) c Q) : T X μ d fin bc bs sh pc ls st c Q := by
  intro p l e R s m args below meth c_ D dA b qs Qr F S K H locs cells slots ls_ M O L V
  exact lv_iload F.1 F.2.1 hd (cvL_get V hl) (k p l e R s m args below meth c_ D dA b qs Qr F S K H locs cells slots ls_ M (okS_p (L _ (lk_mem hl)) O) L V)
theorem T_lload {i : Nat} {z : Int} (hd : decode μ.2.1 pc = .ok (.lload i, 2)) (hl : lk ls i = some (vl z)) (k : T X μ d fin bc bs sh (pc + 2) ls (vl z :: st) c Q) : T X μ d fin bc bs sh pc ls st c Q := by
  intro p l e R s m args below meth c_ D dA b qs Qr F S K H locs cells slots ls_ M O L V
  exact lv_lload F.1 F.2.1 hd (cvL_get V hl) (k p l e R s m args below meth c_ D dA b qs Qr F S K H locs cells slots ls_ M (okS_p (L _ (lk_mem hl)) O) L V)
theorem T_aload {i : Nat} {a : Nat} (hd : decode μ.2.1 pc = .ok (.aload i, 2)) (hl : lk ls i = some (vr a)) (k : T X μ d fin bc bs sh (pc + 2) ls (vr a :: st) c Q) : T X μ d fin bc bs sh pc ls st c Q := by
  intro p l e R s m args below meth c_ D dA b qs Qr F S K H locs cells slots ls_ M O L V
  have h := k p l e R s m args below meth c_ D dA b qs Qr F S K H locs cells slots ls_ M (okS_p trivial O) L V
  have g := cvL_get V hl
  show W _ _ _ _ _ _ _ _ _ _ _ _ _ _ _ _
  by_cases e0 : a = 0
  · subst e0
    exact lv_aloadN F.1 F.2.1 hd g h
  · have e1 : cv b qs (vr a) = .ref (b + a) := by show rf b a = _; unfold rf; rw [if_neg e0]
    rw [e1] at g
    rw [List.map_cons, e1] at h
    exact lv_aload F.1 F.2.1 hd g h
theorem T_sload {i : Nat} (hd : decode μ.2.1 pc = .ok (.aload i, 2)) (hl : lk ls i = some vscr) (k : T X μ d fin bc bs sh (pc + 2) ls (vscr :: st) c Q) : T X μ d fin bc bs sh pc ls st c Q := by
  intro p l e R s m args below meth c_ D dA b qs Qr F S K H locs cells slots ls_ M O L V
  exact lv_aload F.1 F.2.1 hd (cvL_get V hl) (k p l e R s m args below meth c_ D dA b qs Qr F S K H locs cells slots ls_ M (okS_p trivial O) L V)
theorem T_istoren {j : Fin 4} {i : Nat} {z : Int} (hd : decode μ.2.1 pc = .ok (.istore_n j, 1)) (hi : (j : Nat) = i) (hn : i < μ.2.2.1) (hs : okSt ls i (vi z) = true) (k : T X μ d fin bc bs sh (pc + 1) (stI ls i (vi z)) st c Q) : T X μ d fin bc bs sh pc ls (vi z :: st) c Q := by
  intro p l e R s m args below meth c_ D dA b qs Qr F S K H locs cells slots ls_ M O L V
  exact lv_istore_n F.1 F.2.1 hd hi V hn rfl (fun ls2 hl2 => k p l e R s m args below meth c_ D dA b qs Qr F S K H locs cells slots ls2 M (okS_c O).2 (okL_st L (okS_c O).1 hs) (lvh_st hs hl2))
theorem T_lstoren {j : Fin 4} {i : Nat} {z : Int} (hd : decode μ.2.1 pc = .ok (.lstore_n j, 1)) (hi : (j : Nat) = i) (hn : i + 1 < μ.2.2.1) (hs : okSt ls i (vl z) = true) (k : T X μ d fin bc bs sh (pc + 1) (stI ls i (vl z)) st c Q) : T X μ d fin bc bs sh pc ls (vl z :: st) c Q := by
  intro p l e R s m args below meth c_ D dA b qs Qr F S K H locs cells slots ls_ M O L V
  exact lv_lstore_n F.1 F.2.1 hd hi V hn rfl (fun ls2 hl2 => k p l e R s m args below meth c_ D dA b qs Qr F S K H locs cells slots ls2 M (okS_c O).2 (okL_st L (okS_c O).1 hs) (lvh_st2 rfl hs hl2))
theorem T_astoren {j : Fin 4} {i : Nat} {a : Nat} (hd : decode μ.2.1 pc = .ok (.astore_n j, 1)) (hi : (j : Nat) = i) (hn : i < μ.2.2.1) (hs : okSt ls i (vr a) = true) (k : T X μ d fin bc bs sh (pc + 1) (stI ls i (vr a)) st c Q) : T X μ d fin bc bs sh pc ls (vr a :: st) c Q := by
  intro p l e R s m args below meth c_ D dA b qs Qr F S K H locs cells slots ls_ M O L V
  have h := fun (ls2 : Array Slot) (hl2 : lv_has ls2 μ.2.2.1 ((i, cv b qs (vr a)) :: (cvL b qs ls).filter (fun q => !(q.1 == i) && !(q.1 + 1 == i && q.2.category == 2)))) => k p l e R s m args below meth c_ D dA b qs Qr F S K H locs cells slots ls2 M (okS_c O).2 (okL_st L (okS_c O).1 hs) (lvh_st hs hl2)
  by_cases e0 : a = 0
  · subst e0
    exact lv_astore_nN F.1 F.2.1 hd hi V hn rfl h
  · have e1 : cv b qs (vr a) = .ref (b + a) := by show rf b a = _; unfold rf; rw [if_neg e0]
    rw [e1] at h
    rw [List.map_cons, e1]
    exact lv_astore_n F.1 F.2.1 hd hi V hn rfl h
theorem T_istore {i : Nat} {z : Int} (hd : decode μ.2.1 pc = .ok (.istore i, 2)) (hn : i < μ.2.2.1) (hs : okSt ls i (vi z) = true) (k : T X μ d fin bc bs sh (pc + 2) (stI ls i (vi z)) st c Q) : T X μ d fin bc bs sh pc ls (vi z :: st) c Q := by
  intro p l e R s m args below meth c_ D dA b qs Qr F S K H locs cells slots ls_ M O L V
  exact lv_istore F.1 F.2.1 hd V hn rfl (fun ls2 hl2 => k p l e R s m args below meth c_ D dA b qs Qr F S K H locs cells slots ls2 M (okS_c O).2 (okL_st L (okS_c O).1 hs) (lvh_st hs hl2))
theorem T_lstore {i : Nat} {z : Int} (hd : decode μ.2.1 pc = .ok (.lstore i, 2)) (hn : i + 1 < μ.2.2.1) (hs : okSt ls i (vl z) = true) (k : T X μ d fin bc bs sh (pc + 2) (stI ls i (vl z)) st c Q) : T X μ d fin bc bs sh pc ls (vl z :: st) c Q := by
  intro p l e R s m args below meth c_ D dA b qs Qr F S K H locs cells slots ls_ M O L V
  exact lv_lstore F.1 F.2.1 hd V hn rfl (fun ls2 hl2 => k p l e R s m args below meth c_ D dA b qs Qr F S K H locs cells slots ls2 M (okS_c O).2 (okL_st L (okS_c O).1 hs) (lvh_st2 rfl hs hl2))
theorem T_astore {i : Nat} {a : Nat} (hd : decode μ.2.1 pc = .ok (.astore i, 2)) (hn : i < μ.2.2.1) (hs : okSt ls i (vr a) = true) (k : T X μ d fin bc bs sh (pc + 2) (stI ls i (vr a)) st c Q) : T X μ d fin bc bs sh pc ls (vr a :: st) c Q := by
  intro p l e R s m args below meth c_ D dA b qs Qr F S K H locs cells slots ls_ M O L V
  have h := fun (ls2 : Array Slot) (hl2 : lv_has ls2 μ.2.2.1 ((i, cv b qs (vr a)) :: (cvL b qs ls).filter (fun q => !(q.1 == i) && !(q.1 + 1 == i && q.2.category == 2)))) => k p l e R s m args below meth c_ D dA b qs Qr F S K H locs cells slots ls2 M (okS_c O).2 (okL_st L (okS_c O).1 hs) (lvh_st hs hl2)
  by_cases e0 : a = 0
  · subst e0
    exact lv_astoreN F.1 F.2.1 hd V hn rfl h
  · have e1 : cv b qs (vr a) = .ref (b + a) := by show rf b a = _; unfold rf; rw [if_neg e0]
    rw [e1] at h
    rw [List.map_cons, e1]
    exact lv_astore F.1 F.2.1 hd V hn rfl h
theorem T_iinc {i : Nat} {n z : Int} (hd : decode μ.2.1 pc = .ok (.iinc i n, 3)) (hl : lk ls i = some (vi z)) (hn : i < μ.2.2.1) (hs : okSt ls i (vi (wr (z + n))) = true) (k : T X μ d fin bc bs sh (pc + 3) (stI ls i (vi (wr (z + n)))) st c Q) : T X μ d fin bc bs sh pc ls st c Q := by
  intro p l e R s m args below meth c_ D dA b qs Qr F S K H locs cells slots ls_ M O L V
  obtain ⟨kk, hk⟩ := List.getElem?_of_mem (show (i, cv b qs (vi z)) ∈ cvL b qs ls from List.mem_map.mpr ⟨(i, vi z), lk_mem hl, rfl⟩)
  exact lv_iinc F.1 F.2.1 hd V hk (i32_add z n) hn rfl (fun ls2 hl2 => k p l e R s m args below meth c_ D dA b qs Qr F S K H locs cells slots ls2 M O (okL_st L (wr_in _) hs) (lvh_st hs hl2))
theorem T_iincN {i : Nat} {n z : Int} (hd : decode μ.2.1 pc = .ok (.iinc i n, 3)) (hl : lk ls i = some (vi z)) (hn : i < μ.2.2.1) (hs : okSt ls i (vi (z + n)) = true) (hr : -2147483648 ≤ z + n ∧ z + n ≤ 2147483647) (k : T X μ d fin bc bs sh (pc + 3) (stI ls i (vi (z + n))) st c Q) : T X μ d fin bc bs sh pc ls st c Q := by
  intro p l e R s m args below meth c_ D dA b qs Qr F S K H locs cells slots ls_ M O L V
  have ee := wr_id hr.1 hr.2
  refine T_iinc hd hl hn (by rw [ee]; exact hs) (by rw [ee]; exact k) p l e R s m args below meth c_ D dA b qs Qr F S K H locs cells slots ls_ M O L V
theorem T_iadd {x y : Int} (hd : decode μ.2.1 pc = .ok (.iadd, 1))  (k : T X μ d fin bc bs sh (pc + 1) ls (vi (wr (x + y)) :: st) c Q) : T X μ d fin bc bs sh pc ls (vi y :: vi x :: st) c Q := by
  intro p l e R s m args below meth c_ D dA b qs Qr F S K H locs cells slots ls_ M O L V
  obtain ⟨oy, O⟩ := okS_c O
  obtain ⟨ox, O⟩ := okS_c O
  have h := k p l e R s m args below meth c_ D dA b qs Qr F S K H locs cells slots ls_ M (okS_p (wr_in _) O) L V
  refine lv_iadd F.1 F.2.1 hd ?_
  rw [i32_add]
  exact h
theorem T_isub {x y : Int} (hd : decode μ.2.1 pc = .ok (.isub, 1))  (k : T X μ d fin bc bs sh (pc + 1) ls (vi (wr (x - y)) :: st) c Q) : T X μ d fin bc bs sh pc ls (vi y :: vi x :: st) c Q := by
  intro p l e R s m args below meth c_ D dA b qs Qr F S K H locs cells slots ls_ M O L V
  obtain ⟨oy, O⟩ := okS_c O
  obtain ⟨ox, O⟩ := okS_c O
  have h := k p l e R s m args below meth c_ D dA b qs Qr F S K H locs cells slots ls_ M (okS_p (wr_in _) O) L V
  refine lv_isub F.1 F.2.1 hd ?_
  rw [i32_sub]
  exact h
theorem T_imul {x y : Int} (hd : decode μ.2.1 pc = .ok (.imul, 1))  (k : T X μ d fin bc bs sh (pc + 1) ls (vi (wr (x * y)) :: st) c Q) : T X μ d fin bc bs sh pc ls (vi y :: vi x :: st) c Q := by
  intro p l e R s m args below meth c_ D dA b qs Qr F S K H locs cells slots ls_ M O L V
  obtain ⟨oy, O⟩ := okS_c O
  obtain ⟨ox, O⟩ := okS_c O
  have h := k p l e R s m args below meth c_ D dA b qs Qr F S K H locs cells slots ls_ M (okS_p (wr_in _) O) L V
  refine lv_imul F.1 F.2.1 hd ?_
  rw [i32_mul]
  exact h
theorem T_iaddN {x y : Int} (hd : decode μ.2.1 pc = .ok (.iadd, 1)) (hr : -2147483648 ≤ x + y ∧ x + y ≤ 2147483647) (k : T X μ d fin bc bs sh (pc + 1) ls (vi (x + y) :: st) c Q) : T X μ d fin bc bs sh pc ls (vi y :: vi x :: st) c Q := by
  intro p l e R s m args below meth c_ D dA b qs Qr F S K H locs cells slots ls_ M O L V
  exact T_iadd hd (by rw [wr_id hr.1 hr.2]; exact k) p l e R s m args below meth c_ D dA b qs Qr F S K H locs cells slots ls_ M O L V
theorem T_isubN {x y : Int} (hd : decode μ.2.1 pc = .ok (.isub, 1)) (hr : -2147483648 ≤ x - y ∧ x - y ≤ 2147483647) (k : T X μ d fin bc bs sh (pc + 1) ls (vi (x - y) :: st) c Q) : T X μ d fin bc bs sh pc ls (vi y :: vi x :: st) c Q := by
  intro p l e R s m args below meth c_ D dA b qs Qr F S K H locs cells slots ls_ M O L V
  exact T_isub hd (by rw [wr_id hr.1 hr.2]; exact k) p l e R s m args below meth c_ D dA b qs Qr F S K H locs cells slots ls_ M O L V
theorem T_imulN {x y : Int} (hd : decode μ.2.1 pc = .ok (.imul, 1)) (hr : -2147483648 ≤ x * y ∧ x * y ≤ 2147483647) (k : T X μ d fin bc bs sh (pc + 1) ls (vi (x * y) :: st) c Q) : T X μ d fin bc bs sh pc ls (vi y :: vi x :: st) c Q := by
  intro p l e R s m args below meth c_ D dA b qs Qr F S K H locs cells slots ls_ M O L V
  exact T_imul hd (by rw [wr_id hr.1 hr.2]; exact k) p l e R s m args below meth c_ D dA b qs Qr F S K H locs cells slots ls_ M O L V
theorem T_idiv {x y : Int} (hd : decode μ.2.1 pc = .ok (.idiv, 1)) (h0 : 0 < y) (k : T X μ d fin bc bs sh (pc + 1) ls (vi (x.tdiv y) :: st) c Q) : T X μ d fin bc bs sh pc ls (vi y :: vi x :: st) c Q := by
  intro p l e R s m args below meth c_ D dA b qs Qr F S K H locs cells slots ls_ M O L V
  obtain ⟨oy, O⟩ := okS_c O
  obtain ⟨ox, O⟩ := okS_c O
  have h := k p l e R s m args below meth c_ D dA b qs Qr F S K H locs cells slots ls_ M (okS_p (tdiv_in ox h0) O) L V
  refine lv_idiv F.1 F.2.1 hd ?_ ?_
  · intro e
    have e2 := congrArg (fun q => q.toInt) e
    have e3 := i32_toInt oy
    have e4 : y = 0 := e3.symm.trans e2
    omega
  · rw [i32_div ox oy h0]
    exact h
theorem T_irem {x y : Int} (hd : decode μ.2.1 pc = .ok (.irem, 1)) (h0 : 0 < y) (k : T X μ d fin bc bs sh (pc + 1) ls (vi (x.tmod y) :: st) c Q) : T X μ d fin bc bs sh pc ls (vi y :: vi x :: st) c Q := by
  intro p l e R s m args below meth c_ D dA b qs Qr F S K H locs cells slots ls_ M O L V
  obtain ⟨oy, O⟩ := okS_c O
  obtain ⟨ox, O⟩ := okS_c O
  have h := k p l e R s m args below meth c_ D dA b qs Qr F S K H locs cells slots ls_ M (okS_p (tmod_in h0 oy) O) L V
  refine lv_irem F.1 F.2.1 hd ?_ ?_
  · intro e
    have e2 := congrArg (fun q => q.toInt) e
    have e3 := i32_toInt oy
    have e4 : y = 0 := e3.symm.trans e2
    omega
  · rw [i32_rem ox oy h0]
    exact h
theorem T_ldiv {x y : Int} (hd : decode μ.2.1 pc = .ok (.ldiv, 1)) (h0 : 0 < y) (k : T X μ d fin bc bs sh (pc + 1) ls (vl (x.tdiv y) :: st) c Q) : T X μ d fin bc bs sh pc ls (vl y :: vl x :: st) c Q := by
  intro p l e R s m args below meth c_ D dA b qs Qr F S K H locs cells slots ls_ M O L V
  obtain ⟨oy, O⟩ := okS_c O
  obtain ⟨ox, O⟩ := okS_c O
  have h := k p l e R s m args below meth c_ D dA b qs Qr F S K H locs cells slots ls_ M (okS_p (tdivL_in ox h0) O) L V
  refine lv_ldiv F.1 F.2.1 hd ?_ ?_
  · intro e
    have e2 := congrArg (fun q => q.toInt) e
    have e3 := i64_toInt oy
    have e4 : y = 0 := e3.symm.trans e2
    omega
  · rw [i64_div ox oy h0]
    exact h
theorem T_lrem {x y : Int} (hd : decode μ.2.1 pc = .ok (.lrem, 1)) (h0 : 0 < y) (k : T X μ d fin bc bs sh (pc + 1) ls (vl (x.tmod y) :: st) c Q) : T X μ d fin bc bs sh pc ls (vl y :: vl x :: st) c Q := by
  intro p l e R s m args below meth c_ D dA b qs Qr F S K H locs cells slots ls_ M O L V
  obtain ⟨oy, O⟩ := okS_c O
  obtain ⟨ox, O⟩ := okS_c O
  have h := k p l e R s m args below meth c_ D dA b qs Qr F S K H locs cells slots ls_ M (okS_p (tmodL_in h0 oy) O) L V
  refine lv_lrem F.1 F.2.1 hd ?_ ?_
  · intro e
    have e2 := congrArg (fun q => q.toInt) e
    have e3 := i64_toInt oy
    have e4 : y = 0 := e3.symm.trans e2
    omega
  · rw [i64_rem ox oy h0]
    exact h
theorem T_idivN {x y : Int} (hd : decode μ.2.1 pc = .ok (.idiv, 1)) (hx : 0 ≤ x) (h0 : 0 < y) (k : T X μ d fin bc bs sh (pc + 1) ls (vi (x / y) :: st) c Q) : T X μ d fin bc bs sh pc ls (vi y :: vi x :: st) c Q := by
  intro p l e R s m args below meth c_ D dA b qs Qr F S K H locs cells slots ls_ M O L V
  exact T_idiv hd h0 (by rw [Int.tdiv_eq_ediv_of_nonneg hx]; exact k) p l e R s m args below meth c_ D dA b qs Qr F S K H locs cells slots ls_ M O L V
theorem T_iremN {x y : Int} (hd : decode μ.2.1 pc = .ok (.irem, 1)) (hx : 0 ≤ x) (h0 : 0 < y) (k : T X μ d fin bc bs sh (pc + 1) ls (vi (x % y) :: st) c Q) : T X μ d fin bc bs sh pc ls (vi y :: vi x :: st) c Q := by
  intro p l e R s m args below meth c_ D dA b qs Qr F S K H locs cells slots ls_ M O L V
  exact T_irem hd h0 (by rw [Int.tmod_eq_emod_of_nonneg hx]; exact k) p l e R s m args below meth c_ D dA b qs Qr F S K H locs cells slots ls_ M O L V
theorem T_ineg {x : Int} (hd : decode μ.2.1 pc = .ok (.ineg, 1)) (k : T X μ d fin bc bs sh (pc + 1) ls (vi (wr (-x)) :: st) c Q) : T X μ d fin bc bs sh pc ls (vi x :: st) c Q := by
  intro p l e R s m args below meth c_ D dA b qs Qr F S K H locs cells slots ls_ M O L V
  obtain ⟨ox, O⟩ := okS_c O
  have h := k p l e R s m args below meth c_ D dA b qs Qr F S K H locs cells slots ls_ M (okS_p (wr_in _) O) L V
  refine lv_ineg F.1 F.2.1 hd ?_
  rw [i32_neg]
  exact h
theorem T_inegN {x : Int} (hd : decode μ.2.1 pc = .ok (.ineg, 1)) (hr : -2147483648 ≤ -x ∧ -x ≤ 2147483647) (k : T X μ d fin bc bs sh (pc + 1) ls (vi (-x) :: st) c Q) : T X μ d fin bc bs sh pc ls (vi x :: st) c Q := by
  intro p l e R s m args below meth c_ D dA b qs Qr F S K H locs cells slots ls_ M O L V
  exact T_ineg hd (by rw [wr_id hr.1 hr.2]; exact k) p l e R s m args below meth c_ D dA b qs Qr F S K H locs cells slots ls_ M O L V
theorem T_iand {x y : Int} (hd : decode μ.2.1 pc = .ok (.iand, 1))  (k : T X μ d fin bc bs sh (pc + 1) ls (vi (band x y) :: st) c Q) : T X μ d fin bc bs sh pc ls (vi y :: vi x :: st) c Q := by
  intro p l e R s m args below meth c_ D dA b qs Qr F S K H locs cells slots ls_ M O L V
  obtain ⟨oy, O⟩ := okS_c O
  obtain ⟨ox, O⟩ := okS_c O
  have h := k p l e R s m args below meth c_ D dA b qs Qr F S K H locs cells slots ls_ M (okS_p (InR_toInt _) O) L V
  refine lv_iand F.1 F.2.1 hd ?_
  rw [i32_band]
  exact h
theorem T_ior {x y : Int} (hd : decode μ.2.1 pc = .ok (.ior, 1))  (k : T X μ d fin bc bs sh (pc + 1) ls (vi (bor x y) :: st) c Q) : T X μ d fin bc bs sh pc ls (vi y :: vi x :: st) c Q := by
  intro p l e R s m args below meth c_ D dA b qs Qr F S K H locs cells slots ls_ M O L V
  obtain ⟨oy, O⟩ := okS_c O
  obtain ⟨ox, O⟩ := okS_c O
  have h := k p l e R s m args below meth c_ D dA b qs Qr F S K H locs cells slots ls_ M (okS_p (InR_toInt _) O) L V
  refine lv_ior F.1 F.2.1 hd ?_
  rw [i32_bor]
  exact h
theorem T_ixor {x y : Int} (hd : decode μ.2.1 pc = .ok (.ixor, 1))  (k : T X μ d fin bc bs sh (pc + 1) ls (vi (bxor x y) :: st) c Q) : T X μ d fin bc bs sh pc ls (vi y :: vi x :: st) c Q := by
  intro p l e R s m args below meth c_ D dA b qs Qr F S K H locs cells slots ls_ M O L V
  obtain ⟨oy, O⟩ := okS_c O
  obtain ⟨ox, O⟩ := okS_c O
  have h := k p l e R s m args below meth c_ D dA b qs Qr F S K H locs cells slots ls_ M (okS_p (InR_toInt _) O) L V
  refine lv_ixor F.1 F.2.1 hd ?_
  rw [i32_bxor]
  exact h
theorem T_ladd {x y : Int} (hd : decode μ.2.1 pc = .ok (.ladd, 1))  (k : T X μ d fin bc bs sh (pc + 1) ls (vl (wl (x + y)) :: st) c Q) : T X μ d fin bc bs sh pc ls (vl y :: vl x :: st) c Q := by
  intro p l e R s m args below meth c_ D dA b qs Qr F S K H locs cells slots ls_ M O L V
  obtain ⟨oy, O⟩ := okS_c O
  obtain ⟨ox, O⟩ := okS_c O
  have h := k p l e R s m args below meth c_ D dA b qs Qr F S K H locs cells slots ls_ M (okS_p (wl_in _) O) L V
  refine lv_ladd F.1 F.2.1 hd ?_
  rw [i64_add]
  exact h
theorem T_lmul {x y : Int} (hd : decode μ.2.1 pc = .ok (.lmul, 1))  (k : T X μ d fin bc bs sh (pc + 1) ls (vl (wl (x * y)) :: st) c Q) : T X μ d fin bc bs sh pc ls (vl y :: vl x :: st) c Q := by
  intro p l e R s m args below meth c_ D dA b qs Qr F S K H locs cells slots ls_ M O L V
  obtain ⟨oy, O⟩ := okS_c O
  obtain ⟨ox, O⟩ := okS_c O
  have h := k p l e R s m args below meth c_ D dA b qs Qr F S K H locs cells slots ls_ M (okS_p (wl_in _) O) L V
  refine lv_lmul F.1 F.2.1 hd ?_
  rw [i64_mul]
  exact h
theorem T_land {x y : Int} (hd : decode μ.2.1 pc = .ok (.land, 1))  (k : T X μ d fin bc bs sh (pc + 1) ls (vl (lband x y) :: st) c Q) : T X μ d fin bc bs sh pc ls (vl y :: vl x :: st) c Q := by
  intro p l e R s m args below meth c_ D dA b qs Qr F S K H locs cells slots ls_ M O L V
  obtain ⟨oy, O⟩ := okS_c O
  obtain ⟨ox, O⟩ := okS_c O
  have h := k p l e R s m args below meth c_ D dA b qs Qr F S K H locs cells slots ls_ M (okS_p (InL_toInt _) O) L V
  refine lv_land F.1 F.2.1 hd ?_
  rw [show i64 x &&& i64 y = i64 (lband x y) from (i64_toI _).symm]
  exact h
theorem T_lor {x y : Int} (hd : decode μ.2.1 pc = .ok (.lor, 1))  (k : T X μ d fin bc bs sh (pc + 1) ls (vl (lbor x y) :: st) c Q) : T X μ d fin bc bs sh pc ls (vl y :: vl x :: st) c Q := by
  intro p l e R s m args below meth c_ D dA b qs Qr F S K H locs cells slots ls_ M O L V
  obtain ⟨oy, O⟩ := okS_c O
  obtain ⟨ox, O⟩ := okS_c O
  have h := k p l e R s m args below meth c_ D dA b qs Qr F S K H locs cells slots ls_ M (okS_p (InL_toInt _) O) L V
  refine lv_lor F.1 F.2.1 hd ?_
  rw [show i64 x ||| i64 y = i64 (lbor x y) from (i64_toI _).symm]
  exact h
theorem T_ishl {x y : Int} (hd : decode μ.2.1 pc = .ok (.ishl, 1)) (h0 : 0 ≤ y) (h1 : y < 32) (k : T X μ d fin bc bs sh (pc + 1) ls (vi (wr (x * 2 ^ y.toNat)) :: st) c Q) : T X μ d fin bc bs sh pc ls (vi y :: vi x :: st) c Q := by
  intro p l e R s m args below meth c_ D dA b qs Qr F S K H locs cells slots ls_ M O L V
  obtain ⟨oy, O⟩ := okS_c O
  obtain ⟨ox, O⟩ := okS_c O
  have h := k p l e R s m args below meth c_ D dA b qs Qr F S K H locs cells slots ls_ M (okS_p (wr_in _) O) L V
  refine lv_ishl F.1 F.2.1 hd ?_
  rw [i32_shl h0 h1]
  exact h
theorem T_ishr {x y : Int} (hd : decode μ.2.1 pc = .ok (.ishr, 1)) (h0 : 0 ≤ y) (h1 : y < 32) (k : T X μ d fin bc bs sh (pc + 1) ls (vi (x / 2 ^ y.toNat) :: st) c Q) : T X μ d fin bc bs sh pc ls (vi y :: vi x :: st) c Q := by
  intro p l e R s m args below meth c_ D dA b qs Qr F S K H locs cells slots ls_ M O L V
  obtain ⟨oy, O⟩ := okS_c O
  obtain ⟨ox, O⟩ := okS_c O
  obtain ⟨e1, e2⟩ := i32_shr ox h0 h1
  have h := k p l e R s m args below meth c_ D dA b qs Qr F S K H locs cells slots ls_ M (okS_p e2 O) L V
  refine lv_ishr F.1 F.2.1 hd ?_
  rw [e1]
  exact h
theorem T_iushr {x y : Int} (hd : decode μ.2.1 pc = .ok (.iushr, 1)) (k : T X μ d fin bc bs sh (pc + 1) ls (vi (bushr x y) :: st) c Q) : T X μ d fin bc bs sh pc ls (vi y :: vi x :: st) c Q := by
  intro p l e R s m args below meth c_ D dA b qs Qr F S K H locs cells slots ls_ M O L V
  obtain ⟨oy, O⟩ := okS_c O
  obtain ⟨ox, O⟩ := okS_c O
  exact lv_iushr F.1 F.2.1 hd (i32_toI _).symm (k p l e R s m args below meth c_ D dA b qs Qr F S K H locs cells slots ls_ M (okS_p (InR_toInt _) O) L V)
theorem T_lushr {x y : Int} (hd : decode μ.2.1 pc = .ok (.lushr, 1)) (k : T X μ d fin bc bs sh (pc + 1) ls (vl (lbushr x y) :: st) c Q) : T X μ d fin bc bs sh pc ls (vi y :: vl x :: st) c Q := by
  intro p l e R s m args below meth c_ D dA b qs Qr F S K H locs cells slots ls_ M O L V
  obtain ⟨oy, O⟩ := okS_c O
  obtain ⟨ox, O⟩ := okS_c O
  exact lv_lushr F.1 F.2.1 hd (i64_toI _).symm (k p l e R s m args below meth c_ D dA b qs Qr F S K H locs cells slots ls_ M (okS_p (InL_toInt _) O) L V)
theorem T_lshl {x y : Int} (hd : decode μ.2.1 pc = .ok (.lshl, 1)) (k : T X μ d fin bc bs sh (pc + 1) ls (vl (lbshl x y) :: st) c Q) : T X μ d fin bc bs sh pc ls (vi y :: vl x :: st) c Q := by
  intro p l e R s m args below meth c_ D dA b qs Qr F S K H locs cells slots ls_ M O L V
  obtain ⟨oy, O⟩ := okS_c O
  obtain ⟨ox, O⟩ := okS_c O
  exact lv_lshl F.1 F.2.1 hd (i64_toI _).symm (k p l e R s m args below meth c_ D dA b qs Qr F S K H locs cells slots ls_ M (okS_p (InL_toInt _) O) L V)
theorem T_i2l {x : Int} (hd : decode μ.2.1 pc = .ok (.i2l, 1)) (k : T X μ d fin bc bs sh (pc + 1) ls (vl x :: st) c Q) : T X μ d fin bc bs sh pc ls (vi x :: st) c Q := by
  intro p l e R s m args below meth c_ D dA b qs Qr F S K H locs cells slots ls_ M O L V
  obtain ⟨ox, O⟩ := okS_c O
  exact lv_i2l F.1 F.2.1 hd (sxl ox) (k p l e R s m args below meth c_ D dA b qs Qr F S K H locs cells slots ls_ M (okS_p (by have := ox; unfold okv InR at this; unfold okv InL; omega) O) L V)
theorem T_l2i {x : Int} (hd : decode μ.2.1 pc = .ok (.l2i, 1)) (k : T X μ d fin bc bs sh (pc + 1) ls (vi (wr x) :: st) c Q) : T X μ d fin bc bs sh pc ls (vl x :: st) c Q := by
  intro p l e R s m args below meth c_ D dA b qs Qr F S K H locs cells slots ls_ M O L V
  obtain ⟨ox, O⟩ := okS_c O
  exact lv_l2i F.1 F.2.1 hd (l2i_eq x ox) (k p l e R s m args below meth c_ D dA b qs Qr F S K H locs cells slots ls_ M (okS_p (wr_in _) O) L V)
theorem T_i2c {x : Int} (hd : decode μ.2.1 pc = .ok (.i2c, 1)) (k : T X μ d fin bc bs sh (pc + 1) ls (vi (x % 65536) :: st) c Q) : T X μ d fin bc bs sh pc ls (vi x :: st) c Q := by
  intro p l e R s m args below meth c_ D dA b qs Qr F S K H locs cells slots ls_ M O L V
  obtain ⟨ox, O⟩ := okS_c O
  exact lv_i2c F.1 F.2.1 hd (i2c_eq ox) (k p l e R s m args below meth c_ D dA b qs Qr F S K H locs cells slots ls_ M (okS_p (by show InR _; unfold InR; omega) O) L V)
theorem T_lcmp {x y : Int} (hd : decode μ.2.1 pc = .ok (.lcmp, 1)) (k : T X μ d fin bc bs sh (pc + 1) ls (vi (lcm x y) :: st) c Q) : T X μ d fin bc bs sh pc ls (vl y :: vl x :: st) c Q := by
  intro p l e R s m args below meth c_ D dA b qs Qr F S K H locs cells slots ls_ M O L V
  obtain ⟨oy, O⟩ := okS_c O
  obtain ⟨ox, O⟩ := okS_c O
  have h := k p l e R s m args below meth c_ D dA b qs Qr F S K H locs cells slots ls_ M (okS_p (by show InR _; unfold InR lcm; split <;> (try split) <;> omega) O) L V
  refine W.lcmp F.1 F.2.1 hd ?_
  rw [lcm_eq ox oy]
  exact h
theorem T_dup {v : PV} (hd : decode μ.2.1 pc = .ok (.dup, 1)) (hv : isLg v = false) (k : T X μ d fin bc bs sh (pc + 1) ls (v :: v :: st) c Q) : T X μ d fin bc bs sh pc ls (v :: st) c Q := by
  intro p l e R s m args below meth c_ D dA b qs Qr F S K H locs cells slots ls_ M O L V
  have hc : (cv b qs v).category = 1 := (cv_cat b qs v).elim id (fun ⟨z, e⟩ => by rw [e] at hv; cases hv)
  exact lv_dup F.1 F.2.1 hd hc (k p l e R s m args below meth c_ D dA b qs Qr F S K H locs cells slots ls_ M (okS_p (okS_c O).1 O) L V)
theorem T_pop {v : PV} (hd : decode μ.2.1 pc = .ok (.pop, 1)) (hv : isLg v = false) (k : T X μ d fin bc bs sh (pc + 1) ls st c Q) : T X μ d fin bc bs sh pc ls (v :: st) c Q := by
  intro p l e R s m args below meth c_ D dA b qs Qr F S K H locs cells slots ls_ M O L V
  have hc : (cv b qs v).category = 1 := (cv_cat b qs v).elim id (fun ⟨z, e⟩ => by rw [e] at hv; cases hv)
  exact lv_pop F.1 F.2.1 hd hc (k p l e R s m args below meth c_ D dA b qs Qr F S K H locs cells slots ls_ M (okS_c O).2 L V)
theorem T_dup2 {v w : PV} (hd : decode μ.2.1 pc = .ok (.dup2, 1)) (hv : isLg v = false) (hw : isLg w = false) (k : T X μ d fin bc bs sh (pc + 1) ls (v :: w :: v :: w :: st) c Q) : T X μ d fin bc bs sh pc ls (v :: w :: st) c Q := by
  intro p l e R s m args below meth c_ D dA b qs Qr F S K H locs cells slots ls_ M O L V
  have hc : (cv b qs v).category = 1 := (cv_cat b qs v).elim id (fun ⟨z, e⟩ => by rw [e] at hv; cases hv)
  have hc2 : (cv b qs w).category = 1 := (cv_cat b qs w).elim id (fun ⟨z, e⟩ => by rw [e] at hw; cases hw)
  exact lv_dup2_11 F.1 F.2.1 hd hc hc2 (k p l e R s m args below meth c_ D dA b qs Qr F S K H locs cells slots ls_ M (okS_p (okS_c O).1 (okS_p (okS_c (okS_c O).2).1 O)) L V)
theorem T_icmp_eq {x y off : Int} {tgt : Nat} (hd : decode μ.2.1 pc = .ok (.if_icmp .eq off, 3)) (ht : (pc : Int) + off = (tgt : Int)) (kt : (x = y) → T X μ d fin bc bs sh tgt ls st c Q) (kf : ¬ (x = y) → T X μ d fin bc bs sh (pc + 3) ls st c Q) : T X μ d fin bc bs sh pc ls (vi y :: vi x :: st) c Q := by
  intro p l e R s m args below meth c_ D dA b qs Qr F S K H locs cells slots ls_ M O L V
  obtain ⟨oy, O⟩ := okS_c O
  obtain ⟨ox, O⟩ := okS_c O
  exact lv_icmp_eq F.1 F.2.1 hd ht (fun h => kt ((i32_eq ox oy).mp h) p l e R s m args below meth c_ D dA b qs Qr F S K H locs cells slots ls_ M O L V) (fun h => kf (fun q => h ((i32_eq ox oy).mpr q)) p l e R s m args below meth c_ D dA b qs Qr F S K H locs cells slots ls_ M O L V)
theorem T_if_eq {x off : Int} {tgt : Nat} (hd : decode μ.2.1 pc = .ok (.ifCond .eq off, 3)) (ht : (pc : Int) + off = (tgt : Int)) (kt : (x = 0) → T X μ d fin bc bs sh tgt ls st c Q) (kf : ¬ (x = 0) → T X μ d fin bc bs sh (pc + 3) ls st c Q) : T X μ d fin bc bs sh pc ls (vi x :: st) c Q := by
  intro p l e R s m args below meth c_ D dA b qs Qr F S K H locs cells slots ls_ M O L V
  obtain ⟨ox, O⟩ := okS_c O
  exact lv_if_eq F.1 F.2.1 hd ht (fun h => kt ((i32_eq ox InR0).mp h) p l e R s m args below meth c_ D dA b qs Qr F S K H locs cells slots ls_ M O L V) (fun h => kf (fun q => h ((i32_eq ox InR0).mpr q)) p l e R s m args below meth c_ D dA b qs Qr F S K H locs cells slots ls_ M O L V)
theorem T_icmp_ne {x y off : Int} {tgt : Nat} (hd : decode μ.2.1 pc = .ok (.if_icmp .ne off, 3)) (ht : (pc : Int) + off = (tgt : Int)) (kt : (x ≠ y) → T X μ d fin bc bs sh tgt ls st c Q) (kf : (x = y) → T X μ d fin bc bs sh (pc + 3) ls st c Q) : T X μ d fin bc bs sh pc ls (vi y :: vi x :: st) c Q := by
  intro p l e R s m args below meth c_ D dA b qs Qr F S K H locs cells slots ls_ M O L V
  obtain ⟨oy, O⟩ := okS_c O
  obtain ⟨ox, O⟩ := okS_c O
  exact lv_icmp_ne F.1 F.2.1 hd ht (fun h => kt ((not_congr (i32_eq ox oy)).mp h) p l e R s m args below meth c_ D dA b qs Qr F S K H locs cells slots ls_ M O L V) (fun h => kf ((i32_eq ox oy).mp h) p l e R s m args below meth c_ D dA b qs Qr F S K H locs cells slots ls_ M O L V)
theorem T_if_ne {x off : Int} {tgt : Nat} (hd : decode μ.2.1 pc = .ok (.ifCond .ne off, 3)) (ht : (pc : Int) + off = (tgt : Int)) (kt : (x ≠ 0) → T X μ d fin bc bs sh tgt ls st c Q) (kf : (x = 0) → T X μ d fin bc bs sh (pc + 3) ls st c Q) : T X μ d fin bc bs sh pc ls (vi x :: st) c Q := by
  intro p l e R s m args below meth c_ D dA b qs Qr F S K H locs cells slots ls_ M O L V
  obtain ⟨ox, O⟩ := okS_c O
  exact lv_if_ne F.1 F.2.1 hd ht (fun h => kt ((not_congr (i32_eq ox InR0)).mp h) p l e R s m args below meth c_ D dA b qs Qr F S K H locs cells slots ls_ M O L V) (fun h => kf ((i32_eq ox InR0).mp h) p l e R s m args below meth c_ D dA b qs Qr F S K H locs cells slots ls_ M O L V)
theorem T_icmp_lt {x y off : Int} {tgt : Nat} (hd : decode μ.2.1 pc = .ok (.if_icmp .lt off, 3)) (ht : (pc : Int) + off = (tgt : Int)) (kt : (x < y) → T X μ d fin bc bs sh tgt ls st c Q) (kf : ¬ (x < y) → T X μ d fin bc bs sh (pc + 3) ls st c Q) : T X μ d fin bc bs sh pc ls (vi y :: vi x :: st) c Q := by
  intro p l e R s m args below meth c_ D dA b qs Qr F S K H locs cells slots ls_ M O L V
  obtain ⟨oy, O⟩ := okS_c O
  obtain ⟨ox, O⟩ := okS_c O
  exact lv_icmp_lt F.1 F.2.1 hd ht (fun h => kt ((i32_lt ox oy).mp h) p l e R s m args below meth c_ D dA b qs Qr F S K H locs cells slots ls_ M O L V) (fun h => kf (fun q => h ((i32_lt ox oy).mpr q)) p l e R s m args below meth c_ D dA b qs Qr F S K H locs cells slots ls_ M O L V)
theorem T_if_lt {x off : Int} {tgt : Nat} (hd : decode μ.2.1 pc = .ok (.ifCond .lt off, 3)) (ht : (pc : Int) + off = (tgt : Int)) (kt : (x < 0) → T X μ d fin bc bs sh tgt ls st c Q) (kf : ¬ (x < 0) → T X μ d fin bc bs sh (pc + 3) ls st c Q) : T X μ d fin bc bs sh pc ls (vi x :: st) c Q := by
  intro p l e R s m args below meth c_ D dA b qs Qr F S K H locs cells slots ls_ M O L V
  obtain ⟨ox, O⟩ := okS_c O
  exact lv_if_lt F.1 F.2.1 hd ht (fun h => kt ((i32_lt ox InR0).mp h) p l e R s m args below meth c_ D dA b qs Qr F S K H locs cells slots ls_ M O L V) (fun h => kf (fun q => h ((i32_lt ox InR0).mpr q)) p l e R s m args below meth c_ D dA b qs Qr F S K H locs cells slots ls_ M O L V)
theorem T_icmp_ge {x y off : Int} {tgt : Nat} (hd : decode μ.2.1 pc = .ok (.if_icmp .ge off, 3)) (ht : (pc : Int) + off = (tgt : Int)) (kt : (y ≤ x) → T X μ d fin bc bs sh tgt ls st c Q) (kf : ¬ (y ≤ x) → T X μ d fin bc bs sh (pc + 3) ls st c Q) : T X μ d fin bc bs sh pc ls (vi y :: vi x :: st) c Q := by
  intro p l e R s m args below meth c_ D dA b qs Qr F S K H locs cells slots ls_ M O L V
  obtain ⟨oy, O⟩ := okS_c O
  obtain ⟨ox, O⟩ := okS_c O
  exact lv_icmp_ge F.1 F.2.1 hd ht (fun h => kt ((i32_le oy ox).mp h) p l e R s m args below meth c_ D dA b qs Qr F S K H locs cells slots ls_ M O L V) (fun h => kf (fun q => h ((i32_le oy ox).mpr q)) p l e R s m args below meth c_ D dA b qs Qr F S K H locs cells slots ls_ M O L V)
theorem T_if_ge {x off : Int} {tgt : Nat} (hd : decode μ.2.1 pc = .ok (.ifCond .ge off, 3)) (ht : (pc : Int) + off = (tgt : Int)) (kt : (0 ≤ x) → T X μ d fin bc bs sh tgt ls st c Q) (kf : ¬ (0 ≤ x) → T X μ d fin bc bs sh (pc + 3) ls st c Q) : T X μ d fin bc bs sh pc ls (vi x :: st) c Q := by
  intro p l e R s m args below meth c_ D dA b qs Qr F S K H locs cells slots ls_ M O L V
  obtain ⟨ox, O⟩ := okS_c O
  exact lv_if_ge F.1 F.2.1 hd ht (fun h => kt ((i32_le InR0 ox).mp h) p l e R s m args below meth c_ D dA b qs Qr F S K H locs cells slots ls_ M O L V) (fun h => kf (fun q => h ((i32_le InR0 ox).mpr q)) p l e R s m args below meth c_ D dA b qs Qr F S K H locs cells slots ls_ M O L V)
theorem T_icmp_gt {x y off : Int} {tgt : Nat} (hd : decode μ.2.1 pc = .ok (.if_icmp .gt off, 3)) (ht : (pc : Int) + off = (tgt : Int)) (kt : (y < x) → T X μ d fin bc bs sh tgt ls st c Q) (kf : ¬ (y < x) → T X μ d fin bc bs sh (pc + 3) ls st c Q) : T X μ d fin bc bs sh pc ls (vi y :: vi x :: st) c Q := by
  intro p l e R s m args below meth c_ D dA b qs Qr F S K H locs cells slots ls_ M O L V
  obtain ⟨oy, O⟩ := okS_c O
  obtain ⟨ox, O⟩ := okS_c O
  exact lv_icmp_gt F.1 F.2.1 hd ht (fun h => kt ((i32_lt oy ox).mp h) p l e R s m args below meth c_ D dA b qs Qr F S K H locs cells slots ls_ M O L V) (fun h => kf (fun q => h ((i32_lt oy ox).mpr q)) p l e R s m args below meth c_ D dA b qs Qr F S K H locs cells slots ls_ M O L V)
theorem T_if_gt {x off : Int} {tgt : Nat} (hd : decode μ.2.1 pc = .ok (.ifCond .gt off, 3)) (ht : (pc : Int) + off = (tgt : Int)) (kt : (0 < x) → T X μ d fin bc bs sh tgt ls st c Q) (kf : ¬ (0 < x) → T X μ d fin bc bs sh (pc + 3) ls st c Q) : T X μ d fin bc bs sh pc ls (vi x :: st) c Q := by
  intro p l e R s m args below meth c_ D dA b qs Qr F S K H locs cells slots ls_ M O L V
  obtain ⟨ox, O⟩ := okS_c O
  exact lv_if_gt F.1 F.2.1 hd ht (fun h => kt ((i32_lt InR0 ox).mp h) p l e R s m args below meth c_ D dA b qs Qr F S K H locs cells slots ls_ M O L V) (fun h => kf (fun q => h ((i32_lt InR0 ox).mpr q)) p l e R s m args below meth c_ D dA b qs Qr F S K H locs cells slots ls_ M O L V)
theorem T_icmp_le {x y off : Int} {tgt : Nat} (hd : decode μ.2.1 pc = .ok (.if_icmp .le off, 3)) (ht : (pc : Int) + off = (tgt : Int)) (kt : (x ≤ y) → T X μ d fin bc bs sh tgt ls st c Q) (kf : ¬ (x ≤ y) → T X μ d fin bc bs sh (pc + 3) ls st c Q) : T X μ d fin bc bs sh pc ls (vi y :: vi x :: st) c Q := by
  intro p l e R s m args below meth c_ D dA b qs Qr F S K H locs cells slots ls_ M O L V
  obtain ⟨oy, O⟩ := okS_c O
  obtain ⟨ox, O⟩ := okS_c O
  exact lv_icmp_le F.1 F.2.1 hd ht (fun h => kt ((i32_le ox oy).mp h) p l e R s m args below meth c_ D dA b qs Qr F S K H locs cells slots ls_ M O L V) (fun h => kf (fun q => h ((i32_le ox oy).mpr q)) p l e R s m args below meth c_ D dA b qs Qr F S K H locs cells slots ls_ M O L V)
theorem T_if_le {x off : Int} {tgt : Nat} (hd : decode μ.2.1 pc = .ok (.ifCond .le off, 3)) (ht : (pc : Int) + off = (tgt : Int)) (kt : (x ≤ 0) → T X μ d fin bc bs sh tgt ls st c Q) (kf : ¬ (x ≤ 0) → T X μ d fin bc bs sh (pc + 3) ls st c Q) : T X μ d fin bc bs sh pc ls (vi x :: st) c Q := by
  intro p l e R s m args below meth c_ D dA b qs Qr F S K H locs cells slots ls_ M O L V
  obtain ⟨ox, O⟩ := okS_c O
  exact lv_if_le F.1 F.2.1 hd ht (fun h => kt ((i32_le ox InR0).mp h) p l e R s m args below meth c_ D dA b qs Qr F S K H locs cells slots ls_ M O L V) (fun h => kf (fun q => h ((i32_le ox InR0).mpr q)) p l e R s m args below meth c_ D dA b qs Qr F S K H locs cells slots ls_ M O L V)
theorem T_goto {off : Int} {tgt : Nat} (hd : decode μ.2.1 pc = .ok (.goto off, 3)) (ht : (pc : Int) + off = (tgt : Int)) (k : T X μ d fin bc bs sh tgt ls st c Q) : T X μ d fin bc bs sh pc ls st c Q := by
  intro p l e R s m args below meth c_ D dA b qs Qr F S K H locs cells slots ls_ M O L V
  exact lv_goto F.1 F.2.1 hd ht (k p l e R s m args below meth c_ D dA b qs Qr F S K H locs cells slots ls_ M O L V)
theorem T_tsIn {x dflt lo hi off : Int} {offs : Array Int} {len tgt : Nat} (hd : decode μ.2.1 pc = .ok (.tableswitch dflt lo hi offs, len)) (h1 : lo ≤ x) (h2 : x ≤ hi) (ho : offs[(x - lo).toNat]? = some off) (ht : (pc : Int) + off = (tgt : Int)) (k : T X μ d fin bc bs sh tgt ls st c Q) : T X μ d fin bc bs sh pc ls (vi x :: st) c Q := by
  intro p l e R s m args below meth c_ D dA b qs Qr F S K H locs cells slots ls_ M O L V
  obtain ⟨ox, O⟩ := okS_c O
  exact lv_tableIn F.1 F.2.1 hd (by rw [i32_toInt ox]; omega) (by rw [i32_toInt ox]; omega) (by rw [i32_toInt ox]; exact ho) ht (k p l e R s m args below meth c_ D dA b qs Qr F S K H locs cells slots ls_ M O L V)
theorem T_tsOut {x dflt lo hi : Int} {offs : Array Int} {len tgt : Nat} (hd : decode μ.2.1 pc = .ok (.tableswitch dflt lo hi offs, len)) (h : x < lo ∨ hi < x) (ht : (pc : Int) + dflt = (tgt : Int)) (k : T X μ d fin bc bs sh tgt ls st c Q) : T X μ d fin bc bs sh pc ls (vi x :: st) c Q := by
  intro p l e R s m args below meth c_ D dA b qs Qr F S K H locs cells slots ls_ M O L V
  obtain ⟨ox, O⟩ := okS_c O
  exact lv_tableOut F.1 F.2.1 hd (by rw [i32_toInt ox]; exact h) ht (k p l e R s m args below meth c_ D dA b qs Qr F S K H locs cells slots ls_ M O L V)
theorem T_ret {v : Option PV} (hd : decode μ.2.1 pc = .ok (retIns v, 1)) (hr : retOK μ.2.2.2 v) (hq : Q v sh c) : T X μ d fin bc bs sh pc ls v.toList c Q := by
  intro p l e R s m args below meth c_ D dA b qs Qr F S K H locs cells slots ls_ M O L V
  have e : (v.toList).map (cv b qs) = (v.map (cv b qs)).toList := by cases v <;> rfl
  rw [e]
  exact K pc v sh c H locs cells slots ls_ hd hr (by cases v with | none => trivial | some v => exact O v List.mem_cons_self) hq ⟨by have := M.1; omega, by have := M.2.1; omega, M.2.2⟩
theorem T_ls {ls2 : PL} (h : ∀ q ∈ ls2, q ∈ ls) (k : T X μ d fin bc bs sh pc ls2 st c Q) : T X μ d fin bc bs sh pc ls st c Q := by
  intro p l e R s m args below meth c_ D dA b qs Qr F S K H locs cells slots ls_ M O L V
  exact k p l e R s m args below meth c_ D dA b qs Qr F S K H locs cells slots ls_ M O (fun q hq => L q (h q hq)) ⟨V.1, V.2.1, fun q hq => by
    obtain ⟨x, hx, rfl⟩ := List.mem_map.mp hq
    exact V.2.2 _ (List.mem_map.mpr ⟨x, h x hx, rfl⟩)⟩
theorem T_mono {Q2 : Option PV → SHP → HC → Prop} (k : T X μ d fin bc bs sh pc ls st c Q2) (h : ∀ v s1 c1, Q2 v s1 c1 → Q v s1 c1) : T X μ d fin bc bs sh pc ls st c Q := by
  intro p l e R s m args below meth c_ D dA b qs Qr F S K H locs cells slots ls_ M O L V
  exact k p l e R s m args below meth c_ D dA b qs Qr F S (fun pcx v sh' c' H locs cells slots ls_ a1 a2 a3 a4 a5 => K pcx v sh' c' H locs cells slots ls_ a1 a2 a3 (h _ _ _ a4) a5) H locs cells slots ls_ M O L V
theorem T_okS (k : okS st → T X μ d fin bc bs sh pc ls st c Q) : T X μ d fin bc bs sh pc ls st c Q := by
  intro p l e R s m args below meth c_ D dA b qs Qr F S K H locs cells slots ls_ M O L V
  exact k O p l e R s m args below meth c_ D dA b qs Qr F S K H locs cells slots ls_ M O L V
theorem T_okL (k : okL ls → T X μ d fin bc bs sh pc ls st c Q) : T X μ d fin bc bs sh pc ls st c Q := by
  intro p l e R s m args below meth c_ D dA b qs Qr F S K H locs cells slots ls_ M O L V
  exact k L p l e R s m args below meth c_ D dA b qs Qr F S K H locs cells slots ls_ M O L V
theorem T_okH (k : (∀ a i, InR (c a i)) → T X μ d fin bc bs sh pc ls st c Q) : T X μ d fin bc bs sh pc ls st c Q := by
  intro p l e R s m args below meth c_ D dA b qs Qr F S K H locs cells slots ls_ M O L V
  exact k M.2.2.1.2.2.1 p l e R s m args below meth c_ D dA b qs Qr F S K H locs cells slots ls_ M O L V
theorem T_fin (k : (∀ a i r, fin a i = some r → c a i = (r : Int)) → T X μ d fin bc bs sh pc ls st c Q) : T X μ d fin bc bs sh pc ls st c Q := by
  intro p l e R s m args below meth c_ D dA b qs Qr F S K H locs cells slots ls_ M O L V
  exact k M.2.2.1.2.2.2.1 p l e R s m args below meth c_ D dA b qs Qr F S K H locs cells slots ls_ M O L V
end TR
