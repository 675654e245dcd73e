/-! Making of cells, copies, calls -/
theorem finAt.app {sh : SHP} {p : Nat × Nat} {a k : Nat} (h : finAt sh a k) : finAt (sh ++ [p]) a k := by
  have e : ∀ q : Nat × Nat, sh[a]? = some q → (sh ++ [p])[a]? = some q := fun q hq => by
    rw [List.getElem?_append_left (List.getElem?_eq_some_iff.mp hq).1]
    exact hq
  rcases h with ⟨ci, r, g1, g2, g3⟩ | ⟨t, n, g1, g2⟩
  · exact Or.inl ⟨ci, r, e _ g1, g2, g3⟩
  · exact Or.inr ⟨t, n, e _ g1, g2⟩
theorem RelH.push {D : va_G} {dA : Nat → ClassId} {b : Nat} {fin : Nat → Nat → Option Nat} {sh : SHP} {c : HC} {H H1 : Heap} (h : RelH D dA b fin sh c H) {p : Nat × Nat} (hz : H1.size = H.size + 1) (ho : ∀ q, q < H.size → H1[q]? = H[q]?) (hc : cellOK D dA b H1 sh.length p (fun _ => 0)) : RelH D dA b fin (sh ++ [p]) c H1 := by
  obtain ⟨h1, h2, h3, h4, h5, h6⟩ := h
  refine ⟨by rw [hz, h1, List.length_append]; rfl, fun x q hx hq => ?_, h3, h4, fun x y r hr => (h5 x y r hr).app, fun x y hx => h6 x y (by rw [List.length_append] at hx; omega)⟩
  by_cases e : x < sh.length
  · rw [List.getElem?_append_left e] at hq
    exact (h2 x q hx hq).kept (ho _ (by omega))
  · rw [List.getElem?_append_right (by omega)] at hq
    have h0 : x - sh.length < 1 := (List.getElem?_eq_some_iff.mp hq).1
    have ex : x = sh.length := by omega
    subst ex
    rw [Nat.sub_self] at hq
    cases hq
    have ef : c sh.length = fun _ => 0 := funext fun y => h6 sh.length y (Nat.le_refl _)
    rw [ef]
    exact hc
theorem wds_sum (b qs : Nat) : ∀ st : List PV, ((st.map (cv b qs)).map fun v => v.category).sum = wds st
  | [] => rfl
  | v :: vs => by
    have ih := wds_sum b qs vs
    rcases cv_cat b qs v with h | ⟨z, rfl⟩
    · have e : wds (v :: vs) = 1 + wds vs := by
        rcases v with z | z | n
        · rfl
        · exact absurd h (by show ¬ (2 = 1); decide)
        · rfl
      rw [e, List.map_cons, List.map_cons, List.sum_cons, ih, h]
    · show ((cv b qs (vl z) :: vs.map (cv b qs)).map fun v => v.category).sum = 2 + wds vs
      rw [List.map_cons, List.sum_cons, ih]
      rfl
/-- what a call rests on in the tables -/
def CB (own : String) (idx : Nat) (μ' : MI) (n : Nat) : Prop := (Cond.methodLink own idx μ'.1 ∈ lw_tbl ∨ ∃ host, Cond.methodLinkNest own idx μ'.1 host ∈ lw_tbl) ∧ Cond.code μ'.1 μ'.2.1 μ'.2.2.1 μ'.2.2.2 ∈ lw_tbl ∧ Cond.initialized μ'.1.cls ∈ lw_tbl ∧ (μ'.1.cls ≠ "java/lang/invoke/MethodHandle" ∧ μ'.1.cls ≠ "java/lang/invoke/VarHandle") ∧ (parseMethodDescriptor μ'.1.desc).map (fun d => d.parameters.length) = some n ∧ μ'.2.2.1 ≤ 45
def CV (own : String) (idx : Nat) (μ' : MI) (n ci : Nat) : Prop := CB own idx μ' n ∧ Cond.instanceMethod μ'.1 ∈ lw_tbl ∧ Cond.selects μ'.1.cls μ'.1 μ'.1 ∈ lw_tbl ∧ (vwCl[ci]?).map (fun r => r.1) = some μ'.1.cls
def CS (own : String) (idx : Nat) (μ' : MI) (n : Nat) : Prop := CB own idx μ' n ∧ Cond.static μ'.1 ∈ lw_tbl
def CI (own : String) (idx : Nat) (μ' : MI) (n : Nat) : Prop := CB own idx μ' n ∧ Cond.instanceMethod μ'.1 ∈ lw_tbl ∧ μ'.1.name = "<init>" ∧ μ'.2.2.2 = none
theorem pc_blind {D : va_G} {dA : Nat → ClassId} {b qs : Nat} {fin : Nat → Nat → Option Nat} {sh : SHP} {c : HC} {av : List PV} : FrameBlind (PcOf D dA b qs fin sh c av) := fun a U g mk h => ⟨h.1, h.2.1.calling, h.2.2.1, h.2.2.2⟩
section TC
variable {X : Option (Nat × (Nat → Int32))} {μ : MI} {d : Nat} {fin : Nat → Nat → Option Nat} {bc bs : Nat} {sh : SHP} {pc : Nat} {ls : PL} {st rest : List PV} {c : HC} {Q : Option PV → SHP → HC → Prop}
theorem W_ofRun {p : Program} {l : Launch} {e : Env} {R : Room} {s : State} {m : MethodId} {args : Array Value} {below : List Frame} {meth : Method} {c_ : Code} {D : va_G} {dA : Nat → ClassId} {b qs : Nat} {Qr : State → Prop} {H : Heap} {locs : List Loc} {cells slots mc ms : Nat} {ls_ : Array Slot} {st0 : List Value} {Qc : Option PV → SHP → HC → Prop} {a : Array Value}
    (hr : va_Run p l e R s m args below meth c_ H locs cells slots mc ms (F0 m pc ls_ st0) (rest.map (cv b qs)) (QcOf D dA b qs fin Qc a) (fun q => b + 1 ≤ q)) (M : Mv fin (bc + mc) (bs + ms) sh c R s D dA b H locs cells slots)
    (kk : ∀ (v : Option PV) (sh' : SHP) (c' : HC), Qc v sh' c' → okO v → ∀ (H' : Heap) (locs' : List Loc), Mv fin bc bs sh' c' R s D dA b H' locs' (cells + mc) (slots + ms) → W p l e R s m args below meth c_ H' locs' (cells + mc) (slots + ms) Qr (F0 m (pc + 3) ls_ ((v.toList ++ rest).map (cv b qs)))) : W p l e R s m args below meth c_ H locs cells slots Qr (F0 m pc ls_ st0) := by
  intro U hU Xs
  obtain ⟨v, st₀, t, U', L, h0, X', hL, e1, e2, ⟨v', sh', c', g1, g2, g3, g4, g5, g6⟩, stp⟩ := hr U hU Xs
  have ev : v = v'.map (cv b qs) := by cases g1; rfl
  have hM : Mv fin bc bs sh' c' R s D dA b U'.heap (locs ++ L) (cells + mc) (slots + ms) := by
    refine ⟨by have := M.1; omega, by have := M.2.1; omega, by rw [e1]; exact g4, fun q hq => ?_, fun q hq => ?_⟩
    · rw [e1, g6 q hq, h0]
      exact M.2.2.2.1 q hq
    · rcases List.mem_append.mp hq with h | h
      · exact M.2.2.2.2 q h
      · exact hL q h
  obtain ⟨t2, a1, b1⟩ := kk v' sh' c' g2 g3 U'.heap (locs ++ L) hM U' rfl X'
  refine ⟨t2, stp t2 ?_, b1⟩
  have es : v.toList ++ rest.map (cv b qs) = (v'.toList ++ rest).map (cv b qs) := by
    rw [ev, List.map_append]
    cases v' <;> rfl
  rw [es]
  exact a1
theorem T_callV {μ' : MI} {d' mc ms idx : Nat} {ci : Nat} {r : Nat} {As : List PV} {Qc : Option PV → SHP → HC → Prop} (hd : decode μ.2.1 pc = .ok (.invokevirtual idx, 3)) (hm : CV μ.1.cls idx μ' As.length ci) (hC : Cl μ' d' mc ms fin sh c (vr r :: As) Qc) (hdd : d' + 1 ≤ d) (h0 : 0 < r) (hr : sh[r]? = some (0, ci)) (hst : st = As.reverse ++ vr r :: rest) (hw : wds rest ≤ 8)
    (kk : ∀ (v : Option PV) (sh' : SHP) (c' : HC), Qc v sh' c' → T X μ d fin bc bs sh' (pc + 3) ls (v.toList ++ rest) c' Q) : T X μ d fin (bc + mc) (bs + ms) sh pc ls st c Q := by
  intro p l e R s m args below meth c_ D dA b qs Qr F S K H locs cells slots ls_ M O L V
  subst hst
  have hKt := F.2.2.2.2.2.2
  obtain ⟨⟨hlk, hcode, hini, hmh, hds, hmx⟩, hinst, hsel, hcl⟩ := hm
  have hoa : okS (vr r :: As) := by
    intro v hv
    rcases List.mem_cons.mp hv with h | h
    · rw [h]; exact trivial
    · exact O v (List.mem_append_left _ (List.mem_reverse.mpr h))
  have hor : okS rest := fun v hv => O v (List.mem_append_right _ (List.mem_cons_of_mem _ hv))
  have hMet := hC l D dA b qs
  have hn : ∀ sig, parseMethodDescriptor μ'.1.desc = some sig → (As.map (cv b qs)).length = sig.parameters.length := fun sig h => by
    rw [h] at hds
    rw [List.length_map]
    exact (Option.some.inj hds).symm
  have hws : ∀ w ∈ [Cond.code μ'.1 μ'.2.1 μ'.2.2.1 μ'.2.2.2], ∀ (a' : Array Value) (U : State), s.WarmedH U.vm → w.before a' U = true := fun w hw2 a' U hW => by
    rw [List.mem_singleton.mp hw2]
    exact word_warm rfl hW (hKt.word (A := args) hcode rfl)
  have hfr : (rmOf d' mc ms).frames + 1 ≤ R.frames := by have := F.2.2.2.2.2.1.1; show d' + 1 ≤ _; omega
  have hlo : 8 + (μ'.2.2.1 + 11) + (rmOf d' mc ms).locals ≤ R.locals := by have := F.2.2.2.2.2.1.2; show 8 + (μ'.2.2.1 + 11) + 64 * d' ≤ _; omega
  have hroom : 2 * (F0 m pc ls_ ((As.reverse ++ vr r :: rest).map (cv b qs))).monitorRoom + ((rest.map (cv b qs)).map fun v => v.category).sum ≤ 8 := lv_room (by rw [wds_sum]; exact hw)
  have hstk : (As.reverse ++ vr r :: rest).map (cv b qs) = (As.map (cv b qs)).reverse ++ cv b qs (vr r) :: rest.map (cv b qs) := by simp
  have hpc : ∀ U : State, U.heap = H → s.WarmedH U.vm → PcOf D dA b qs fin sh c (vr r :: As) (Value.ref (b + r) :: As.map (cv b qs)).toArray U := fun U hU hW => ⟨by rw [List.map_cons, ref_eq h0], hKt.warm hW, by rw [hU]; exact M.2.2.1, hoa⟩
  rw [ref_eq h0] at hstk
  have hcell : ∃ cellB : Cell, H[b + r]? = some cellB ∧ cellB.vm.isStatics = false ∧ s.vm.findClass μ'.1.cls = some cellB.cls := by
    obtain ⟨r2, hr2, cell, q1, q2, q3, -⟩ := M.2.2.1.2.1 r _ h0 hr
    rw [hr2] at hcl
    refine ⟨cell, q1, by rw [q3]; rfl, ?_⟩
    rw [← Option.some.inj hcl, q2]
    exact (hKt.2.1 ci r2 hr2).2.1
  have hfit : cells + mc ≤ R.cells ∧ slots + ms ≤ R.slots := ⟨by have := M.1; omega, by have := M.2.1; omega⟩
  have hsz : ls_.size = c_.maxLocals := by rw [F.2.2.1]; exact V.1
  have hKK : ∀ (v : Option PV) (sh' : SHP) (c' : HC), Qc v sh' c' → okO v → ∀ (H' : Heap) (locs' : List Loc), Mv fin bc bs sh' c' R s D dA b H' locs' (cells + mc) (slots + ms) → W p l e R s m args below meth c_ H' locs' (cells + mc) (slots + ms) Qr (F0 m (pc + 3) ls_ ((v.toList ++ rest).map (cv b qs))) := fun v sh' c' hQ hov H' locs' hM' => kk v sh' c' hQ p l e R s m args below meth c_ D dA b qs Qr F S K H' locs' _ _ ls_ hM' (fun x hx => by
      rcases List.mem_append.mp hx with h | h
      · cases v with
        | none => cases h
        | some v => rw [List.mem_singleton.mp h]; exact hov
      · exact hor x h) L V
  rw [hstk]
  rcases hlk with hlk | ⟨host, hlk⟩
  · exact W_ofRun (rest := rest) (va_runV (C := μ'.1.cls) (Ts := []) (As := As.map (cv b qs)) (n := (As.map (cv b qs)).length) (rest := rest.map (cv b qs)) (index := idx) ⟨F.1, F.2.1, rfl, F.2.2.2.1, fun w h => by cases h⟩ hMet ⟨⟨rfl, rfl, hfr, hlo, hws, List.mem_singleton.mpr rfl, hKt.word hcode rfl, hKt.word hini rfl, hmh, hn, hKt.word hlk rfl⟩, hKt.word hinst rfl, hKt.word hsel rfl⟩ ⟨pc_blind, hcell, hpc⟩ rfl rfl hsz rfl (by rw [hstk] at hroom; exact hroom) hd hfit) M hKK
  · exact W_ofRun (rest := rest) (va_runVN (C := μ'.1.cls) (host := host) (Ts := []) (As := As.map (cv b qs)) (n := (As.map (cv b qs)).length) (rest := rest.map (cv b qs)) (index := idx) ⟨F.1, F.2.1, rfl, F.2.2.2.1, fun w h => by cases h⟩ hMet ⟨⟨⟨rfl, rfl, hfr, hlo, hws, List.mem_singleton.mpr rfl⟩, hKt.word hcode rfl, hKt.word hini rfl, hmh, hn, hKt.word hlk rfl⟩, hKt.word hinst rfl, hKt.word hsel rfl⟩ ⟨pc_blind, hcell, hpc⟩ rfl rfl hsz rfl (by rw [hstk] at hroom; exact hroom) hd hfit) M hKK
theorem T_callS {μ' : MI} {d' mc ms idx : Nat} {As : List PV} {Qc : Option PV → SHP → HC → Prop} (hd : decode μ.2.1 pc = .ok (.invokestatic idx, 3)) (hm : CS μ.1.cls idx μ' As.length) (hC : Cl μ' d' mc ms fin sh c (As) Qc) (hdd : d' + 1 ≤ d) (hst : st = As.reverse ++ rest) (hw : wds rest ≤ 8)
    (kk : ∀ (v : Option PV) (sh' : SHP) (c' : HC), Qc v sh' c' → T X μ d fin bc bs sh' (pc + 3) ls (v.toList ++ rest) c' Q) : T X μ d fin (bc + mc) (bs + ms) sh pc ls st c Q := by
  intro p l e R s m args below meth c_ D dA b qs Qr F S K H locs cells slots ls_ M O L V
  subst hst
  have hKt := F.2.2.2.2.2.2
  obtain ⟨⟨hlk, hcode, hini, hmh, hds, hmx⟩, hstt⟩ := hm
  have hoa : okS (As) := by
    intro v hv
    exact O v (List.mem_append_left _ (List.mem_reverse.mpr hv))
  have hor : okS rest := fun v hv => O v (List.mem_append_right _ hv)
  have hMet := hC l D dA b qs
  have hn : ∀ sig, parseMethodDescriptor μ'.1.desc = some sig → (As.map (cv b qs)).length = sig.parameters.length := fun sig h => by
    rw [h] at hds
    rw [List.length_map]
    exact (Option.some.inj hds).symm
  have hws : ∀ w ∈ [Cond.code μ'.1 μ'.2.1 μ'.2.2.1 μ'.2.2.2], ∀ (a' : Array Value) (U : State), s.WarmedH U.vm → w.before a' U = true := fun w hw2 a' U hW => by
    rw [List.mem_singleton.mp hw2]
    exact word_warm rfl hW (hKt.word (A := args) hcode rfl)
  have hfr : (rmOf d' mc ms).frames + 1 ≤ R.frames := by have := F.2.2.2.2.2.1.1; show d' + 1 ≤ _; omega
  have hlo : 8 + (μ'.2.2.1 + 11) + (rmOf d' mc ms).locals ≤ R.locals := by have := F.2.2.2.2.2.1.2; show 8 + (μ'.2.2.1 + 11) + 64 * d' ≤ _; omega
  have hroom : 2 * (F0 m pc ls_ ((As.reverse ++ rest).map (cv b qs))).monitorRoom + ((rest.map (cv b qs)).map fun v => v.category).sum ≤ 8 := lv_room (by rw [wds_sum]; exact hw)
  have hstk : (As.reverse ++ rest).map (cv b qs) = (As.map (cv b qs)).reverse ++ rest.map (cv b qs) := by simp
  have hpc : ∀ U : State, U.heap = H → s.WarmedH U.vm → PcOf D dA b qs fin sh c As (As.map (cv b qs)).toArray U := fun U hU hW => ⟨rfl, hKt.warm hW, by rw [hU]; exact M.2.2.1, hoa⟩
  have hfit : cells + mc ≤ R.cells ∧ slots + ms ≤ R.slots := ⟨by have := M.1; omega, by have := M.2.1; omega⟩
  have hsz : ls_.size = c_.maxLocals := by rw [F.2.2.1]; exact V.1
  have hKK : ∀ (v : Option PV) (sh' : SHP) (c' : HC), Qc v sh' c' → okO v → ∀ (H' : Heap) (locs' : List Loc), Mv fin bc bs sh' c' R s D dA b H' locs' (cells + mc) (slots + ms) → W p l e R s m args below meth c_ H' locs' (cells + mc) (slots + ms) Qr (F0 m (pc + 3) ls_ ((v.toList ++ rest).map (cv b qs))) := fun v sh' c' hQ hov H' locs' hM' => kk v sh' c' hQ p l e R s m args below meth c_ D dA b qs Qr F S K H' locs' _ _ ls_ hM' (fun x hx => by
      rcases List.mem_append.mp hx with h | h
      · cases v with
        | none => cases h
        | some v => rw [List.mem_singleton.mp h]; exact hov
      · exact hor x h) L V
  rw [hstk]
  rcases hlk with hlk | ⟨host, hlk⟩
  · exact W_ofRun (rest := rest) (va_runS (Ts := []) (As := As.map (cv b qs)) (n := (As.map (cv b qs)).length) (rest := rest.map (cv b qs)) (index := idx) ⟨F.1, F.2.1, rfl, F.2.2.2.1, fun w h => by cases h⟩ hMet ⟨⟨rfl, rfl, hfr, hlo, hws, List.mem_singleton.mpr rfl, hKt.word hcode rfl, hKt.word hini rfl, hmh, hn, hKt.word hlk rfl⟩, hKt.word hstt rfl⟩ ⟨pc_blind, hpc⟩ rfl rfl hsz rfl (by rw [hstk] at hroom; exact hroom) hd hfit) M hKK
  · exact W_ofRun (rest := rest) (va_runSN (host := host) (Ts := []) (As := As.map (cv b qs)) (n := (As.map (cv b qs)).length) (rest := rest.map (cv b qs)) (index := idx) ⟨F.1, F.2.1, rfl, F.2.2.2.1, fun w h => by cases h⟩ hMet ⟨⟨⟨rfl, rfl, hfr, hlo, hws, List.mem_singleton.mpr rfl⟩, hKt.word hcode rfl, hKt.word hini rfl, hmh, hn, hKt.word hlk rfl⟩, hKt.word hstt rfl, trivial⟩ ⟨pc_blind, hpc⟩ rfl rfl hsz rfl (by rw [hstk] at hroom; exact hroom) hd hfit) M hKK
theorem T_callI {μ' : MI} {d' mc ms idx : Nat} {r : Nat} {As : List PV} {Qc : Option PV → SHP → HC → Prop} (hd : decode μ.2.1 pc = .ok (.invokespecial idx, 3)) (hm : CI μ.1.cls idx μ' As.length) (hC : Cl μ' d' mc ms fin sh c (vr r :: As) Qc) (hdd : d' + 1 ≤ d) (h0 : 0 < r) (hst : st = As.reverse ++ vr r :: rest) (hw : wds rest ≤ 8)
    (kk : ∀ (v : Option PV) (sh' : SHP) (c' : HC), Qc v sh' c' → T X μ d fin bc bs sh' (pc + 3) ls (v.toList ++ rest) c' Q) : T X μ d fin (bc + mc) (bs + ms) sh pc ls st c Q := by
  intro p l e R s m args below meth c_ D dA b qs Qr F S K H locs cells slots ls_ M O L V
  subst hst
  have hKt := F.2.2.2.2.2.2
  obtain ⟨⟨hlk, hcode, hini, hmh, hds, hmx⟩, hinst, hnm, hrt⟩ := hm
  have hoa : okS (vr r :: As) := by
    intro v hv
    rcases List.mem_cons.mp hv with h | h
    · rw [h]; exact trivial
    · exact O v (List.mem_append_left _ (List.mem_reverse.mpr h))
  have hor : okS rest := fun v hv => O v (List.mem_append_right _ (List.mem_cons_of_mem _ hv))
  have hMet := hC l D dA b qs
  have hn : ∀ sig, parseMethodDescriptor μ'.1.desc = some sig → (As.map (cv b qs)).length = sig.parameters.length := fun sig h => by
    rw [h] at hds
    rw [List.length_map]
    exact (Option.some.inj hds).symm
  have hws : ∀ w ∈ [Cond.code μ'.1 μ'.2.1 μ'.2.2.1 μ'.2.2.2], ∀ (a' : Array Value) (U : State), s.WarmedH U.vm → w.before a' U = true := fun w hw2 a' U hW => by
    rw [List.mem_singleton.mp hw2]
    exact word_warm rfl hW (hKt.word (A := args) hcode rfl)
  have hfr : (rmOf d' mc ms).frames + 1 ≤ R.frames := by have := F.2.2.2.2.2.1.1; show d' + 1 ≤ _; omega
  have hlo : 8 + (μ'.2.2.1 + 11) + (rmOf d' mc ms).locals ≤ R.locals := by have := F.2.2.2.2.2.1.2; show 8 + (μ'.2.2.1 + 11) + 64 * d' ≤ _; omega
  have hroom : 2 * (F0 m pc ls_ ((As.reverse ++ vr r :: rest).map (cv b qs))).monitorRoom + ((rest.map (cv b qs)).map fun v => v.category).sum ≤ 8 := lv_room (by rw [wds_sum]; exact hw)
  have hstk : (As.reverse ++ vr r :: rest).map (cv b qs) = (As.map (cv b qs)).reverse ++ cv b qs (vr r) :: rest.map (cv b qs) := by simp
  have hpc : ∀ U : State, U.heap = H → s.WarmedH U.vm → PcOf D dA b qs fin sh c (vr r :: As) (Value.ref (b + r) :: As.map (cv b qs)).toArray U := fun U hU hW => ⟨by rw [List.map_cons, ref_eq h0], hKt.warm hW, by rw [hU]; exact M.2.2.1, hoa⟩
  rw [ref_eq h0] at hstk
  have hfit : cells + mc ≤ R.cells ∧ slots + ms ≤ R.slots := ⟨by have := M.1; omega, by have := M.2.1; omega⟩
  have hsz : ls_.size = c_.maxLocals := by rw [F.2.2.1]; exact V.1
  have hKK : ∀ (v : Option PV) (sh' : SHP) (c' : HC), Qc v sh' c' → okO v → ∀ (H' : Heap) (locs' : List Loc), Mv fin bc bs sh' c' R s D dA b H' locs' (cells + mc) (slots + ms) → W p l e R s m args below meth c_ H' locs' (cells + mc) (slots + ms) Qr (F0 m (pc + 3) ls_ ((v.toList ++ rest).map (cv b qs))) := fun v sh' c' hQ hov H' locs' hM' => kk v sh' c' hQ p l e R s m args below meth c_ D dA b qs Qr F S K H' locs' _ _ ls_ hM' (fun x hx => by
      rcases List.mem_append.mp hx with h | h
      · cases v with
        | none => cases h
        | some v => rw [List.mem_singleton.mp h]; exact hov
      · exact hor x h) L V
  rw [hstk]
  rw [hrt] at hcode hws hMet
  rcases hlk with hlk | ⟨host, hlk⟩
  · exact W_ofRun (rest := rest) (va_runI (Ts := []) (As := As.map (cv b qs)) (n := (As.map (cv b qs)).length) (rest := rest.map (cv b qs)) (index := idx) ⟨F.1, F.2.1, rfl, F.2.2.2.1, fun w h => by cases h⟩ hMet ⟨⟨rfl, rfl, hfr, hlo, hws, List.mem_singleton.mpr rfl, hKt.word hcode rfl, hKt.word hini rfl, hmh, hn, hKt.word hlk rfl⟩, hnm, hKt.word hinst rfl⟩ ⟨pc_blind, hpc⟩ rfl rfl hsz rfl (by rw [hstk] at hroom; exact hroom) hd hfit) M hKK
  · exact W_ofRun (rest := rest) (va_runIN (host := host) (Ts := []) (As := As.map (cv b qs)) (n := (As.map (cv b qs)).length) (rest := rest.map (cv b qs)) (index := idx) ⟨F.1, F.2.1, rfl, F.2.2.2.1, fun w h => by cases h⟩ hMet ⟨⟨⟨rfl, rfl, hfr, hlo, hws, List.mem_singleton.mpr rfl⟩, hKt.word hcode rfl, hKt.word hini rfl, hmh, hn, hKt.word hlk rfl⟩, hnm, hKt.word hinst rfl⟩ ⟨pc_blind, hpc⟩ rfl rfl hsz rfl (by rw [hstk] at hroom; exact hroom) hd hfit) M hKK
theorem T_objInit {a idx : Nat} (hd : decode μ.2.1 pc = .ok (.invokespecial idx, 3)) (hlk : Cond.methodLink μ.1.cls idx Lib.objectInit ∈ lw_tbl) (hinst : Cond.instanceMethod Lib.objectInit ∈ lw_tbl) (hcode : Cond.code Lib.objectInit ⟨#[0xb1]⟩ 1 none ∈ lw_tbl) (h0 : 0 < a) (hdd : 1 ≤ d) (hw : wds rest ≤ 8) (kk : T X μ d fin bc bs sh (pc + 3) ls rest c Q) : T X μ d fin bc bs sh pc ls (vr a :: rest) c Q := by
  intro p l e R s m args below meth c_ D dA b qs Qr F S K H locs cells slots ls_ M O L V
  have hKt := F.2.2.2.2.2.2
  have h := kk p l e R s m args below meth c_ D dA b qs Qr F S K H locs cells slots ls_ M (okS_c O).2 L V
  rw [List.map_cons, ref_eq h0]
  have hroom : 2 * (F0 m pc ls_ (Value.ref (b + a) :: rest.map (cv b qs))).monitorRoom + ((rest.map (cv b qs)).map fun v => v.category).sum ≤ 8 := lv_room (by rw [wds_sum]; exact hw)
  exact W.objInit F.1 F.2.1 F.2.2.2.1 (hKt.word hlk rfl) (hKt.word hinst rfl) (hKt.word hcode rfl) rfl (by rw [F.2.2.1]; exact V.1) rfl hd (by have := F.2.2.2.2.2.1.1; omega) (by have := F.2.2.2.2.2.1.2; omega) h
theorem T_new {idx ci : Nat} {r : vw_C} (hd : decode μ.2.1 pc = .ok (.new idx, 3)) (hr : vwCl[ci]? = some r) (hcl : Cond.classLink μ.1.cls idx r.1 ∈ lw_tbl) (hin : Cond.instantiable r.1 r.2.2 ∈ lw_tbl) (hini : Cond.initialized r.1 ∈ lw_tbl) (h0 : 0 < sh.length) (hdf : ∀ k, k < r.2.2 → (defaultValue (fty ci k) == (if isRf (fty ci k) then .null else .int 0)) = true) (kk : T X μ d fin bc bs (sh ++ [(0, ci)]) (pc + 3) ls (vr sh.length :: st) c Q) : T X μ d fin (bc + 1) (bs + r.2.2) sh pc ls st c Q := by
  intro p l e R s m args below meth c_ D dA b qs Qr F S K H locs cells slots ls_ M O L V
  have hKt := F.2.2.2.2.2.2
  have hKn := hKt.2.1 ci r hr
  obtain ⟨hci, hty, hnm⟩ := cl_kn ci r hr
  have hsz := M.2.2.1.1
  refine W.newcK F.1 F.2.1 F.2.2.2.1 (hKt.word hcl rfl) (hKt.word hin rfl) (hKt.word hini rfl) rfl hd (by have := M.1; omega) (by have := M.2.1; omega) hKn.2.1 hsz fun H1 kC hkC e1 z1 o1 => ?_
  have hb := u_born (args := args) (fty ci) (hKt.lays hr) (fun _ q => q) hKn hkC e1 hty
  have h := kk p l e R s m args below meth c_ D dA b qs Qr F S K H1 locs (cells + 1) (slots + r.2.2) ls_ ⟨by have := M.1; omega, by have := M.2.1; omega, M.2.2.1.push (by rw [z1, hsz]) (fun q hq => o1 q (by omega)) ⟨r, hr, hb.to (fun k hk => ?_)⟩, fun q hq => (o1 q (by omega)).trans (M.2.2.2.1 q hq), M.2.2.2.2⟩ (okS_p trivial O) L V
  · rw [List.map_cons, ref_eq h0] at h
    exact h
  · have e9 : defaultValue (fty ci k) = (if isRf (fty ci k) then .null else .int 0) := by simpa using hdf k hk
    rw [e9]
    unfold sv
    split <;> rfl
theorem dv_eq {t : Nat} (b : Nat) (ht : t < 6) : defaultValue (tgTy t) = sv b (isRf (tgTy t)) 0 := by
  match t, ht with
  | 0, _ => rfl
  | 1, _ => rfl
  | 2, _ => rfl
  | 3, _ => rfl
  | 4, _ => rfl
  | 5, _ => rfl
theorem T_newa {t N : Nat} {at_ : ArrayType} (hd : decode μ.2.1 pc = .ok (.newarray at_, 2)) (ht : t < 3) (hat : newarray.typeOf at_ = tgTy t) (hw : Cond.arrayClass (tgTy t) ∈ lw_tbl) (hN : N ≤ 100000) (h0 : 0 < sh.length) (kk : T X μ d fin bc bs (sh ++ [(t + 1, N)]) (pc + 2) ls (vr sh.length :: st) c Q) : T X μ d fin (bc + 1) (bs + N) sh pc ls (vi (N : Int) :: st) c Q := by
  intro p l e R s m args below meth c_ D dA b qs Qr F S K H locs cells slots ls_ M O L V
  have hKt := F.2.2.2.2.2.2
  have hsz := M.2.2.1.1
  have oN : InR (N : Int) := by unfold InR; omega
  refine va_newaK F.1 F.2.1 (by rw [hat]; exact hKt.word hw rfl) rfl hd rfl (n := i32 (N : Int)) (N := N) (fun q => by rw [show (0 : Int32) = i32 0 from rfl, i32_lt oN InR0] at q; omega) (by rw [i32_clamp oN (by omega)]; rfl) (by rw [hat]; have : componentBytes (tgTy t) ≤ 4 := (by match t, ht with | 0, _ => decide | 1, _ => decide | 2, _ => decide); have := Nat.mul_le_mul hN this; omega) (by have := M.1; omega) (by have := M.2.1; omega) hsz fun H1 cA e1 z1 o1 hAr hNm => ?_
  have eA : cA = dA t := by
    rw [hat] at hNm
    have : s.vm.findClass ("[" ++ (tgTy t).toString) = some (dA t) := by
      match t, ht with
      | 0, _ => exact (hKt.2.2 0 _ rfl).2
      | 1, _ => exact (hKt.2.2 1 _ rfl).2
      | 2, _ => exact (hKt.2.2 2 _ rfl).2
    exact Option.some.inj (hNm.symm.trans this)
  subst eA
  have h := kk p l e R s m args below meth c_ D dA b qs Qr F S K H1 locs (cells + 1) (slots + N) ls_ ⟨by have := M.1; omega, by have := M.2.1; omega, M.2.2.1.push (by rw [z1, hsz]) (fun q hq => o1 q (by omega)) (show H1[b + sh.length]? = some (arrV (dA t) N (fun j => sv b (isRf (tgTy t)) 0)) by rw [e1, hat, dv_eq b (by omega)]), fun q hq => (o1 q (by omega)).trans (M.2.2.2.1 q hq), M.2.2.2.2⟩ (okS_p trivial (okS_c O).2) L V
  rw [List.map_cons, ref_eq h0] at h
  exact h
theorem T_anew {t N idx : Nat} {C : String} (hd : decode μ.2.1 pc = .ok (.anewarray idx, 3)) (ht : t = 3 ∨ t = 4) (hC : tgTy t = .object C) (hcl : Cond.classLink μ.1.cls idx C ∈ lw_tbl) (hw : Cond.arrayOver (.object C) ∈ lw_tbl) (hN : N ≤ 100000) (h0 : 0 < sh.length) (kk : T X μ d fin bc bs (sh ++ [(t + 1, N)]) (pc + 3) ls (vr sh.length :: st) c Q) : T X μ d fin (bc + 1) (bs + N) sh pc ls (vi (N : Int) :: st) c Q := by
  intro p l e R s m args below meth c_ D dA b qs Qr F S K H locs cells slots ls_ M O L V
  have hKt := F.2.2.2.2.2.2
  have hsz := M.2.2.1.1
  have oN : InR (N : Int) := by unfold InR; omega
  have hcn : (i32 (N : Int)).toNatClampNeg = N := by rw [i32_clamp oN (by omega)]; rfl
  refine W.anew F.1 F.2.1 F.2.2.2.1 (hKt.word hcl rfl) (hKt.word hw rfl) rfl hd rfl (n := i32 (N : Int)) (fun q => by rw [show (0 : Int32) = i32 0 from rfl, i32_lt oN InR0] at q; omega) (by rw [hcn]; omega) (by have := M.1; omega) (by rw [hcn]; have := M.2.1; omega) fun cA kA comp f1 f2 f3 f4 => ?_
  have eA : cA = dA t := by
    have hRA : va_RA s (dA t) (.object C) := by
      rcases ht with rfl | rfl
      · rw [← hC]; exact (hKt.2.2 3 _ rfl).2
      · rw [← hC]; exact (hKt.2.2 4 _ rfl).2
    obtain ⟨kA2, comp2, k1, k2, k3, k4⟩ := hRA
    exact Option.some.inj (f1.symm.trans k4)
  subst eA
  rw [hcn, hsz]
  generalize hH1 : H.push ({ cls := dA t, slots := Array.replicate N .null, vm := .none } : Cell) = H1
  have z1 : H1.size = H.size + 1 := by rw [← hH1, Array.size_push]
  have e1 : H1[b + sh.length]? = some (arrV (dA t) N (fun _ => .null)) := by rw [← hsz, ← hH1, Array.getElem?_push_size, ← arrV_new]
  have o1 : ∀ q : Nat, q < H.size → H1[q]? = H[q]? := fun q hq => by rw [← hH1, Array.getElem?_push, if_neg (Nat.ne_of_lt hq)]
  have h := kk p l e R s m args below meth c_ D dA b qs Qr F S K H1 locs (cells + 1) (slots + N) ls_ ⟨by have := M.1; omega, by have := M.2.1; omega, M.2.2.1.push z1 o1 (show H1[b + sh.length]? = some (arrV (dA t) N (fun j => sv b (isRf (tgTy t)) 0)) by rw [e1, ← dv_eq b (by omega), hC]; rfl), fun q hq => (o1 q (by omega)).trans (M.2.2.2.1 q hq), M.2.2.2.2⟩ (okS_p trivial (okS_c O).2) L V
  rw [List.map_cons, ref_eq h0] at h
  exact h
def cpy2 (c : HC) (a0 sp a1 dp n : Nat) : HC := fun x y => if (x == a1 && decide (dp ≤ y) && decide (y < dp + n)) = true then c a0 (sp + (y - dp)) else c x y
theorem cpy2_row (c : HC) (a0 sp a1 dp n : Nat) {x : Nat} (h : x ≠ a1) : cpy2 c a0 sp a1 dp n x = c x := funext fun y => by simp [cpy2, h]
set_option maxHeartbeats 2000000 in
theorem T_acopy {a0 a1 n0 n1 sp dp n idx : Nat} (hd : decode μ.2.1 pc = .ok (.invokestatic idx, 3)) (hlk : Cond.methodLink μ.1.cls idx arraycopyName ∈ lw_tbl) (hnat : Cond.native arraycopyName ∈ lw_tbl) (hstt : Cond.static arraycopyName ∈ lw_tbl) (hini : Cond.initialized "java/lang/System" ∈ lw_tbl) (ha0 : sh[a0]? = some (1, n0)) (ha1 : sh[a1]? = some (1, n1)) (h00 : 0 < a0) (h01 : 0 < a1) (h4 : sp + n ≤ n0) (h5 : dp + n ≤ n1) (hn0 : n0 ≤ 100000) (hn1 : n1 ≤ 100000) (hdd : 1 ≤ d) (hw : wds rest ≤ 8) (kk : T X μ d fin bc bs sh (pc + 3) ls rest (cpy2 c a0 sp a1 dp n) Q) : T X μ d fin bc bs sh pc ls (vi (n : Int) :: vi (dp : Int) :: vr a1 :: vi (sp : Int) :: vr a0 :: rest) c Q := by
  intro p l e R s m args below meth c_ D dA b qs Qr F S K H locs cells slots ls_ M O L V
  have hKt := F.2.2.2.2.2.2
  have hor : okS rest := (okS_c (okS_c (okS_c (okS_c (okS_c O).2).2).2).2).2
  have nn : ∀ z : Nat, z ≤ 100000 → (¬ i32 (z : Int) < 0) ∧ (i32 (z : Int)).toNatClampNeg = z ∧ (i32 (z : Int)).toInt = (z : Int) := fun z hz => by
    have oz : InR (z : Int) := by unfold InR; omega
    refine ⟨fun q => by rw [show (0 : Int32) = i32 0 from rfl, i32_lt oz InR0] at q; omega, by rw [i32_clamp oz (by omega)]; rfl, i32_toInt oz⟩
  obtain ⟨p1, p2, p3⟩ := nn sp (by omega)
  obtain ⟨q1, q2, q3⟩ := nn dp (by omega)
  obtain ⟨r1, r2, r3⟩ := nn n (by omega)
  have hc0 : H[b + a0]? = some (arrV (dA 0) n0 (fun j => .int (i32 (c a0 j)))) := M.2.2.1.2.1 a0 _ h00 ha0
  have hc1 : H[b + a1]? = some (arrV (dA 0) n1 (fun j => .int (i32 (c a1 j)))) := M.2.2.1.2.1 a1 _ h01 ha1
  rw [List.map_cons, List.map_cons, List.map_cons, List.map_cons, List.map_cons, ref_eq h00, ref_eq h01]
  intro U hU Xs
  obtain ⟨-, k0, hk0, cm0, hkk0⟩ := K_arr hKt 0 (by decide) n0 (fun j => .int (i32 (c a0 j)))
  obtain ⟨-, k1, hk1, cm1, hkk1⟩ := K_arr hKt 0 (by decide) n1 (fun j => .int (i32 (c a1 j)))
  have hroom : 2 * (F0 m pc ls_ ([] : List Value)).monitorRoom + ((rest.map (cv b qs)).map fun v => v.category).sum ≤ 8 := lv_room (by rw [wds_sum]; exact hw)
  have hlw : 2 * (F0 m pc ls_ (.int (i32 (n : Int)) :: .int (i32 (dp : Int)) :: .ref (b + a1) :: .int (i32 (sp : Int)) :: .ref (b + a0) :: rest.map (cv b qs))).monitorRoom + ((rest.map (cv b qs)).map fun v => v.category).sum + (nativeFrameWords "java/lang/System" "arraycopy" 5 + 11) ≤ R.locals := by
    have h7 := F.2.2.2.2.2.1.2
    have h9 : nativeFrameWords "java/lang/System" "arraycopy" 5 ≤ 30 := by decide +kernel
    have h8 : (F0 m pc ls_ (.int (i32 (n : Int)) :: .int (i32 (dp : Int)) :: .ref (b + a1) :: .int (i32 (sp : Int)) :: .ref (b + a0) :: rest.map (cv b qs))).monitorRoom = 0 := rfl
    rw [wds_sum, h8]
    omega
  obtain ⟨vm', X', step⟩ := Xs.arraycopy F.1 F.2.2.2.1 (hKt.word hlk rfl) (hKt.word hnat rfl) (hKt.word hstt rfl) (hKt.word hini rfl) (src := b + a0) (dst := b + a1) (cs := arrV (dA 0) n0 (fun j => .int (i32 (c a0 j)))) (cd := arrV (dA 0) n1 (fun j => .int (i32 (c a1 j)))) (srcPos := i32 (sp : Int)) (destPos := i32 (dp : Int)) (n := i32 (n : Int)) (by rw [hU]; exact hc0) (by rw [hU]; exact hc1)
    (fun _ h => by cases h) (fun _ h => by cases h) (fun h => by cases h) (fun h => by cases h) hk0 hk1 hkk0 hkk1 (by simp [tgTy, refKind]) p1 q1 r1
    (by rw [p3, r3, arrV_size]; omega) (by rw [q3, r3, arrV_size]; omega)
    (fun vm₁ _ i hi => by
      rw [r2] at hi
      have ee : (arrV (dA 0) n0 (fun j => Value.int (i32 (c a0 j)))).slots.getD ((i32 (sp : Int)).toNatClampNeg + i) .null = .int (i32 (c a0 (sp + i))) := by
        rw [Array.getD_eq_getD_getElem?, p2, arrV_read _ _ (by omega)]
        rfl
      refine ⟨?_, ?_⟩
      · rw [ee]; rfl
      · rw [ee]; exact trivial)
    (g := F0 m pc ls_ (.int (i32 (n : Int)) :: .int (i32 (dp : Int)) :: .ref (b + a1) :: .int (i32 (sp : Int)) :: .ref (b + a0) :: rest.map (cv b qs))) rfl (by rw [F.2.2.1]; exact V.1) (rest := rest.map (cv b qs)) rfl (by rw [F.2.1]; exact hd) (by have := F.2.2.2.2.2.1.1; omega) hlw
  have e1 : copied (arrV (dA 0) n0 (fun j => Value.int (i32 (c a0 j)))) (arrV (dA 0) n1 (fun j => Value.int (i32 (c a1 j)))) (i32 (sp : Int)) (i32 (dp : Int)) (i32 (n : Int)) = arrV (dA 0) n1 (fun j => Value.int (i32 (cpy2 c a0 sp a1 dp n a1 j))) := by
    have e0 := va_copied (fun z => Value.int z) (dA 0) (dA 0) (n0 := n0) (n1 := n1) (sp := sp) (dp := dp) (n := n) (fun j => i32 (c a0 j)) (fun j => i32 (c a1 j)) h4
    unfold copied
    rw [p2, q2, r2, e0]
    refine congrArg (fun f => arrV (dA 0) n1 f) (funext fun j => ?_)
    unfold va_cpy cpy2
    by_cases hj : dp ≤ j ∧ j < dp + n
    · rw [if_pos hj]; simp [hj]
    · rw [if_neg hj]
      have : ¬ ((a1 == a1 && decide (dp ≤ j) && decide (j < dp + n)) = true) := by simpa using hj
      rw [if_neg this]
  rw [e1] at X' step
  have hl : b + a1 < H.size := (Array.getElem?_eq_some_iff.mp hc1).1
  generalize hcell : arrV (dA 0) n1 (fun j => Value.int (i32 (cpy2 c a0 sp a1 dp n a1 j))) = cellN at X' step
  have hheap : ((U.setVm vm').setCell (b + a1) cellN).heap = H.setIfInBounds (b + a1) cellN := by rw [← hU]; rfl
  have oq : ∀ q : Nat, q ≠ b + a1 → (H.setIfInBounds (b + a1) cellN)[q]? = H[q]? := fun q hq => by simp [Array.getElem?_setIfInBounds, Ne.symm hq]
  have hs : (H.setIfInBounds (b + a1) cellN)[b + a1]? = some cellN := by simp [Array.getElem?_setIfInBounds, hl]
  have hR : RelH D dA b fin sh (cpy2 c a0 sp a1 dp n) (H.setIfInBounds (b + a1) cellN) := by
    obtain ⟨g1, g2, g3, g4, g5, g6⟩ := M.2.2.1
    have hl1 := (List.getElem?_eq_some_iff.mp ha1).1
    refine ⟨by rw [Array.size_setIfInBounds]; exact g1, fun x y hx hy => ?_, fun x y => ?_, fun x y r hr => ?_, g5, fun x y hx => ?_⟩
    · by_cases ex : x = a1
      · subst ex
        cases ha1.symm.trans hy
        show (H.setIfInBounds (b + x) cellN)[b + x]? = some _
        rw [hs, ← hcell]
        rfl
      · rw [cpy2_row c a0 sp a1 dp n ex]
        exact (g2 x y hx hy).kept (oq _ (by omega))
    · unfold cpy2
      split
      · exact g3 _ _
      · exact g3 x y
    · have ex : x ≠ a1 := fun ex => by
        rw [ex, M.2.2.1.nofinA ha1 rfl] at hr
        cases hr
      rw [cpy2_row c a0 sp a1 dp n ex]
      exact g4 x y r hr
    · rw [cpy2_row c a0 sp a1 dp n (by omega)]
      exact g6 x y hx
  obtain ⟨t, y1, y2⟩ := kk p l e R s m args below meth c_ D dA b qs Qr F S K _ _ cells slots ls_ ⟨M.1, M.2.1, hR, fun q hq => by rw [oq q (by omega)]; exact M.2.2.2.1 q hq, fun q hq => by
      rcases List.mem_append.mp hq with h | h
      · exact M.2.2.2.2 q h
      · obtain ⟨z, -, hz⟩ := List.mem_map.mp h
        rw [← hz]
        show b + 1 ≤ b + a1
        omega⟩ hor L V _ hheap X'
  exact ⟨t, step t y1, y2⟩
end TC
