/-! the world behind both constructors -/
def CF : HC := e_md (e_rw (fun _ _ => 0))
def finB (a k : Nat) : Bool := match SH[a]? with
  | some (0, ci) => match vwCl[ci]? with
    | some r => (r.2.1 k).2.2.2
    | none => false
  | some (t + 1, _) => isRf (tgTy t)
  | none => false
theorem CF_chk : ((List.range 149).all fun a => (List.range 45).all fun k => match FIN a k with | none => true | some r => decide (CF a k = (r : Int)) && finB a k) = true := by decide +kernel
theorem FINL_w : (FINL.all fun r => decide (r.length ≤ 45)) = true := by decide +kernel
theorem FINL_l : FINL.length = 149 := by decide +kernel
theorem FIN_in {a k r : Nat} (h : FIN a k = some r) : a < 149 ∧ k < 45 := by
  unfold FIN at h
  cases hr : FINL[a]? with
  | none => rw [hr] at h; cases h
  | some row =>
    rw [hr] at h
    have h2 : (row[k]?).getD none = some r := h
    obtain ⟨ha, he⟩ := List.getElem?_eq_some_iff.mp hr
    have hw := List.all_eq_true.mp FINL_w row (by rw [← he]; exact List.getElem_mem ha)
    have hw2 : row.length ≤ 45 := of_decide_eq_true hw
    rw [FINL_l] at ha
    refine ⟨ha, ?_⟩
    cases hk : row[k]? with
    | none => rw [hk] at h2; cases h2
    | some v =>
      have := (List.getElem?_eq_some_iff.mp hk).1
      omega
theorem CF_at {a k r : Nat} (h : FIN a k = some r) : CF a k = (r : Int) ∧ finB a k = true := by
  obtain ⟨h1, h2⟩ := FIN_in h
  have z := List.all_eq_true.mp (List.all_eq_true.mp CF_chk a (List.mem_range.mpr h1)) k (List.mem_range.mpr h2)
  rw [h] at z
  have z2 : (decide (CF a k = (r : Int)) && finB a k) = true := z
  rw [Bool.and_eq_true] at z2
  exact ⟨of_decide_eq_true z2.1, z2.2⟩
theorem finB_at {a k : Nat} (h : finB a k = true) : finAt SH a k := by
  unfold finB at h
  cases hs : SH[a]? with
  | none => rw [hs] at h; cases h
  | some q =>
    obtain ⟨t, n⟩ := q
    rw [hs] at h
    cases t with
    | zero =>
      cases hv : vwCl[n]? with
      | none => simp only [hv] at h; cases h
      | some r =>
        simp only [hv] at h
        exact Or.inl ⟨n, r, hs, hv, h⟩
    | succ t => exact Or.inr ⟨t, n, hs, h⟩
theorem NF_no {a k r : Nat} (h : NF a k = some r) : False := by
  unfold NF at h
  cases h
theorem T_fin0 {X : Option (Nat × (Nat → Int32))} {μ : MI} {d bc bs pc : Nat} {sh : SHP} {fin2 : Nat → Nat → Option Nat} {ls : PL} {st : List PV} {c : HC} {Q : Option PV → SHP → HC → Prop} (h1 : ∀ a k r, fin2 a k = some r → c a k = (r : Int)) (h2 : ∀ a k r, fin2 a k = some r → finAt sh a k) (hk : T X μ d fin2 bc bs sh pc ls st c Q) : T X μ d NF bc bs sh pc ls st c Q := by
  intro p l e R s m args below meth c_ D dA b qs Qr F S K H locs cells slots ls_ M O L V
  refine hk p l e R s m args below meth c_ D dA b qs Qr F S (fun pcx v sh' c' H locs cells slots ls2 a1 a2 a3 a4 a5 => K pcx v sh' c' H locs cells slots ls2 a1 a2 a3 a4 ?_) H locs cells slots ls_ ?_ O L V
  · obtain ⟨b1, b2, ⟨r1, r2, r3, _, _, r6⟩, b4, b5⟩ := a5
    exact ⟨b1, b2, ⟨r1, r2, r3, fun a k r h => (NF_no h).elim, fun a k r h => (NF_no h).elim, r6⟩, b4, b5⟩
  · obtain ⟨b1, b2, ⟨r1, r2, r3, _, _, r6⟩, b4, b5⟩ := M
    exact ⟨b1, b2, ⟨r1, r2, r3, h1, h2, r6⟩, b4, b5⟩
set_option maxRecDepth 100000 in
theorem CF_r3 : CF 3 = fun _ => 0 := funext fun _ => rfl
set_option maxRecDepth 100000 in
theorem CF_r131 : CF 131 = fun _ => 0 := funext fun _ => rfl
set_option maxRecDepth 100000 in
theorem CF_r93 : CF 93 = fun _ => 0 := funext fun _ => rfl
set_option maxRecDepth 100000 in
theorem CF_r95 : CF 95 = fun _ => 0 := funext fun _ => rfl
set_option maxRecDepth 100000 in
theorem CF_r141 : CF 141 = fun _ => 0 := funext fun _ => rfl
theorem lb_0 : ∀ l, lbF (fun _ => 0) 0 l = 0
  | 0 => rfl
  | l + 1 => by
    rw [lbF.eq_2, if_neg (by decide)]
    exact lb_0 l
theorem gV_0 (l : Nat) : gV 0 l = 0 := by
  rcases (gV_sp (s := 0) (l := l) (by decide)).2 with ⟨_, h⟩ | ⟨i, _, h, _⟩
  · rw [h, if_pos rfl]
  · rw [Nat.zero_testBit] at h
    cases h
theorem CF_v : (CF 1 10 = 88 ∧ CF 1 11 = 101 ∧ CF 108 0 = 0) ∧ (CF 89 6 = 0 ∧ CF 89 7 = 0 ∧ CF 89 8 = 0 ∧ CF 89 9 = 0 ∧ CF 96 4 = 0) ∧ (CF 122 0 = 0 ∧ CF 122 1 = 0 ∧ CF 122 2 = 0 ∧ CF 122 4 = 0 ∧ CF 122 6 = 0) ∧ (CF 4 3 = 0 ∧ CF 4 4 = 0 ∧ CF 4 2 = 0 ∧ CF 130 0 = 0 ∧ CF 130 1 = 0 ∧ CF 130 12 = 0) ∧ (CF 7 1 = 0 ∧ CF 7 2 = 0 ∧ CF 122 34 = 0) ∧ (CF 114 2 = 0 ∧ CF 118 2 = 0 ∧ CF 148 0 = 0 ∧ CF 148 1 = 0) ∧ (CF 87 0 = 0 ∧ CF 122 13 = 0) ∧ (CF 1 12 = 0 ∧ CF 1 13 = 0 ∧ CF 122 37 = 0 ∧ CF 122 39 = 0) ∧ (CF 2 1 = 0 ∧ CF 122 15 = 0 ∧ CF 2 5 = -1 ∧ CF 122 16 = -1) ∧ (CF 70 3 = 1 ∧ CF 71 0 = 0 ∧ CF 72 0 = 0 ∧ CF 73 0 = 0) := by decide +kernel
theorem INV_0 : INV CF := by
  obtain ⟨⟨w1, w2, w3⟩, ⟨g1, g2, g3, g4, g5⟩, ⟨r1, r2, r3, r4, r5⟩, ⟨s1, s2, s3, s4, s5, s6⟩, ⟨p1, p2, p3⟩, ⟨i1, i2, i3, i4⟩, ⟨d1, d2⟩, ⟨m1, m2, m3, m4⟩, ⟨t1, t2, t3, t4⟩, y1, y2, y3, y4⟩ := CF_v
  refine ⟨88, 101, 0, 0, 0, 0, 0, 0, 1, ⟨Or.inl ⟨rfl, rfl⟩, w1, w2, w3⟩, ⟨?_, ?_, ?_, ?_, ?_, fun j hj => by omega, ?_⟩, ⟨?_, ?_⟩, ⟨p1, p2, by decide, by decide, p3, fun i hi => by omega⟩, fun i hi => ?_, ⟨by rw [d1, d2], by rw [d2]; decide, by rw [d2]; decide⟩, ⟨⟨m1, m3, by decide, fun j hj => by omega⟩, m2, m4, by decide, fun j hj => by omega⟩, ⟨t1, t2, by decide, by rw [CF_r3, CF_r131], fun j => by rw [CF_r131]; exact Int.le_refl 0, by rw [t3, t4]⟩, ⟨y1, by decide, by decide, ?_, ?_⟩⟩
  · unfold GV
    rw [show CF (88 + 1) 6 = 0 from g1, show CF (88 + 1) 7 = 0 from g2, show CF (88 + 1) 8 = 0 from g3, show CF (88 + 1) 9 = 0 from g4]
    exact ⟨by decide, by decide, by decide, by decide, fun i hi => by omega, fun i hi => by omega⟩
  · exact ⟨g5, by decide, fun p hp => by omega⟩
  · unfold RGV
    rw [r1, r2, r3, r4]
    exact ⟨by decide, by decide, by decide, by decide, fun i hi => by omega, fun i hi => by omega⟩
  · exact ⟨r5, by decide, fun p hp => by omega⟩
  · refine ⟨⟨g1.trans r1.symm, g2.trans r2.symm, g3.trans r3.symm, g4.trans r4.symm⟩, fun j hj => ?_, fun j hj => ?_⟩
    · rw [r3] at hj; omega
    · rw [r4] at hj; omega
  · refine ⟨fun l hl => ?_, ?_, fun l hl => ?_⟩
    · rw [show CF (88 + 1 + 4) = fun _ => 0 from CF_r93, show CF (88 + 1 + 6) = fun _ => 0 from CF_r95, CF_r141, lb_0]
      exact ⟨rfl, rfl, fun z => absurd (show (0 : Int) < 0 from z) (by decide)⟩
    · rw [CF_r141]
    · rw [CF_r141]
      exact ⟨Int.le_refl 0, fun z => absurd (show (0 : Int) < 0 from z) (by decide)⟩
  · refine ⟨s1.trans s4.symm, s2.trans s5.symm, s3.trans s6.symm, fun j hj => by omega, fun j hj => ?_⟩
    have : (j : Int) < CF 4 2 := hj
    omega
  · unfold RV
    rw [s4, s5, s6]
    exact ⟨by decide, by decide, by decide, fun j hj => by omega⟩
  · rcases (show i = 0 ∨ i = 1 by omega) with e | e
    · subst e
      exact ⟨⟨i1.trans i3.symm, Or.inl i3⟩, fun z => absurd i3 z⟩
    · subst e
      exact ⟨⟨i2.trans i4.symm, Or.inl i4⟩, fun z => absurd i4 z⟩
  · intro s hs l hl
    have e : s = 0 := by omega
    subst e
    unfold wF
    rw [y2, y3, gV_0, if_neg (by omega)]
  · intro s hs
    have e : s = 0 := by omega
    subst e
    rw [y2, y3, y4]
    decide
