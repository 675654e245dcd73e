/-! Cells, arrays and calls in the plain judgement -/
theorem inU0 : ∀ w ∈ u_ws RX0 TX0 1, w ∈ lw_tbl := by decide +kernel
theorem inU1 : ∀ w ∈ u_ws RX1 TX1 2, w ∈ lw_tbl := by decide +kernel
theorem inU2 : ∀ w ∈ u_ws RX2 TX2 4, w ∈ lw_tbl := by decide +kernel
theorem inU3 : ∀ w ∈ u_ws RX3 TX3 11, w ∈ lw_tbl := by decide +kernel
theorem inU4 : ∀ w ∈ u_ws RX4 TX4 3, w ∈ lw_tbl := by decide +kernel
theorem inU5 : ∀ w ∈ u_ws RX5 TX5 3, w ∈ lw_tbl := by decide +kernel
theorem inU6 : ∀ w ∈ u_ws RX6 TX6 4, w ∈ lw_tbl := by decide +kernel
theorem inU7 : ∀ w ∈ u_ws RX7 TX7 5, w ∈ lw_tbl := by decide +kernel
theorem inU8 : ∀ w ∈ u_ws RX8 TX8 5, w ∈ lw_tbl := by decide +kernel
theorem inU9 : ∀ w ∈ u_ws RX9 TX9 6, w ∈ lw_tbl := by decide +kernel
theorem inU10 : ∀ w ∈ u_ws RX10 TX10 14, w ∈ lw_tbl := by decide +kernel
theorem inU11 : ∀ w ∈ u_ws RX11 TX11 44, w ∈ lw_tbl := by decide +kernel
/-- what is known of a kind of object -/
def clKn (ci : Nat) (r : vw_C) : Prop := (∀ w ∈ u_ws r.1 r.2.1 r.2.2, w ∈ lw_tbl) ∧ (∀ k, k < r.2.2 → parseFieldDescriptor (r.2.1 k).2.2.1 = some (fty ci k)) ∧ (∀ a, a < r.2.2 → ∀ b, b < r.2.2 → a ≠ b → (r.2.1 a).2.1 ≠ (r.2.1 b).2.1)
theorem cl_kn : ∀ (ci : Nat) (r : vw_C), vwCl[ci]? = some r → clKn ci r := by
  intro ci r h
  match ci, h with
  | 0, h => cases h; exact ⟨inU0, tyX0_ok, nmX0⟩
  | 1, h => cases h; exact ⟨inU1, tyX1_ok, nmX1⟩
  | 2, h => cases h; exact ⟨inU2, tyX2_ok, nmX2⟩
  | 3, h => cases h; exact ⟨inU3, tyX3_ok, nmX3⟩
  | 4, h => cases h; exact ⟨inU4, tyX4_ok, nmX4⟩
  | 5, h => cases h; exact ⟨inU5, tyX5_ok, nmX5⟩
  | 6, h => cases h; exact ⟨inU6, tyX6_ok, nmX6⟩
  | 7, h => cases h; exact ⟨inU7, tyX7_ok, nmX7⟩
  | 8, h => cases h; exact ⟨inU8, tyX8_ok, nmX8⟩
  | 9, h => cases h; exact ⟨inU9, tyX9_ok, nmX9⟩
  | 10, h => cases h; exact ⟨inU10, tyX10_ok, nmX10⟩
  | 11, h => cases h; exact ⟨inU11, tyX11_ok, nmX11⟩
  | n + 12, h => simp [vwCl] at h
theorem lay_good (C : String) (Tb : u_T) (N : Nat) : ∀ w ∈ u_ws C Tb N, goodK w = true := by
  intro w h
  obtain ⟨k, -, rfl⟩ := List.mem_map.mp h
  unfold u_lay
  split <;> rfl
theorem Kt.lays {D : va_G} {dA : Nat → ClassId} {U : State} (h : Kt D dA U) {ci : Nat} {r : vw_C} (hr : vwCl[ci]? = some r) {A : Array Value} : ∀ w ∈ u_ws r.1 r.2.1 r.2.2, w.before A U = true := fun w hw => h.word ((cl_kn ci r hr).1 w hw) (lay_good _ _ _ w hw)
/-- a pool entry that names a field of a kind of object -/
def FL (own : String) (idx ci k : Nat) : Prop := ∃ r : vw_C, vwCl[ci]? = some r ∧ k < r.2.2 ∧ (Cond.fieldLink own idx (r.2.1 k).1 (r.2.1 k).2.1 (r.2.1 k).2.2.1 ∈ lw_tbl ∨ ∃ host, Cond.fieldLinkNest own idx (r.2.1 k).1 (r.2.1 k).2.1 (r.2.1 k).2.2.1 host ∈ lw_tbl)
theorem ref_eq {b qs a : Nat} (h : 0 < a) : cv b qs (vr a) = .ref (b + a) := by
  show rf b a = _
  unfold rf
  rw [if_neg (by omega)]
theorem RelH.lt {D : va_G} {dA : Nat → ClassId} {b : Nat} {fin : Nat → Nat → Option Nat} {sh : SHP} {c : HC} {H : Heap} (h : RelH D dA b fin sh c H) {a : Nat} {p : Nat × Nat} (ha : sh[a]? = some p) : b + a < H.size := by
  rw [h.1]
  have := (List.getElem?_eq_some_iff.mp ha).1
  omega
theorem cellOK.kept {D : va_G} {dA : Nat → ClassId} {b : Nat} {H H1 : Heap} {a : Nat} {p : Nat × Nat} {f : Nat → Int} (h : cellOK D dA b H a p f) (he : H1[b + a]? = H[b + a]?) : cellOK D dA b H1 a p f := by
  obtain ⟨t, n⟩ := p
  cases t with
  | zero =>
    obtain ⟨r, h1, h2⟩ := h
    exact ⟨r, h1, h2.kept he⟩
  | succ t => exact he.trans h
theorem up2_row (c : HC) (a k : Nat) (v : Int) {x : Nat} (h : x ≠ a) : up2 c a k v x = c x := funext fun y => up2_a c v h
theorem RelH.put {D : va_G} {dA : Nat → ClassId} {b : Nat} {fin : Nat → Nat → Option Nat} {sh : SHP} {c : HC} {H H1 : Heap} (h : RelH D dA b fin sh c H) {a k : Nat} {p : Nat × Nat} {v : Int} (ha : sh[a]? = some p) (hf : fin a k = none) (hv : InR v)
    (hz : H1.size = H.size) (ho : ∀ q, q ≠ b + a → H1[q]? = H[q]?) (hc : cellOK D dA b H1 a p (up2 c a k v a)) : RelH D dA b fin sh (up2 c a k v) H1 := by
  obtain ⟨h1, h2, h3, h4, h5, h6⟩ := h
  have hl := (List.getElem?_eq_some_iff.mp ha).1
  refine ⟨by rw [hz]; exact h1, fun x q hx hq => ?_, up2_in h3 hv, fun x y r hr => ?_, h5, fun x y hx => ?_⟩
  · by_cases e : x = a
    · subst e
      cases ha.symm.trans hq
      exact hc
    · rw [up2_row c a k v e]
      exact (h2 x q hx hq).kept (ho _ (by omega))
  · have : ¬ (x = a ∧ y = k) := fun q => by rw [q.1, q.2, hf] at hr; cases hr
    unfold up2
    rw [if_neg (by simpa using this)]
    exact h4 x y r hr
  · rw [up2_a c v (by omega)]
    exact h6 x y hx
theorem RelH.nofin {D : va_G} {dA : Nat → ClassId} {b : Nat} {fin : Nat → Nat → Option Nat} {sh : SHP} {c : HC} {H : Heap} (h : RelH D dA b fin sh c H) {a k ci : Nat} {r : vw_C} (ha : sh[a]? = some (0, ci)) (hr : vwCl[ci]? = some r) (hn : (r.2.1 k).2.2.2 = false) : fin a k = none := by
  cases e : fin a k with
  | none => rfl
  | some x =>
    exfalso
    rcases h.2.2.2.2.1 a k x e with ⟨ci2, r2, g1, g2, g3⟩ | ⟨t, n, g1, g2⟩
    · cases ha.symm.trans g1
      cases hr.symm.trans g2
      rw [hn] at g3
      cases g3
    · cases ha.symm.trans g1
theorem RelH.nofinA {D : va_G} {dA : Nat → ClassId} {b : Nat} {fin : Nat → Nat → Option Nat} {sh : SHP} {c : HC} {H : Heap} (h : RelH D dA b fin sh c H) {a k t n : Nat} (ha : sh[a]? = some (t + 1, n)) (ht : isRf (tgTy t) = false) : fin a k = none := by
  cases e : fin a k with
  | none => rfl
  | some x =>
    exfalso
    rcases h.2.2.2.2.1 a k x e with ⟨ci2, r2, g1, g2, g3⟩ | ⟨t2, n2, g1, g2⟩
    · cases ha.symm.trans g1
    · cases ha.symm.trans g1
      rw [ht] at g2
      cases g2
theorem Mv.put {fin : Nat → Nat → Option Nat} {bc bs : Nat} {sh : SHP} {c c1 : HC} {R : Room} {s : State} {D : va_G} {dA : Nat → ClassId} {b : Nat} {H H1 : Heap} {locs : List Loc} {cells slots a j : Nat} (h : Mv fin bc bs sh c R s D dA b H locs cells slots) (h0 : 0 < a) (hr : RelH D dA b fin sh c1 H1) (ho : ∀ q, q ≠ b + a → H1[q]? = H[q]?) : Mv fin bc bs sh c1 R s D dA b H1 (locs ++ [⟨b + a, j⟩]) cells slots :=
  ⟨h.1, h.2.1, hr, fun q hq => by rw [ho q (by omega)]; exact h.2.2.2.1 q hq, fun q hq => by
    rcases List.mem_append.mp hq with g | g
    · exact h.2.2.2.2 q g
    · have e : q = ⟨b + a, j⟩ := by simpa using g
      rw [e]
      show b + 1 ≤ b + a
      omega⟩
section TM
variable {X : Option (Nat × (Nat → Int32))} {μ : MI} {d : Nat} {fin : Nat → Nat → Option Nat} {bc bs : Nat} {sh : SHP} {pc : Nat} {ls : PL} {st : List PV} {c : HC} {Q : Option PV → SHP → HC → Prop}
theorem T_get0 {a ci k idx : Nat} {v : PV} (hd : decode μ.2.1 pc = .ok (.getfield idx, 3)) (hf : FL μ.1.cls idx ci k) (ha : sh[a]? = some (0, ci)) (h0 : 0 < a) (hv : ∀ b qs, InR (c a k) → sv b (isRf (fty ci k)) (c a k) = cv b qs v) (hok : InR (c a k) → okv v) (kk : T X μ d fin bc bs sh (pc + 3) ls (v :: st) c Q) : T X μ d fin bc bs sh pc ls (vr a :: st) c Q := by
  intro p l e R s m args below meth c_ D dA b qs Qr F S K H locs cells slots ls_ M O L V
  have hin := M.2.2.1.2.2.1 a k
  have h := kk p l e R s m args below meth c_ D dA b qs Qr F S K H locs cells slots ls_ M (okS_p (hok hin) (okS_c O).2) L V
  obtain ⟨r, hr, hkN, hlk⟩ := hf
  obtain ⟨r2, hr2, cell, q1, q2, q3, q4⟩ := M.2.2.1.2.1 a _ h0 ha
  cases hr.symm.trans hr2
  have hKt := F.2.2.2.2.2.2
  obtain ⟨hS, hfc, kC, hkC, hkind⟩ := hKt.2.1 ci r hr
  obtain ⟨cf, kf, fi, f, hi, hsl⟩ := hS k hkN
  have hst := (u_facts hfc hkC (u_lays (args := args) (hKt.lays hr) (fun _ q => q) hkN) hi).1
  have hslot : cell.slots[f.slot]? = some (cv b qs v) := by rw [hsl, q4 k hkN, ← hv b qs hin]
  rw [List.map_cons, ref_eq h0]
  rcases hlk with hlk | ⟨host, hlk⟩
  · exact W.getf F.1 F.2.1 F.2.2.2.1 (hKt.word hlk rfl) hi hst q1 (by rw [q3]; exact fun z => by cases z) hslot rfl rfl hd h
  · exact va_Wgetf F.1 F.2.1 F.2.2.2.1 (hKt.word hlk rfl) hi hst q1 (by rw [q3]; exact fun z => by cases z) hslot rfl rfl hd h
theorem T_geti {a ci k idx : Nat} (hd : decode μ.2.1 pc = .ok (.getfield idx, 3)) (hf : FL μ.1.cls idx ci k) (ha : sh[a]? = some (0, ci)) (h0 : 0 < a) (ht : isRf (fty ci k) = false) (kk : T X μ d fin bc bs sh (pc + 3) ls (vi (c a k) :: st) c Q) : T X μ d fin bc bs sh pc ls (vr a :: st) c Q :=
  T_get0 (v := vi (c a k)) hd hf ha h0 (fun b qs _ => by unfold sv; rw [ht]; rfl) (fun h => h) kk
theorem T_getv {a ci k idx : Nat} {z : Int} (hd : decode μ.2.1 pc = .ok (.getfield idx, 3)) (hf : FL μ.1.cls idx ci k) (ha : sh[a]? = some (0, ci)) (h0 : 0 < a) (ht : isRf (fty ci k) = false) (hz : c a k = z) (kk : T X μ d fin bc bs sh (pc + 3) ls (vi z :: st) c Q) : T X μ d fin bc bs sh pc ls (vr a :: st) c Q := by
  subst hz
  exact T_geti hd hf ha h0 ht kk
theorem T_getr {a ci k idx r : Nat} (hd : decode μ.2.1 pc = .ok (.getfield idx, 3)) (hf : FL μ.1.cls idx ci k) (ha : sh[a]? = some (0, ci)) (h0 : 0 < a) (ht : isRf (fty ci k) = true) (hr : c a k = (r : Int)) (kk : T X μ d fin bc bs sh (pc + 3) ls (vr r :: st) c Q) : T X μ d fin bc bs sh pc ls (vr a :: st) c Q :=
  T_get0 (v := vr r) hd hf ha h0 (fun b qs _ => by unfold sv; rw [ht, hr]; rfl) (fun h => trivial) kk
theorem T_getfin {a ci k idx r : Nat} (hd : decode μ.2.1 pc = .ok (.getfield idx, 3)) (hf : FL μ.1.cls idx ci k) (ha : sh[a]? = some (0, ci)) (h0 : 0 < a) (ht : isRf (fty ci k) = true) (hr : fin a k = some r) (kk : T X μ d fin bc bs sh (pc + 3) ls (vr r :: st) c Q) : T X μ d fin bc bs sh pc ls (vr a :: st) c Q :=
  T_fin (fun h => T_getr hd hf ha h0 ht (h a k r hr) kk)
theorem T_put0 {a ci k idx : Nat} {v : PV} {z : Int} (hd : decode μ.2.1 pc = .ok (.putfield idx, 3)) (hf : FL μ.1.cls idx ci k) (ha : sh[a]? = some (0, ci)) (h0 : 0 < a) (hz : okv v → InR z) (hv : ∀ b qs, sv b (isRf (fty ci k)) z = cv b qs v) (hn : ∀ b qs, narrow (fty ci k) (cv b qs v) = cv b qs v) (hft : ∀ b qs, fits (fty ci k) (cv b qs v) = true) (hnf : ∀ r, vwCl[ci]? = some r → (r.2.1 k).2.2.2 = false) (kk : T X μ d fin bc bs sh (pc + 3) ls st (up2 c a k z) Q) : T X μ d fin bc bs sh pc ls (v :: vr a :: st) c Q := by
  intro p l e R s m args below meth c_ D dA b qs Qr F S K H locs cells slots ls_ M O L V
  obtain ⟨ov, O⟩ := okS_c O
  obtain ⟨-, O⟩ := okS_c O
  obtain ⟨r, hr, hkN, hlk⟩ := hf
  obtain ⟨r2, hr2, cell, q1, q2, q3, q4⟩ := M.2.2.1.2.1 a _ h0 ha
  cases hr.symm.trans hr2
  have hKt := F.2.2.2.2.2.2
  obtain ⟨hci, hty, hnm⟩ := cl_kn ci r hr
  have hts := hKt.lays (A := args) hr
  have hap := va_apart (own := r.1) hts (fun _ q => q) (fty ci) hty hnm hKt.2 hr
  obtain ⟨hS, hfc, kC, hkC, hkind⟩ := hKt.2.1 ci r hr
  obtain ⟨cf, kf, fi, f, hi, hsl⟩ := hS k hkN
  have hlay := hts _ (u_in_lay hkN)
  unfold u_lay at hlay
  rw [if_neg (by rw [hnf r hr]; decide)] at hlay
  have hst := (u_facts hfc hkC (u_lays hts (fun _ q => q) hkN) hi).1
  have h6 := u_store hfc hkC hkind hlay hi (hty k hkN) (hn b qs) (hft b qs)
  have fin2 : ∀ H' : Heap, H'[b + a]? = some (cell.setSlot f.slot (cv b qs v)) → H'.size = H.size → (∀ q, q ≠ b + a → H'[q]? = H[q]?) → W p l e R s m args below meth c_ H' (locs ++ [⟨b + a, f.slot⟩]) cells slots Qr (F0 m (pc + 3) ls_ (st.map (cv b qs))) := by
    intro H' e1 e2 e3
    refine kk p l e R s m args below meth c_ D dA b qs Qr F S K H' _ cells slots ls_ (M.put h0 (M.2.2.1.put ha (M.2.2.1.nofin ha hr (hnf r hr)) (hz ov) e2 e3 ?_) e3) O L V
    refine ⟨r, hr, t_OB.to (V := updV (fun j => sv b (isRf (fty ci j)) (c a j)) k (cv b qs v)) ⟨cell.setSlot (D.2 ci k) (cv b qs v), by rw [hsl] at e1; exact e1, q2, q3, t_set q4 hap hkN (cv b qs v)⟩ (fun j _ => ?_)⟩
    by_cases ej : j = k
    · subst ej
      simp [updV, up2_s, hv b qs]
    · simp [updV, ej, up2_k c z ej]
  rw [List.map_cons, List.map_cons, ref_eq h0]
  rcases hlk with hlk | ⟨host, hlk⟩
  · exact W.putK F.1 F.2.1 ⟨F.2.2.2.1, hKt.word hlk rfl, ⟨cf, kf, fi, hi⟩, hst⟩ (by rw [q2]; exact h6) q1 q3 (by rw [hsl]; exact k2_hasslot (q4 k hkN)) rfl rfl hd fin2
  · exact va_WputK F.1 F.2.1 F.2.2.2.1 (hKt.word hlk rfl) hi hst (by rw [q2]; exact h6) q1 q3 (by rw [hsl]; exact k2_hasslot (q4 k hkN)) rfl rfl hd fin2
theorem T_puti {a ci k idx : Nat} {z : Int} (hd : decode μ.2.1 pc = .ok (.putfield idx, 3)) (hf : FL μ.1.cls idx ci k) (ha : sh[a]? = some (0, ci)) (h0 : 0 < a) (ht : fty ci k = .int) (hnf : (vwCl[ci]?.map (fun r => (r.2.1 k).2.2.2)) = some false) (kk : T X μ d fin bc bs sh (pc + 3) ls st (up2 c a k z) Q) : T X μ d fin bc bs sh pc ls (vi z :: vr a :: st) c Q :=
  T_put0 hd hf ha h0 (fun h => h) (fun b qs => by rw [ht]; rfl) (fun b qs => by rw [ht]; rfl) (fun b qs => by rw [ht]; rfl) (fun r hr => by rw [hr] at hnf; exact Option.some.inj hnf) kk
theorem T_putz {a ci k idx : Nat} {z : Int} (hd : decode μ.2.1 pc = .ok (.putfield idx, 3)) (hf : FL μ.1.cls idx ci k) (ha : sh[a]? = some (0, ci)) (h0 : 0 < a) (ht : fty ci k = .boolean) (hnf : (vwCl[ci]?.map (fun r => (r.2.1 k).2.2.2)) = some false) (hz : z = 0 ∨ z = 1) (kk : T X μ d fin bc bs sh (pc + 3) ls st (up2 c a k z) Q) : T X μ d fin bc bs sh pc ls (vi z :: vr a :: st) c Q :=
  T_put0 hd hf ha h0 (fun h => h) (fun b qs => by rw [ht]; rfl) (fun b qs => by rw [ht]; exact nar_bool hz) (fun b qs => by rw [ht]; rcases hz with rfl | rfl <;> rfl) (fun r hr => by rw [hr] at hnf; exact Option.some.inj hnf) kk
theorem rf_fits {t : FieldType} (h : isRf t = true) (b n : Nat) : fits t (rf b n) = true := by
  unfold rf
  cases t <;> first | (cases h; done) | (split <;> rfl)
theorem rf_nar {t : FieldType} (b n : Nat) : narrow t (rf b n) = rf b n := by
  unfold rf
  split <;> (cases t <;> rfl)
theorem T_putr {a ci k idx x : Nat} (hd : decode μ.2.1 pc = .ok (.putfield idx, 3)) (hf : FL μ.1.cls idx ci k) (ha : sh[a]? = some (0, ci)) (h0 : 0 < a) (ht : isRf (fty ci k) = true) (hnf : (vwCl[ci]?.map (fun r => (r.2.1 k).2.2.2)) = some false) (hx : x ≤ 2147483647) (kk : T X μ d fin bc bs sh (pc + 3) ls st (up2 c a k (x : Int)) Q) : T X μ d fin bc bs sh pc ls (vr x :: vr a :: st) c Q :=
  T_put0 hd hf ha h0 (fun h => by unfold InR; omega) (fun b qs => by unfold sv; rw [ht]; rfl) (fun b qs => rf_nar b x) (fun b qs => rf_fits ht b x) (fun r hr => by rw [hr] at hnf; exact Option.some.inj hnf) kk
theorem T_putF {a ci k idx x : Nat} {r : vw_C} (hd : decode μ.2.1 pc = .ok (.putfield idx, 3)) (hr : vwCl[ci]? = some r) (hkN : k < r.2.2) (hlk : Cond.fieldLink μ.1.cls idx (r.2.1 k).1 (r.2.1 k).2.1 (r.2.1 k).2.2.1 ∈ lw_tbl) (hin : μ.1.name = "<init>") (hdc : (r.2.1 k).1 = μ.1.cls) (ha : sh[a]? = some (0, ci)) (h0 : 0 < a) (ht : isRf (fty ci k) = true) (hnf : (r.2.1 k).2.2.2 = true) (hx : x ≤ 2147483647) (hfi : fin a k = none) (kk : T X μ d fin bc bs sh (pc + 3) ls st (up2 c a k (x : Int)) Q) : T X μ d fin bc bs sh pc ls (vr x :: vr a :: st) c Q := by
  intro p l e R s m args below meth c_ D dA b qs Qr F S K H locs cells slots ls_ M O L V
  obtain ⟨ov, O⟩ := okS_c O
  obtain ⟨-, O⟩ := okS_c O
  obtain ⟨r2, hr2, cell, q1, q2, q3, q4⟩ := M.2.2.1.2.1 a _ h0 ha
  cases hr.symm.trans hr2
  have hKt := F.2.2.2.2.2.2
  obtain ⟨hci, hty, hnm⟩ := cl_kn ci r hr
  have hts := hKt.lays (A := args) hr
  have hap := va_apart (own := r.1) hts (fun _ q => q) (fty ci) hty hnm hKt.2 hr
  obtain ⟨hS, hfc, kC, hkC, hkind⟩ := hKt.2.1 ci r hr
  obtain ⟨cf, kf, fi, f, hi, hsl⟩ := hS k hkN
  have hlay := hts _ (u_in_lay hkN)
  unfold u_lay at hlay
  rw [if_pos hnf] at hlay
  have hst := (u_facts hfc hkC (u_lays hts (fun _ q => q) hkN) hi).1
  have hcf : m.cls = cf := by
    obtain ⟨_, _, c', _, _, _, -, -, hf', -, -, -, hown2, -⟩ := Cond.laysFinal_spec hlay
    have e1 : c' = cf := by have := hi.symm.trans hf'; simp at this; exact this.1.symm
    rw [hdc] at hown2
    rw [← e1]
    exact Option.some.inj (F.2.2.2.1.symm.trans hown2)
  have h6 := u_fits hfc hkC hkind (Or.inr hlay) hi (hty k hkN) (rf_nar b x) (rf_fits ht b x)
  rw [List.map_cons, List.map_cons, ref_eq h0]
  refine W.putFinK F.1 F.2.1 F.2.2.2.1 (hKt.word hlk rfl) hi hst hcf (F.2.2.2.2.1.trans hin) (by rw [q2]; exact h6) q1 q3 (by rw [hsl]; exact k2_hasslot (q4 k hkN)) rfl rfl hd fun H' e1 e2 e3 => ?_
  refine kk p l e R s m args below meth c_ D dA b qs Qr F S K H' _ cells slots ls_ (M.put h0 (M.2.2.1.put ha hfi (by unfold InR; omega) e2 e3 ?_) e3) O L V
  refine ⟨r, hr, t_OB.to (V := updV (fun j => sv b (isRf (fty ci j)) (c a j)) k (rf b x)) ⟨cell.setSlot (D.2 ci k) (rf b x), by rw [hsl] at e1; exact e1, q2, q3, t_set q4 hap hkN (rf b x)⟩ (fun j _ => ?_)⟩
  by_cases ej : j = k
  · subst ej
    simp [updV, up2_s, sv, ht]
  · simp [updV, ej, up2_k c _ ej]
theorem K_arr {D : va_G} {dA : Nat → ClassId} {U : State} (h : Kt D dA U) (t : Nat) (ht : t < 6) (n : Nat) (z : Nat → Value) : U.isArrayOf (arrV (dA t) n z) (tgTy t) := by
  match t, ht with
  | 0, _ => exact (h.2.2 0 _ rfl).1 n z
  | 1, _ => exact (h.2.2 1 _ rfl).1 n z
  | 2, _ => exact (h.2.2 2 _ rfl).1 n z
  | 3, _ => exact (h.2.2 3 _ rfl).1 n z
  | 4, _ => exact (h.2.2 4 _ rfl).1 n z
  | 5, _ => exact (h.2.2 5 _ rfl).1 n z
theorem T_iald {a n j : Nat} {i : Int} (hd : decode μ.2.1 pc = .ok (.iaload, 1)) (ha : sh[a]? = some (1, n)) (h0 : 0 < a) (hj : i = (j : Int)) (hlt : j < n) (kk : T X μ d fin bc bs sh (pc + 1) ls (vi (c a j) :: st) c Q) : T X μ d fin bc bs sh pc ls (vi i :: vr a :: st) c Q := by
  intro p l e R s m args below meth c_ D dA b qs Qr F S K H locs cells slots ls_ M O L V
  subst hj
  obtain ⟨oi, O⟩ := okS_c O
  obtain ⟨-, O⟩ := okS_c O
  have h := kk p l e R s m args below meth c_ D dA b qs Qr F S K H locs cells slots ls_ M (okS_p (M.2.2.1.2.2.1 a j) O) L V
  have hc : H[b + a]? = some (arrV (dA 0) n (fun j => sv b (isRf (tgTy 0)) (c a j))) := M.2.2.1.2.1 a _ h0 ha
  have hcl : (i32 (j : Int)).toNatClampNeg = j := by rw [i32_clamp oi (by omega)]; rfl
  rw [List.map_cons, List.map_cons, ref_eq h0]
  refine W.iald F.1 F.2.1 hc (K_arr F.2.2.2.2.2.2 0 (by decide) n _) (fun q => by cases q) (by rw [arrV_size]; exact i32_in oi (by omega) (by omega)) (v := .int (i32 (c a j))) ?_ rfl rfl hd h
  rw [hcl, arrV_read _ _ hlt]
  rfl
theorem T_cald {a n j : Nat} {i : Int} (hd : decode μ.2.1 pc = .ok (.caload, 1)) (ha : sh[a]? = some (2, n)) (h0 : 0 < a) (hj : i = (j : Int)) (hlt : j < n) (kk : T X μ d fin bc bs sh (pc + 1) ls (vi (c a j) :: st) c Q) : T X μ d fin bc bs sh pc ls (vi i :: vr a :: st) c Q := by
  intro p l e R s m args below meth c_ D dA b qs Qr F S K H locs cells slots ls_ M O L V
  subst hj
  obtain ⟨oi, O⟩ := okS_c O
  obtain ⟨-, O⟩ := okS_c O
  have h := kk p l e R s m args below meth c_ D dA b qs Qr F S K H locs cells slots ls_ M (okS_p (M.2.2.1.2.2.1 a j) O) L V
  have hc : H[b + a]? = some (arrV (dA 1) n (fun j => sv b (isRf (tgTy 1)) (c a j))) := M.2.2.1.2.1 a _ h0 ha
  have hcl : (i32 (j : Int)).toNatClampNeg = j := by rw [i32_clamp oi (by omega)]; rfl
  rw [List.map_cons, List.map_cons, ref_eq h0]
  refine W.cald F.1 F.2.1 hc (K_arr F.2.2.2.2.2.2 1 (by decide) n _) (fun q => by cases q) (by rw [arrV_size]; exact i32_in oi (by omega) (by omega)) (v := .int (i32 (c a j))) ?_ rfl rfl hd h
  rw [hcl, arrV_read _ _ hlt]
  rfl
theorem T_zald {a n j : Nat} {i : Int} (hd : decode μ.2.1 pc = .ok (.baload, 1)) (ha : sh[a]? = some (3, n)) (h0 : 0 < a) (hj : i = (j : Int)) (hlt : j < n) (kk : T X μ d fin bc bs sh (pc + 1) ls (vi (c a j) :: st) c Q) : T X μ d fin bc bs sh pc ls (vi i :: vr a :: st) c Q := by
  intro p l e R s m args below meth c_ D dA b qs Qr F S K H locs cells slots ls_ M O L V
  subst hj
  obtain ⟨oi, O⟩ := okS_c O
  obtain ⟨-, O⟩ := okS_c O
  have h := kk p l e R s m args below meth c_ D dA b qs Qr F S K H locs cells slots ls_ M (okS_p (M.2.2.1.2.2.1 a j) O) L V
  have hc : H[b + a]? = some (arrV (dA 2) n (fun j => sv b (isRf (tgTy 2)) (c a j))) := M.2.2.1.2.1 a _ h0 ha
  have hcl : (i32 (j : Int)).toNatClampNeg = j := by rw [i32_clamp oi (by omega)]; rfl
  rw [List.map_cons, List.map_cons, ref_eq h0]
  refine W.zald F.1 F.2.1 hc (K_arr F.2.2.2.2.2.2 2 (by decide) n _) (fun q => by cases q) (by rw [arrV_size]; exact i32_in oi (by omega) (by omega)) (v := .int (i32 (c a j))) ?_ rfl rfl hd h
  rw [hcl, arrV_read _ _ hlt]
  rfl
theorem T_aald {a n j t r : Nat} {i : Int} (hd : decode μ.2.1 pc = .ok (.aaload, 1)) (ha : sh[a]? = some (t + 1, n)) (h6 : t < 6) (htr : isRf (tgTy t) = true) (h0 : 0 < a) (hj : i = (j : Int)) (hlt : j < n) (hr : c a j = (r : Int)) (kk : T X μ d fin bc bs sh (pc + 1) ls (vr r :: st) c Q) : T X μ d fin bc bs sh pc ls (vi i :: vr a :: st) c Q := by
  intro p l e R s m args below meth c_ D dA b qs Qr F S K H locs cells slots ls_ M O L V
  subst hj
  obtain ⟨oi, O⟩ := okS_c O
  obtain ⟨-, O⟩ := okS_c O
  have h := kk p l e R s m args below meth c_ D dA b qs Qr F S K H locs cells slots ls_ M (okS_p trivial O) L V
  have hc : H[b + a]? = some (arrV (dA t) n (fun j => sv b (isRf (tgTy t)) (c a j))) := M.2.2.1.2.1 a _ h0 ha
  have hcl : (i32 (j : Int)).toNatClampNeg = j := by rw [i32_clamp oi (by omega)]; rfl
  rw [List.map_cons, List.map_cons, ref_eq h0]
  refine W.aald F.1 F.2.1 hc (K_arr F.2.2.2.2.2.2 t h6 n _) ?_ (fun q => by cases q) (by rw [arrV_size]; exact i32_in oi (by omega) (by omega)) (v := rf b r) ?_ rfl rfl hd h
  · cases e : tgTy t <;> first | rfl | (rw [e] at htr; cases htr)
  · rw [hcl, arrV_read _ _ hlt, htr, hr]
    rfl
theorem T_aaldfin {a n j t r : Nat} {i : Int} (hd : decode μ.2.1 pc = .ok (.aaload, 1)) (ha : sh[a]? = some (t + 1, n)) (h6 : t < 6) (htr : isRf (tgTy t) = true) (h0 : 0 < a) (hj : i = (j : Int)) (hlt : j < n) (hr : fin a j = some r) (kk : T X μ d fin bc bs sh (pc + 1) ls (vr r :: st) c Q) : T X μ d fin bc bs sh pc ls (vi i :: vr a :: st) c Q :=
  T_fin (fun h => T_aald hd ha h6 htr h0 hj hlt (h a j r hr) kk)
theorem T_iast {a n j : Nat} {i z : Int} (hd : decode μ.2.1 pc = .ok (.iastore, 1)) (ha : sh[a]? = some (1, n)) (h0 : 0 < a) (hj : i = (j : Int)) (hlt : j < n) (kk : T X μ d fin bc bs sh (pc + 1) ls st (up2 c a j z) Q) : T X μ d fin bc bs sh pc ls (vi z :: vi i :: vr a :: st) c Q := by
  intro p l e R s m args below meth c_ D dA b qs Qr F S K H locs cells slots ls_ M O L V
  subst hj
  obtain ⟨oz, O⟩ := okS_c O
  obtain ⟨oi, O⟩ := okS_c O
  obtain ⟨-, O⟩ := okS_c O
  have hc : H[b + a]? = some (arrV (dA 0) n (fun j => sv b (isRf (tgTy 0)) (c a j))) := M.2.2.1.2.1 a _ h0 ha
  have hcl : (i32 (j : Int)).toNatClampNeg = j := by rw [i32_clamp oi (by omega)]; rfl
  rw [List.map_cons, List.map_cons, List.map_cons, ref_eq h0]
  refine W.iast F.1 F.2.1 hc (K_arr F.2.2.2.2.2.2 0 (by decide) n _) (fun q => by cases q) (by rw [arrV_size]; exact i32_in oi (by omega) (by omega)) rfl rfl hd fun H' e1 e2 e3 => ?_
  refine kk p l e R s m args below meth c_ D dA b qs Qr F S K H' _ cells slots ls_ (M.put h0 (M.2.2.1.put ha (M.2.2.1.nofinA ha rfl) oz e2 e3 ?_) e3) O L V
  show H'[b + a]? = some (arrV _ _ _)
  rw [e1, hcl, arrV_store]
  refine congrArg (fun f => some (arrV (dA 0) n f)) (funext fun q => ?_)
  by_cases eq : q = j
  · subst eq
    simp only [updV, up2_s, if_true]
    exact rfl
  · simp [updV, eq, up2_k c _ eq]
theorem nar_char {z : Int} (h : 0 ≤ z ∧ z ≤ 65535) : narrow .char (.int (i32 z)) = .int (i32 z) := by
  obtain ⟨n, rfl⟩ := Int.eq_ofNat_of_zero_le h.1
  exact (pk_charN (by omega)).1
theorem T_cast {a n j : Nat} {i z : Int} (hd : decode μ.2.1 pc = .ok (.castore, 1)) (ha : sh[a]? = some (2, n)) (h0 : 0 < a) (hj : i = (j : Int)) (hlt : j < n) (hz : 0 ≤ z ∧ z ≤ 65535) (kk : T X μ d fin bc bs sh (pc + 1) ls st (up2 c a j z) Q) : T X μ d fin bc bs sh pc ls (vi z :: vi i :: vr a :: st) c Q := by
  intro p l e R s m args below meth c_ D dA b qs Qr F S K H locs cells slots ls_ M O L V
  subst hj
  obtain ⟨oz, O⟩ := okS_c O
  obtain ⟨oi, O⟩ := okS_c O
  obtain ⟨-, O⟩ := okS_c O
  have hc : H[b + a]? = some (arrV (dA 1) n (fun j => sv b (isRf (tgTy 1)) (c a j))) := M.2.2.1.2.1 a _ h0 ha
  have hcl : (i32 (j : Int)).toNatClampNeg = j := by rw [i32_clamp oi (by omega)]; rfl
  rw [List.map_cons, List.map_cons, List.map_cons, ref_eq h0]
  refine W.cast F.1 F.2.1 hc (K_arr F.2.2.2.2.2.2 1 (by decide) n _) (fun q => by cases q) (by rw [arrV_size]; exact i32_in oi (by omega) (by omega)) rfl rfl hd fun H' e1 e2 e3 => ?_
  refine kk p l e R s m args below meth c_ D dA b qs Qr F S K H' _ cells slots ls_ (M.put h0 (M.2.2.1.put ha (M.2.2.1.nofinA ha rfl) oz e2 e3 ?_) e3) O L V
  show H'[b + a]? = some (arrV _ _ _)
  rw [e1, hcl, arrV_store]
  refine congrArg (fun f => some (arrV (dA 1) n f)) (funext fun q => ?_)
  by_cases eq : q = j
  · subst eq
    simp only [updV, up2_s, if_true]
    exact nar_char hz
  · simp [updV, eq, up2_k c _ eq]
theorem T_zast {a n j : Nat} {i z : Int} (hd : decode μ.2.1 pc = .ok (.bastore, 1)) (ha : sh[a]? = some (3, n)) (h0 : 0 < a) (hj : i = (j : Int)) (hlt : j < n) (hz : z = 0 ∨ z = 1) (kk : T X μ d fin bc bs sh (pc + 1) ls st (up2 c a j z) Q) : T X μ d fin bc bs sh pc ls (vi z :: vi i :: vr a :: st) c Q := by
  intro p l e R s m args below meth c_ D dA b qs Qr F S K H locs cells slots ls_ M O L V
  subst hj
  obtain ⟨oz, O⟩ := okS_c O
  obtain ⟨oi, O⟩ := okS_c O
  obtain ⟨-, O⟩ := okS_c O
  have hc : H[b + a]? = some (arrV (dA 2) n (fun j => sv b (isRf (tgTy 2)) (c a j))) := M.2.2.1.2.1 a _ h0 ha
  have hcl : (i32 (j : Int)).toNatClampNeg = j := by rw [i32_clamp oi (by omega)]; rfl
  rw [List.map_cons, List.map_cons, List.map_cons, ref_eq h0]
  refine W.zast F.1 F.2.1 hc (K_arr F.2.2.2.2.2.2 2 (by decide) n _) (fun q => by cases q) (by rw [arrV_size]; exact i32_in oi (by omega) (by omega)) rfl rfl hd fun H' e1 e2 e3 => ?_
  refine kk p l e R s m args below meth c_ D dA b qs Qr F S K H' _ cells slots ls_ (M.put h0 (M.2.2.1.put ha (M.2.2.1.nofinA ha rfl) oz e2 e3 ?_) e3) O L V
  show H'[b + a]? = some (arrV _ _ _)
  rw [e1, hcl, arrV_store]
  refine congrArg (fun f => some (arrV (dA 2) n f)) (funext fun q => ?_)
  by_cases eq : q = j
  · subst eq
    simp only [updV, up2_s, if_true]
    exact nar_bool hz
  · simp [updV, eq, up2_k c _ eq]
theorem T_aast {a n j t x ci : Nat} {r : vw_C} {i : Int} (hd : decode μ.2.1 pc = .ok (.aastore, 1)) (ha : sh[a]? = some (t + 1, n)) (h6 : t < 6) (h0 : 0 < a) (hr : vwCl[ci]? = some r) (htt : tgTy t = .object r.1) (hx : sh[x]? = some (0, ci)) (hx0 : 0 < x) (hxi : x ≤ 2147483647) (hfi : fin a j = none) (hj : i = (j : Int)) (hlt : j < n) (kk : T X μ d fin bc bs sh (pc + 1) ls st (up2 c a j (x : Int)) Q) : T X μ d fin bc bs sh pc ls (vr x :: vi i :: vr a :: st) c Q := by
  intro p l e R s m args below meth c_ D dA b qs Qr F S K H locs cells slots ls_ M O L V
  subst hj
  obtain ⟨-, O⟩ := okS_c O
  obtain ⟨oi, O⟩ := okS_c O
  obtain ⟨-, O⟩ := okS_c O
  have hKt := F.2.2.2.2.2.2
  have hc : H[b + a]? = some (arrV (dA t) n (fun j => sv b (isRf (tgTy t)) (c a j))) := M.2.2.1.2.1 a _ h0 ha
  have hcl : (i32 (j : Int)).toNatClampNeg = j := by rw [i32_clamp oi (by omega)]; rfl
  obtain ⟨r2, hr2, cellV, g1, g2, g3, -⟩ := M.2.2.1.2.1 x _ hx0 hx
  have hcls := (hKt.2.1 ci r hr).2
  have hRA : va_RA s (dA t) (.object r.1) := by
    match t, h6, htt with
    | 0, _, e => cases e
    | 1, _, e => cases e
    | 2, _, e => cases e
    | 3, _, e => rw [← e]; exact (hKt.2.2 3 _ rfl).2
    | 4, _, e => rw [← e]; exact (hKt.2.2 4 _ rfl).2
    | 5, _, e => cases e
  obtain ⟨kA, comp, k1, k2, k3, -⟩ := hRA
  have hcomp : comp = D.1 ci := Option.some.inj (k3.symm.trans hcls.1)
  subst hcomp
  obtain ⟨kC, hkC, -⟩ := hcls.2
  rw [List.map_cons, List.map_cons, List.map_cons, ref_eq h0, ref_eq hx0]
  refine W.aast F.1 F.2.1 hc (fun q h => by cases h) (fun h => by cases h) k1 k2 rfl hkC ⟨fun q => by rw [show (0 : Int32) = i32 0 from rfl, i32_lt oi InR0] at q; omega, by rw [arrV_size, hcl]; exact hlt⟩ g1 (fun q h => by rw [g3] at h; cases h) (by rw [g2]; exact hkC) (by rw [g2]; exact va_assign hcls) rfl rfl hd fun H' e1 e2 e3 => ?_
  refine kk p l e R s m args below meth c_ D dA b qs Qr F S K H' _ cells slots ls_ (M.put h0 (M.2.2.1.put ha hfi (by unfold InR; omega) e2 e3 ?_) e3) O L V
  show H'[b + a]? = some (arrV _ _ _)
  rw [e1, hcl, arrV_store]
  refine congrArg (fun f => some (arrV (dA t) n f)) (funext fun q => ?_)
  by_cases eq : q = j
  · subst eq
    simp only [updV, up2_s, if_true]
    rw [htt]
    exact (ref_eq (b := b) (qs := qs) hx0).symm
  · simp [updV, eq, up2_k c _ eq]
theorem T_alen {a n t : Nat} (hd : decode μ.2.1 pc = .ok (.arraylength, 1)) (ha : sh[a]? = some (t + 1, n)) (h6 : t < 6) (h0 : 0 < a) (hn : n ≤ 2147483647) (kk : T X μ d fin bc bs sh (pc + 1) ls (vi (n : Int) :: st) c Q) : T X μ d fin bc bs sh pc ls (vr a :: st) c Q := by
  intro p l e R s m args below meth c_ D dA b qs Qr F S K H locs cells slots ls_ M O L V
  obtain ⟨-, O⟩ := okS_c O
  have h := kk p l e R s m args below meth c_ D dA b qs Qr F S K H locs cells slots ls_ M (okS_p (by show InR _; unfold InR; omega) O) L V
  have hc : H[b + a]? = some (arrV (dA t) n (fun j => sv b (isRf (tgTy t)) (c a j))) := M.2.2.1.2.1 a _ h0 ha
  rw [List.map_cons, ref_eq h0]
  exact W.alen F.1 F.2.1 hc (K_arr F.2.2.2.2.2.2 t h6 n _) (n := i32 (n : Int)) (by rw [arrV_size]; rfl) rfl rfl hd h
theorem T_slen {x : Nat × (Nat → Int32)} (hX : X = some x) (hd : decode μ.2.1 pc = .ok (.arraylength, 1)) (hL : x.1 ≤ 2147483647) (kk : T X μ d fin bc bs sh (pc + 1) ls (vi (x.1 : Int) :: st) c Q) : T X μ d fin bc bs sh pc ls (vscr :: st) c Q := by
  intro p l e R s m args below meth c_ D dA b qs Qr F S K H locs cells slots ls_ M O L V
  obtain ⟨-, O⟩ := okS_c O
  have h := kk p l e R s m args below meth c_ D dA b qs Qr F S K H locs cells slots ls_ M (okS_p (by show InR _; unfold InR; omega) O) L V
  subst hX
  obtain ⟨hq, scr, h1, h2, h3, h4, h5⟩ := S
  have e : H[qs]? = some scr := by rw [M.2.2.2.1 qs hq]; exact h1
  exact W.alen F.1 F.2.1 e h2 (n := i32 (x.1 : Int)) (by rw [h4]; rfl) rfl rfl hd h
theorem T_sld {x : Nat × (Nat → Int32)} {j : Nat} {i : Int} (hX : X = some x) (hd : decode μ.2.1 pc = .ok (.iaload, 1)) (hj : i = (j : Int)) (hlt : j < x.1) (kk : T X μ d fin bc bs sh (pc + 1) ls (vi (x.2 j).toInt :: st) c Q) : T X μ d fin bc bs sh pc ls (vi i :: vscr :: st) c Q := by
  intro p l e R s m args below meth c_ D dA b qs Qr F S K H locs cells slots ls_ M O L V
  subst hj
  obtain ⟨oi, O⟩ := okS_c O
  obtain ⟨-, O⟩ := okS_c O
  have h := kk p l e R s m args below meth c_ D dA b qs Qr F S K H locs cells slots ls_ M (okS_p (InR_toInt _) O) L V
  subst hX
  obtain ⟨hq, scr, h1, h2, h3, h4, h5⟩ := S
  have hcl : (i32 (j : Int)).toNatClampNeg = j := by rw [i32_clamp oi (by omega)]; rfl
  have e : H[qs]? = some scr := by rw [M.2.2.2.1 qs hq]; exact h1
  refine W.iald F.1 F.2.1 e h2 h3 (by rw [h4]; exact i32_in oi (by omega) (by omega)) (v := .int (i32 (x.2 j).toInt)) ?_ rfl rfl hd h
  rw [hcl, h5 j hlt, i32_toI]
end TM
