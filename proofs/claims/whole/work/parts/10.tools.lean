/-! The world behind both constructors: shapes, what is fixed; the judgement there -/
def SH : SHP := [(9, 0), (0, 10), (0, 9), (2, 250), (0, 8), (1, 10), (1, 40), (0, 5), (4, 20), (0, 8), (1, 10), (1, 40), (0, 8), (1, 10), (1, 40), (0, 8), (1, 10), (1, 40), (0, 8), (1, 10), (1, 40), (0, 8), (1, 10), (1, 40), (0, 8), (1, 10), (1, 40), (0, 8), (1, 10), (1, 40), (0, 8), (1, 10), (1, 40), (0, 8), (1, 10), (1, 40), (0, 8), (1, 10), (1, 40), (0, 8), (1, 10), (1, 40), (0, 8), (1, 10), (1, 40), (0, 8), (1, 10), (1, 40), (0, 8), (1, 10), (1, 40), (0, 8), (1, 10), (1, 40), (0, 8), (1, 10), (1, 40), (0, 8), (1, 10), (1, 40), (0, 8), (1, 10), (1, 40), (0, 8), (1, 10), (1, 40), (0, 8), (1, 10), (1, 40), (5, 2), (0, 2), (1, 1024), (1, 1024), (1, 1024), (0, 6), (1, 6), (6, 6), (1, 6), (1, 6), (1, 6), (1, 6), (1, 6), (1, 6), (1, 64), (1, 8), (1, 15), (1, 15), (0, 0), (0, 1), (0, 3), (1, 6), (1, 4), (1, 6), (1, 42), (1, 42), (1, 42), (0, 7), (1, 10), (1, 10), (1, 10), (1, 10), (0, 1), (0, 3), (1, 6), (1, 4), (1, 6), (1, 42), (1, 42), (1, 42), (0, 7), (1, 10), (1, 10), (1, 10), (1, 10), (0, 4), (0, 8), (1, 10), (1, 40), (0, 4), (0, 8), (1, 10), (1, 40), (0, 11), (1, 6), (1, 4), (1, 10), (1, 10), (1, 10), (1, 10), (1, 6), (1, 53), (1, 250), (1, 2), (1, 6), (1, 4), (1, 10), (1, 10), (1, 10), (1, 10), (1, 6), (1, 42), (1, 42), (1, 1060), (1, 11264), (1, 8), (1, 15), (1, 15), (1, 108), (3, 2)]
def FINL : List (List (Option Nat)) := [[], [some 2, some 4, some 7, some 69, some 70, some 74, some 84, some 85, some 86, some 87], [some 3], [], [some 5, some 6], [], [], [some 8], [some 9, some 12, some 15, some 18, some 21, some 24, some 27, some 30, some 33, some 36, some 39, some 42, some 45, some 48, some 51, some 54, some 57, some 60, some 63, some 66], [some 10, some 11], [], [], [some 13, some 14], [], [], [some 16, some 17], [], [], [some 19, some 20], [], [], [some 22, some 23], [], [], [some 25, some 26], [], [], [some 28, some 29], [], [], [some 31, some 32], [], [], [some 34, some 35], [], [], [some 37, some 38], [], [], [some 40, some 41], [], [], [some 43, some 44], [], [], [some 46, some 47], [], [], [some 49, some 50], [], [], [some 52, some 53], [], [], [some 55, some 56], [], [], [some 58, some 59], [], [], [some 61, some 62], [], [], [some 64, some 65], [], [], [some 67, some 68], [], [], [some 114, some 118], [some 71, some 72, some 73], [], [], [], [some 75, some 76, some 83], [], [some 77, some 78, some 79, some 80, some 81, some 82], [], [], [], [], [], [], [], [], [], [], [], [some 89, some 96], [some 90, some 91, some 92, some 93, some 94, some 95], [], [], [], [], [], [], [some 97, some 98, some 99, some 100], [], [], [], [], [some 102, some 109], [some 103, some 104, some 105, some 106, some 107, some 108], [], [], [], [], [], [], [some 110, some 111, some 112, some 113], [], [], [], [], [some 115], [some 116, some 117], [], [], [some 119], [some 120, some 121], [], [], [none, none, none, some 123, none, some 124, none, some 125, some 126, some 127, some 128, some 129, some 130, none, some 131, none, none, none, none, none, some 132, none, some 133, none, some 134, none, some 135, some 136, some 137, some 138, none, some 139, some 140, some 141, none, some 142, some 143, none, some 144, none, some 145, some 146, some 147, some 148], [], [], [], [], [], [], [], [], [], [], [], [], [], [], [], [], [], [], [], [], [], [], [], [], [], []]
def FIN (a k : Nat) : Option Nat := match FINL[a]? with
  | some r => (r[k]?).getD none
  | none => none
theorem inr {n : Int} (h : (decide (-2147483648 ≤ n) && decide (n ≤ 2147483647)) = true) : InR n := by simpa [InR] using h
theorem inl {n : Int} (h : (decide (-9223372036854775808 ≤ n) && decide (n ≤ 9223372036854775807)) = true) : InL n := by simpa [InL] using h
theorem bp8 {n : Int} (h : (decide (-128 ≤ n) && decide (n ≤ 127)) = true) : (Int8.ofInt n).toInt32 = i32 n := by
  simp only [Bool.and_eq_true, decide_eq_true_eq] at h
  apply i32_inj
  rw [Int8.toInt_toInt32, i32_toInt (by unfold InR; omega), Int8.toInt_ofInt_of_le (by omega) (by omega)]
theorem bp16 {n : Int} (h : (decide (-32768 ≤ n) && decide (n ≤ 32767)) = true) : (Int16.ofInt n).toInt32 = i32 n := by
  simp only [Bool.and_eq_true, decide_eq_true_eq] at h
  apply i32_inj
  rw [Int16.toInt_toInt32, i32_toInt (by unfold InR; omega), Int16.toInt_ofInt_of_le (by omega) (by omega)]
abbrev TT (μ : MI) (d pc : Nat) (ls : PL) (st : List PV) (c : HC) (Q : Option PV → HC → Prop) : Prop := T none μ d FIN 0 0 SH pc ls st c (fun v s1 c1 => s1 = SH ∧ Q v c1)
abbrev CC (μ : MI) (d : Nat) (c : HC) (args : List PV) (Q : Option PV → HC → Prop) : Prop := Cl μ d 0 0 FIN SH c args (fun v s1 c1 => s1 = SH ∧ Q v c1)
abbrev RO (μ : MI) (d : Nat) (c : HC) (args : List PV) (z : Int) : Prop := CC μ d c args (fun v c1 => v = some (vi z) ∧ c1 = c)
abbrev RL_ (μ : MI) (d : Nat) (c : HC) (args : List PV) (z : Int) : Prop := CC μ d c args (fun v c1 => v = some (vl z) ∧ c1 = c)
abbrev RW (μ : MI) (d : Nat) (c : HC) (args : List PV) (z : Int) (c2 : HC) : Prop := CC μ d c args (fun v c1 => v = some (vi z) ∧ c1 = c2)
abbrev VO (μ : MI) (d : Nat) (c : HC) (args : List PV) (c2 : HC) : Prop := CC μ d c args (fun v c1 => v = none ∧ c1 = c2)
theorem CC.of {μ : MI} {d : Nat} {c : HC} {args : List PV} {Q : Option PV → HC → Prop} (hp : plainName μ.1.cls = true) (hw : wds args ≤ μ.2.2.1) (h : okS args → TT μ d 0 (lsOf 0 args) [] c Q) : CC μ d c args Q := Cl.of hp hw h
theorem CC.mono {μ : MI} {d : Nat} {c : HC} {args : List PV} {Q Q2 : Option PV → HC → Prop} (h : CC μ d c args Q) (hq : ∀ v c1, Q v c1 → Q2 v c1) : CC μ d c args Q2 := by
  intro l D dA b qs
  have h1 := h l D dA b qs
  intro p e hA hC hk s m a below hf ha hP hK
  obtain ⟨k, o, g1, g2, g3, ⟨⟨v, sh', c', x1, x2, x3⟩, x4⟩⟩ := h1 p e hA hC hk s m a below hf ha hP hK
  exact ⟨k, o, g1, g2, g3, ⟨⟨v, sh', c', x1, ⟨x2.1, hq _ _ x2.2⟩, x3⟩, x4⟩⟩
section TZ
variable {X : Option (Nat × (Nat → Int32))} {μ : MI} {d : Nat} {fin : Nat → Nat → Option Nat} {bc bs : Nat} {sh : SHP} {pc : Nat} {ls : PL} {st : List PV} {c : HC} {Q : Option PV → SHP → HC → Prop}
theorem T_ialdZ {a n : Nat} {i : Int} (hd : decode μ.2.1 pc = .ok (.iaload, 1)) (ha : sh[a]? = some (1, n)) (h0 : 0 < a) (hi : 0 ≤ i) (hlt : i < n) (kk : T X μ d fin bc bs sh (pc + 1) ls (vi (c a i.toNat) :: st) c Q) : T X μ d fin bc bs sh pc ls (vi i :: vr a :: st) c Q := T_iald hd ha h0 (Int.toNat_of_nonneg hi).symm (by omega) kk
theorem T_caldZ {a n : Nat} {i : Int} (hd : decode μ.2.1 pc = .ok (.caload, 1)) (ha : sh[a]? = some (2, n)) (h0 : 0 < a) (hi : 0 ≤ i) (hlt : i < n) (kk : T X μ d fin bc bs sh (pc + 1) ls (vi (c a i.toNat) :: st) c Q) : T X μ d fin bc bs sh pc ls (vi i :: vr a :: st) c Q := T_cald hd ha h0 (Int.toNat_of_nonneg hi).symm (by omega) kk
theorem T_iastZ {a n : Nat} {i z : Int} (hd : decode μ.2.1 pc = .ok (.iastore, 1)) (ha : sh[a]? = some (1, n)) (h0 : 0 < a) (hi : 0 ≤ i) (hlt : i < n) (kk : T X μ d fin bc bs sh (pc + 1) ls st (up2 c a i.toNat z) Q) : T X μ d fin bc bs sh pc ls (vi z :: vi i :: vr a :: st) c Q := T_iast hd ha h0 (Int.toNat_of_nonneg hi).symm (by omega) kk
theorem T_ialdv {a n j : Nat} {i z : Int} (hd : decode μ.2.1 pc = .ok (.iaload, 1)) (ha : sh[a]? = some (1, n)) (h0 : 0 < a) (hj : i = (j : Int)) (hlt : j < n) (hz : c a j = z) (kk : T X μ d fin bc bs sh (pc + 1) ls (vi z :: st) c Q) : T X μ d fin bc bs sh pc ls (vi i :: vr a :: st) c Q := by
  subst hz
  exact T_iald hd ha h0 hj hlt kk
theorem T_c {c2 : HC} (h : c = c2) (k : T X μ d fin bc bs sh pc ls st c2 Q) : T X μ d fin bc bs sh pc ls st c Q := by
  subst h
  exact k
end TZ
section TK
variable {μ : MI} {d pc : Nat} {ls : PL} {st rest : List PV} {c : HC} {Q : Option PV → HC → Prop} {μ' : MI} {d' idx r ci : Nat} {As : List PV}
theorem TT_V {Qc : Option PV → HC → Prop} (hd : decode μ.2.1 pc = .ok (.invokevirtual idx, 3)) (hC : CC μ' d' c (vr r :: As) Qc) (hm : CV μ.1.cls idx μ' As.length ci) (hdd : d' + 1 ≤ d) (h0 : 0 < r) (hr : SH[r]? = some (0, ci)) (hst : st = As.reverse ++ vr r :: rest) (hw : wds rest ≤ 8)
    (kk : ∀ (v : Option PV) (c' : HC), Qc v c' → TT μ d (pc + 3) ls (v.toList ++ rest) c' Q) : TT μ d pc ls st c Q :=
  T_callV (bc := 0) (bs := 0) (mc := 0) (ms := 0) hd hm hC hdd h0 hr hst hw (fun v s1 c1 h => by obtain ⟨h1, h2⟩ := h; subst h1; exact kk v c1 h2)
theorem TT_S {Qc : Option PV → HC → Prop} (hd : decode μ.2.1 pc = .ok (.invokestatic idx, 3)) (hC : CC μ' d' c As Qc) (hm : CS μ.1.cls idx μ' As.length) (hdd : d' + 1 ≤ d) (hst : st = As.reverse ++ rest) (hw : wds rest ≤ 8)
    (kk : ∀ (v : Option PV) (c' : HC), Qc v c' → TT μ d (pc + 3) ls (v.toList ++ rest) c' Q) : TT μ d pc ls st c Q :=
  T_callS (bc := 0) (bs := 0) (mc := 0) (ms := 0) hd hm hC hdd hst hw (fun v s1 c1 h => by obtain ⟨h1, h2⟩ := h; subst h1; exact kk v c1 h2)
theorem TT_Vi {z : Int} (hd : decode μ.2.1 pc = .ok (.invokevirtual idx, 3)) (hC : RO μ' d' c (vr r :: As) z) (hm : CV μ.1.cls idx μ' As.length ci) (hdd : d' + 1 ≤ d) (h0 : 0 < r) (hr : SH[r]? = some (0, ci)) (hst : st = As.reverse ++ vr r :: rest) (hw : wds rest ≤ 8)
    (kk : TT μ d (pc + 3) ls (vi z :: rest) c Q) : TT μ d pc ls st c Q := TT_V hd hC hm hdd h0 hr hst hw (fun v c' h => by obtain ⟨h1, h2⟩ := h; subst h1; subst h2; exact kk)
theorem TT_Vl {z : Int} (hd : decode μ.2.1 pc = .ok (.invokevirtual idx, 3)) (hC : RL_ μ' d' c (vr r :: As) z) (hm : CV μ.1.cls idx μ' As.length ci) (hdd : d' + 1 ≤ d) (h0 : 0 < r) (hr : SH[r]? = some (0, ci)) (hst : st = As.reverse ++ vr r :: rest) (hw : wds rest ≤ 8)
    (kk : TT μ d (pc + 3) ls (vl z :: rest) c Q) : TT μ d pc ls st c Q := TT_V hd hC hm hdd h0 hr hst hw (fun v c' h => by obtain ⟨h1, h2⟩ := h; subst h1; subst h2; exact kk)
theorem TT_Vw {z : Int} {c2 : HC} (hd : decode μ.2.1 pc = .ok (.invokevirtual idx, 3)) (hC : RW μ' d' c (vr r :: As) z c2) (hm : CV μ.1.cls idx μ' As.length ci) (hdd : d' + 1 ≤ d) (h0 : 0 < r) (hr : SH[r]? = some (0, ci)) (hst : st = As.reverse ++ vr r :: rest) (hw : wds rest ≤ 8)
    (kk : TT μ d (pc + 3) ls (vi z :: rest) c2 Q) : TT μ d pc ls st c Q := TT_V hd hC hm hdd h0 hr hst hw (fun v c' h => by obtain ⟨h1, h2⟩ := h; subst h1; subst h2; exact kk)
theorem TT_Vv {c2 : HC} (hd : decode μ.2.1 pc = .ok (.invokevirtual idx, 3)) (hC : VO μ' d' c (vr r :: As) c2) (hm : CV μ.1.cls idx μ' As.length ci) (hdd : d' + 1 ≤ d) (h0 : 0 < r) (hr : SH[r]? = some (0, ci)) (hst : st = As.reverse ++ vr r :: rest) (hw : wds rest ≤ 8)
    (kk : TT μ d (pc + 3) ls rest c2 Q) : TT μ d pc ls st c Q := TT_V hd hC hm hdd h0 hr hst hw (fun v c' h => by obtain ⟨h1, h2⟩ := h; subst h1; subst h2; exact kk)
theorem TT_Si {z : Int} (hd : decode μ.2.1 pc = .ok (.invokestatic idx, 3)) (hC : RO μ' d' c As z) (hm : CS μ.1.cls idx μ' As.length) (hdd : d' + 1 ≤ d) (hst : st = As.reverse ++ rest) (hw : wds rest ≤ 8)
    (kk : TT μ d (pc + 3) ls (vi z :: rest) c Q) : TT μ d pc ls st c Q := TT_S hd hC hm hdd hst hw (fun v c' h => by obtain ⟨h1, h2⟩ := h; subst h1; subst h2; exact kk)
theorem TT_Sv {c2 : HC} (hd : decode μ.2.1 pc = .ok (.invokestatic idx, 3)) (hC : VO μ' d' c As c2) (hm : CS μ.1.cls idx μ' As.length) (hdd : d' + 1 ≤ d) (hst : st = As.reverse ++ rest) (hw : wds rest ≤ 8)
    (kk : TT μ d (pc + 3) ls rest c2 Q) : TT μ d pc ls st c Q := TT_S hd hC hm hdd hst hw (fun v c' h => by obtain ⟨h1, h2⟩ := h; subst h1; subst h2; exact kk)
theorem TT_ri {z : Int} (hd : decode μ.2.1 pc = .ok (.ireturn, 1)) (hr : retOK μ.2.2.2 (some (vi z))) (hq : Q (some (vi z)) c) : TT μ d pc ls [vi z] c Q := T_ret (v := some (vi z)) hd hr ⟨rfl, hq⟩
theorem TT_rl {z : Int} (hd : decode μ.2.1 pc = .ok (.lreturn, 1)) (hr : retOK μ.2.2.2 (some (vl z))) (hq : Q (some (vl z)) c) : TT μ d pc ls [vl z] c Q := T_ret (v := some (vl z)) hd hr ⟨rfl, hq⟩
theorem TT_rv (hd : decode μ.2.1 pc = .ok (.return_, 1)) (hr : retOK μ.2.2.2 none) (hq : Q none c) : TT μ d pc ls [] c Q := T_ret (v := none) hd hr ⟨rfl, hq⟩
theorem ro_q {z z2 : Int} (h : z = z2) : (some (vi z) = some (vi z2)) ∧ c = c := by subst h; exact ⟨rfl, rfl⟩
theorem rl_q {z z2 : Int} (h : z = z2) : (some (vl z) = some (vl z2)) ∧ c = c := by subst h; exact ⟨rfl, rfl⟩
end TK
