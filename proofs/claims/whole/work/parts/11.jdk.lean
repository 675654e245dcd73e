/-! the library's own small methods -/
theorem T_keep {X : Option (Nat × (Nat → Int32))} {μ : MI} {d : Nat} {fin : Nat → Nat → Option Nat} {bc bs : Nat} {sh : SHP} {pc : Nat} {ls : PL} {st : List PV} {c : HC} {Q : Option PV → SHP → HC → Prop} (ks : List Nat) (k : T X μ d fin bc bs sh pc (ks.filterMap (fun i => (lk ls i).map (fun v => (i, v)))) st c Q) : T X μ d fin bc bs sh pc ls st c Q := by
  refine T_ls (fun q hq => ?_) k
  obtain ⟨i, -, hi⟩ := List.mem_filterMap.mp hq
  obtain ⟨v, hv, e⟩ := Option.map_eq_some_iff.mp hi
  rw [← e]
  exact lk_mem hv
theorem leb {a b : Nat} (h : Nat.ble a b = true) : a ≤ b := Nat.le_of_ble_eq_true h
def imax (a b : Int) : Int := if a < b then b else a
def imin (a b : Int) : Int := if b < a then b else a
def iabs (a : Int) : Int := if 0 ≤ a then a else wr (-a)
theorem kX10_248M : Cond.methodLink RX10 248 yJ9_abs_0f7a4 ∈ lw_tbl := List.mem_of_getElem? (i := 759) (by decide +kernel)
theorem kX1_45M : Cond.methodLink RX1 45 yJ9_abs_0f7a4 ∈ lw_tbl := List.mem_of_getElem? (i := 820) (by decide +kernel)
theorem kX3_68M : Cond.methodLink RX3 68 yJ9_min_7cf53 ∈ lw_tbl := List.mem_of_getElem? (i := 664) (by decide +kernel)
theorem kX3_74M : Cond.methodLink RX3 74 yJ9_max_7cf53 ∈ lw_tbl := List.mem_of_getElem? (i := 621) (by decide +kernel)
theorem kX6_53M : Cond.methodLink RX6 53 yJ9_min_7cf53 ∈ lw_tbl := List.mem_of_getElem? (i := 721) (by decide +kernel)
theorem kX6_68M : Cond.methodLink RX6 68 yJ9_max_7cf53 ∈ lw_tbl := List.mem_of_getElem? (i := 723) (by decide +kernel)
theorem kX7_28M : Cond.methodLink RX7 28 yJ9_abs_0f7a4 ∈ lw_tbl := List.mem_of_getElem? (i := 784) (by decide +kernel)
theorem kX8_53M : Cond.methodLink RX8 53 yJ9_min_7cf53 ∈ lw_tbl := List.mem_of_getElem? (i := 624) (by decide +kernel)
theorem kX8_59M : Cond.methodLink RX8 59 yJ9_max_7cf53 ∈ lw_tbl := List.mem_of_getElem? (i := 627) (by decide +kernel)
section TMM
variable {X : Option (Nat × (Nat → Int32))} {μ : MI} {d : Nat} {fin : Nat → Nat → Option Nat} {bc bs : Nat} {sh : SHP} {pc : Nat} {ls : PL} {rest : List PV} {c : HC} {Q : Option PV → SHP → HC → Prop}
theorem T_mmax {x y : Int} {idx : Nat} (hd : decode μ.2.1 pc = .ok (.invokestatic idx, 3)) (hlk : Cond.methodLink μ.1.cls idx yJ9_max_7cf53 ∈ lw_tbl) (hdd : 1 ≤ d) (hw : wds rest ≤ 8) (k : T X μ d fin bc bs sh (pc + 3) ls (vi (imax x y) :: rest) c Q) : T X μ d fin bc bs sh pc ls (vi y :: vi x :: rest) c Q := by
  intro p l e R s m args below meth c_ D dA b qs Qr F S K H locs cells slots ls_ M O L V
  obtain ⟨oy, O⟩ := okS_c O
  obtain ⟨ox, O⟩ := okS_c O
  have hKt := F.2.2.2.2.2.2
  have ho : InR (imax x y) := by
    unfold imax
    split
    · assumption
    · assumption
  have h := k p l e R s m args below meth c_ D dA b qs Qr F S K H locs cells slots ls_ M (okS_p ho O) L V
  have e1 : (if i32 x < i32 y then i32 y else i32 x) = i32 (imax x y) := by
    unfold imax
    by_cases h9 : x < y
    · rw [if_pos h9, if_pos ((i32_lt ox oy).mpr h9)]
    · rw [if_neg h9, if_neg (fun q => h9 ((i32_lt ox oy).mp q))]
  refine va_mmax F.1 F.2.1 (by rw [F.2.2.1]; exact V.1.symm) F.2.2.2.1 (hKt.word hlk rfl) (hKt.word wt_J9_max_7cf53 rfl) (hKt.word wi_J9 rfl) (hKt.word wc_J9_max_7cf53 rfl) (by have := F.2.2.2.2.2.1.1; omega) (by have := F.2.2.2.2.2.1.2; rw [wds_sum]; omega) (by have := M.1; omega) (by have := M.2.1; omega) hd ?_
  rw [e1]
  exact h
theorem T_mmin {x y : Int} {idx : Nat} (hd : decode μ.2.1 pc = .ok (.invokestatic idx, 3)) (hlk : Cond.methodLink μ.1.cls idx yJ9_min_7cf53 ∈ lw_tbl) (hdd : 1 ≤ d) (hw : wds rest ≤ 8) (k : T X μ d fin bc bs sh (pc + 3) ls (vi (imin x y) :: rest) c Q) : T X μ d fin bc bs sh pc ls (vi y :: vi x :: rest) c Q := by
  intro p l e R s m args below meth c_ D dA b qs Qr F S K H locs cells slots ls_ M O L V
  obtain ⟨oy, O⟩ := okS_c O
  obtain ⟨ox, O⟩ := okS_c O
  have hKt := F.2.2.2.2.2.2
  have ho : InR (imin x y) := by
    unfold imin
    split
    · assumption
    · assumption
  have h := k p l e R s m args below meth c_ D dA b qs Qr F S K H locs cells slots ls_ M (okS_p ho O) L V
  have e1 : (if i32 y < i32 x then i32 y else i32 x) = i32 (imin x y) := by
    unfold imin
    by_cases h9 : y < x
    · rw [if_pos h9, if_pos ((i32_lt oy ox).mpr h9)]
    · rw [if_neg h9, if_neg (fun q => h9 ((i32_lt oy ox).mp q))]
  refine va_mmin F.1 F.2.1 (by rw [F.2.2.1]; exact V.1.symm) F.2.2.2.1 (hKt.word hlk rfl) (hKt.word wt_J9_min_7cf53 rfl) (hKt.word wi_J9 rfl) (hKt.word wc_J9_min_7cf53 rfl) (by have := F.2.2.2.2.2.1.1; omega) (by have := F.2.2.2.2.2.1.2; rw [wds_sum]; omega) (by have := M.1; omega) (by have := M.2.1; omega) hd ?_
  rw [e1]
  exact h
theorem T_mabs {x : Int} {idx : Nat} (hd : decode μ.2.1 pc = .ok (.invokestatic idx, 3)) (hlk : Cond.methodLink μ.1.cls idx yJ9_abs_0f7a4 ∈ lw_tbl) (hdd : 1 ≤ d) (hw : wds rest ≤ 8) (k : T X μ d fin bc bs sh (pc + 3) ls (vi (iabs x) :: rest) c Q) : T X μ d fin bc bs sh pc ls (vi x :: rest) c Q := by
  intro p l e R s m args below meth c_ D dA b qs Qr F S K H locs cells slots ls_ M O L V

  obtain ⟨ox, O⟩ := okS_c O
  have hKt := F.2.2.2.2.2.2
  have ho : InR (iabs x) := by
    unfold iabs
    split
    · exact ox
    · exact wr_in _
  have h := k p l e R s m args below meth c_ D dA b qs Qr F S K H locs cells slots ls_ M (okS_p ho O) L V
  have e1 : (if 0 ≤ i32 x then i32 x else 0 - i32 x) = i32 (iabs x) := by
    unfold iabs
    rw [show (0 : Int32) = i32 0 from rfl]
    by_cases h9 : 0 ≤ x
    · rw [if_pos h9, if_pos ((i32_le InR0 ox).mpr h9)]
    · rw [if_neg h9, if_neg (fun q => h9 ((i32_le InR0 ox).mp q)), i32_sub, i32_wr, i32_wr, Int.zero_sub]
  refine va_mabs F.1 F.2.1 (by rw [F.2.2.1]; exact V.1.symm) F.2.2.2.1 (hKt.word hlk rfl) (hKt.word wt_J9_abs_0f7a4 rfl) (hKt.word wi_J9 rfl) (hKt.word wc_J9_abs_0f7a4 rfl) (by have := F.2.2.2.2.2.1.1; omega) (by have := F.2.2.2.2.2.1.2; rw [wds_sum]; omega) (by have := M.1; omega) (by have := M.2.1; omega) hd ?_
  rw [e1]
  exact h
end TMM
def fillF (c : HC) (a i n : Nat) (v : Int) : HC := fun x y => if x = a ∧ i ≤ y ∧ y < n then v else c x y
theorem fillF_n (c : HC) (a n : Nat) (v : Int) : fillF c a n n v = c := by
  funext x y
  unfold fillF
  rw [if_neg (by omega)]
theorem fillF_s (c : HC) (a i n : Nat) (v : Int) (h : i < n) : fillF (up2 c a i v) a (i + 1) n v = fillF c a i n v := by
  funext x y
  unfold fillF up2
  by_cases h1 : x = a
  · by_cases h2 : y = i
    · subst h1; subst h2; simp [h]
    · by_cases h3 : i + 1 ≤ y ∧ y < n
      · rw [if_pos ⟨h1, h3⟩, if_pos ⟨h1, by omega, h3.2⟩]
      · rw [if_neg (fun q => h3 q.2)]
        have h4 : ¬ (x = a ∧ i ≤ y ∧ y < n) := fun q => h3 ⟨by omega, q.2.2⟩
        rw [if_neg h4]
        simp [h2]
  · simp [h1]
set_option maxHeartbeats 4000000 in
set_option maxRecDepth 100000 in
theorem l_fill (a n : Nat) (v : Int) (ha : SH[a]? = some (1, n)) (h0 : 0 < a) (hn : n ≤ 100000) : ∀ (k i : Nat) (c : HC), i + k = n → TT mJ7_fill_53178 0 5 [(0, vr a), (1, vi v), (2, vi (i : Int)), (3, vi (n : Int))] [] c (fun r c1 => r = none ∧ c1 = fillF c a i n v) := by
  intro k
  induction k with
  | zero =>
    intro i c hk
    refine T_iloadn dJ7_fill_53178_5 rfl rfl ?_
    refine T_iloadn dJ7_fill_53178_6 rfl rfl ?_
    refine T_icmp_ge (tgt := 20) dJ7_fill_53178_7 rfl (fun b7 => ?_) (fun b7 => absurd b7 (by omega))
    refine TT_rv dJ7_fill_53178_20 trivial ?_
    exact ⟨rfl, by rw [show i = n by omega, fillF_n]⟩
  | succ k ih =>
    intro i c hk
    refine T_iloadn dJ7_fill_53178_5 rfl rfl ?_
    refine T_iloadn dJ7_fill_53178_6 rfl rfl ?_
    refine T_icmp_ge (tgt := 20) dJ7_fill_53178_7 rfl (fun b7 => absurd b7 (by omega)) (fun b7 => ?_)
    refine T_aloadn dJ7_fill_53178_10 rfl rfl ?_
    refine T_iloadn dJ7_fill_53178_11 rfl rfl ?_
    refine T_iloadn dJ7_fill_53178_12 rfl rfl ?_
    refine T_iast dJ7_fill_53178_13 (by first | assumption | rfl) (by first | decide | omega) rfl (by omega) ?_
    refine T_iincN dJ7_fill_53178_14 rfl (by decide) rfl (by omega) ?_
    refine T_goto (tgt := 5) dJ7_fill_53178_17 rfl ?_
    rw [← fillF_s c a i n v (by omega)]
    exact ih (i + 1) _ (by omega)
set_option maxHeartbeats 4000000 in
set_option maxRecDepth 100000 in
theorem c_fill (a n : Nat) (v : Int) (ha : SH[a]? = some (1, n)) (h0 : 0 < a) (hn : n ≤ 100000) (c : HC) : VO mJ7_fill_53178 0 c [vr a, vi v] (fillF c a 0 n v) := by
  refine CC.of (by decide +kernel) (leb rfl) (fun _ => ?_)
  refine T_iconst dJ7_fill_53178_0 (inr rfl) ?_
  refine T_istoren dJ7_fill_53178_1 rfl (by decide) rfl ?_
  refine T_aloadn dJ7_fill_53178_2 rfl rfl ?_
  refine T_alen dJ7_fill_53178_3 (by first | assumption | rfl) (by decide) (by first | decide | omega) (by omega) ?_
  refine T_istoren dJ7_fill_53178_4 rfl (by decide) rfl ?_
  exact l_fill a n v ha h0 hn n 0 c (by omega)
def bcnt (x : Int) : Int :=
  let a := wr (x - band (bushr x 1) 1431655765)
  let b := wr (band a 858993459 + band (bushr a 2) 858993459)
  let e := band (wr (b + bushr b 4)) 252645135
  let f := wr (e + bushr e 8)
  let g := wr (f + bushr f 16)
  band g 63
set_option maxHeartbeats 4000000 in
set_option maxRecDepth 100000 in
theorem c_bitCount (c : HC) (x : Int) : RO mJ6_bitCount_0f7a4 0 c [vi x] (bcnt x) := by
  refine CC.of (by decide +kernel) (leb rfl) (fun _ => ?_)
  refine T_iloadn dJ6_bitCount_0f7a4_0 rfl rfl ?_
  refine T_iloadn dJ6_bitCount_0f7a4_1 rfl rfl ?_
  refine T_iconst dJ6_bitCount_0f7a4_2 (inr rfl) ?_
  refine T_iushr dJ6_bitCount_0f7a4_3 ?_
  refine T_ldcw dJ6_bitCount_0f7a4_4 cJ6_265 (inr rfl) ?_
  refine T_iand dJ6_bitCount_0f7a4_7 ?_
  refine T_isub dJ6_bitCount_0f7a4_8 ?_
  refine T_istoren dJ6_bitCount_0f7a4_9 rfl (by decide) rfl ?_
  refine T_iloadn dJ6_bitCount_0f7a4_10 rfl rfl ?_
  refine T_ldcw dJ6_bitCount_0f7a4_11 cJ6_266 (inr rfl) ?_
  refine T_iand dJ6_bitCount_0f7a4_14 ?_
  refine T_iloadn dJ6_bitCount_0f7a4_15 rfl rfl ?_
  refine T_iconst dJ6_bitCount_0f7a4_16 (inr rfl) ?_
  refine T_iushr dJ6_bitCount_0f7a4_17 ?_
  refine T_ldcw dJ6_bitCount_0f7a4_18 cJ6_266 (inr rfl) ?_
  refine T_iand dJ6_bitCount_0f7a4_21 ?_
  refine T_iadd dJ6_bitCount_0f7a4_22 ?_
  refine T_istoren dJ6_bitCount_0f7a4_23 rfl (by decide) rfl ?_
  refine T_iloadn dJ6_bitCount_0f7a4_24 rfl rfl ?_
  refine T_iloadn dJ6_bitCount_0f7a4_25 rfl rfl ?_
  refine T_iconst dJ6_bitCount_0f7a4_26 (inr rfl) ?_
  refine T_iushr dJ6_bitCount_0f7a4_27 ?_
  refine T_iadd dJ6_bitCount_0f7a4_28 ?_
  refine T_ldcw dJ6_bitCount_0f7a4_29 cJ6_267 (inr rfl) ?_
  refine T_iand dJ6_bitCount_0f7a4_32 ?_
  refine T_istoren dJ6_bitCount_0f7a4_33 rfl (by decide) rfl ?_
  refine T_iloadn dJ6_bitCount_0f7a4_34 rfl rfl ?_
  refine T_iloadn dJ6_bitCount_0f7a4_35 rfl rfl ?_
  refine T_bipush dJ6_bitCount_0f7a4_36 (bp8 rfl) (inr rfl) ?_
  refine T_iushr dJ6_bitCount_0f7a4_38 ?_
  refine T_iadd dJ6_bitCount_0f7a4_39 ?_
  refine T_istoren dJ6_bitCount_0f7a4_40 rfl (by decide) rfl ?_
  refine T_iloadn dJ6_bitCount_0f7a4_41 rfl rfl ?_
  refine T_iloadn dJ6_bitCount_0f7a4_42 rfl rfl ?_
  refine T_bipush dJ6_bitCount_0f7a4_43 (bp8 rfl) (inr rfl) ?_
  refine T_iushr dJ6_bitCount_0f7a4_45 ?_
  refine T_iadd dJ6_bitCount_0f7a4_46 ?_
  refine T_istoren dJ6_bitCount_0f7a4_47 rfl (by decide) rfl ?_
  refine T_iloadn dJ6_bitCount_0f7a4_48 rfl rfl ?_
  refine T_bipush dJ6_bitCount_0f7a4_49 (bp8 rfl) (inr rfl) ?_
  refine T_iand dJ6_bitCount_0f7a4_51 ?_
  refine TT_ri dJ6_bitCount_0f7a4_52 trivial ?_
  exact ro_q rfl
