/-! bits; Feast; Draws -/
theorem i32_tn {z : Int} (h : InR z) : ((i32 z).toBitVec.toNat : Int) = z % 4294967296 := by
  have h1 := BitVec.toInt_eq_toNat_bmod (i32 z).toBitVec
  have h2 : (i32 z).toBitVec.toInt = z := i32_toInt h
  rw [h2] at h1
  have h3 := (i32 z).toBitVec.isLt
  have h4 : z = wr ((i32 z).toBitVec.toNat : Int) := by rw [← wr_bmod]; exact h1
  unfold wr at h4
  omega
theorem i64_tn {z : Int} (h : InL z) : ((i64 z).toBitVec.toNat : Int) = z % 18446744073709551616 := by
  have h1 := BitVec.toInt_eq_toNat_bmod (i64 z).toBitVec
  have h2 : (i64 z).toBitVec.toInt = z := i64_toInt h
  rw [h2] at h1
  have h3 := (i64 z).toBitVec.isLt
  have h4 : z = wl ((i64 z).toBitVec.toNat : Int) := by rw [← wl_bmod]; exact h1
  unfold wl at h4
  omega
theorem i32_int (x : Int32) : x.toInt = wr (x.toBitVec.toNat : Int) := by
  rw [← wr_bmod]
  exact BitVec.toInt_eq_toNat_bmod x.toBitVec
theorem i64_int (x : Int64) : x.toInt = wl (x.toBitVec.toNat : Int) := by
  rw [← wl_bmod]
  exact BitVec.toInt_eq_toNat_bmod x.toBitVec
theorem i32_tnN {n : Nat} (h : n < 2147483648) : (i32 (n : Int)).toBitVec.toNat = n := by
  have := i32_tn (z := (n : Int)) (by unfold InR; omega)
  omega
theorem i64_tnN {n : Nat} (h : n < 9223372036854775808) : (i64 (n : Int)).toBitVec.toNat = n := by
  have := i64_tn (z := (n : Int)) (by unfold InL; omega)
  omega
theorem band_nat {a b : Nat} (ha : a < 2147483648) (hb : b < 2147483648) : band (a : Int) (b : Int) = ((a &&& b : Nat) : Int) := by
  unfold band
  rw [i32_int]
  rw [show (i32 (a : Int) &&& i32 (b : Int)).toBitVec = (i32 (a : Int)).toBitVec &&& (i32 (b : Int)).toBitVec from rfl, BitVec.toNat_and, i32_tnN ha, i32_tnN hb]
  have h1 : a &&& b ≤ a := Nat.and_le_left
  exact wr_id (by omega) (by omega)
theorem bor_nat {a b : Nat} {k : Nat} (hk : k ≤ 31) (ha : a < 2 ^ k) (hb : b < 2 ^ k) : bor (a : Int) (b : Int) = ((a ||| b : Nat) : Int) := by
  have h2 : 2 ^ k ≤ 2147483648 := Nat.pow_le_pow_right (n := 2) (by decide) hk
  unfold bor
  rw [i32_int]
  rw [show (i32 (a : Int) ||| i32 (b : Int)).toBitVec = (i32 (a : Int)).toBitVec ||| (i32 (b : Int)).toBitVec from rfl, BitVec.toNat_or, i32_tnN (by omega), i32_tnN (by omega)]
  have h1 : a ||| b < 2 ^ k := Nat.or_lt_two_pow ha hb
  exact wr_id (by omega) (by omega)
theorem bxor_nat {a b : Nat} {k : Nat} (hk : k ≤ 31) (ha : a < 2 ^ k) (hb : b < 2 ^ k) : bxor (a : Int) (b : Int) = ((a ^^^ b : Nat) : Int) := by
  have h2 : 2 ^ k ≤ 2147483648 := Nat.pow_le_pow_right (n := 2) (by decide) hk
  unfold bxor
  rw [i32_int]
  rw [show (i32 (a : Int) ^^^ i32 (b : Int)).toBitVec = (i32 (a : Int)).toBitVec ^^^ (i32 (b : Int)).toBitVec from rfl, BitVec.toNat_xor, i32_tnN (by omega), i32_tnN (by omega)]
  have h1 : a ^^^ b < 2 ^ k := Nat.xor_lt_two_pow ha hb
  exact wr_id (by omega) (by omega)
theorem lband_nat {a b : Nat} (ha : a < 9223372036854775808) (hb : b < 9223372036854775808) : lband (a : Int) (b : Int) = ((a &&& b : Nat) : Int) := by
  unfold lband
  rw [i64_int]
  rw [show (i64 (a : Int) &&& i64 (b : Int)).toBitVec = (i64 (a : Int)).toBitVec &&& (i64 (b : Int)).toBitVec from rfl, BitVec.toNat_and, i64_tnN ha, i64_tnN hb]
  have h1 : a &&& b ≤ a := Nat.and_le_left
  exact wl_id (by omega) (by omega)
theorem band1 {z : Int} (h : InR z) : band z 1 = z % 2 := by
  unfold band
  rw [i32_int, show (i32 z &&& i32 1).toBitVec = (i32 z).toBitVec &&& (i32 1).toBitVec from rfl, BitVec.toNat_and, show (i32 1).toBitVec.toNat = 1 from rfl, Nat.and_one_is_mod]
  have h1 := i32_tn h
  unfold InR at h
  rw [wr_id (by omega) (by omega)]
  omega
/-- the draws -/
def drw (s : Int) : Int := (s * 1103515245 + 12345) % 2147483648
theorem drw_bd (s : Int) : 0 ≤ drw s ∧ drw s ≤ 2147483647 := by unfold drw; omega
theorem drw_c {s : Int} (h0 : 0 ≤ s) (h1 : s ≤ 2147483647) : wr (lband (wl (wl (s * 1103515245) + 12345)) 2147483647) = drw s := by
  rw [wl_id (z := s * 1103515245) (by omega) (by omega), wl_id (by omega) (by omega)]
  obtain ⟨n, hn⟩ := Int.eq_ofNat_of_zero_le (show 0 ≤ s * 1103515245 + 12345 by omega)
  unfold drw
  rw [hn, show (2147483647 : Int) = ((2147483647 : Nat) : Int) from rfl, lband_nat (by omega) (by omega), show (2147483647 : Nat) = 2 ^ 31 - 1 from rfl, Nat.and_two_pow_sub_one_eq_mod]
  rw [wr_id (by omega) (by omega)]
  omega
def drawF (s n : Int) : Int := if 0 < n then drw s / 65536 % n else 0
set_option maxHeartbeats 4000000 in
set_option maxRecDepth 100000 in
theorem c_next (c : HC) (n : Int) (h0 : 0 ≤ c 87 0) (h1 : c 87 0 ≤ 2147483647) : RW mX0_next 0 c [vr 87, vi n] (drawF (c 87 0) n) (up2 c 87 0 (drw (c 87 0))) := by
  refine CC.of (by decide +kernel) (leb rfl) (fun hok => ?_)
  have hd := drw_bd (c 87 0)
  unfold drawF
  refine T_aloadn dX0_next_0 rfl rfl ?_
  refine T_aloadn dX0_next_1 rfl rfl ?_
  first | refine T_getv dX0_next_2 fX0_7 (by first | assumption | rfl) (by first | decide | omega) rfl (by assumption) ?_ | refine T_geti dX0_next_2 fX0_7 (by first | assumption | rfl) (by first | decide | omega) rfl ?_
  refine T_i2l dX0_next_5 ?_
  refine T_ldc2 dX0_next_6 clX0_13 (inl rfl) ?_
  refine T_lmul dX0_next_9 ?_
  refine T_ldc2 dX0_next_10 clX0_15 (inl rfl) ?_
  refine T_ladd dX0_next_13 ?_
  refine T_ldc2 dX0_next_14 clX0_17 (inl rfl) ?_
  refine T_land dX0_next_17 ?_
  refine T_l2i dX0_next_18 ?_
  rw [drw_c h0 h1]
  refine T_puti dX0_next_19 fX0_7 (by first | assumption | rfl) (by first | decide | omega) rfl rfl ?_
  refine T_iloadn dX0_next_22 rfl rfl ?_
  refine T_if_gt (tgt := 30) dX0_next_23 rfl (fun b23 => ?_) (fun b23 => ?_)
  · refine T_aloadn dX0_next_30 rfl rfl ?_
    refine T_getv dX0_next_31 fX0_7 (by first | assumption | rfl) (by first | decide | omega) rfl (up2_s _ _ _ _) ?_
    refine T_ldc dX0_next_34 cX0_19 (inr rfl) ?_
    first | refine T_idivN dX0_next_36 (by omega) (by omega) ?_ | refine T_idiv dX0_next_36 (by omega) ?_
    refine T_iloadn dX0_next_37 rfl rfl ?_
    first | refine T_iremN dX0_next_38 (by omega) (by omega) ?_ | refine T_irem dX0_next_38 (by omega) ?_
    refine TT_ri dX0_next_39 trivial ?_
    refine ⟨?_, rfl⟩
    simp [b23]
  · refine T_iconst dX0_next_26 (inr rfl) ?_
    refine T_goto (tgt := 39) dX0_next_27 rfl ?_
    refine TT_ri dX0_next_39 trivial ?_
    refine ⟨?_, rfl⟩
    simp [b23]
theorem pullF_bd (m a w : Int) : 0 ≤ pullF m a w ∧ pullF m a w ≤ 2147483647 := by
  unfold pullF
  split
  · have h := wr_in ((wr (a * wr (10 + w.tdiv 10))).tdiv 10 - m)
    unfold InR at h
    unfold imax
    split <;> omega
  · omega
def wayF (mud : Int) (wt : Nat → Int) (p a q b : Int) : Int := if a < b then pullF mud (b - a) (wt q.toNat) else -pullF mud (a - b) (wt p.toNat)
set_option maxHeartbeats 4000000 in
set_option maxRecDepth 100000 in
theorem c_wayOf (c : HC) {f : Nat} (hf : f = 88 ∨ f = 101) (p a q b : Int) (hp : 0 ≤ p ∧ p < 10) (hq : 0 ≤ q ∧ q < 10) (ha : -1 ≤ a ∧ a ≤ 1000) (hb : -1 ≤ b ∧ b ≤ 1000) : RO mX1_wayOf 2 c [vr f, vi p, vi a, vi q, vi b] (wayF (c (f + 1) 7) (c (f + 8 + 3)) p a q b) := by
  obtain ⟨f0, fs, ff0, ff1, hg, hf2⟩ := fK hf
  obtain ⟨g0, gs, gs1, gs2, gs3, gs4, gs5, gs6, gf0, gf1, gf2, gf3, gf4, gf5⟩ := gK hg
  obtain ⟨s0, ss, ss1, ss2, ss3, ss4, sf0, sf1, sf2, sf3⟩ := sK hf2
  refine CC.of (by decide +kernel) (leb rfl) (fun hok => ?_)
  unfold wayF
  refine T_iload dX1_wayOf_0 rfl ?_
  refine T_iloadn dX1_wayOf_2 rfl rfl ?_
  refine T_icmp_le (tgt := 27) dX1_wayOf_3 rfl (fun b3 => ?_) (fun b3 => ?_)
  · refine T_aloadn dX1_wayOf_27 rfl rfl ?_
    refine T_getfin dX1_wayOf_28 fX1_10 (by first | assumption | rfl) (by first | decide | omega) rfl (by first | assumption | rfl) ?_
    refine T_iloadn dX1_wayOf_31 rfl rfl ?_
    refine T_iload dX1_wayOf_32 rfl ?_
    first | refine T_isubN dX1_wayOf_34 (by omega) ?_ | refine T_isub dX1_wayOf_34 ?_
    refine T_aloadn dX1_wayOf_35 rfl rfl ?_
    refine T_getfin dX1_wayOf_36 fX1_19 (by first | assumption | rfl) (by first | decide | omega) rfl (by first | assumption | rfl) ?_
    refine T_getfin dX1_wayOf_39 fX1_30 (by first | assumption | rfl) (by first | decide | omega) rfl (by first | assumption | rfl) ?_
    refine T_iloadn dX1_wayOf_42 rfl rfl ?_
    refine T_iald (j := p.toNat) dX1_wayOf_43 (by first | assumption | rfl) (by first | decide | omega) (by omega) (by omega) ?_
    refine TT_Vi dX1_wayOf_44 (c_pullOf c hg _ _) kX1_34 (by decide) (by first | decide | omega) (by first | assumption | rfl) rfl (leb rfl) ?_
    have h9 := pullF_bd (c (f + 1) 7) (a - b) (c (f + 8 + 3) p.toNat)
    first | refine T_inegN dX1_wayOf_47 (by omega) ?_ | refine T_ineg dX1_wayOf_47 ?_
    refine TT_ri dX1_wayOf_48 trivial ?_
    exact ro_q (by first | (rw [if_pos]; omega) | (rw [if_neg]; omega))
  · refine T_aloadn dX1_wayOf_6 rfl rfl ?_
    refine T_getfin dX1_wayOf_7 fX1_10 (by first | assumption | rfl) (by first | decide | omega) rfl (by first | assumption | rfl) ?_
    refine T_iload dX1_wayOf_10 rfl ?_
    refine T_iloadn dX1_wayOf_12 rfl rfl ?_
    first | refine T_isubN dX1_wayOf_13 (by omega) ?_ | refine T_isub dX1_wayOf_13 ?_
    refine T_aloadn dX1_wayOf_14 rfl rfl ?_
    refine T_getfin dX1_wayOf_15 fX1_19 (by first | assumption | rfl) (by first | decide | omega) rfl (by first | assumption | rfl) ?_
    refine T_getfin dX1_wayOf_18 fX1_30 (by first | assumption | rfl) (by first | decide | omega) rfl (by first | assumption | rfl) ?_
    refine T_iloadn dX1_wayOf_21 rfl rfl ?_
    refine T_iald (j := q.toNat) dX1_wayOf_22 (by first | assumption | rfl) (by first | decide | omega) (by omega) (by omega) ?_
    refine TT_Vi dX1_wayOf_23 (c_pullOf c hg _ _) kX1_34 (by decide) (by first | decide | omega) (by first | assumption | rfl) rfl (leb rfl) ?_
    refine TT_ri dX1_wayOf_26 trivial ?_
    exact ro_q (by first | (rw [if_pos]; omega) | (rw [if_neg]; omega))
/-- whether a rope can be moved by just d, by differences of lengths from by on -/
def cmL (mud wt d L S : Int) : Nat → Int → Int
  | 0, _ => 0
  | k + 1, b => if pullF mud b wt = iabs d ∧ lband (lbushr L b) S ≠ 0 then 1 else cmL mud wt d L S k (b + 1)
def cmF (mud : Int) (wt bt wo : Nat → Int) (p q d : Int) : Int := if d = 0 then 1 else
  cmL mud (wt (if d ≤ 0 then p else q).toNat) d (lwS wo (imin (bt (if d ≤ 0 then p else q).toNat) 41).toNat) (lwS wo (imin (bt (if d ≤ 0 then q else p).toNat) 41).toNat) 41 1
theorem lcm0 (x : Int) : lcm x 0 = 0 ↔ x = 0 := by
  unfold lcm
  split
  · omega
  · split <;> omega
set_option maxHeartbeats 4000000 in
set_option maxRecDepth 100000 in
theorem l_couldMove (c : HC) {f : Nat} (hf : f = 88 ∨ f = 101) (p q d u w L S : Int) (hu : 0 ≤ u ∧ u < 10) : ∀ (k : Nat) (b : Int), b + k = 42 → 1 ≤ b →
    TT mX1_couldMove 2 69 [(0, vr f), (1, vi p), (2, vi q), (3, vi d), (4, vi u), (5, vi w), (6, vl L), (8, vl S), (10, vi b)] [] c (fun v c1 => v = some (vi (cmL (c (f + 1) 7) (c (f + 8 + 3) u.toNat) d L S k b)) ∧ c1 = c) := by
  obtain ⟨f0, fs, ff0, ff1, hg, hf2⟩ := fK hf
  obtain ⟨g0, gs, gs1, gs2, gs3, gs4, gs5, gs6, gf0, gf1, gf2, gf3, gf4, gf5⟩ := gK hg
  obtain ⟨s0, ss, ss1, ss2, ss3, ss4, sf0, sf1, sf2, sf3⟩ := sK hf2
  intro k
  induction k with
  | zero =>
    intro b h1 h2
    refine T_iload dX1_couldMove_69 rfl ?_
    refine T_bipush dX1_couldMove_71 (bp8 rfl) (inr rfl) ?_
    refine T_icmp_gt (tgt := 135) dX1_couldMove_73 rfl (fun b73 => ?_) (fun b73 => absurd b73 (by omega))
    refine T_iconst dX1_couldMove_135 (inr rfl) ?_
    refine TT_ri dX1_couldMove_136 (by first | exact Or.inl rfl | exact Or.inr rfl | assumption) ?_
    exact ro_q rfl
  | succ k ih =>
    intro b h1 h2
    refine T_iload dX1_couldMove_69 rfl ?_
    refine T_bipush dX1_couldMove_71 (bp8 rfl) (inr rfl) ?_
    refine T_icmp_gt (tgt := 135) dX1_couldMove_73 rfl (fun b73 => absurd b73 (by omega)) (fun b73 => ?_)
    refine T_aloadn dX1_couldMove_76 rfl rfl ?_
    refine T_getfin dX1_couldMove_77 fX1_10 (by first | assumption | rfl) (by first | decide | omega) rfl (by first | assumption | rfl) ?_
    refine T_iload dX1_couldMove_80 rfl ?_
    refine T_aloadn dX1_couldMove_82 rfl rfl ?_
    refine T_getfin dX1_couldMove_83 fX1_19 (by first | assumption | rfl) (by first | decide | omega) rfl (by first | assumption | rfl) ?_
    refine T_getfin dX1_couldMove_86 fX1_30 (by first | assumption | rfl) (by first | decide | omega) rfl (by first | assumption | rfl) ?_
    refine T_iload dX1_couldMove_89 rfl ?_
    refine T_iald (j := u.toNat) dX1_couldMove_91 (by first | assumption | rfl) (by first | decide | omega) (by omega) (by omega) ?_
    refine TT_Vi dX1_couldMove_92 (c_pullOf c hg _ _) kX1_34 (by decide) (by first | decide | omega) (by first | assumption | rfl) rfl (leb rfl) ?_
    refine T_iloadn dX1_couldMove_95 rfl rfl ?_
    refine T_mabs dX1_couldMove_96 kX1_45M (by decide) (leb rfl) ?_
    refine T_icmp_ne (tgt := 106) dX1_couldMove_99 rfl (fun b99 => ?_) (fun b99 => ?_)
    · refine T_iconst dX1_couldMove_106 (inr rfl) ?_
      refine T_istore dX1_couldMove_107 (by decide) rfl ?_
      refine T_iload dX1_couldMove_109 rfl ?_
      refine T_if_eq (tgt := 129) dX1_couldMove_111 rfl (fun b111 => ?_) (fun b111 => ?_)
      · refine T_iincN dX1_couldMove_129 rfl (by decide) rfl (by omega) ?_
        refine T_goto (tgt := 69) dX1_couldMove_132 rfl ?_
        refine T_keep [0, 1, 2, 3, 4, 5, 6, 8, 10] ?_
        first
          | (exfalso; omega)
          | (rw [cmL.eq_2, if_neg (fun q => b99 q.1)]; exact ih (b + 1) (by omega) (by omega))
          | (rw [cmL.eq_2, if_neg (fun q => q.2 ((lcm0 _).mp b124))]; exact ih (b + 1) (by omega) (by omega))
      · refine T_lload dX1_couldMove_114 rfl ?_
        refine T_iload dX1_couldMove_116 rfl ?_
        refine T_lushr dX1_couldMove_118 ?_
        refine T_lload dX1_couldMove_119 rfl ?_
        refine T_land dX1_couldMove_121 ?_
        refine T_lconst (z := 0) dX1_couldMove_122 rfl (inl rfl) ?_
        refine T_lcmp dX1_couldMove_123 ?_
        refine T_if_eq (tgt := 129) dX1_couldMove_124 rfl (fun b124 => ?_) (fun b124 => ?_)
        · refine T_iincN dX1_couldMove_129 rfl (by decide) rfl (by omega) ?_
          refine T_goto (tgt := 69) dX1_couldMove_132 rfl ?_
          refine T_keep [0, 1, 2, 3, 4, 5, 6, 8, 10] ?_
          first
            | (exfalso; omega)
            | (rw [cmL.eq_2, if_neg (fun q => b99 q.1)]; exact ih (b + 1) (by omega) (by omega))
            | (rw [cmL.eq_2, if_neg (fun q => q.2 ((lcm0 _).mp b124))]; exact ih (b + 1) (by omega) (by omega))
        · refine T_iconst dX1_couldMove_127 (inr rfl) ?_
          refine TT_ri dX1_couldMove_128 (by first | exact Or.inl rfl | exact Or.inr rfl | assumption) ?_
          first | (exfalso; omega) | exact ro_q (by rw [cmL.eq_2, if_pos ⟨b99, fun q => b124 ((lcm0 _).mpr q)⟩])
    · refine T_iconst dX1_couldMove_102 (inr rfl) ?_
      refine T_goto (tgt := 107) dX1_couldMove_103 rfl ?_
      refine T_istore dX1_couldMove_107 (by decide) rfl ?_
      refine T_iload dX1_couldMove_109 rfl ?_
      refine T_if_eq (tgt := 129) dX1_couldMove_111 rfl (fun b111 => ?_) (fun b111 => ?_)
      · refine T_iincN dX1_couldMove_129 rfl (by decide) rfl (by omega) ?_
        refine T_goto (tgt := 69) dX1_couldMove_132 rfl ?_
        refine T_keep [0, 1, 2, 3, 4, 5, 6, 8, 10] ?_
        first
          | (exfalso; omega)
          | (rw [cmL.eq_2, if_neg (fun q => b99 q.1)]; exact ih (b + 1) (by omega) (by omega))
          | (rw [cmL.eq_2, if_neg (fun q => q.2 ((lcm0 _).mp b124))]; exact ih (b + 1) (by omega) (by omega))
      · refine T_lload dX1_couldMove_114 rfl ?_
        refine T_iload dX1_couldMove_116 rfl ?_
        refine T_lushr dX1_couldMove_118 ?_
        refine T_lload dX1_couldMove_119 rfl ?_
        refine T_land dX1_couldMove_121 ?_
        refine T_lconst (z := 0) dX1_couldMove_122 rfl (inl rfl) ?_
        refine T_lcmp dX1_couldMove_123 ?_
        refine T_if_eq (tgt := 129) dX1_couldMove_124 rfl (fun b124 => ?_) (fun b124 => ?_)
        · refine T_iincN dX1_couldMove_129 rfl (by decide) rfl (by omega) ?_
          refine T_goto (tgt := 69) dX1_couldMove_132 rfl ?_
          refine T_keep [0, 1, 2, 3, 4, 5, 6, 8, 10] ?_
          first
            | (exfalso; omega)
            | (rw [cmL.eq_2, if_neg (fun q => b99 q.1)]; exact ih (b + 1) (by omega) (by omega))
            | (rw [cmL.eq_2, if_neg (fun q => q.2 ((lcm0 _).mp b124))]; exact ih (b + 1) (by omega) (by omega))
        · refine T_iconst dX1_couldMove_127 (inr rfl) ?_
          refine TT_ri dX1_couldMove_128 (by first | exact Or.inl rfl | exact Or.inr rfl | assumption) ?_
          first | (exfalso; omega) | exact ro_q (by rw [cmL.eq_2, if_pos ⟨b99, fun q => b124 ((lcm0 _).mpr q)⟩])
set_option maxHeartbeats 4000000 in
set_option maxRecDepth 100000 in
theorem c_couldMove (c : HC) {f n : Nat} (hf : f = 88 ∨ f = 101) (hv : SV c (f + 8) n) (p q d : Int) (hp : 0 ≤ p ∧ p < n) (hq : 0 ≤ q ∧ q < n) : RO mX1_couldMove 2 c [vr f, vi p, vi q, vi d] (cmF (c (f + 1) 7) (c (f + 8 + 3)) (c (f + 8 + 2)) (c (f + 1 + 4)) p q d) := by
  obtain ⟨f0, fs, ff0, ff1, hg, hf2⟩ := fK hf
  obtain ⟨g0, gs, gs1, gs2, gs3, gs4, gs5, gs6, gf0, gf1, gf2, gf3, gf4, gf5⟩ := gK hg
  obtain ⟨s0, ss, ss1, ss2, ss3, ss4, sf0, sf1, sf2, sf3⟩ := sK hf2
  obtain ⟨hn, hn10, hv⟩ := id hv
  refine CC.of (by decide +kernel) (leb rfl) (fun hok => ?_)
  have hv1 := hv p.toNat (by omega)
  have hv2 := hv q.toNat (by omega)
  unfold cmF
  refine T_iloadn dX1_couldMove_0 rfl rfl ?_
  refine T_if_ne (tgt := 6) dX1_couldMove_1 rfl (fun b1 => ?_) (fun b1 => ?_)
  · refine T_iloadn dX1_couldMove_6 rfl rfl ?_
    refine T_if_le (tgt := 14) dX1_couldMove_7 rfl (fun b7 => ?_) (fun b7 => ?_)
    · refine T_iloadn dX1_couldMove_14 rfl rfl ?_
      refine T_istore dX1_couldMove_15 (by decide) rfl ?_
      refine T_iloadn dX1_couldMove_17 rfl rfl ?_
      refine T_if_le (tgt := 25) dX1_couldMove_18 rfl (fun b18 => ?_) (fun b18 => ?_)
      · refine T_iloadn dX1_couldMove_25 rfl rfl ?_
        refine T_istore dX1_couldMove_26 (by decide) rfl ?_
        refine T_aloadn dX1_couldMove_28 rfl rfl ?_
        refine T_getfin dX1_couldMove_29 fX1_10 (by first | assumption | rfl) (by first | decide | omega) rfl (by first | assumption | rfl) ?_
        refine T_aloadn dX1_couldMove_32 rfl rfl ?_
        refine T_getfin dX1_couldMove_33 fX1_19 (by first | assumption | rfl) (by first | decide | omega) rfl (by first | assumption | rfl) ?_
        refine T_getfin dX1_couldMove_36 fX1_38 (by first | assumption | rfl) (by first | decide | omega) rfl (by first | assumption | rfl) ?_
        refine T_iload dX1_couldMove_39 rfl ?_
        refine T_ialdZ dX1_couldMove_41 (by first | assumption | rfl) (by first | decide | omega) (by omega) (by omega) ?_
        refine TT_Vl dX1_couldMove_42 (c_lengthsWithin c hg _ (by omega) (by omega)) kX1_41 (by decide) (by first | decide | omega) (by first | assumption | rfl) rfl (leb rfl) ?_
        refine T_lstore dX1_couldMove_45 (by decide) rfl ?_
        refine T_aloadn dX1_couldMove_47 rfl rfl ?_
        refine T_getfin dX1_couldMove_48 fX1_10 (by first | assumption | rfl) (by first | decide | omega) rfl (by first | assumption | rfl) ?_
        refine T_aloadn dX1_couldMove_51 rfl rfl ?_
        refine T_getfin dX1_couldMove_52 fX1_19 (by first | assumption | rfl) (by first | decide | omega) rfl (by first | assumption | rfl) ?_
        refine T_getfin dX1_couldMove_55 fX1_38 (by first | assumption | rfl) (by first | decide | omega) rfl (by first | assumption | rfl) ?_
        refine T_iload dX1_couldMove_58 rfl ?_
        refine T_ialdZ dX1_couldMove_60 (by first | assumption | rfl) (by first | decide | omega) (by omega) (by omega) ?_
        refine TT_Vl dX1_couldMove_61 (c_lengthsWithin c hg _ (by omega) (by omega)) kX1_41 (by decide) (by first | decide | omega) (by first | assumption | rfl) rfl (leb rfl) ?_
        refine T_lstore dX1_couldMove_64 (by decide) rfl ?_
        refine T_iconst dX1_couldMove_66 (inr rfl) ?_
        refine T_istore dX1_couldMove_67 (by decide) rfl ?_
        first
          | (exfalso; omega)
          | (rw [if_neg b1, if_pos b7, if_pos b7]; exact l_couldMove c hf p q d p q _ _ (by omega) 41 1 (by omega) (by omega))
          | (rw [if_neg b1, if_neg b7, if_neg b7]; exact l_couldMove c hf p q d q p _ _ (by omega) 41 1 (by omega) (by omega))
      · refine T_iloadn dX1_couldMove_21 rfl rfl ?_
        refine T_goto (tgt := 26) dX1_couldMove_22 rfl ?_
        refine T_istore dX1_couldMove_26 (by decide) rfl ?_
        refine T_aloadn dX1_couldMove_28 rfl rfl ?_
        refine T_getfin dX1_couldMove_29 fX1_10 (by first | assumption | rfl) (by first | decide | omega) rfl (by first | assumption | rfl) ?_
        refine T_aloadn dX1_couldMove_32 rfl rfl ?_
        refine T_getfin dX1_couldMove_33 fX1_19 (by first | assumption | rfl) (by first | decide | omega) rfl (by first | assumption | rfl) ?_
        refine T_getfin dX1_couldMove_36 fX1_38 (by first | assumption | rfl) (by first | decide | omega) rfl (by first | assumption | rfl) ?_
        refine T_iload dX1_couldMove_39 rfl ?_
        refine T_ialdZ dX1_couldMove_41 (by first | assumption | rfl) (by first | decide | omega) (by omega) (by omega) ?_
        refine TT_Vl dX1_couldMove_42 (c_lengthsWithin c hg _ (by omega) (by omega)) kX1_41 (by decide) (by first | decide | omega) (by first | assumption | rfl) rfl (leb rfl) ?_
        refine T_lstore dX1_couldMove_45 (by decide) rfl ?_
        refine T_aloadn dX1_couldMove_47 rfl rfl ?_
        refine T_getfin dX1_couldMove_48 fX1_10 (by first | assumption | rfl) (by first | decide | omega) rfl (by first | assumption | rfl) ?_
        refine T_aloadn dX1_couldMove_51 rfl rfl ?_
        refine T_getfin dX1_couldMove_52 fX1_19 (by first | assumption | rfl) (by first | decide | omega) rfl (by first | assumption | rfl) ?_
        refine T_getfin dX1_couldMove_55 fX1_38 (by first | assumption | rfl) (by first | decide | omega) rfl (by first | assumption | rfl) ?_
        refine T_iload dX1_couldMove_58 rfl ?_
        refine T_ialdZ dX1_couldMove_60 (by first | assumption | rfl) (by first | decide | omega) (by omega) (by omega) ?_
        refine TT_Vl dX1_couldMove_61 (c_lengthsWithin c hg _ (by omega) (by omega)) kX1_41 (by decide) (by first | decide | omega) (by first | assumption | rfl) rfl (leb rfl) ?_
        refine T_lstore dX1_couldMove_64 (by decide) rfl ?_
        refine T_iconst dX1_couldMove_66 (inr rfl) ?_
        refine T_istore dX1_couldMove_67 (by decide) rfl ?_
        first
          | (exfalso; omega)
          | (rw [if_neg b1, if_pos b7, if_pos b7]; exact l_couldMove c hf p q d p q _ _ (by omega) 41 1 (by omega) (by omega))
          | (rw [if_neg b1, if_neg b7, if_neg b7]; exact l_couldMove c hf p q d q p _ _ (by omega) 41 1 (by omega) (by omega))
    · refine T_iloadn dX1_couldMove_10 rfl rfl ?_
      refine T_goto (tgt := 15) dX1_couldMove_11 rfl ?_
      refine T_istore dX1_couldMove_15 (by decide) rfl ?_
      refine T_iloadn dX1_couldMove_17 rfl rfl ?_
      refine T_if_le (tgt := 25) dX1_couldMove_18 rfl (fun b18 => ?_) (fun b18 => ?_)
      · refine T_iloadn dX1_couldMove_25 rfl rfl ?_
        refine T_istore dX1_couldMove_26 (by decide) rfl ?_
        refine T_aloadn dX1_couldMove_28 rfl rfl ?_
        refine T_getfin dX1_couldMove_29 fX1_10 (by first | assumption | rfl) (by first | decide | omega) rfl (by first | assumption | rfl) ?_
        refine T_aloadn dX1_couldMove_32 rfl rfl ?_
        refine T_getfin dX1_couldMove_33 fX1_19 (by first | assumption | rfl) (by first | decide | omega) rfl (by first | assumption | rfl) ?_
        refine T_getfin dX1_couldMove_36 fX1_38 (by first | assumption | rfl) (by first | decide | omega) rfl (by first | assumption | rfl) ?_
        refine T_iload dX1_couldMove_39 rfl ?_
        refine T_ialdZ dX1_couldMove_41 (by first | assumption | rfl) (by first | decide | omega) (by omega) (by omega) ?_
        refine TT_Vl dX1_couldMove_42 (c_lengthsWithin c hg _ (by omega) (by omega)) kX1_41 (by decide) (by first | decide | omega) (by first | assumption | rfl) rfl (leb rfl) ?_
        refine T_lstore dX1_couldMove_45 (by decide) rfl ?_
        refine T_aloadn dX1_couldMove_47 rfl rfl ?_
        refine T_getfin dX1_couldMove_48 fX1_10 (by first | assumption | rfl) (by first | decide | omega) rfl (by first | assumption | rfl) ?_
        refine T_aloadn dX1_couldMove_51 rfl rfl ?_
        refine T_getfin dX1_couldMove_52 fX1_19 (by first | assumption | rfl) (by first | decide | omega) rfl (by first | assumption | rfl) ?_
        refine T_getfin dX1_couldMove_55 fX1_38 (by first | assumption | rfl) (by first | decide | omega) rfl (by first | assumption | rfl) ?_
        refine T_iload dX1_couldMove_58 rfl ?_
        refine T_ialdZ dX1_couldMove_60 (by first | assumption | rfl) (by first | decide | omega) (by omega) (by omega) ?_
        refine TT_Vl dX1_couldMove_61 (c_lengthsWithin c hg _ (by omega) (by omega)) kX1_41 (by decide) (by first | decide | omega) (by first | assumption | rfl) rfl (leb rfl) ?_
        refine T_lstore dX1_couldMove_64 (by decide) rfl ?_
        refine T_iconst dX1_couldMove_66 (inr rfl) ?_
        refine T_istore dX1_couldMove_67 (by decide) rfl ?_
        first
          | (exfalso; omega)
          | (rw [if_neg b1, if_pos b7, if_pos b7]; exact l_couldMove c hf p q d p q _ _ (by omega) 41 1 (by omega) (by omega))
          | (rw [if_neg b1, if_neg b7, if_neg b7]; exact l_couldMove c hf p q d q p _ _ (by omega) 41 1 (by omega) (by omega))
      · refine T_iloadn dX1_couldMove_21 rfl rfl ?_
        refine T_goto (tgt := 26) dX1_couldMove_22 rfl ?_
        refine T_istore dX1_couldMove_26 (by decide) rfl ?_
        refine T_aloadn dX1_couldMove_28 rfl rfl ?_
        refine T_getfin dX1_couldMove_29 fX1_10 (by first | assumption | rfl) (by first | decide | omega) rfl (by first | assumption | rfl) ?_
        refine T_aloadn dX1_couldMove_32 rfl rfl ?_
        refine T_getfin dX1_couldMove_33 fX1_19 (by first | assumption | rfl) (by first | decide | omega) rfl (by first | assumption | rfl) ?_
        refine T_getfin dX1_couldMove_36 fX1_38 (by first | assumption | rfl) (by first | decide | omega) rfl (by first | assumption | rfl) ?_
        refine T_iload dX1_couldMove_39 rfl ?_
        refine T_ialdZ dX1_couldMove_41 (by first | assumption | rfl) (by first | decide | omega) (by omega) (by omega) ?_
        refine TT_Vl dX1_couldMove_42 (c_lengthsWithin c hg _ (by omega) (by omega)) kX1_41 (by decide) (by first | decide | omega) (by first | assumption | rfl) rfl (leb rfl) ?_
        refine T_lstore dX1_couldMove_45 (by decide) rfl ?_
        refine T_aloadn dX1_couldMove_47 rfl rfl ?_
        refine T_getfin dX1_couldMove_48 fX1_10 (by first | assumption | rfl) (by first | decide | omega) rfl (by first | assumption | rfl) ?_
        refine T_aloadn dX1_couldMove_51 rfl rfl ?_
        refine T_getfin dX1_couldMove_52 fX1_19 (by first | assumption | rfl) (by first | decide | omega) rfl (by first | assumption | rfl) ?_
        refine T_getfin dX1_couldMove_55 fX1_38 (by first | assumption | rfl) (by first | decide | omega) rfl (by first | assumption | rfl) ?_
        refine T_iload dX1_couldMove_58 rfl ?_
        refine T_ialdZ dX1_couldMove_60 (by first | assumption | rfl) (by first | decide | omega) (by omega) (by omega) ?_
        refine TT_Vl dX1_couldMove_61 (c_lengthsWithin c hg _ (by omega) (by omega)) kX1_41 (by decide) (by first | decide | omega) (by first | assumption | rfl) rfl (leb rfl) ?_
        refine T_lstore dX1_couldMove_64 (by decide) rfl ?_
        refine T_iconst dX1_couldMove_66 (inr rfl) ?_
        refine T_istore dX1_couldMove_67 (by decide) rfl ?_
        first
          | (exfalso; omega)
          | (rw [if_neg b1, if_pos b7, if_pos b7]; exact l_couldMove c hf p q d p q _ _ (by omega) 41 1 (by omega) (by omega))
          | (rw [if_neg b1, if_neg b7, if_neg b7]; exact l_couldMove c hf p q d q p _ _ (by omega) 41 1 (by omega) (by omega))
  · refine T_iconst dX1_couldMove_4 (inr rfl) ?_
    refine TT_ri dX1_couldMove_5 (by first | exact Or.inl rfl | exact Or.inr rfl | assumption) ?_
    exact ro_q (by rw [if_pos b1])
