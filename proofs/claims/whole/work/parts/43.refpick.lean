/-! the reference: keepBack, pick, longest -/
def lrU (sd wt cg : Nat → Int) (s : Int) (n : Nat) : Int := if (lwU sd wt cg s n).1 = -1 then -1 else (lwU sd wt cg s n).2
theorem lwU_nn {sd wt cg : Nat → Int} {s : Int} {m : Nat} (h : ∀ p, p < m → (0 ≤ wt p ∧ wt p ≤ 99) ∧ (0 ≤ cg p ∧ cg p ≤ 100)) : ∀ n, n ≤ m → (lwU sd wt cg s n).1 = -1 ∨ (0 ≤ (lwU sd wt cg s n).1 ∧ 0 ≤ (lwU sd wt cg s n).2)
  | 0, _ => Or.inl rfl
  | n + 1, hn => by
    have h1 := lwU_nn (sd := sd) (s := s) h n (by omega)
    have h2 := h n (by omega)
    have h3 := (mul_bd h2.1.1 h2.1.2 (show 0 ≤ 100 - cg n by omega) (show 100 - cg n ≤ 100 by omega)).1
    rw [lwU.eq_2]
    split
    · exact Or.inr ⟨by show 0 ≤ (n : Int); omega, h3⟩
    · exact h1
theorem lr_t {sd wt cg : Nat → Int} {s : Int} {n : Nat} (hn : (lwU sd wt cg s n).1 = -1 ∨ (0 ≤ (lwU sd wt cg s n).1 ∧ 0 ≤ (lwU sd wt cg s n).2)) (h : sd n = s) (h2 : lrU sd wt cg s n < 0 ∨ wt n * (100 - cg n) < lrU sd wt cg s n) : (lwU sd wt cg s (n + 1)).1 = (n : Int) ∧ lrU sd wt cg s (n + 1) = wt n * (100 - cg n) := by
  have e : lwU sd wt cg s (n + 1) = ((n : Int), wt n * (100 - cg n)) := by
    rw [lwU.eq_2, if_pos]
    refine ⟨h, ?_⟩
    unfold lrU at h2
    rcases hn with k | k
    · exact Or.inl k
    · rw [if_neg (by omega)] at h2
      omega
  unfold lrU
  rw [e]
  exact ⟨rfl, if_neg (by show ¬ ((n : Int) = -1); omega)⟩
theorem lr_f {sd wt cg : Nat → Int} {s : Int} {n : Nat} (h : sd n ≠ s ∨ (0 ≤ lrU sd wt cg s n ∧ lrU sd wt cg s n ≤ wt n * (100 - cg n))) : (lwU sd wt cg s (n + 1)).1 = (lwU sd wt cg s n).1 ∧ lrU sd wt cg s (n + 1) = lrU sd wt cg s n := by
  have e : lwU sd wt cg s (n + 1) = lwU sd wt cg s n := by
    rw [lwU.eq_2, if_neg]
    rintro ⟨h1, h2⟩
    unfold lrU at h
    rcases h with k | k
    · exact k h1
    · by_cases hz : (lwU sd wt cg s n).1 = -1
      · rw [if_pos hz] at k; omega
      · rw [if_neg hz] at k
        rcases h2 with h2 | h2
        · exact hz h2
        · omega
  unfold lrU
  rw [e]
  exact ⟨rfl, rfl⟩
set_option maxHeartbeats 4000000 in
set_option maxRecDepth 100000 in
theorem yl_keepBack (c : HC) {n : Nat} (hv : RSV c n) (s : Int) : ∀ (k i : Nat), i + k = n → TT mX11_keepBack 1 20 [(0, vr 122), (1, vi s), (2, vi (lwU (c 125) (c 127) (c 128) s i).1), (3, vi (lrU (c 125) (c 127) (c 128) s i)), (4, vi (i : Int))] [] c (fun v c1 => v = some (vi (lwU (c 125) (c 127) (c 128) s n).1) ∧ c1 = c) := by
  obtain ⟨hn, hn10, hv⟩ := id hv
  have hr : ∀ p, p < n → (0 ≤ c 127 p ∧ c 127 p ≤ 99) ∧ (0 ≤ c 128 p ∧ c 128 p ≤ 100) := fun p hp => ⟨(hv p hp).2.2.1, (hv p hp).2.2.2⟩
  intro k
  induction k with
  | zero =>
    intro i hk
    have e : i = n := by omega
    subst e
    refine T_iload dX11_keepBack_20 rfl ?_
    refine T_aloadn dX11_keepBack_22 rfl rfl ?_
    refine T_getv dX11_keepBack_23 fX11_93 (by first | assumption | rfl) (by first | decide | omega) rfl hn ?_
    refine T_icmp_ge (tgt := 107) dX11_keepBack_26 rfl (fun b26 => ?_) (fun b26 => absurd b26 (by omega))
    refine T_iloadn dX11_keepBack_107 rfl rfl ?_
    refine TT_ri dX11_keepBack_108 trivial ?_
    exact ro_q rfl
  | succ k ih =>
    intro i hk
    have h := ih (i + 1) (by omega)
    have hnn := lwU_nn (s := s) (sd := c 125) hr i (by omega)
    have h2 := hr i (by omega)
    have h3 := mul_bd h2.1.1 h2.1.2 (show 0 ≤ 100 - c 128 i by omega) (show 100 - c 128 i ≤ 100 by omega)
    refine T_iload dX11_keepBack_20 rfl ?_
    refine T_aloadn dX11_keepBack_22 rfl rfl ?_
    refine T_getv dX11_keepBack_23 fX11_93 (by first | assumption | rfl) (by first | decide | omega) rfl hn ?_
    refine T_icmp_ge (tgt := 107) dX11_keepBack_26 rfl (fun b26 => absurd b26 (by omega)) (fun b26 => ?_)
    refine T_aloadn dX11_keepBack_29 rfl rfl ?_
    refine T_getfin dX11_keepBack_30 fX11_22 (by first | assumption | rfl) (by first | decide | omega) rfl (by first | assumption | rfl) ?_
    refine T_iload dX11_keepBack_33 rfl ?_
    refine T_iald (j := i) dX11_keepBack_35 (by first | assumption | rfl) (by first | decide | omega) (by omega) (by omega) ?_
    refine T_bipush dX11_keepBack_36 (bp8 rfl) (inr rfl) ?_
    refine T_aloadn dX11_keepBack_38 rfl rfl ?_
    refine T_getfin dX11_keepBack_39 fX11_25 (by first | assumption | rfl) (by first | decide | omega) rfl (by first | assumption | rfl) ?_
    refine T_iload dX11_keepBack_42 rfl ?_
    refine T_iald (j := i) dX11_keepBack_44 (by first | assumption | rfl) (by first | decide | omega) (by omega) (by omega) ?_
    first | refine T_isubN dX11_keepBack_45 (by omega) ?_ | refine T_isub dX11_keepBack_45 ?_
    first | refine T_imulN dX11_keepBack_46 (by omega) ?_ | refine T_imul dX11_keepBack_46 ?_
    refine T_istore dX11_keepBack_47 (by decide) rfl ?_
    refine T_aloadn dX11_keepBack_49 rfl rfl ?_
    refine T_getfin dX11_keepBack_50 fX11_16 (by first | assumption | rfl) (by first | decide | omega) rfl (by first | assumption | rfl) ?_
    refine T_iload dX11_keepBack_53 rfl ?_
    refine T_iald (j := i) dX11_keepBack_55 (by first | assumption | rfl) (by first | decide | omega) (by omega) (by omega) ?_
    refine T_iloadn dX11_keepBack_56 rfl rfl ?_
    refine T_icmp_ne (tgt := 74) dX11_keepBack_57 rfl (fun b57 => ?_) (fun b57 => ?_)
    · refine T_iconst dX11_keepBack_74 (inr rfl) ?_
      refine T_istore dX11_keepBack_75 (by decide) rfl ?_
      refine T_iload dX11_keepBack_77 rfl ?_
      refine T_if_eq (tgt := 87) dX11_keepBack_79 rfl (fun b79 => ?_) (fun b79 => absurd b79 (by omega))
      refine T_iloadn dX11_keepBack_87 rfl rfl ?_
      refine T_istoren dX11_keepBack_88 rfl (by decide) rfl ?_
      refine T_iload dX11_keepBack_89 rfl ?_
      refine T_if_eq (tgt := 99) dX11_keepBack_91 rfl (fun b91 => ?_) (fun b91 => absurd b91 (by omega))
      refine T_iloadn dX11_keepBack_99 rfl rfl ?_
      refine T_istoren dX11_keepBack_100 rfl (by decide) rfl ?_
      refine T_iincN dX11_keepBack_101 rfl (by decide) rfl (by omega) ?_
      refine T_goto (tgt := 20) dX11_keepBack_104 rfl ?_
      have e := lr_f (sd := c 125) (wt := c 127) (cg := c 128) (s := s) (n := i) (Or.inl b57)
      rw [e.1, e.2] at h
      refine T_keep [0, 1, 2, 3, 4] ?_
      exact h
    · refine T_iloadn dX11_keepBack_60 rfl rfl ?_
      refine T_if_lt (tgt := 70) dX11_keepBack_61 rfl (fun b61 => ?_) (fun b61 => ?_)
      · refine T_iconst dX11_keepBack_70 (inr rfl) ?_
        refine T_goto (tgt := 75) dX11_keepBack_71 rfl ?_
        refine T_istore dX11_keepBack_75 (by decide) rfl ?_
        refine T_iload dX11_keepBack_77 rfl ?_
        refine T_if_eq (tgt := 87) dX11_keepBack_79 rfl (fun b79 => absurd b79 (by omega)) (fun b79 => ?_)
        refine T_iload dX11_keepBack_82 rfl ?_
        refine T_goto (tgt := 88) dX11_keepBack_84 rfl ?_
        refine T_istoren dX11_keepBack_88 rfl (by decide) rfl ?_
        refine T_iload dX11_keepBack_89 rfl ?_
        refine T_if_eq (tgt := 99) dX11_keepBack_91 rfl (fun b91 => absurd b91 (by omega)) (fun b91 => ?_)
        refine T_iload dX11_keepBack_94 rfl ?_
        refine T_goto (tgt := 100) dX11_keepBack_96 rfl ?_
        refine T_istoren dX11_keepBack_100 rfl (by decide) rfl ?_
        refine T_iincN dX11_keepBack_101 rfl (by decide) rfl (by omega) ?_
        refine T_goto (tgt := 20) dX11_keepBack_104 rfl ?_
        have e := lr_t hnn b57 (Or.inl b61)
        rw [e.1, e.2] at h
        refine T_keep [0, 1, 2, 3, 4] ?_
        exact h
      · refine T_iload dX11_keepBack_64 rfl ?_
        refine T_iloadn dX11_keepBack_66 rfl rfl ?_
        refine T_icmp_ge (tgt := 74) dX11_keepBack_67 rfl (fun b67 => ?_) (fun b67 => ?_)
        · refine T_iconst dX11_keepBack_74 (inr rfl) ?_
          refine T_istore dX11_keepBack_75 (by decide) rfl ?_
          refine T_iload dX11_keepBack_77 rfl ?_
          refine T_if_eq (tgt := 87) dX11_keepBack_79 rfl (fun b79 => ?_) (fun b79 => absurd b79 (by omega))
          refine T_iloadn dX11_keepBack_87 rfl rfl ?_
          refine T_istoren dX11_keepBack_88 rfl (by decide) rfl ?_
          refine T_iload dX11_keepBack_89 rfl ?_
          refine T_if_eq (tgt := 99) dX11_keepBack_91 rfl (fun b91 => ?_) (fun b91 => absurd b91 (by omega))
          refine T_iloadn dX11_keepBack_99 rfl rfl ?_
          refine T_istoren dX11_keepBack_100 rfl (by decide) rfl ?_
          refine T_iincN dX11_keepBack_101 rfl (by decide) rfl (by omega) ?_
          refine T_goto (tgt := 20) dX11_keepBack_104 rfl ?_
          have e := lr_f (sd := c 125) (wt := c 127) (cg := c 128) (s := s) (n := i) (Or.inr ⟨by omega, by omega⟩)
          rw [e.1, e.2] at h
          refine T_keep [0, 1, 2, 3, 4] ?_
          exact h
        · refine T_iconst dX11_keepBack_70 (inr rfl) ?_
          refine T_goto (tgt := 75) dX11_keepBack_71 rfl ?_
          refine T_istore dX11_keepBack_75 (by decide) rfl ?_
          refine T_iload dX11_keepBack_77 rfl ?_
          refine T_if_eq (tgt := 87) dX11_keepBack_79 rfl (fun b79 => absurd b79 (by omega)) (fun b79 => ?_)
          refine T_iload dX11_keepBack_82 rfl ?_
          refine T_goto (tgt := 88) dX11_keepBack_84 rfl ?_
          refine T_istoren dX11_keepBack_88 rfl (by decide) rfl ?_
          refine T_iload dX11_keepBack_89 rfl ?_
          refine T_if_eq (tgt := 99) dX11_keepBack_91 rfl (fun b91 => absurd b91 (by omega)) (fun b91 => ?_)
          refine T_iload dX11_keepBack_94 rfl ?_
          refine T_goto (tgt := 100) dX11_keepBack_96 rfl ?_
          refine T_istoren dX11_keepBack_100 rfl (by decide) rfl ?_
          refine T_iincN dX11_keepBack_101 rfl (by decide) rfl (by omega) ?_
          refine T_goto (tgt := 20) dX11_keepBack_104 rfl ?_
          have e := lr_t hnn b57 (Or.inr (by omega))
          rw [e.1, e.2] at h
          refine T_keep [0, 1, 2, 3, 4] ?_
          exact h
set_option maxHeartbeats 4000000 in
set_option maxRecDepth 100000 in
theorem y_keepBack (c : HC) {n : Nat} (hv : RSV c n) (s : Int) : RO mX11_keepBack 1 c [vr 122, vi s] (kbF (lwU (c 125) (c 127) (c 128) s n).1 s) := by
  refine CC.of (by decide +kernel) (leb rfl) (fun hok => ?_)
  unfold kbF isSideF UNK
  refine T_iloadn dX11_keepBack_0 rfl rfl ?_
  refine T_i2l dX11_keepBack_1 ?_
  refine T_lconst (z := 0) dX11_keepBack_2 rfl (inl rfl) ?_
  refine T_lconst (z := 1) dX11_keepBack_3 rfl (inl rfl) ?_
  refine TT_Si dX11_keepBack_4 (r_in c s 0 1) kX11_96 (by decide) rfl (leb rfl) ?_
  refine T_if_ne (tgt := 13) dX11_keepBack_7 rfl (fun b7 => ?_) (fun b7 => ?_)
  · have hi := inF_t b7
    rw [if_pos (show s = 0 ∨ s = 1 by omega), if_neg (by decide)]
    refine T_iconst dX11_keepBack_13 (inr rfl) ?_
    refine T_istoren dX11_keepBack_14 rfl (by decide) rfl ?_
    refine T_iconst dX11_keepBack_15 (inr rfl) ?_
    refine T_istoren dX11_keepBack_16 rfl (by decide) rfl ?_
    refine T_iconst dX11_keepBack_17 (inr rfl) ?_
    refine T_istore dX11_keepBack_18 (by decide) rfl ?_
    exact yl_keepBack c hv s n 0 (by omega)
  · refine T_ldc dX11_keepBack_10 cX11_200 (inr rfl) ?_
    refine TT_ri dX11_keepBack_12 trivial ?_
    have hi := inF_f b7
    exact ro_q (by rw [if_neg (show ¬ (s = 0 ∨ s = 1) by omega), if_pos rfl])
theorem bc1024 : ∀ s : Nat, s < 1024 → bcnt (s : Int) = ((pcU s 10 : Nat) : Int) := by decide +kernel
theorem pcU_le (s : Nat) : ∀ k, pcU s k ≤ k
  | 0 => Nat.le_refl _
  | k + 1 => by
    have := pcU_le s k
    unfold pcU
    split <;> omega
theorem band_tb {s k : Nat} (h : s < 1024) : band ((s : Int) / 2 ^ ((k : Int)).toNat) 1 = if s.testBit k = true then 1 else 0 := by
  have hb := bit_tb (s := s) (k := k) h
  rw [Int.toNat_natCast]
  have hr : InR ((s : Int) / 2 ^ k) := by
    have h1 : (0 : Int) ≤ (s : Int) / 2 ^ k := Int.ediv_nonneg (by omega) (Int.le_of_lt (Int.pow_pos (by decide)))
    have h2 : (s : Int) / 2 ^ k ≤ (s : Int) := Int.ediv_le_self _ (by omega)
    unfold InR
    omega
  by_cases ht : s.testBit k = true
  · rw [if_pos ht]; exact hb.mpr ht
  · rw [if_neg ht]
    rcases bit01 hr with z | z
    · exact z
    · exact absurd (hb.mp z) ht
set_option maxHeartbeats 4000000 in
set_option maxRecDepth 100000 in
theorem rl_bits (c : HC) (s : Nat) (hs : s < 1024) : ∀ (k i : Nat), i + k = 10 → TT mX11_bits 0 4 [(0, vi (s : Int)), (1, vi ((pcU s i : Nat) : Int)), (2, vi (i : Int))] [] c (fun v c1 => v = some (vi ((pcU s 10 : Nat) : Int)) ∧ c1 = c) := by
  intro k
  induction k with
  | zero =>
    intro i hk
    have e : i = 10 := by omega
    subst e
    refine T_iloadn dX11_bits_4 rfl rfl ?_
    refine T_bipush dX11_bits_5 (bp8 rfl) (inr rfl) ?_
    refine T_icmp_ge (tgt := 24) dX11_bits_7 rfl (fun b7 => ?_) (fun b7 => absurd b7 (by decide))
    refine T_iloadn dX11_bits_24 rfl rfl ?_
    refine TT_ri dX11_bits_25 trivial ?_
    exact ro_q rfl
  | succ k ih =>
    intro i hk
    have h := ih (i + 1) (by omega)
    have hp := pcU_le s i
    have hb := band_tb (k := i) hs
    have hpc : pcU s (i + 1) = if s.testBit i = true then pcU s i + 1 else pcU s i := rfl
    by_cases ht : s.testBit i = true
    · rw [if_pos ht] at hb hpc
      refine T_iloadn dX11_bits_4 rfl rfl ?_
      refine T_bipush dX11_bits_5 (bp8 rfl) (inr rfl) ?_
      refine T_icmp_ge (tgt := 24) dX11_bits_7 rfl (fun b7 => absurd b7 (by omega)) (fun b7 => ?_)
      refine T_iloadn dX11_bits_10 rfl rfl ?_
      refine T_iloadn dX11_bits_11 rfl rfl ?_
      refine T_iloadn dX11_bits_12 rfl rfl ?_
      refine T_ishr dX11_bits_13 (by omega) (by omega) ?_
      refine T_iconst dX11_bits_14 (inr rfl) ?_
      refine T_iand dX11_bits_15 ?_
      rw [hb]
      first | refine T_iaddN dX11_bits_16 (by omega) ?_ | refine T_iadd dX11_bits_16 ?_
      refine T_istoren dX11_bits_17 rfl (by decide) rfl ?_
      refine T_iincN dX11_bits_18 rfl (by decide) rfl (by omega) ?_
      refine T_goto (tgt := 4) dX11_bits_21 rfl ?_
      refine T_keep [0, 1, 2] ?_
      rw [hpc] at h
      exact h
    · rw [if_neg ht] at hb hpc
      refine T_iloadn dX11_bits_4 rfl rfl ?_
      refine T_bipush dX11_bits_5 (bp8 rfl) (inr rfl) ?_
      refine T_icmp_ge (tgt := 24) dX11_bits_7 rfl (fun b7 => absurd b7 (by omega)) (fun b7 => ?_)
      refine T_iloadn dX11_bits_10 rfl rfl ?_
      refine T_iloadn dX11_bits_11 rfl rfl ?_
      refine T_iloadn dX11_bits_12 rfl rfl ?_
      refine T_ishr dX11_bits_13 (by omega) (by omega) ?_
      refine T_iconst dX11_bits_14 (inr rfl) ?_
      refine T_iand dX11_bits_15 ?_
      rw [hb]
      first | refine T_iaddN dX11_bits_16 (by omega) ?_ | refine T_iadd dX11_bits_16 ?_
      refine T_istoren dX11_bits_17 rfl (by decide) rfl ?_
      refine T_iincN dX11_bits_18 rfl (by decide) rfl (by omega) ?_
      refine T_goto (tgt := 4) dX11_bits_21 rfl ?_
      refine T_keep [0, 1, 2] ?_
      rw [hpc] at h
      rw [Int.add_zero]
      exact h
set_option maxHeartbeats 4000000 in
set_option maxRecDepth 100000 in
theorem r_bits (c : HC) (s : Nat) (hs : s < 1024) : RO mX11_bits 0 c [vi (s : Int)] (bcnt (s : Int)) := by
  rw [bc1024 s hs]
  refine CC.of (by decide +kernel) (leb rfl) (fun hok => ?_)
  refine T_iconst dX11_bits_0 (inr rfl) ?_
  refine T_istoren dX11_bits_1 rfl (by decide) rfl ?_
  refine T_iconst dX11_bits_2 (inr rfl) ?_
  refine T_istoren dX11_bits_3 rfl (by decide) rfl ?_
  exact rl_bits c s hs 10 0 (by omega)
set_option maxHeartbeats 4000000 in
set_option maxRecDepth 100000 in
theorem yl_pick3 (c : HC) {n : Nat} (hv : RSV c n) (w be le L : Int) (s : Nat) (hs : s < 1024) (Q : Option PV → HC → Prop) (h : TT mX11_pick 1 20 [(0, vr 122), (1, vi w), (2, vi (if le < 0 ∨ L < le then (s : Int) else be)), (3, vi (if le < 0 ∨ L < le then L else le)), (4, vi ((s : Int) + 1))] [] c Q) : TT mX11_pick 1 116 [(0, vr 122), (1, vi w), (2, vi be), (3, vi le), (4, vi (s : Int)), (5, vi L)] [] c Q := by
  refine T_iloadn dX11_pick_116 rfl rfl ?_
  refine T_if_lt (tgt := 126) dX11_pick_117 rfl (fun b117 => ?_) (fun b117 => ?_)
  · refine T_iload dX11_pick_126 rfl ?_
    refine T_goto (tgt := 132) dX11_pick_128 rfl ?_
    refine T_istoren dX11_pick_132 rfl (by decide) rfl ?_
    refine T_iloadn dX11_pick_133 rfl rfl ?_
    refine T_if_lt (tgt := 143) dX11_pick_134 rfl (fun b134 => ?_) (fun b134 => absurd b134 (by omega))
    refine T_iload dX11_pick_143 rfl ?_
    refine T_goto (tgt := 149) dX11_pick_145 rfl ?_
    refine T_istoren dX11_pick_149 rfl (by decide) rfl ?_
    refine T_iincN dX11_pick_150 rfl (by decide) rfl (by omega) ?_
    refine T_goto (tgt := 20) dX11_pick_153 rfl ?_
    refine T_keep [0, 1, 2, 3, 4] ?_
    rw [if_pos (Or.inl b117), if_pos (Or.inl b117)] at h
    exact h
  · refine T_iload dX11_pick_120 rfl ?_
    refine T_iloadn dX11_pick_122 rfl rfl ?_
    refine T_icmp_ge (tgt := 131) dX11_pick_123 rfl (fun b123 => ?_) (fun b123 => ?_)
    · refine T_iloadn dX11_pick_131 rfl rfl ?_
      refine T_istoren dX11_pick_132 rfl (by decide) rfl ?_
      refine T_iloadn dX11_pick_133 rfl rfl ?_
      refine T_if_lt (tgt := 143) dX11_pick_134 rfl (fun b134 => absurd b134 (by omega)) (fun b134 => ?_)
      refine T_iload dX11_pick_137 rfl ?_
      refine T_iloadn dX11_pick_139 rfl rfl ?_
      refine T_icmp_ge (tgt := 148) dX11_pick_140 rfl (fun b140 => ?_) (fun b140 => absurd b140 (by omega))
      refine T_iloadn dX11_pick_148 rfl rfl ?_
      refine T_istoren dX11_pick_149 rfl (by decide) rfl ?_
      refine T_iincN dX11_pick_150 rfl (by decide) rfl (by omega) ?_
      refine T_goto (tgt := 20) dX11_pick_153 rfl ?_
      refine T_keep [0, 1, 2, 3, 4] ?_
      rw [if_neg (by omega), if_neg (by omega)] at h
      exact h
    · refine T_iload dX11_pick_126 rfl ?_
      refine T_goto (tgt := 132) dX11_pick_128 rfl ?_
      refine T_istoren dX11_pick_132 rfl (by decide) rfl ?_
      refine T_iloadn dX11_pick_133 rfl rfl ?_
      refine T_if_lt (tgt := 143) dX11_pick_134 rfl (fun b134 => absurd b134 (by omega)) (fun b134 => ?_)
      refine T_iload dX11_pick_137 rfl ?_
      refine T_iloadn dX11_pick_139 rfl rfl ?_
      refine T_icmp_ge (tgt := 148) dX11_pick_140 rfl (fun b140 => absurd b140 (by omega)) (fun b140 => ?_)
      refine T_iload dX11_pick_143 rfl ?_
      refine T_goto (tgt := 149) dX11_pick_145 rfl ?_
      refine T_istoren dX11_pick_149 rfl (by decide) rfl ?_
      refine T_iincN dX11_pick_150 rfl (by decide) rfl (by omega) ?_
      refine T_goto (tgt := 20) dX11_pick_153 rfl ?_
      refine T_keep [0, 1, 2, 3, 4] ?_
      rw [if_pos (Or.inr (by omega)), if_pos (Or.inr (by omega))] at h
      exact h
set_option maxHeartbeats 4000000 in
set_option maxRecDepth 100000 in
theorem yl_pick2 (c : HC) {n : Nat} (hv : RSV c n) (w be le : Int) (s : Nat) (hs : s < 1024) (Q : Option PV → HC → Prop) (h : TT mX11_pick 1 116 [(0, vr 122), (1, vi w), (2, vi be), (3, vi le), (4, vi (s : Int)), (5, vi (iabs (dfU (c 127) (s : Int) n)))] [] c Q) : ∀ (k i : Nat), i + k = n → TT mX11_pick 1 53 [(0, vr 122), (1, vi w), (2, vi be), (3, vi le), (4, vi (s : Int)), (5, vi (dfU (c 127) (s : Int) i)), (6, vi (i : Int))] [] c Q := by
  obtain ⟨hn, hn10, hv⟩ := id hv
  have hbd := dfU_bd (wt := c 127) (x := (s : Int)) (m := n) (fun p hp => (hv p hp).2.2.1)
  intro k
  induction k with
  | zero =>
    intro i hk
    have e : i = n := by omega
    subst e
    have hb := hbd i (by omega)
    unfold iabs at h
    refine T_iload dX11_pick_53 rfl ?_
    refine T_aloadn dX11_pick_55 rfl rfl ?_
    refine T_getv dX11_pick_56 fX11_93 (by first | assumption | rfl) (by first | decide | omega) rfl hn ?_
    refine T_icmp_ge (tgt := 101) dX11_pick_59 rfl (fun b59 => ?_) (fun b59 => absurd b59 (by omega))
    refine T_iload dX11_pick_101 rfl ?_
    refine T_if_ge (tgt := 112) dX11_pick_103 rfl (fun b103 => ?_) (fun b103 => ?_)
    · refine T_iload dX11_pick_112 rfl ?_
      refine T_istore dX11_pick_114 (by decide) rfl ?_
      rw [if_pos b103] at h
      refine T_keep [0, 1, 2, 3, 4, 5] ?_
      exact h
    · refine T_iload dX11_pick_106 rfl ?_
      first | refine T_inegN dX11_pick_108 (by omega) ?_ | refine T_ineg dX11_pick_108 ?_
      refine T_goto (tgt := 114) dX11_pick_109 rfl ?_
      refine T_istore dX11_pick_114 (by decide) rfl ?_
      rw [if_neg (by omega), wr_id (by omega) (by omega)] at h
      refine T_keep [0, 1, 2, 3, 4, 5] ?_
      exact h
  | succ k ih =>
    intro i hk
    have h := ih (i + 1) (by omega)
    have hb := hbd i (by omega)
    have hw := (hv i (by omega)).2.2.1
    rw [dfU.eq_2] at h
    refine T_iload dX11_pick_53 rfl ?_
    refine T_aloadn dX11_pick_55 rfl rfl ?_
    refine T_getv dX11_pick_56 fX11_93 (by first | assumption | rfl) (by first | decide | omega) rfl hn ?_
    refine T_icmp_ge (tgt := 101) dX11_pick_59 rfl (fun b59 => absurd b59 (by omega)) (fun b59 => ?_)
    refine T_iload dX11_pick_62 rfl ?_
    refine T_iload dX11_pick_64 rfl ?_
    refine T_iload dX11_pick_66 rfl ?_
    refine TT_Si dX11_pick_68 (r_has c (s : Int) (i : Int) (by omega)) kX11_151 (by decide) rfl (leb rfl) ?_
    refine T_if_eq (tgt := 84) dX11_pick_71 rfl (fun b71 => ?_) (fun b71 => ?_)
    · refine T_aloadn dX11_pick_84 rfl rfl ?_
      refine T_getfin dX11_pick_85 fX11_22 (by first | assumption | rfl) (by first | decide | omega) rfl (by first | assumption | rfl) ?_
      refine T_iload dX11_pick_88 rfl ?_
      refine T_iald (j := i) dX11_pick_90 (by first | assumption | rfl) (by first | decide | omega) (by omega) (by omega) ?_
      first | refine T_inegN dX11_pick_91 (by omega) ?_ | refine T_ineg dX11_pick_91 ?_
      first | refine T_iaddN dX11_pick_92 (by omega) ?_ | refine T_iadd dX11_pick_92 ?_
      refine T_istore dX11_pick_93 (by decide) rfl ?_
      refine T_iincN dX11_pick_95 rfl (by decide) rfl (by omega) ?_
      refine T_goto (tgt := 53) dX11_pick_98 rfl ?_
      refine T_keep [0, 1, 2, 3, 4, 5, 6] ?_
      rw [if_neg (by rw [b71]; decide)] at h
      exact h
    · refine T_aloadn dX11_pick_74 rfl rfl ?_
      refine T_getfin dX11_pick_75 fX11_22 (by first | assumption | rfl) (by first | decide | omega) rfl (by first | assumption | rfl) ?_
      refine T_iload dX11_pick_78 rfl ?_
      refine T_iald (j := i) dX11_pick_80 (by first | assumption | rfl) (by first | decide | omega) (by omega) (by omega) ?_
      refine T_goto (tgt := 92) dX11_pick_81 rfl ?_
      first | refine T_iaddN dX11_pick_92 (by omega) ?_ | refine T_iadd dX11_pick_92 ?_
      refine T_istore dX11_pick_93 (by decide) rfl ?_
      refine T_iincN dX11_pick_95 rfl (by decide) rfl (by omega) ?_
      refine T_goto (tgt := 53) dX11_pick_98 rfl ?_
      refine T_keep [0, 1, 2, 3, 4, 5, 6] ?_
      rw [if_pos (bit1 b71)] at h
      exact h
def pkB (wt : Nat → Int) (n s : Nat) : Int := if (frU wt n s).1 = -1 then 0 else (frU wt n s).1
def pkL (wt : Nat → Int) (n s : Nat) : Int := if (frU wt n s).1 = -1 then -1 else (frU wt n s).2
theorem frU_nn (wt : Nat → Int) (n : Nat) (hd : ∀ s : Nat, 0 ≤ iabs (dfU wt (s : Int) n)) : ∀ s, ((frU wt n s).1 = -1 ∧ ∀ t, t < s → bcnt (t : Int) ≠ ((n : Int) + 1) / 2) ∨ (∃ t : Nat, (frU wt n s).1 = (t : Int) ∧ (frU wt n s).2 = iabs (dfU wt (t : Int) n) ∧ 0 ≤ (frU wt n s).2)
  | 0 => Or.inl ⟨rfl, fun t ht => by omega⟩
  | s + 1 => by
    rw [frU.eq_2]
    split
    · exact Or.inr ⟨s, rfl, rfl, hd s⟩
    · rename_i hc
      rcases frU_nn wt n hd s with ⟨h1, h2⟩ | h
      · refine Or.inl ⟨h1, fun t ht hb => ?_⟩
        by_cases e : t = s
        · subst e; exact hc ⟨hb, Or.inl h1⟩
        · exact h2 t (by omega) hb
      · exact Or.inr h
theorem half_ex : ∀ n : Nat, n < 11 → ∃ s : Nat, s < 2 ^ n ∧ bcnt (s : Int) = ((n : Int) + 1) / 2 := by decide +kernel
theorem pk_t {wt : Nat → Int} {n s : Nat} (hd : ∀ s : Nat, 0 ≤ iabs (dfU wt (s : Int) n)) (h : bcnt (s : Int) = ((n : Int) + 1) / 2) : pkB wt n (s + 1) = (if pkL wt n s < 0 ∨ iabs (dfU wt (s : Int) n) < pkL wt n s then (s : Int) else pkB wt n s) ∧ pkL wt n (s + 1) = (if pkL wt n s < 0 ∨ iabs (dfU wt (s : Int) n) < pkL wt n s then iabs (dfU wt (s : Int) n) else pkL wt n s) := by
  rcases frU_nn wt n hd s with ⟨h1, _⟩ | ⟨t, h1, h2, h3⟩
  · have e : frU wt n (s + 1) = ((s : Int), iabs (dfU wt (s : Int) n)) := by rw [frU.eq_2, if_pos ⟨h, Or.inl h1⟩]
    have e1 : pkL wt n s = -1 := by unfold pkL; rw [if_pos h1]
    rw [e1, if_pos (Or.inl (by decide)), if_pos (Or.inl (by decide))]
    unfold pkB pkL
    rw [e]
    exact ⟨if_neg (show ¬ ((s : Int) = -1) by omega), if_neg (show ¬ ((s : Int) = -1) by omega)⟩
  · have hne : ¬ (frU wt n s).1 = -1 := by omega
    have e1 : pkL wt n s = (frU wt n s).2 := by unfold pkL; rw [if_neg hne]
    rw [e1]
    by_cases hl : iabs (dfU wt (s : Int) n) < (frU wt n s).2
    · have e : frU wt n (s + 1) = ((s : Int), iabs (dfU wt (s : Int) n)) := by rw [frU.eq_2, if_pos ⟨h, Or.inr hl⟩]
      rw [if_pos (Or.inr hl), if_pos (Or.inr hl)]
      unfold pkB pkL
      rw [e]
      exact ⟨if_neg (show ¬ ((s : Int) = -1) by omega), if_neg (show ¬ ((s : Int) = -1) by omega)⟩
    · have e : frU wt n (s + 1) = frU wt n s := by rw [frU.eq_2, if_neg (fun z => z.2.elim hne hl)]
      rw [if_neg (by omega), if_neg (by omega)]
      unfold pkB pkL
      rw [e]
      exact ⟨rfl, if_neg hne⟩
theorem pk_f {wt : Nat → Int} {n s : Nat} (h : ¬ bcnt (s : Int) = ((n : Int) + 1) / 2) : pkB wt n (s + 1) = pkB wt n s ∧ pkL wt n (s + 1) = pkL wt n s := by
  have e : frU wt n (s + 1) = frU wt n s := by rw [frU.eq_2, if_neg (fun z => h z.1)]
  unfold pkB pkL
  rw [e]
  exact ⟨rfl, rfl⟩
set_option maxHeartbeats 4000000 in
set_option maxRecDepth 100000 in
theorem yl_pick (c : HC) {n : Nat} (hv : RSV c n) (w : Int) : ∀ (k s : Nat), s + k = 2 ^ n → TT mX11_pick 1 20 [(0, vr 122), (1, vi w), (2, vi (pkB (c 127) n s)), (3, vi (pkL (c 127) n s)), (4, vi (s : Int))] [] c (fun v c1 => v = some (vi (if w = 0 then pkB (c 127) n (2 ^ n) else pkL (c 127) n (2 ^ n))) ∧ c1 = c) := by
  have hv0 := hv
  obtain ⟨hn, hn10, hv⟩ := id hv
  have hp : 2 ^ n ≤ 1024 := Nat.pow_le_pow_right (n := 2) (by decide) hn10
  have hd : ∀ s : Nat, 0 ≤ iabs (dfU (c 127) (s : Int) n) := fun s => by
    have hb := dfU_bd (wt := c 127) (x := (s : Int)) (m := n) (fun p hp => (hv p hp).2.2.1) n (Nat.le_refl _)
    unfold iabs
    split
    · omega
    · rw [wr_id (by omega) (by omega)]; omega
  intro k
  induction k with
  | zero =>
    intro s hk
    have e : s = 2 ^ n := by omega
    subst e
    refine T_iload dX11_pick_20 rfl ?_
    refine T_iconst dX11_pick_22 (inr rfl) ?_
    refine T_aloadn dX11_pick_23 rfl rfl ?_
    refine T_getv dX11_pick_24 fX11_93 (by first | assumption | rfl) (by first | decide | omega) rfl hn ?_
    refine T_ishl dX11_pick_27 (by omega) (by omega) ?_
    rw [shl1 (by omega)]
    refine T_icmp_ge (tgt := 156) dX11_pick_28 rfl (fun b28 => ?_) (fun b28 => absurd b28 (by omega))
    refine T_iloadn dX11_pick_156 rfl rfl ?_
    refine T_if_ne (tgt := 164) dX11_pick_157 rfl (fun b157 => ?_) (fun b157 => ?_)
    · refine T_iloadn dX11_pick_164 rfl rfl ?_
      refine TT_ri dX11_pick_165 trivial ?_
      exact ro_q (by rw [if_neg b157])
    · refine T_iloadn dX11_pick_160 rfl rfl ?_
      refine T_goto (tgt := 165) dX11_pick_161 rfl ?_
      refine TT_ri dX11_pick_165 trivial ?_
      exact ro_q (by rw [if_pos b157])
  | succ k ih =>
    intro s hk
    have h := ih (s + 1) (by omega)
    rw [show ((s + 1 : Nat) : Int) = (s : Int) + 1 by omega] at h
    refine T_iload dX11_pick_20 rfl ?_
    refine T_iconst dX11_pick_22 (inr rfl) ?_
    refine T_aloadn dX11_pick_23 rfl rfl ?_
    refine T_getv dX11_pick_24 fX11_93 (by first | assumption | rfl) (by first | decide | omega) rfl hn ?_
    refine T_ishl dX11_pick_27 (by omega) (by omega) ?_
    rw [shl1 (by omega)]
    refine T_icmp_ge (tgt := 156) dX11_pick_28 rfl (fun b28 => absurd b28 (by omega)) (fun b28 => ?_)
    refine T_iload dX11_pick_31 rfl ?_
    refine TT_Si dX11_pick_33 (r_bits c s (by omega)) kX11_287 (by decide) rfl (leb rfl) ?_
    refine T_aloadn dX11_pick_36 rfl rfl ?_
    refine T_getv dX11_pick_37 fX11_93 (by first | assumption | rfl) (by first | decide | omega) rfl hn ?_
    refine T_iconst dX11_pick_40 (inr rfl) ?_
    first | refine T_iaddN dX11_pick_41 (by omega) ?_ | refine T_iadd dX11_pick_41 ?_
    refine T_iconst dX11_pick_42 (inr rfl) ?_
    first | refine T_idivN dX11_pick_43 (by omega) (by omega) ?_ | refine T_idiv dX11_pick_43 (by omega) ?_
    refine T_icmp_ne (tgt := 150) dX11_pick_44 rfl (fun b44 => ?_) (fun b44 => ?_)
    · refine T_iincN dX11_pick_150 rfl (by decide) rfl (by omega) ?_
      refine T_goto (tgt := 20) dX11_pick_153 rfl ?_
      have e := pk_f (wt := c 127) b44
      rw [e.1, e.2] at h
      exact h
    · refine T_iconst dX11_pick_47 (inr rfl) ?_
      refine T_istore dX11_pick_48 (by decide) rfl ?_
      refine T_iconst dX11_pick_50 (inr rfl) ?_
      refine T_istore dX11_pick_51 (by decide) rfl ?_
      have e := pk_t hd b44
      rw [e.1, e.2] at h
      exact yl_pick2 c hv0 w _ _ s (by omega) _ (yl_pick3 c hv0 w _ _ _ s (by omega) _ h) n 0 (by omega)
set_option maxHeartbeats 4000000 in
set_option maxRecDepth 100000 in
theorem y_pick (c : HC) {n : Nat} (hv : RSV c n) (w : Int) : RO mX11_pick 1 c [vr 122, vi w] (pickF (c 127) n w) := by
  have hn10 := hv.2.1
  have hd : ∀ s : Nat, 0 ≤ iabs (dfU (c 127) (s : Int) n) := fun s => by
    have hb := dfU_bd (wt := c 127) (x := (s : Int)) (m := n) (fun p hp => (hv.2.2 p hp).2.2.1) n (Nat.le_refl _)
    unfold iabs
    split
    · omega
    · rw [wr_id (by omega) (by omega)]; omega
  have he : pickF (c 127) n w = if w < 0 ∨ 1 < w then OUT else if w = 0 then pkB (c 127) n (2 ^ n) else pkL (c 127) n (2 ^ n) := by
    unfold pickF pkB pkL
    rcases frU_nn (c 127) n hd (2 ^ n) with ⟨_, h2⟩ | ⟨t, h1, h2, _⟩
    · obtain ⟨s, hs1, hs2⟩ := half_ex n (by omega)
      exact absurd hs2 (h2 s hs1)
    · rw [if_neg (show ¬ (frU (c 127) n (2 ^ n)).1 = -1 by omega), if_neg (show ¬ (frU (c 127) n (2 ^ n)).1 = -1 by omega), h2, h1]
  rw [he]
  refine CC.of (by decide +kernel) (leb rfl) (fun hok => ?_)
  unfold OUT
  refine T_iloadn dX11_pick_0 rfl rfl ?_
  refine T_i2l dX11_pick_1 ?_
  refine T_lconst (z := 0) dX11_pick_2 rfl (inl rfl) ?_
  refine T_lconst (z := 1) dX11_pick_3 rfl (inl rfl) ?_
  refine TT_Si dX11_pick_4 (r_in c w 0 1) kX11_96 (by decide) rfl (leb rfl) ?_
  refine T_if_ne (tgt := 13) dX11_pick_7 rfl (fun b7 => ?_) (fun b7 => ?_)
  · have hi := inF_t b7
    rw [if_neg (show ¬ (w < 0 ∨ 1 < w) by omega)]
    refine T_iconst dX11_pick_13 (inr rfl) ?_
    refine T_istoren dX11_pick_14 rfl (by decide) rfl ?_
    refine T_iconst dX11_pick_15 (inr rfl) ?_
    refine T_istoren dX11_pick_16 rfl (by decide) rfl ?_
    refine T_iconst dX11_pick_17 (inr rfl) ?_
    refine T_istore dX11_pick_18 (by decide) rfl ?_
    exact yl_pick c hv w (2 ^ n) 0 (by omega)
  · refine T_ldc dX11_pick_10 cX11_106 (inr rfl) ?_
    refine TT_ri dX11_pick_12 trivial ?_
    have hi := inF_f b7
    exact ro_q (by rw [if_pos (by omega)])
def lg0 (W : Nat → Int) (b : Int) : Int := if lgL W (imin b 41).toNat < 0 then 0 else lgL W (imin b 41).toNat
def ylgF (W L : Nat → Int) (b w : Int) : Int := if (b < 0 ∨ 99 < b) ∨ (w < 0 ∨ 1 < w) then OUT else if lgL W (imin b 41).toNat < 0 ∨ w = 0 then lgL W (imin b 41).toNat else L (lgL W (imin b 41).toNat).toNat
theorem lgL_bd (W : Nat → Int) : ∀ b, -1 ≤ lgL W b ∧ lgL W b ≤ b
  | 0 => by unfold lgL; split <;> omega
  | b + 1 => by
    have := lgL_bd W b
    unfold lgL
    split <;> omega
theorem imin41 {b : Int} (h : 0 ≤ b) : (imin b 41).toNat ≤ 41 ∧ ((imin b 41).toNat : Int) ≤ b := by unfold imin; split <;> omega
theorem lg0_bd (W : Nat → Int) {b : Int} (h : 0 ≤ b) : 0 ≤ lg0 W b ∧ lg0 W b ≤ 41 ∧ lg0 W b ≤ b := by
  have h1 := lgL_bd W (imin b 41).toNat
  have h2 := imin41 h
  unfold lg0
  split <;> omega
set_option maxHeartbeats 4000000 in
set_option maxRecDepth 100000 in
theorem y_longest (c : HC) (b w : Int) : RO mX11_longest 1 c [vr 122, vi b, vi w] (ylgF (c 141) (c 140) b w) := by
  refine CC.of (by decide +kernel) (leb rfl) (fun hok => ?_)
  unfold ylgF OUT
  refine T_iloadn dX11_longest_0 rfl rfl ?_
  refine T_i2l dX11_longest_1 ?_
  refine T_lconst (z := 0) dX11_longest_2 rfl (inl rfl) ?_
  refine T_ldc2 dX11_longest_3 clX11_206 (inl rfl) ?_
  refine TT_Si dX11_longest_6 (r_in c b 0 99) kX11_96 (by decide) rfl (leb rfl) ?_
  refine T_if_eq (tgt := 22) dX11_longest_9 rfl (fun b9 => ?_) (fun b9 => ?_)
  · refine T_ldc dX11_longest_22 cX11_106 (inr rfl) ?_
    refine TT_ri dX11_longest_24 trivial ?_
    have hi := inF_f b9
    exact ro_q (by rw [if_pos (by omega)])
  · have hi := inF_t b9
    refine T_iloadn dX11_longest_12 rfl rfl ?_
    refine T_i2l dX11_longest_13 ?_
    refine T_lconst (z := 0) dX11_longest_14 rfl (inl rfl) ?_
    refine T_lconst (z := 1) dX11_longest_15 rfl (inl rfl) ?_
    refine TT_Si dX11_longest_16 (r_in c w 0 1) kX11_96 (by decide) rfl (leb rfl) ?_
    refine T_if_ne (tgt := 25) dX11_longest_19 rfl (fun b19 => ?_) (fun b19 => ?_)
    · have hj := inF_t b19
      have hb := lgL_bd (c 141) (imin b 41).toNat
      have hm := imin41 (b := b) (by omega)
      refine T_aloadn dX11_longest_25 rfl rfl ?_
      refine T_iloadn dX11_longest_26 rfl rfl ?_
      refine TT_Vi dX11_longest_27 (r_longestOf c b (by omega)) kX11_208 (by decide) (by first | decide | omega) (by first | assumption | rfl) rfl (leb rfl) ?_
      refine T_istoren dX11_longest_30 rfl (by decide) rfl ?_
      refine T_iloadn dX11_longest_31 rfl rfl ?_
      refine T_if_lt (tgt := 39) dX11_longest_32 rfl (fun b32 => ?_) (fun b32 => ?_)
      · refine T_iloadn dX11_longest_39 rfl rfl ?_
        refine T_goto (tgt := 49) dX11_longest_40 rfl ?_
        refine TT_ri dX11_longest_49 trivial ?_
        exact ro_q (by rw [if_neg (by omega), if_pos (Or.inl b32)])
      · refine T_iloadn dX11_longest_35 rfl rfl ?_
        refine T_if_ne (tgt := 43) dX11_longest_36 rfl (fun b36 => ?_) (fun b36 => ?_)
        · refine T_aloadn dX11_longest_43 rfl rfl ?_
          refine T_getfin dX11_longest_44 fX11_65 (by first | assumption | rfl) (by first | decide | omega) rfl (by first | assumption | rfl) ?_
          refine T_iloadn dX11_longest_47 rfl rfl ?_
          refine T_iald (j := (lgL (c 141) (imin b 41).toNat).toNat) dX11_longest_48 (by first | assumption | rfl) (by first | decide | omega) (by omega) (by omega) ?_
          refine TT_ri dX11_longest_49 trivial ?_
          exact ro_q (by rw [if_neg (by omega), if_neg (by omega)])
        · refine T_iloadn dX11_longest_39 rfl rfl ?_
          refine T_goto (tgt := 49) dX11_longest_40 rfl ?_
          refine TT_ri dX11_longest_49 trivial ?_
          exact ro_q (by rw [if_neg (by omega), if_pos (Or.inr b36)])
    · refine T_ldc dX11_longest_22 cX11_106 (inr rfl) ?_
      refine TT_ri dX11_longest_24 trivial ?_
      have hj := inF_f b19
      exact ro_q (by rw [if_pos (by omega)])
set_option maxHeartbeats 4000000 in
set_option maxRecDepth 100000 in
theorem r_longestNow (c : HC) (p : Nat) (hp : p < 10) (hb : 0 ≤ c 130 (2 + p)) : RO mX11_longestNow 1 c [vr 122, vi (p : Int)] (lg0 (c 141) (c 130 (2 + p))) := by
  refine CC.of (by decide +kernel) (leb rfl) (fun hok => ?_)
  unfold lg0
  refine T_aloadn dX11_longestNow_0 rfl rfl ?_
  refine T_aloadn dX11_longestNow_1 rfl rfl ?_
  refine T_getfin dX11_longestNow_2 fX11_31 (by first | assumption | rfl) (by first | decide | omega) rfl (by first | assumption | rfl) ?_
  refine T_iconst dX11_longestNow_5 (inr rfl) ?_
  refine T_iloadn dX11_longestNow_6 rfl rfl ?_
  first | refine T_iaddN dX11_longestNow_7 (by omega) ?_ | refine T_iadd dX11_longestNow_7 ?_
  refine T_iald (j := 2 + p) dX11_longestNow_8 (by first | assumption | rfl) (by first | decide | omega) (by omega) (by omega) ?_
  refine TT_Vi dX11_longestNow_9 (r_longestOf c (c 130 (2 + p)) hb) kX11_208 (by decide) (by first | decide | omega) (by first | assumption | rfl) rfl (leb rfl) ?_
  refine T_istoren dX11_longestNow_12 rfl (by decide) rfl ?_
  refine T_iloadn dX11_longestNow_13 rfl rfl ?_
  refine T_if_ge (tgt := 21) dX11_longestNow_14 rfl (fun b14 => ?_) (fun b14 => ?_)
  · refine T_iloadn dX11_longestNow_21 rfl rfl ?_
    refine TT_ri dX11_longestNow_22 trivial ?_
    exact ro_q (by rw [if_neg (by omega)])
  · refine T_iconst dX11_longestNow_17 (inr rfl) ?_
    refine T_goto (tgt := 22) dX11_longestNow_18 rfl ?_
    refine TT_ri dX11_longestNow_22 trivial ?_
    exact ro_q (by rw [if_pos (by omega)])
