/-! the reference: speakers, pulls -/
set_option maxHeartbeats 4000000 in
set_option maxRecDepth 100000 in
theorem rl_many (c : HC) {n : Nat} (hv : RSV c n) (s : Int) : ∀ (k i : Nat), i + k = n → TT mX11_manyOfSide 0 4 [(0, vr 122), (1, vi s), (2, vi (cntU (c 125) s i)), (3, vi (i : Int))] [] c (fun v c1 => v = some (vi (cntU (c 125) s n)) ∧ c1 = c) := by
  obtain ⟨hn, hn10, hv⟩ := id hv
  intro k
  induction k with
  | zero =>
    intro i hk
    have e : i = n := by omega
    subst e
    refine T_iloadn dX11_manyOfSide_4 rfl rfl ?_
    refine T_aloadn dX11_manyOfSide_5 rfl rfl ?_
    refine T_getv dX11_manyOfSide_6 fX11_93 (by first | assumption | rfl) (by first | decide | omega) rfl hn ?_
    refine T_icmp_ge (tgt := 36) dX11_manyOfSide_9 rfl (fun b9 => ?_) (fun b9 => absurd b9 (by omega))
    refine T_iloadn dX11_manyOfSide_36 rfl rfl ?_
    refine TT_ri dX11_manyOfSide_37 trivial ?_
    exact ro_q rfl
  | succ k ih =>
    intro i hk
    have hb := cntU_bd (c 125) s i
    have h := ih (i + 1) (by omega)
    rw [cntU.eq_2] at h
    refine T_iloadn dX11_manyOfSide_4 rfl rfl ?_
    refine T_aloadn dX11_manyOfSide_5 rfl rfl ?_
    refine T_getv dX11_manyOfSide_6 fX11_93 (by first | assumption | rfl) (by first | decide | omega) rfl hn ?_
    refine T_icmp_ge (tgt := 36) dX11_manyOfSide_9 rfl (fun b9 => absurd b9 (by omega)) (fun b9 => ?_)
    refine T_iloadn dX11_manyOfSide_12 rfl rfl ?_
    refine T_aloadn dX11_manyOfSide_13 rfl rfl ?_
    refine T_getfin dX11_manyOfSide_14 fX11_16 (by first | assumption | rfl) (by first | decide | omega) rfl (by first | assumption | rfl) ?_
    refine T_iloadn dX11_manyOfSide_17 rfl rfl ?_
    refine T_iald (j := i) dX11_manyOfSide_18 (by first | assumption | rfl) (by first | decide | omega) (by omega) (by omega) ?_
    refine T_iloadn dX11_manyOfSide_19 rfl rfl ?_
    refine T_icmp_ne (tgt := 27) dX11_manyOfSide_20 rfl (fun b20 => ?_) (fun b20 => ?_)
    · refine T_iconst dX11_manyOfSide_27 (inr rfl) ?_
      first | refine T_iaddN dX11_manyOfSide_28 (by omega) ?_ | refine T_iadd dX11_manyOfSide_28 ?_
      refine T_istoren dX11_manyOfSide_29 rfl (by decide) rfl ?_
      refine T_iincN dX11_manyOfSide_30 rfl (by decide) rfl (by omega) ?_
      refine T_goto (tgt := 4) dX11_manyOfSide_33 rfl ?_
      refine T_keep [0, 1, 2, 3] ?_
      rw [if_neg b20] at h
      rw [Int.add_zero]
      exact h
    · refine T_iconst dX11_manyOfSide_23 (inr rfl) ?_
      refine T_goto (tgt := 28) dX11_manyOfSide_24 rfl ?_
      first | refine T_iaddN dX11_manyOfSide_28 (by omega) ?_ | refine T_iadd dX11_manyOfSide_28 ?_
      refine T_istoren dX11_manyOfSide_29 rfl (by decide) rfl ?_
      refine T_iincN dX11_manyOfSide_30 rfl (by decide) rfl (by omega) ?_
      refine T_goto (tgt := 4) dX11_manyOfSide_33 rfl ?_
      refine T_keep [0, 1, 2, 3] ?_
      rw [if_pos b20] at h
      exact h
set_option maxHeartbeats 4000000 in
set_option maxRecDepth 100000 in
theorem r_many (c : HC) {n : Nat} (hv : RSV c n) (s : Int) : RO mX11_manyOfSide 0 c [vr 122, vi s] (cntU (c 125) s n) := by
  refine CC.of (by decide +kernel) (leb rfl) (fun hok => ?_)
  refine T_iconst dX11_manyOfSide_0 (inr rfl) ?_
  refine T_istoren dX11_manyOfSide_1 rfl (by decide) rfl ?_
  refine T_iconst dX11_manyOfSide_2 (inr rfl) ?_
  refine T_istoren dX11_manyOfSide_3 rfl (by decide) rfl ?_
  exact rl_many c hv s n 0 (by omega)
set_option maxHeartbeats 4000000 in
set_option maxRecDepth 100000 in
theorem rl_nth (c : HC) {n : Nat} (hv : RSV c n) (s j : Int) : ∀ (k i : Nat) (le : Int), i + k = n → 0 ≤ le → le ≤ 1000 → TT mX11_speakerOf 0 5 [(0, vr 122), (1, vi s), (2, vi j), (3, vi le), (4, vi (i : Int))] [] c (fun v c1 => v = some (vi (nthL (c 125) s (-1) k i le)) ∧ c1 = c) := by
  obtain ⟨hn, hn10, hv⟩ := id hv
  intro k
  induction k with
  | zero =>
    intro i le hk h1 h2
    refine T_iload dX11_speakerOf_5 rfl ?_
    refine T_aloadn dX11_speakerOf_7 rfl rfl ?_
    refine T_getv dX11_speakerOf_8 fX11_93 (by first | assumption | rfl) (by first | decide | omega) rfl hn ?_
    refine T_icmp_ge (tgt := 41) dX11_speakerOf_11 rfl (fun b11 => ?_) (fun b11 => absurd b11 (by omega))
    refine T_iconst dX11_speakerOf_41 (inr rfl) ?_
    refine TT_ri dX11_speakerOf_42 trivial ?_
    exact ro_q rfl
  | succ k ih =>
    intro i le hk h1 h2
    rw [nthL.eq_2]
    refine T_iload dX11_speakerOf_5 rfl ?_
    refine T_aloadn dX11_speakerOf_7 rfl rfl ?_
    refine T_getv dX11_speakerOf_8 fX11_93 (by first | assumption | rfl) (by first | decide | omega) rfl hn ?_
    refine T_icmp_ge (tgt := 41) dX11_speakerOf_11 rfl (fun b11 => absurd b11 (by omega)) (fun b11 => ?_)
    refine T_aloadn dX11_speakerOf_14 rfl rfl ?_
    refine T_getfin dX11_speakerOf_15 fX11_16 (by first | assumption | rfl) (by first | decide | omega) rfl (by first | assumption | rfl) ?_
    refine T_iload dX11_speakerOf_18 rfl ?_
    refine T_iald (j := i) dX11_speakerOf_20 (by first | assumption | rfl) (by first | decide | omega) (by omega) (by omega) ?_
    refine T_iloadn dX11_speakerOf_21 rfl rfl ?_
    refine T_icmp_ne (tgt := 35) dX11_speakerOf_22 rfl (fun b22 => ?_) (fun b22 => ?_)
    · refine T_iincN dX11_speakerOf_35 rfl (by decide) rfl (by omega) ?_
      refine T_goto (tgt := 5) dX11_speakerOf_38 rfl ?_
      refine T_keep [0, 1, 2, 3, 4] ?_
      rw [if_neg b22]
      exact ih (i + 1) le (by omega) (by omega) (by omega)
    · refine T_iloadn dX11_speakerOf_25 rfl rfl ?_
      refine T_if_ne (tgt := 32) dX11_speakerOf_26 rfl (fun b26 => ?_) (fun b26 => ?_)
      · refine T_iincN dX11_speakerOf_32 rfl (by decide) rfl (by omega) ?_
        refine T_iincN dX11_speakerOf_35 rfl (by decide) rfl (by omega) ?_
        refine T_goto (tgt := 5) dX11_speakerOf_38 rfl ?_
        refine T_keep [0, 1, 2, 3, 4] ?_
        rw [if_pos b22, if_neg b26]
        exact ih (i + 1) (le - 1) (by omega) (by omega) (by omega)
      · refine T_iload dX11_speakerOf_29 rfl ?_
        refine TT_ri dX11_speakerOf_31 trivial ?_
        exact ro_q (by rw [if_pos b22, if_pos b26])
set_option maxHeartbeats 4000000 in
set_option maxRecDepth 100000 in
theorem r_nth (c : HC) {n : Nat} (hv : RSV c n) (s j : Int) (hj : 0 ≤ j ∧ j ≤ 1000) : RO mX11_speakerOf 0 c [vr 122, vi s, vi j] (nthL (c 125) s (-1) n 0 j) := by
  refine CC.of (by decide +kernel) (leb rfl) (fun hok => ?_)
  refine T_iloadn dX11_speakerOf_0 rfl rfl ?_
  refine T_istoren dX11_speakerOf_1 rfl (by decide) rfl ?_
  refine T_iconst dX11_speakerOf_2 (inr rfl) ?_
  refine T_istore dX11_speakerOf_3 (by decide) rfl ?_
  exact rl_nth c hv s j n 0 j (by omega) (by omega) (by omega)
set_option maxHeartbeats 4000000 in
set_option maxRecDepth 100000 in
theorem rl_weight (c : HC) {n : Nat} (hv : RSV c n) (s : Int) : ∀ (k i : Nat), i + k = n → TT mX11_weightOf 0 4 [(0, vr 122), (1, vi s), (2, vi (wsU (c 125) (c 127) s i)), (3, vi (i : Int))] [] c (fun v c1 => v = some (vi (wsU (c 125) (c 127) s n)) ∧ c1 = c) := by
  obtain ⟨hn, hn10, hv⟩ := id hv
  intro k
  induction k with
  | zero =>
    intro i hk
    have e : i = n := by omega
    subst e
    refine T_iloadn dX11_weightOf_4 rfl rfl ?_
    refine T_aloadn dX11_weightOf_5 rfl rfl ?_
    refine T_getv dX11_weightOf_6 fX11_93 (by first | assumption | rfl) (by first | decide | omega) rfl hn ?_
    refine T_icmp_ge (tgt := 41) dX11_weightOf_9 rfl (fun b9 => ?_) (fun b9 => absurd b9 (by omega))
    refine T_iloadn dX11_weightOf_41 rfl rfl ?_
    refine TT_ri dX11_weightOf_42 trivial ?_
    exact ro_q rfl
  | succ k ih =>
    intro i hk
    have hb := wsU_bd (sd := c 125) (wt := c 127) (s := s) (m := n) (fun p hp => (hv p hp).2.2.1) i (by omega)
    have hw := (hv i (by omega)).2.2.1
    have h := ih (i + 1) (by omega)
    rw [wsU.eq_2] at h
    refine T_iloadn dX11_weightOf_4 rfl rfl ?_
    refine T_aloadn dX11_weightOf_5 rfl rfl ?_
    refine T_getv dX11_weightOf_6 fX11_93 (by first | assumption | rfl) (by first | decide | omega) rfl hn ?_
    refine T_icmp_ge (tgt := 41) dX11_weightOf_9 rfl (fun b9 => absurd b9 (by omega)) (fun b9 => ?_)
    refine T_iloadn dX11_weightOf_12 rfl rfl ?_
    refine T_aloadn dX11_weightOf_13 rfl rfl ?_
    refine T_getfin dX11_weightOf_14 fX11_16 (by first | assumption | rfl) (by first | decide | omega) rfl (by first | assumption | rfl) ?_
    refine T_iloadn dX11_weightOf_17 rfl rfl ?_
    refine T_iald (j := i) dX11_weightOf_18 (by first | assumption | rfl) (by first | decide | omega) (by omega) (by omega) ?_
    refine T_iloadn dX11_weightOf_19 rfl rfl ?_
    refine T_icmp_ne (tgt := 32) dX11_weightOf_20 rfl (fun b20 => ?_) (fun b20 => ?_)
    · refine T_iconst dX11_weightOf_32 (inr rfl) ?_
      first | refine T_iaddN dX11_weightOf_33 (by omega) ?_ | refine T_iadd dX11_weightOf_33 ?_
      refine T_istoren dX11_weightOf_34 rfl (by decide) rfl ?_
      refine T_iincN dX11_weightOf_35 rfl (by decide) rfl (by omega) ?_
      refine T_goto (tgt := 4) dX11_weightOf_38 rfl ?_
      refine T_keep [0, 1, 2, 3] ?_
      rw [if_neg b20] at h
      rw [Int.add_zero]
      exact h
    · refine T_aloadn dX11_weightOf_23 rfl rfl ?_
      refine T_getfin dX11_weightOf_24 fX11_22 (by first | assumption | rfl) (by first | decide | omega) rfl (by first | assumption | rfl) ?_
      refine T_iloadn dX11_weightOf_27 rfl rfl ?_
      refine T_iald (j := i) dX11_weightOf_28 (by first | assumption | rfl) (by first | decide | omega) (by omega) (by omega) ?_
      refine T_goto (tgt := 33) dX11_weightOf_29 rfl ?_
      first | refine T_iaddN dX11_weightOf_33 (by omega) ?_ | refine T_iadd dX11_weightOf_33 ?_
      refine T_istoren dX11_weightOf_34 rfl (by decide) rfl ?_
      refine T_iincN dX11_weightOf_35 rfl (by decide) rfl (by omega) ?_
      refine T_goto (tgt := 4) dX11_weightOf_38 rfl ?_
      refine T_keep [0, 1, 2, 3] ?_
      rw [if_pos b20] at h
      exact h
set_option maxHeartbeats 4000000 in
set_option maxRecDepth 100000 in
theorem r_weight (c : HC) {n : Nat} (hv : RSV c n) (s : Int) : RO mX11_weightOf 0 c [vr 122, vi s] (wsU (c 125) (c 127) s n) := by
  refine CC.of (by decide +kernel) (leb rfl) (fun hok => ?_)
  refine T_iconst dX11_weightOf_0 (inr rfl) ?_
  refine T_istoren dX11_weightOf_1 rfl (by decide) rfl ?_
  refine T_iconst dX11_weightOf_2 (inr rfl) ?_
  refine T_istoren dX11_weightOf_3 rfl (by decide) rfl ?_
  exact rl_weight c hv s n 0 (by omega)
def heldF (v : Int) : Int := if 500 < v then 500 else if v < -500 then -500 else v
set_option maxHeartbeats 4000000 in
set_option maxRecDepth 100000 in
theorem r_held (c : HC) (v : Int) : RO mX11_held 0 c [vi v] (heldF v) := by
  refine CC.of (by decide +kernel) (leb rfl) (fun hok => ?_)
  unfold heldF
  refine T_iloadn dX11_held_0 rfl rfl ?_
  refine T_sipush dX11_held_1 (bp16 rfl) (inr rfl) ?_
  refine T_icmp_le (tgt := 13) dX11_held_4 rfl (fun b4 => ?_) (fun b4 => ?_)
  · refine T_iloadn dX11_held_13 rfl rfl ?_
    refine T_sipush dX11_held_14 (bp16 rfl) (inr rfl) ?_
    refine T_icmp_ge (tgt := 26) dX11_held_17 rfl (fun b17 => ?_) (fun b17 => ?_)
    · refine T_iloadn dX11_held_26 rfl rfl ?_
      refine TT_ri dX11_held_27 trivial ?_
      exact ro_q (by rw [if_neg (by omega), if_neg (by omega)])
    · refine T_sipush dX11_held_20 (bp16 rfl) (inr rfl) ?_
      refine T_goto (tgt := 27) dX11_held_23 rfl ?_
      refine TT_ri dX11_held_27 trivial ?_
      exact ro_q (by rw [if_neg (by omega), if_pos (by omega)])
  · refine T_sipush dX11_held_7 (bp16 rfl) (inr rfl) ?_
    refine T_goto (tgt := 27) dX11_held_10 rfl ?_
    refine TT_ri dX11_held_27 trivial ?_
    exact ro_q (by rw [if_pos (by omega)])
set_option maxHeartbeats 4000000 in
set_option maxRecDepth 100000 in
theorem r_pullOf (c : HC) (p : Nat) (hp : p < 10) (a : Int) : RO mX11_pullOf 0 c [vr 122, vi (p : Int), vi a] (pullF (c 122 1) a (c 127 p)) := by
  refine CC.of (by decide +kernel) (leb rfl) (fun hok => ?_)
  unfold pullF imax
  refine T_iloadn dX11_pullOf_0 rfl rfl ?_
  refine T_bipush dX11_pullOf_1 (bp8 rfl) (inr rfl) ?_
  refine T_aloadn dX11_pullOf_3 rfl rfl ?_
  refine T_getfin dX11_pullOf_4 fX11_22 (by first | assumption | rfl) (by first | decide | omega) rfl (by first | assumption | rfl) ?_
  refine T_iloadn dX11_pullOf_7 rfl rfl ?_
  refine T_iald (j := p) dX11_pullOf_8 (by first | assumption | rfl) (by first | decide | omega) (by omega) (by omega) ?_
  refine T_bipush dX11_pullOf_9 (bp8 rfl) (inr rfl) ?_
  first | refine T_idivN dX11_pullOf_11 (by omega) (by omega) ?_ | refine T_idiv dX11_pullOf_11 (by omega) ?_
  refine T_iadd dX11_pullOf_12 ?_
  refine T_imul dX11_pullOf_13 ?_
  refine T_bipush dX11_pullOf_14 (bp8 rfl) (inr rfl) ?_
  first | refine T_idivN dX11_pullOf_16 (by omega) (by omega) ?_ | refine T_idiv dX11_pullOf_16 (by omega) ?_
  refine T_aloadn dX11_pullOf_17 rfl rfl ?_
  first | refine T_getv dX11_pullOf_18 fX11_173 (by first | assumption | rfl) (by first | decide | omega) rfl (by assumption) ?_ | refine T_geti dX11_pullOf_18 fX11_173 (by first | assumption | rfl) (by first | decide | omega) rfl ?_
  refine T_isub dX11_pullOf_21 ?_
  refine T_istoren dX11_pullOf_22 rfl (by decide) rfl ?_
  refine T_iloadn dX11_pullOf_23 rfl rfl ?_
  refine T_if_le (tgt := 35) dX11_pullOf_24 rfl (fun b24 => ?_) (fun b24 => ?_)
  · refine T_iconst dX11_pullOf_35 (inr rfl) ?_
    refine TT_ri dX11_pullOf_36 trivial ?_
    exact ro_q (by rw [if_neg (by omega)])
  · refine T_iloadn dX11_pullOf_27 rfl rfl ?_
    refine T_if_le (tgt := 35) dX11_pullOf_28 rfl (fun b28 => ?_) (fun b28 => ?_)
    · refine T_iconst dX11_pullOf_35 (inr rfl) ?_
      refine TT_ri dX11_pullOf_36 trivial ?_
      exact ro_q (by rw [if_pos (by omega), if_neg (by omega)])
    · refine T_iloadn dX11_pullOf_31 rfl rfl ?_
      refine T_goto (tgt := 36) dX11_pullOf_32 rfl ?_
      refine TT_ri dX11_pullOf_36 trivial ?_
      exact ro_q (by rw [if_pos (by omega), if_pos (by omega)])
