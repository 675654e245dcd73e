/-! the reference: even, judge, coughs -/
set_option maxHeartbeats 4000000 in
set_option maxRecDepth 100000 in
theorem y_even (c : HC) {n : Nat} (hv : RSV c n) (w : Int) : RO mX11_even 1 c [vr 122, vi w] (evenF (wsU (c 125) (c 127) 0 n) (wsU (c 125) (c 127) 1 n) w) := by
  have hb0 := wsU_bd (sd := c 125) (wt := c 127) (s := 0) (m := n) (fun p hp => (hv.2.2 p hp).2.2.1) n (Nat.le_refl _)
  have hb1 := wsU_bd (sd := c 125) (wt := c 127) (s := 1) (m := n) (fun p hp => (hv.2.2 p hp).2.2.1) n (Nat.le_refl _)
  have hn10 := hv.2.1
  refine CC.of (by decide +kernel) (leb rfl) (fun hok => ?_)
  unfold evenF OUT
  refine T_iloadn dX11_even_0 rfl rfl ?_
  refine T_i2l dX11_even_1 ?_
  refine T_lconst (z := 0) dX11_even_2 rfl (inl rfl) ?_
  refine T_lconst (z := 1) dX11_even_3 rfl (inl rfl) ?_
  refine TT_Si dX11_even_4 (r_in c w 0 1) kX11_96 (by decide) rfl (leb rfl) ?_
  refine T_if_ne (tgt := 13) dX11_even_7 rfl (fun b7 => ?_) (fun b7 => ?_)
  · have hi := inF_t b7
    refine T_aloadn dX11_even_13 rfl rfl ?_
    refine T_iconst dX11_even_14 (inr rfl) ?_
    refine TT_Vi dX11_even_15 (r_weight c hv 1) kX11_281 (by decide) (by first | decide | omega) (by first | assumption | rfl) rfl (leb rfl) ?_
    refine T_aloadn dX11_even_18 rfl rfl ?_
    refine T_iconst dX11_even_19 (inr rfl) ?_
    refine TT_Vi dX11_even_20 (r_weight c hv 0) kX11_281 (by decide) (by first | decide | omega) (by first | assumption | rfl) rfl (leb rfl) ?_
    first | refine T_isubN dX11_even_23 (by omega) ?_ | refine T_isub dX11_even_23 ?_
    refine T_istoren dX11_even_24 rfl (by decide) rfl ?_
    refine T_iloadn dX11_even_25 rfl rfl ?_
    refine T_iconst dX11_even_26 (inr rfl) ?_
    refine T_icmp_ne (tgt := 41) dX11_even_27 rfl (fun b27 => ?_) (fun b27 => ?_)
    · refine T_iloadn dX11_even_41 rfl rfl ?_
      refine T_if_le (tgt := 49) dX11_even_42 rfl (fun b42 => ?_) (fun b42 => ?_)
      · refine T_iloadn dX11_even_49 rfl rfl ?_
        refine T_if_ge (tgt := 57) dX11_even_50 rfl (fun b50 => ?_) (fun b50 => ?_)
        · refine T_iconst dX11_even_57 (inr rfl) ?_
          refine TT_ri dX11_even_58 trivial ?_
          refine ro_q ?_
          rw [if_neg (by omega), if_neg b27]
          rw [if_pos (by omega)]
        · refine T_iconst dX11_even_53 (inr rfl) ?_
          refine T_goto (tgt := 58) dX11_even_54 rfl ?_
          refine TT_ri dX11_even_58 trivial ?_
          refine ro_q ?_
          rw [if_neg (by omega), if_neg b27]
          rw [if_neg (by omega), if_neg (by omega)]
      · refine T_iconst dX11_even_45 (inr rfl) ?_
        refine T_goto (tgt := 58) dX11_even_46 rfl ?_
        refine TT_ri dX11_even_58 trivial ?_
        refine ro_q ?_
        rw [if_neg (by omega), if_neg b27]
        rw [if_neg (by omega), if_pos (by omega)]
    · refine T_iloadn dX11_even_30 rfl rfl ?_
      refine T_if_ge (tgt := 39) dX11_even_31 rfl (fun b31 => ?_) (fun b31 => ?_)
      · refine T_iloadn dX11_even_39 rfl rfl ?_
        refine TT_ri dX11_even_40 trivial ?_
        refine ro_q ?_
        rw [if_neg (by omega), if_pos b27]
        unfold iabs
        by_cases hz : 0 ≤ wsU (c 125) (c 127) 0 n - wsU (c 125) (c 127) 1 n
        · rw [if_pos hz]; omega
        · rw [if_neg hz, wr_id (by omega) (by omega)]; omega
      · refine T_iloadn dX11_even_34 rfl rfl ?_
        first | refine T_inegN dX11_even_35 (by omega) ?_ | refine T_ineg dX11_even_35 ?_
        refine T_goto (tgt := 40) dX11_even_36 rfl ?_
        refine TT_ri dX11_even_40 trivial ?_
        refine ro_q ?_
        rw [if_neg (by omega), if_pos b27]
        unfold iabs
        by_cases hz : 0 ≤ wsU (c 125) (c 127) 0 n - wsU (c 125) (c 127) 1 n
        · rw [if_pos hz]; omega
        · rw [if_neg hz, wr_id (by omega) (by omega)]; omega
  · refine T_ldc dX11_even_10 cX11_106 (inr rfl) ?_
    refine TT_ri dX11_even_12 trivial ?_
    have hi := inF_f b7
    exact ro_q (by rw [if_pos (by omega)])
set_option maxHeartbeats 4000000 in
set_option maxRecDepth 100000 in
theorem yl_judge (c : HC) (n : Nat) (hn : c 122 39 = (n : Int)) (h15 : n ≤ 15) : ∀ (k i : Nat), i + k = n → TT mX11_judge 0 2 [(0, vr 122), (1, vi (i : Int))] [] c (fun v c1 => v = some (vi (jdL (c 145) (c 146) (c 130 1) (c 130 0) k i)) ∧ c1 = c) := by
  intro k
  induction k with
  | zero =>
    intro i hk
    refine T_iloadn dX11_judge_2 rfl rfl ?_
    refine T_aloadn dX11_judge_3 rfl rfl ?_
    refine T_getv dX11_judge_4 fX11_194 (by first | assumption | rfl) (by first | decide | omega) rfl hn ?_
    refine T_icmp_ge (tgt := 48) dX11_judge_7 rfl (fun b7 => ?_) (fun b7 => absurd b7 (by omega))
    refine T_iconst dX11_judge_48 (inr rfl) ?_
    refine TT_ri dX11_judge_49 trivial ?_
    exact ro_q rfl
  | succ k ih =>
    intro i hk
    have h := ih (i + 1) (by omega)
    rw [jdL.eq_2]
    refine T_iloadn dX11_judge_2 rfl rfl ?_
    refine T_aloadn dX11_judge_3 rfl rfl ?_
    refine T_getv dX11_judge_4 fX11_194 (by first | assumption | rfl) (by first | decide | omega) rfl hn ?_
    refine T_icmp_ge (tgt := 48) dX11_judge_7 rfl (fun b7 => absurd b7 (by omega)) (fun b7 => ?_)
    refine T_aloadn dX11_judge_10 rfl rfl ?_
    refine T_getfin dX11_judge_11 fX11_80 (by first | assumption | rfl) (by first | decide | omega) rfl (by first | assumption | rfl) ?_
    refine T_iloadn dX11_judge_14 rfl rfl ?_
    refine T_iald (j := i) dX11_judge_15 (by first | assumption | rfl) (by first | decide | omega) (by omega) (by omega) ?_
    refine T_aloadn dX11_judge_16 rfl rfl ?_
    refine T_getfin dX11_judge_17 fX11_31 (by first | assumption | rfl) (by first | decide | omega) rfl (by first | assumption | rfl) ?_
    refine T_iconst dX11_judge_20 (inr rfl) ?_
    refine T_iald (j := 1) dX11_judge_21 (by first | assumption | rfl) (by first | decide | omega) (by omega) (by omega) ?_
    refine T_icmp_ne (tgt := 42) dX11_judge_22 rfl (fun b22 => ?_) (fun b22 => ?_)
    · refine T_iincN dX11_judge_42 rfl (by decide) rfl (by omega) ?_
      refine T_goto (tgt := 2) dX11_judge_45 rfl ?_
      rw [if_neg (fun z => b22 z.1)]
      exact h
    · refine T_aloadn dX11_judge_25 rfl rfl ?_
      refine T_getfin dX11_judge_26 fX11_83 (by first | assumption | rfl) (by first | decide | omega) rfl (by first | assumption | rfl) ?_
      refine T_iloadn dX11_judge_29 rfl rfl ?_
      refine T_iald (j := i) dX11_judge_30 (by first | assumption | rfl) (by first | decide | omega) (by omega) (by omega) ?_
      refine T_aloadn dX11_judge_31 rfl rfl ?_
      refine T_getfin dX11_judge_32 fX11_31 (by first | assumption | rfl) (by first | decide | omega) rfl (by first | assumption | rfl) ?_
      refine T_iconst dX11_judge_35 (inr rfl) ?_
      refine T_iald (j := 0) dX11_judge_36 (by first | assumption | rfl) (by first | decide | omega) (by omega) (by omega) ?_
      refine T_icmp_eq (tgt := 42) dX11_judge_37 rfl (fun b37 => ?_) (fun b37 => ?_)
      · refine T_iincN dX11_judge_42 rfl (by decide) rfl (by omega) ?_
        refine T_goto (tgt := 2) dX11_judge_45 rfl ?_
        rw [if_neg (fun z => z.2 b37)]
        exact h
      · refine T_iloadn dX11_judge_40 rfl rfl ?_
        refine TT_ri dX11_judge_41 trivial ?_
        exact ro_q (by rw [if_pos ⟨b22, b37⟩])
set_option maxHeartbeats 4000000 in
set_option maxRecDepth 100000 in
theorem y_judge (c : HC) (n : Nat) (hn : c 122 39 = (n : Int)) (h15 : n ≤ 15) : RO mX11_judge 0 c [vr 122] (jdL (c 145) (c 146) (c 130 1) (c 130 0) n 0) := by
  refine CC.of (by decide +kernel) (leb rfl) (fun hok => ?_)
  refine T_iconst dX11_judge_0 (inr rfl) ?_
  refine T_istoren dX11_judge_1 rfl (by decide) rfl ?_
  exact yl_judge c n hn h15 n 0 (by omega)
