/-! the reference: what it tells -/
set_option maxHeartbeats 4000000 in
set_option maxRecDepth 100000 in
theorem y_stem (c : HC) (hg : RGV c) (s : Int) : RO mX11_stem 1 c [vr 122, vi s] (atF (c 122 2) (c 123) UNK s) := by
  obtain ⟨v1, v2, v3, v4, v5, v6⟩ := id hg
  refine CC.of (by decide +kernel) (leb rfl) (fun hok => ?_)
  unfold atF UNK
  refine T_iloadn dX11_stem_0 rfl rfl ?_
  refine T_i2l dX11_stem_1 ?_
  refine T_lconst (z := 0) dX11_stem_2 rfl (inl rfl) ?_
  refine T_aloadn dX11_stem_3 rfl rfl ?_
  first | refine T_getv dX11_stem_4 fX11_176 (by first | assumption | rfl) (by first | decide | omega) rfl (by assumption) ?_ | refine T_geti dX11_stem_4 fX11_176 (by first | assumption | rfl) (by first | decide | omega) rfl ?_
  refine T_iconst dX11_stem_7 (inr rfl) ?_
  first | refine T_isubN dX11_stem_8 (by omega) ?_ | refine T_isub dX11_stem_8 ?_
  refine T_i2l dX11_stem_9 ?_
  refine TT_Si dX11_stem_10 (r_in c s 0 (c 122 2 - 1)) kX11_96 (by decide) rfl (leb rfl) ?_
  refine T_if_eq (tgt := 25) dX11_stem_13 rfl (fun b13 => ?_) (fun b13 => ?_)
  · refine T_ldc dX11_stem_25 cX11_200 (inr rfl) ?_
    refine TT_ri dX11_stem_27 trivial ?_
    have hi := inF_f b13
    exact ro_q (by rw [if_pos (by omega)])
  · have hi := inF_t b13
    refine T_aloadn dX11_stem_16 rfl rfl ?_
    refine T_getfin dX11_stem_17 fX11_7 (by first | assumption | rfl) (by first | decide | omega) rfl (by first | assumption | rfl) ?_
    refine T_iloadn dX11_stem_20 rfl rfl ?_
    refine T_iald (j := s.toNat) dX11_stem_21 (by first | assumption | rfl) (by first | decide | omega) (by omega) (by omega) ?_
    refine T_goto (tgt := 27) dX11_stem_22 rfl ?_
    refine TT_ri dX11_stem_27 trivial ?_
    exact ro_q (by rw [if_neg (by omega)])
set_option maxHeartbeats 4000000 in
set_option maxRecDepth 100000 in
theorem y_ending (c : HC) (hg : RGV c) (s : Int) : RO mX11_ending 1 c [vr 122, vi s] (atF (c 122 4) (c 124) UNK s) := by
  obtain ⟨v1, v2, v3, v4, v5, v6⟩ := id hg
  refine CC.of (by decide +kernel) (leb rfl) (fun hok => ?_)
  unfold atF UNK
  refine T_iloadn dX11_ending_0 rfl rfl ?_
  refine T_i2l dX11_ending_1 ?_
  refine T_lconst (z := 0) dX11_ending_2 rfl (inl rfl) ?_
  refine T_aloadn dX11_ending_3 rfl rfl ?_
  first | refine T_getv dX11_ending_4 fX11_179 (by first | assumption | rfl) (by first | decide | omega) rfl (by assumption) ?_ | refine T_geti dX11_ending_4 fX11_179 (by first | assumption | rfl) (by first | decide | omega) rfl ?_
  refine T_iconst dX11_ending_7 (inr rfl) ?_
  first | refine T_isubN dX11_ending_8 (by omega) ?_ | refine T_isub dX11_ending_8 ?_
  refine T_i2l dX11_ending_9 ?_
  refine TT_Si dX11_ending_10 (r_in c s 0 (c 122 4 - 1)) kX11_96 (by decide) rfl (leb rfl) ?_
  refine T_if_eq (tgt := 25) dX11_ending_13 rfl (fun b13 => ?_) (fun b13 => ?_)
  · refine T_ldc dX11_ending_25 cX11_200 (inr rfl) ?_
    refine TT_ri dX11_ending_27 trivial ?_
    have hi := inF_f b13
    exact ro_q (by rw [if_pos (by omega)])
  · have hi := inF_t b13
    refine T_aloadn dX11_ending_16 rfl rfl ?_
    refine T_getfin dX11_ending_17 fX11_13 (by first | assumption | rfl) (by first | decide | omega) rfl (by first | assumption | rfl) ?_
    refine T_iloadn dX11_ending_20 rfl rfl ?_
    refine T_iald (j := s.toNat) dX11_ending_21 (by first | assumption | rfl) (by first | decide | omega) (by omega) (by omega) ?_
    refine T_goto (tgt := 27) dX11_ending_22 rfl ?_
    refine TT_ri dX11_ending_27 trivial ?_
    exact ro_q (by rw [if_neg (by omega)])
set_option maxHeartbeats 4000000 in
set_option maxRecDepth 100000 in
theorem y_howMany (c : HC) (l : Int) : RO mX11_howMany 1 c [vr 122, vi l] (hmF (c 141) l) := by
  refine CC.of (by decide +kernel) (leb rfl) (fun hok => ?_)
  unfold hmF OUT
  refine T_iloadn dX11_howMany_0 rfl rfl ?_
  refine T_i2l dX11_howMany_1 ?_
  refine T_lconst (z := 0) dX11_howMany_2 rfl (inl rfl) ?_
  refine T_ldc2 dX11_howMany_3 clX11_206 (inl rfl) ?_
  refine TT_Si dX11_howMany_6 (r_in c l 0 99) kX11_96 (by decide) rfl (leb rfl) ?_
  refine T_if_ne (tgt := 15) dX11_howMany_9 rfl (fun b9 => ?_) (fun b9 => ?_)
  · have hi := inF_t b9
    refine T_iloadn dX11_howMany_15 rfl rfl ?_
    refine T_bipush dX11_howMany_16 (bp8 rfl) (inr rfl) ?_
    refine T_icmp_gt (tgt := 30) dX11_howMany_18 rfl (fun b18 => ?_) (fun b18 => ?_)
    · refine T_iconst dX11_howMany_30 (inr rfl) ?_
      refine TT_ri dX11_howMany_31 trivial ?_
      exact ro_q (by rw [if_neg (by omega), if_pos (by omega)])
    · refine T_aloadn dX11_howMany_21 rfl rfl ?_
      refine T_getfin dX11_howMany_22 fX11_68 (by first | assumption | rfl) (by first | decide | omega) rfl (by first | assumption | rfl) ?_
      refine T_iloadn dX11_howMany_25 rfl rfl ?_
      refine T_iald (j := l.toNat) dX11_howMany_26 (by first | assumption | rfl) (by first | decide | omega) (by omega) (by omega) ?_
      refine T_goto (tgt := 31) dX11_howMany_27 rfl ?_
      refine TT_ri dX11_howMany_31 trivial ?_
      exact ro_q (by rw [if_neg (by omega), if_neg (by omega)])
  · refine T_ldc dX11_howMany_12 cX11_106 (inr rfl) ?_
    refine TT_ri dX11_howMany_14 trivial ?_
    have hi := inF_f b9
    exact ro_q (by rw [if_pos (by omega)])
set_option maxHeartbeats 4000000 in
set_option maxRecDepth 100000 in
theorem y_said (c : HC) (hw : 0 ≤ c 130 12 ∧ c 130 12 ≤ 40) (k : Int) : RO mX11_said 1 c [vr 122, vi k] (atF (c 130 12) (fun j => c 130 (13 + j)) (-1) k) := by
  refine CC.of (by decide +kernel) (leb rfl) (fun hok => ?_)
  unfold atF
  refine T_iloadn dX11_said_0 rfl rfl ?_
  refine T_i2l dX11_said_1 ?_
  refine T_lconst (z := 0) dX11_said_2 rfl (inl rfl) ?_
  refine T_aloadn dX11_said_3 rfl rfl ?_
  refine T_getfin dX11_said_4 fX11_31 (by first | assumption | rfl) (by first | decide | omega) rfl (by first | assumption | rfl) ?_
  refine T_bipush dX11_said_7 (bp8 rfl) (inr rfl) ?_
  refine T_iald (j := 12) dX11_said_9 (by first | assumption | rfl) (by first | decide | omega) (by omega) (by omega) ?_
  refine T_iconst dX11_said_10 (inr rfl) ?_
  first | refine T_isubN dX11_said_11 (by omega) ?_ | refine T_isub dX11_said_11 ?_
  refine T_i2l dX11_said_12 ?_
  refine TT_Si dX11_said_13 (r_in c k 0 (c 130 12 - 1)) kX11_96 (by decide) rfl (leb rfl) ?_
  refine T_if_eq (tgt := 31) dX11_said_16 rfl (fun b16 => ?_) (fun b16 => ?_)
  · refine T_iconst dX11_said_31 (inr rfl) ?_
    refine TT_ri dX11_said_32 trivial ?_
    have hi := inF_f b16
    exact ro_q (by rw [if_pos (by omega)])
  · have hi := inF_t b16
    refine T_aloadn dX11_said_19 rfl rfl ?_
    refine T_getfin dX11_said_20 fX11_31 (by first | assumption | rfl) (by first | decide | omega) rfl (by first | assumption | rfl) ?_
    refine T_bipush dX11_said_23 (bp8 rfl) (inr rfl) ?_
    refine T_iloadn dX11_said_25 rfl rfl ?_
    first | refine T_iaddN dX11_said_26 (by omega) ?_ | refine T_iadd dX11_said_26 ?_
    refine T_iald (j := 13 + k.toNat) dX11_said_27 (by first | assumption | rfl) (by first | decide | omega) (by omega) (by omega) ?_
    refine T_goto (tgt := 32) dX11_said_28 rfl ?_
    refine TT_ri dX11_said_32 trivial ?_
    exact ro_q (by rw [if_neg (by omega)])
set_option maxHeartbeats 4000000 in
set_option maxRecDepth 100000 in
theorem y_fault (c : HC) : RO mX11_fault 0 c [vr 122] (c 122 16) := by
  refine CC.of (by decide +kernel) (leb rfl) (fun hok => ?_)
  refine T_aloadn dX11_fault_0 rfl rfl ?_
  first | refine T_getv dX11_fault_1 fX11_37 (by first | assumption | rfl) (by first | decide | omega) rfl (by assumption) ?_ | refine T_geti dX11_fault_1 fX11_37 (by first | assumption | rfl) (by first | decide | omega) rfl ?_
  refine TT_ri dX11_fault_4 trivial ?_
  exact ro_q rfl
set_option maxHeartbeats 4000000 in
set_option maxRecDepth 100000 in
theorem y_length (c : HC) (hg : RGV c) (w : Int) : RO mX11_length 2 c [vr 122, vi w] (lenR c w) := by
  refine CC.of (by decide +kernel) (leb rfl) (fun hok => ?_)
  refine T_aloadn dX11_length_0 rfl rfl ?_
  refine T_iloadn dX11_length_1 rfl rfl ?_
  refine TT_Vi dX11_length_2 (r_lengthOf c hg w) kX11_201 (by decide) (by first | decide | omega) (by first | assumption | rfl) rfl (leb rfl) ?_
  refine TT_ri dX11_length_5 trivial ?_
  exact ro_q rfl
