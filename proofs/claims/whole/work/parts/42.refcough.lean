/-! the reference: coughs -/
set_option maxHeartbeats 4000000 in
set_option maxRecDepth 100000 in
theorem yl_coughs (c : HC) {n : Nat} (hv : RSV c n) (x : Int) : ∀ (k i : Nat), i + k = n → TT mX11_coughs 1 28 [(0, vr 122), (1, vi x), (2, vl (odU (c 128) x i)), (4, vi (i : Int))] [] c (fun v c1 => v = some (vi (wr (odU (c 128) x n))) ∧ c1 = c) := by
  obtain ⟨hn, hn10, hv⟩ := id hv
  intro k
  induction k with
  | zero =>
    intro i hk
    have e : i = n := by omega
    subst e
    refine T_iload dX11_coughs_28 rfl ?_
    refine T_aloadn dX11_coughs_30 rfl rfl ?_
    refine T_getv dX11_coughs_31 fX11_93 (by first | assumption | rfl) (by first | decide | omega) rfl hn ?_
    refine T_icmp_ge (tgt := 74) dX11_coughs_34 rfl (fun b34 => ?_) (fun b34 => absurd b34 (by omega))
    refine T_lloadn dX11_coughs_74 rfl rfl ?_
    refine T_l2i dX11_coughs_75 ?_
    refine TT_ri dX11_coughs_76 trivial ?_
    exact ro_q rfl
  | succ k ih =>
    intro i hk
    have h := ih (i + 1) (by omega)
    have hc := (hv i (by omega)).2.2.2
    rw [odU.eq_2] at h
    refine T_iload dX11_coughs_28 rfl ?_
    refine T_aloadn dX11_coughs_30 rfl rfl ?_
    refine T_getv dX11_coughs_31 fX11_93 (by first | assumption | rfl) (by first | decide | omega) rfl hn ?_
    refine T_icmp_ge (tgt := 74) dX11_coughs_34 rfl (fun b34 => absurd b34 (by omega)) (fun b34 => ?_)
    refine T_iloadn dX11_coughs_37 rfl rfl ?_
    refine T_iload dX11_coughs_38 rfl ?_
    refine TT_Si dX11_coughs_40 (r_has c x (i : Int) (by omega)) kX11_151 (by decide) rfl (leb rfl) ?_
    refine T_if_eq (tgt := 66) dX11_coughs_43 rfl (fun b43 => ?_) (fun b43 => ?_)
    · refine T_lloadn dX11_coughs_66 rfl rfl ?_
      refine T_lstoren dX11_coughs_67 rfl (by decide) rfl ?_
      refine T_iincN dX11_coughs_68 rfl (by decide) rfl (by omega) ?_
      refine T_goto (tgt := 28) dX11_coughs_71 rfl ?_
      refine T_keep [0, 1, 2, 4] ?_
      rw [if_neg (by rw [b43]; decide)] at h
      exact h
    · refine T_lloadn dX11_coughs_46 rfl rfl ?_
      refine T_bipush dX11_coughs_47 (bp8 rfl) (inr rfl) ?_
      refine T_aloadn dX11_coughs_49 rfl rfl ?_
      refine T_getfin dX11_coughs_50 fX11_25 (by first | assumption | rfl) (by first | decide | omega) rfl (by first | assumption | rfl) ?_
      refine T_iload dX11_coughs_53 rfl ?_
      refine T_iald (j := i) dX11_coughs_55 (by first | assumption | rfl) (by first | decide | omega) (by omega) (by omega) ?_
      first | refine T_isubN dX11_coughs_56 (by omega) ?_ | refine T_isub dX11_coughs_56 ?_
      refine T_i2l dX11_coughs_57 ?_
      refine T_lmul dX11_coughs_58 ?_
      refine T_ldc2 dX11_coughs_59 clX11_292 (inl rfl) ?_
      refine T_ldiv dX11_coughs_62 (by omega) ?_
      refine T_goto (tgt := 67) dX11_coughs_63 rfl ?_
      refine T_lstoren dX11_coughs_67 rfl (by decide) rfl ?_
      refine T_iincN dX11_coughs_68 rfl (by decide) rfl (by omega) ?_
      refine T_goto (tgt := 28) dX11_coughs_71 rfl ?_
      refine T_keep [0, 1, 2, 4] ?_
      rw [if_pos (bit1 b43)] at h
      exact h
set_option maxHeartbeats 4000000 in
set_option maxRecDepth 100000 in
theorem y_coughs (c : HC) {n : Nat} (hv : RSV c n) (x : Int) : RO mX11_coughs 1 c [vr 122, vi x] (cghF (c 128) n x) := by
  have hn := hv.1
  have hn10 := hv.2.1
  have hp : 2 ^ n ≤ 1024 := Nat.pow_le_pow_right (n := 2) (by decide) hn10
  refine CC.of (by decide +kernel) (leb rfl) (fun hok => ?_)
  unfold cghF UNK
  refine T_iloadn dX11_coughs_0 rfl rfl ?_
  refine T_i2l dX11_coughs_1 ?_
  refine T_lconst (z := 0) dX11_coughs_2 rfl (inl rfl) ?_
  refine T_iconst dX11_coughs_3 (inr rfl) ?_
  refine T_aloadn dX11_coughs_4 rfl rfl ?_
  refine T_getv dX11_coughs_5 fX11_93 (by first | assumption | rfl) (by first | decide | omega) rfl hn ?_
  refine T_ishl dX11_coughs_8 (by omega) (by omega) ?_
  rw [shl1 (by omega)]
  obtain ⟨M, hM⟩ : ∃ M, M = 2 ^ n := ⟨_, rfl⟩
  rw [← hM] at hp ⊢
  refine T_iconst dX11_coughs_9 (inr rfl) ?_
  first | refine T_isubN dX11_coughs_10 (by omega) ?_ | refine T_isub dX11_coughs_10 ?_
  refine T_i2l dX11_coughs_11 ?_
  refine TT_Si dX11_coughs_12 (r_in c x 0 ((M : Int) - 1)) kX11_96 (by decide) rfl (leb rfl) ?_
  refine T_if_ne (tgt := 21) dX11_coughs_15 rfl (fun b15 => ?_) (fun b15 => ?_)
  · have hi := inF_t b15
    refine T_ldc2 dX11_coughs_21 clX11_290 (inl rfl) ?_
    refine T_lstoren dX11_coughs_24 rfl (by decide) rfl ?_
    refine T_iconst dX11_coughs_25 (inr rfl) ?_
    refine T_istore dX11_coughs_26 (by decide) rfl ?_
    rw [if_neg (by omega)]
    exact yl_coughs c hv x n 0 (by omega)
  · refine T_ldc dX11_coughs_18 cX11_200 (inr rfl) ?_
    refine TT_ri dX11_coughs_20 trivial ?_
    have hi := inF_f b15
    exact ro_q (by rw [if_pos (by omega)])
