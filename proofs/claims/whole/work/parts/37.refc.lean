/-! the reference: said, drawn -/
theorem drw_r {s : Int} (h0 : 0 ≤ s) (h1 : s ≤ 2147483647) : wr ((wl (wl (s * 1103515245) + 12345)).tmod 2147483648) = drw s := by
  rw [wl_id (z := s * 1103515245) (by omega) (by omega), wl_id (by omega) (by omega), Int.tmod_eq_emod_of_nonneg (by omega), wr_id (by omega) (by omega)]
  rfl
def wsR (was x : Int) : Int := if was = 1 then 1 else x
set_option maxHeartbeats 4000000 in
set_option maxRecDepth 100000 in
theorem rl_said (c : HC) (w : Int) (n : Nat) (hn : c 130 12 = (n : Int)) (h40 : n ≤ 40) : ∀ (k i : Nat) (was : Int), i + k = n → (was = 0 ∨ was = 1) → TT mX11_wasSaid 0 4 [(0, vr 122), (1, vi w), (2, vi was), (3, vi (i : Int))] [] c (fun v c1 => v = some (vi (wsR was (saidL (c 130) w k i))) ∧ c1 = c) := by
  intro k
  induction k with
  | zero =>
    intro i was hk hw
    unfold saidL wsR
    refine T_iloadn dX11_wasSaid_4 rfl rfl ?_
    refine T_aloadn dX11_wasSaid_5 rfl rfl ?_
    refine T_getfin dX11_wasSaid_6 fX11_31 (by first | assumption | rfl) (by first | decide | omega) rfl (by first | assumption | rfl) ?_
    refine T_bipush dX11_wasSaid_9 (bp8 rfl) (inr rfl) ?_
    refine T_ialdv (j := 12) dX11_wasSaid_11 (by first | assumption | rfl) (by first | decide | omega) (by omega) (by omega) hn ?_
    refine T_icmp_ge (tgt := 44) dX11_wasSaid_12 rfl (fun b12 => ?_) (fun b12 => absurd b12 (by omega))
    refine T_iloadn dX11_wasSaid_44 rfl rfl ?_
    refine TT_ri dX11_wasSaid_45 hw ?_
    refine ro_q ?_
    rcases hw with e | e
    · rw [e]; rfl
    · rw [e]; rfl
  | succ k ih =>
    intro i was hk hw
    have h0 := ih (i + 1) 0 (by omega) (Or.inl rfl)
    have h1 := ih (i + 1) 1 (by omega) (Or.inr rfl)
    rw [saidL.eq_2]
    refine T_iloadn dX11_wasSaid_4 rfl rfl ?_
    refine T_aloadn dX11_wasSaid_5 rfl rfl ?_
    refine T_getfin dX11_wasSaid_6 fX11_31 (by first | assumption | rfl) (by first | decide | omega) rfl (by first | assumption | rfl) ?_
    refine T_bipush dX11_wasSaid_9 (bp8 rfl) (inr rfl) ?_
    refine T_ialdv (j := 12) dX11_wasSaid_11 (by first | assumption | rfl) (by first | decide | omega) (by omega) (by omega) hn ?_
    refine T_icmp_ge (tgt := 44) dX11_wasSaid_12 rfl (fun b12 => absurd b12 (by omega)) (fun b12 => ?_)
    refine T_iloadn dX11_wasSaid_15 rfl rfl ?_
    refine T_if_ne (tgt := 32) dX11_wasSaid_16 rfl (fun b16 => ?_) (fun b16 => ?_)
    · refine T_iconst dX11_wasSaid_32 (inr rfl) ?_
      refine T_goto (tgt := 37) dX11_wasSaid_33 rfl ?_
      refine T_istoren dX11_wasSaid_37 rfl (by decide) rfl ?_
      refine T_iincN dX11_wasSaid_38 rfl (by decide) rfl (by omega) ?_
      refine T_goto (tgt := 4) dX11_wasSaid_41 rfl ?_
      refine T_keep [0, 1, 2, 3] ?_
      have e : wsR was (if c 130 (13 + i) = w then 1 else saidL (c 130) w k (i + 1)) = wsR 1 (saidL (c 130) w k (i + 1)) := by
        rw [show was = 1 by omega]
        rfl
      rw [e]
      exact h1
    · refine T_aloadn dX11_wasSaid_19 rfl rfl ?_
      refine T_getfin dX11_wasSaid_20 fX11_31 (by first | assumption | rfl) (by first | decide | omega) rfl (by first | assumption | rfl) ?_
      refine T_bipush dX11_wasSaid_23 (bp8 rfl) (inr rfl) ?_
      refine T_iloadn dX11_wasSaid_25 rfl rfl ?_
      first | refine T_iaddN dX11_wasSaid_26 (by omega) ?_ | refine T_iadd dX11_wasSaid_26 ?_
      refine T_iald (j := 13 + i) dX11_wasSaid_27 (by first | assumption | rfl) (by first | decide | omega) (by omega) (by omega) ?_
      refine T_iloadn dX11_wasSaid_28 rfl rfl ?_
      refine T_icmp_ne (tgt := 36) dX11_wasSaid_29 rfl (fun b29 => ?_) (fun b29 => ?_)
      · refine T_iconst dX11_wasSaid_36 (inr rfl) ?_
        refine T_istoren dX11_wasSaid_37 rfl (by decide) rfl ?_
        refine T_iincN dX11_wasSaid_38 rfl (by decide) rfl (by omega) ?_
        refine T_goto (tgt := 4) dX11_wasSaid_41 rfl ?_
        refine T_keep [0, 1, 2, 3] ?_
        have e : wsR was (if c 130 (13 + i) = w then 1 else saidL (c 130) w k (i + 1)) = wsR 0 (saidL (c 130) w k (i + 1)) := by
          rw [if_neg b29, b16]
        rw [e]
        exact h0
      · refine T_iconst dX11_wasSaid_32 (inr rfl) ?_
        refine T_goto (tgt := 37) dX11_wasSaid_33 rfl ?_
        refine T_istoren dX11_wasSaid_37 rfl (by decide) rfl ?_
        refine T_iincN dX11_wasSaid_38 rfl (by decide) rfl (by omega) ?_
        refine T_goto (tgt := 4) dX11_wasSaid_41 rfl ?_
        refine T_keep [0, 1, 2, 3] ?_
        have e : wsR was (if c 130 (13 + i) = w then 1 else saidL (c 130) w k (i + 1)) = wsR 1 (saidL (c 130) w k (i + 1)) := by
          rw [if_pos b29, b16]
          rfl
        rw [e]
        exact h1
set_option maxHeartbeats 4000000 in
set_option maxRecDepth 100000 in
theorem r_wasSaid (c : HC) (w : Int) (n : Nat) (hn : c 130 12 = (n : Int)) (h40 : n ≤ 40) : RO mX11_wasSaid 0 c [vr 122, vi w] (saidL (c 130) w n 0) := by
  refine CC.of (by decide +kernel) (leb rfl) (fun hok => ?_)
  refine T_iconst dX11_wasSaid_0 (inr rfl) ?_
  refine T_istoren dX11_wasSaid_1 rfl (by decide) rfl ?_
  refine T_iconst dX11_wasSaid_2 (inr rfl) ?_
  refine T_istoren dX11_wasSaid_3 rfl (by decide) rfl ?_
  exact rl_said c w n hn h40 n 0 0 (by omega) (Or.inl rfl)
set_option maxHeartbeats 4000000 in
set_option maxRecDepth 100000 in
theorem r_draw (c : HC) (n : Int) (hn : 0 < n ∧ n ≤ 1000) (h0 : 0 ≤ c 122 13) (h1 : c 122 13 ≤ 2147483647) : RW mX11_draw 0 c [vr 122, vi n] (drawF (c 122 13) n) (up2 c 122 13 (drw (c 122 13))) := by
  refine CC.of (by decide +kernel) (leb rfl) (fun hok => ?_)
  have hd := drw_bd (c 122 13)
  unfold drawF
  refine T_aloadn dX11_draw_0 rfl rfl ?_
  refine T_aloadn dX11_draw_1 rfl rfl ?_
  first | refine T_getv dX11_draw_2 fX11_245 (by first | assumption | rfl) (by first | decide | omega) rfl (by assumption) ?_ | refine T_geti dX11_draw_2 fX11_245 (by first | assumption | rfl) (by first | decide | omega) rfl ?_
  refine T_i2l dX11_draw_5 ?_
  refine T_ldc2 dX11_draw_6 clX11_248 (inl rfl) ?_
  refine T_lmul dX11_draw_9 ?_
  refine T_ldc2 dX11_draw_10 clX11_250 (inl rfl) ?_
  refine T_ladd dX11_draw_13 ?_
  refine T_ldc2 dX11_draw_14 clX11_252 (inl rfl) ?_
  refine T_lrem dX11_draw_17 (by omega) ?_
  refine T_l2i dX11_draw_18 ?_
  rw [drw_r h0 h1]
  refine T_puti dX11_draw_19 fX11_245 (by first | assumption | rfl) (by first | decide | omega) rfl rfl ?_
  refine T_aloadn dX11_draw_22 rfl rfl ?_
  refine T_getv dX11_draw_23 fX11_245 (by first | assumption | rfl) (by first | decide | omega) rfl (up2_s _ _ _ _) ?_
  refine T_ldc dX11_draw_26 cX11_254 (inr rfl) ?_
  first | refine T_idivN dX11_draw_28 (by omega) (by omega) ?_ | refine T_idiv dX11_draw_28 (by omega) ?_
  refine T_iloadn dX11_draw_29 rfl rfl ?_
  first | refine T_iremN dX11_draw_30 (by omega) (by omega) ?_ | refine T_irem dX11_draw_30 (by omega) ?_
  refine TT_ri dX11_draw_31 trivial ?_
  refine ⟨?_, rfl⟩
  rw [if_pos hn.1]
set_option maxHeartbeats 4000000 in
set_option maxRecDepth 100000 in
theorem r_isLength (c : HC) (l : Nat) (hl : l < 42) : RO mX11_isLength 0 c [vr 122, vi (l : Int)] (if l = 0 ∨ 0 < c 141 l then 1 else 0) := by
  refine CC.of (by decide +kernel) (leb rfl) (fun hok => ?_)
  refine T_iloadn dX11_isLength_0 rfl rfl ?_
  refine T_if_eq (tgt := 13) dX11_isLength_1 rfl (fun b1 => ?_) (fun b1 => ?_)
  · refine T_iconst dX11_isLength_13 (inr rfl) ?_
    refine T_goto (tgt := 18) dX11_isLength_14 rfl ?_
    refine TT_ri dX11_isLength_18 (by first | exact Or.inl rfl | exact Or.inr rfl | assumption) ?_
    exact ro_q (by rw [if_pos (Or.inl (by omega))])
  · refine T_aloadn dX11_isLength_4 rfl rfl ?_
    refine T_getfin dX11_isLength_5 fX11_68 (by first | assumption | rfl) (by first | decide | omega) rfl (by first | assumption | rfl) ?_
    refine T_iloadn dX11_isLength_8 rfl rfl ?_
    refine T_iald (j := l) dX11_isLength_9 (by first | assumption | rfl) (by first | decide | omega) (by omega) (by omega) ?_
    refine T_if_le (tgt := 17) dX11_isLength_10 rfl (fun b10 => ?_) (fun b10 => ?_)
    · refine T_iconst dX11_isLength_17 (inr rfl) ?_
      refine TT_ri dX11_isLength_18 (by first | exact Or.inl rfl | exact Or.inr rfl | assumption) ?_
      exact ro_q (by rw [if_neg (by omega)])
    · refine T_iconst dX11_isLength_13 (inr rfl) ?_
      refine T_goto (tgt := 18) dX11_isLength_14 rfl ?_
      refine TT_ri dX11_isLength_18 (by first | exact Or.inl rfl | exact Or.inr rfl | assumption) ?_
      exact ro_q (by rw [if_pos (Or.inr (by omega))])
