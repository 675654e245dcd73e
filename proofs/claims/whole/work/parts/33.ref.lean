/-! the reference: what it asks of its rows -/
def inF (v a b : Int) : Int := if a ≤ v ∧ v ≤ b then 1 else 0
def RGV (c : HC) : Prop := (0 ≤ c 122 0 ∧ c 122 0 ≤ 4) ∧ (0 ≤ c 122 1 ∧ c 122 1 ≤ 9) ∧ (0 ≤ c 122 2 ∧ c 122 2 ≤ 6) ∧ (0 ≤ c 122 4 ∧ c 122 4 ≤ 4) ∧ (∀ i : Nat, (i : Int) < c 122 2 → 1 ≤ c 123 i ∧ c 123 i ≤ 9) ∧ (∀ i : Nat, (i : Int) < c 122 4 → 1 ≤ c 124 i ∧ c 124 i ≤ 5)
def RSV (c : HC) (n : Nat) : Prop := c 122 6 = (n : Int) ∧ n ≤ 10 ∧ ∀ p : Nat, p < n → (c 125 p = 0 ∨ c 125 p = 1) ∧ (1 ≤ c 126 p ∧ c 126 p ≤ 40) ∧ (0 ≤ c 127 p ∧ c 127 p ≤ 99) ∧ (0 ≤ c 128 p ∧ c 128 p ≤ 100)
theorem inF_t {v a b : Int} (h : inF v a b ≠ 0) : a ≤ v ∧ v ≤ b := by
  unfold inF at h
  split at h
  · assumption
  · exact absurd rfl h
theorem inF_f {v a b : Int} (h : inF v a b = 0) : ¬ (a ≤ v ∧ v ≤ b) := by
  unfold inF at h
  split at h
  · exact absurd h (by decide)
  · assumption
theorem inF_01 (v a b : Int) : inF v a b = 0 ∨ inF v a b = 1 := by
  unfold inF
  split
  · exact Or.inr rfl
  · exact Or.inl rfl
theorem inF_q {v a b : Int} (h : a ≤ v ∧ v ≤ b) : inF v a b = 1 := by unfold inF; rw [if_pos h]
theorem inF_n {v a b : Int} (h : ¬ (a ≤ v ∧ v ≤ b)) : inF v a b = 0 := by unfold inF; rw [if_neg h]
set_option maxHeartbeats 4000000 in
set_option maxRecDepth 100000 in
theorem r_in (c : HC) (v a b : Int) : RO mX11_in 0 c [vl v, vl a, vl b] (inF v a b) := by
  refine CC.of (by decide +kernel) (leb rfl) (fun hok => ?_)
  refine T_lloadn dX11_in_0 rfl rfl ?_
  refine T_lloadn dX11_in_1 rfl rfl ?_
  refine T_lcmp dX11_in_2 ?_
  refine T_if_lt (tgt := 17) dX11_in_3 rfl (fun b3 => ?_) (fun b3 => ?_)
  · refine T_iconst dX11_in_17 (inr rfl) ?_
    refine TT_ri dX11_in_18 (by first | exact Or.inl rfl | exact Or.inr rfl | assumption) ?_
    exact ro_q (by unfold lcm at *; first | (rw [inF_n]; split at b3 <;> omega) | skip)
  · refine T_lloadn dX11_in_6 rfl rfl ?_
    refine T_lload dX11_in_7 rfl ?_
    refine T_lcmp dX11_in_9 ?_
    refine T_if_gt (tgt := 17) dX11_in_10 rfl (fun b10 => ?_) (fun b10 => ?_)
    · refine T_iconst dX11_in_17 (inr rfl) ?_
      refine TT_ri dX11_in_18 (by first | exact Or.inl rfl | exact Or.inr rfl | assumption) ?_
      unfold lcm at *
      refine ro_q ?_
      symm
      apply inF_n
      intro q
      split at b10
      · omega
      · split at b10 <;> omega
    · refine T_iconst dX11_in_13 (inr rfl) ?_
      refine T_goto (tgt := 18) dX11_in_14 rfl ?_
      refine TT_ri dX11_in_18 (by first | exact Or.inl rfl | exact Or.inr rfl | assumption) ?_
      unfold lcm at *
      refine ro_q ?_
      symm
      apply inF_q
      refine ⟨?_, ?_⟩
      · split at b3 <;> omega
      · split at b10
        · omega
        · split at b10 <;> omega
set_option maxHeartbeats 4000000 in
set_option maxRecDepth 100000 in
theorem r_has (c : HC) (x t : Int) (ht : 0 ≤ t ∧ t < 32) : RO mX11_has 0 c [vi x, vi t] (bitI x t) := by
  refine CC.of (by decide +kernel) (leb rfl) (fun hok => ?_)
  refine T_iloadn dX11_has_0 rfl rfl ?_
  refine T_iloadn dX11_has_1 rfl rfl ?_
  refine T_ishr dX11_has_2 (by omega) (by omega) ?_
  refine T_iconst dX11_has_3 (inr rfl) ?_
  refine T_iand dX11_has_4 ?_
  refine T_iconst dX11_has_5 (inr rfl) ?_
  refine T_icmp_ne (tgt := 13) dX11_has_6 rfl (fun b6 => ?_) (fun b6 => ?_)
  · refine T_iconst dX11_has_13 (inr rfl) ?_
    refine TT_ri dX11_has_14 (by first | exact Or.inl rfl | exact Or.inr rfl | assumption) ?_
    exact ro_q (bitI_f b6).symm
  · refine T_iconst dX11_has_9 (inr rfl) ?_
    refine T_goto (tgt := 14) dX11_has_10 rfl ?_
    refine TT_ri dX11_has_14 (by first | exact Or.inl rfl | exact Or.inr rfl | assumption) ?_
    exact ro_q (bitI_t b6).symm
set_option maxHeartbeats 4000000 in
set_option maxRecDepth 100000 in
theorem r_isSpeaker (c : HC) {n : Nat} (hv : RSV c n) (p : Int) : RO mX11_isSpeaker 1 c [vr 122, vi p] (inF p 0 ((n : Int) - 1)) := by
  obtain ⟨hn, hn10, hv⟩ := id hv
  refine CC.of (by decide +kernel) (leb rfl) (fun hok => ?_)
  refine T_iloadn dX11_isSpeaker_0 rfl rfl ?_
  refine T_i2l dX11_isSpeaker_1 ?_
  refine T_lconst (z := 0) dX11_isSpeaker_2 rfl (inl rfl) ?_
  refine T_aloadn dX11_isSpeaker_3 rfl rfl ?_
  refine T_getv dX11_isSpeaker_4 fX11_93 (by first | assumption | rfl) (by first | decide | omega) rfl hn ?_
  refine T_iconst dX11_isSpeaker_7 (inr rfl) ?_
  first | refine T_isubN dX11_isSpeaker_8 (by omega) ?_ | refine T_isub dX11_isSpeaker_8 ?_
  refine T_i2l dX11_isSpeaker_9 ?_
  refine TT_Si dX11_isSpeaker_10 (r_in c p 0 ((n : Int) - 1)) kX11_96 (by decide) rfl (leb rfl) ?_
  refine TT_ri dX11_isSpeaker_13 (inF_01 _ _ _) ?_
  exact ro_q rfl
set_option maxHeartbeats 4000000 in
set_option maxRecDepth 100000 in
theorem r_isOf (c : HC) {n : Nat} (hv : RSV c n) (p s : Int) : RO mX11_isOf 2 c [vr 122, vi p, vi s] (isOfF n (c 125) s p) := by
  have hv0 := hv
  obtain ⟨hn, hn10, hv⟩ := id hv
  refine CC.of (by decide +kernel) (leb rfl) (fun hok => ?_)
  unfold isOfF
  refine T_aloadn dX11_isOf_0 rfl rfl ?_
  refine T_iloadn dX11_isOf_1 rfl rfl ?_
  refine TT_Vi dX11_isOf_2 (r_isSpeaker c hv0 p) kX11_100 (by decide) (by first | decide | omega) (by first | assumption | rfl) rfl (leb rfl) ?_
  refine T_if_eq (tgt := 22) dX11_isOf_5 rfl (fun b5 => ?_) (fun b5 => ?_)
  · refine T_iconst dX11_isOf_22 (inr rfl) ?_
    refine TT_ri dX11_isOf_23 (by first | exact Or.inl rfl | exact Or.inr rfl | assumption) ?_
    have hi := inF_f b5
    exact ro_q (by rw [if_neg (by omega)])
  · have hi := inF_t b5
    refine T_aloadn dX11_isOf_8 rfl rfl ?_
    refine T_getfin dX11_isOf_9 fX11_16 (by first | assumption | rfl) (by first | decide | omega) rfl (by first | assumption | rfl) ?_
    refine T_iloadn dX11_isOf_12 rfl rfl ?_
    refine T_iald (j := p.toNat) dX11_isOf_13 (by first | assumption | rfl) (by first | decide | omega) (by omega) (by omega) ?_
    refine T_iloadn dX11_isOf_14 rfl rfl ?_
    refine T_icmp_ne (tgt := 22) dX11_isOf_15 rfl (fun b15 => ?_) (fun b15 => ?_)
    · refine T_iconst dX11_isOf_22 (inr rfl) ?_
      refine TT_ri dX11_isOf_23 (by first | exact Or.inl rfl | exact Or.inr rfl | assumption) ?_
      exact ro_q (by rw [if_neg (fun q => b15 q.2.2)])
    · refine T_iconst dX11_isOf_18 (inr rfl) ?_
      refine T_goto (tgt := 23) dX11_isOf_19 rfl ?_
      refine TT_ri dX11_isOf_23 (by first | exact Or.inl rfl | exact Or.inr rfl | assumption) ?_
      exact ro_q (by rw [if_pos ⟨by omega, by omega, b15⟩])
