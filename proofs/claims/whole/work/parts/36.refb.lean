/-! the reference: standing, tables -/
def lgL (W : Nat → Int) : Nat → Int
  | 0 => if W 0 = 0 then -1 else 0
  | b + 1 => if W (b + 1) = 0 then lgL W b else ((b + 1 : Nat) : Int)
def lgR (W : Nat → Int) (b : Int) : Int := if b < 0 then b else lgL W (imin b 41).toNat
set_option maxHeartbeats 4000000 in
set_option maxRecDepth 100000 in
theorem rl_longest (c : HC) (x : Int) : ∀ (b : Nat), b ≤ 41 → TT mX11_longestOf 0 13 [(0, vr 122), (1, vi x), (2, vi (b : Int))] [] c (fun v c1 => v = some (vi (lgL (c 141) b)) ∧ c1 = c) := by
  intro b
  induction b with
  | zero =>
    intro hb
    unfold lgL
    refine T_iloadn dX11_longestOf_13 rfl rfl ?_
    refine T_if_lt (tgt := 32) dX11_longestOf_14 rfl (fun b14 => absurd b14 (by omega)) (fun b14 => ?_)
    refine T_aloadn dX11_longestOf_17 rfl rfl ?_
    refine T_getfin dX11_longestOf_18 fX11_68 (by first | assumption | rfl) (by first | decide | omega) rfl (by first | assumption | rfl) ?_
    refine T_iloadn dX11_longestOf_21 rfl rfl ?_
    refine T_iald (j := 0) dX11_longestOf_22 (by first | assumption | rfl) (by first | decide | omega) (by omega) (by omega) ?_
    refine T_if_ne (tgt := 32) dX11_longestOf_23 rfl (fun b23 => ?_) (fun b23 => ?_)
    · refine T_iloadn dX11_longestOf_32 rfl rfl ?_
      refine TT_ri dX11_longestOf_33 trivial ?_
      exact ro_q (by rw [if_neg b23]; rfl)
    · refine T_iincN dX11_longestOf_26 rfl (by decide) rfl (by omega) ?_
      refine T_goto (tgt := 13) dX11_longestOf_29 rfl ?_
      rw [if_pos b23]
      refine T_iloadn dX11_longestOf_13 rfl rfl ?_
      refine T_if_lt (tgt := 32) dX11_longestOf_14 rfl (fun b14 => ?_) (fun b14 => absurd b14 (by omega))
      refine T_iloadn dX11_longestOf_32 rfl rfl ?_
      refine TT_ri dX11_longestOf_33 trivial ?_
      exact ro_q rfl
  | succ b ih =>
    intro hb
    have h := ih (by omega)
    unfold lgL
    refine T_iloadn dX11_longestOf_13 rfl rfl ?_
    refine T_if_lt (tgt := 32) dX11_longestOf_14 rfl (fun b14 => absurd b14 (by omega)) (fun b14 => ?_)
    refine T_aloadn dX11_longestOf_17 rfl rfl ?_
    refine T_getfin dX11_longestOf_18 fX11_68 (by first | assumption | rfl) (by first | decide | omega) rfl (by first | assumption | rfl) ?_
    refine T_iloadn dX11_longestOf_21 rfl rfl ?_
    refine T_iald (j := b + 1) dX11_longestOf_22 (by first | assumption | rfl) (by first | decide | omega) (by omega) (by omega) ?_
    refine T_if_ne (tgt := 32) dX11_longestOf_23 rfl (fun b23 => ?_) (fun b23 => ?_)
    · refine T_iloadn dX11_longestOf_32 rfl rfl ?_
      refine TT_ri dX11_longestOf_33 trivial ?_
      exact ro_q (by rw [if_neg b23])
    · refine T_iincN dX11_longestOf_26 rfl (by decide) rfl (by omega) ?_
      refine T_goto (tgt := 13) dX11_longestOf_29 rfl ?_
      rw [if_pos b23]
      rw [show ((b + 1 : Nat) : Int) + -1 = (b : Int) by omega]
      exact h
set_option maxHeartbeats 4000000 in
set_option maxRecDepth 100000 in
theorem r_longestOf (c : HC) (b : Int) (hb : 0 ≤ b) : RO mX11_longestOf 0 c [vr 122, vi b] (lgL (c 141) (imin b 41).toNat) := by
  refine CC.of (by decide +kernel) (leb rfl) (fun hok => ?_)
  unfold imin
  refine T_iloadn dX11_longestOf_0 rfl rfl ?_
  refine T_bipush dX11_longestOf_1 (bp8 rfl) (inr rfl) ?_
  refine T_icmp_ge (tgt := 10) dX11_longestOf_3 rfl (fun b3 => ?_) (fun b3 => ?_)
  · refine T_bipush dX11_longestOf_10 (bp8 rfl) (inr rfl) ?_
    refine T_istoren dX11_longestOf_12 rfl (by decide) rfl ?_
    have h := rl_longest c b 41 (by omega)
    by_cases hc : 41 < b
    · rw [if_pos hc]
      exact h
    · rw [if_neg hc, show b = 41 by omega]
      rw [show b = 41 by omega] at h
      exact h
  · refine T_iloadn dX11_longestOf_6 rfl rfl ?_
    refine T_goto (tgt := 12) dX11_longestOf_7 rfl ?_
    refine T_istoren dX11_longestOf_12 rfl (by decide) rfl ?_
    rw [if_neg (by omega)]
    have h := rl_longest c b b.toNat (by omega)
    rw [show ((b.toNat : Nat) : Int) = b by omega] at h
    exact h
set_option maxHeartbeats 4000000 in
set_option maxRecDepth 100000 in
theorem r_goesBy (c : HC) (p q : Nat) (hp : p < 10) (hq : q < 10) (a b : Int) (ha : 0 ≤ a ∧ a ≤ 1000) (hb : 0 ≤ b ∧ b ≤ 1000) : RO mX11_goesBy 1 c [vr 122, vi (p : Int), vi a, vi (q : Int), vi b] (wayF (c 122 1) (c 127) (p : Int) a (q : Int) b) := by
  refine CC.of (by decide +kernel) (leb rfl) (fun hok => ?_)
  unfold wayF
  have h1 := r_pullOf c p hp (a - b)
  have h2 := r_pullOf c q hq (b - a)
  have k1 := pullF_bd (c 122 1) (a - b) (c 127 p)
  rw [Int.toNat_natCast, Int.toNat_natCast]
  refine T_iloadn dX11_goesBy_0 rfl rfl ?_
  refine T_iload dX11_goesBy_1 rfl ?_
  refine T_icmp_le (tgt := 19) dX11_goesBy_3 rfl (fun b3 => ?_) (fun b3 => ?_)
  · refine T_aloadn dX11_goesBy_19 rfl rfl ?_
    refine T_iloadn dX11_goesBy_20 rfl rfl ?_
    refine T_iload dX11_goesBy_21 rfl ?_
    refine T_iloadn dX11_goesBy_23 rfl rfl ?_
    first | refine T_isubN dX11_goesBy_24 (by omega) ?_ | refine T_isub dX11_goesBy_24 ?_
    refine TT_Vi dX11_goesBy_25 (h2) kX11_211 (by decide) (by first | decide | omega) (by first | assumption | rfl) rfl (leb rfl) ?_
    refine TT_ri dX11_goesBy_28 trivial ?_
    by_cases hc : a < b
    · exact ro_q (by rw [if_pos hc])
    · have e : a = b := by omega
      subst e
      refine ro_q ?_
      rw [if_neg (by omega)]
      unfold pullF
      rw [if_neg (by omega), if_neg (by omega)]
      rfl
  · refine T_aloadn dX11_goesBy_6 rfl rfl ?_
    refine T_iloadn dX11_goesBy_7 rfl rfl ?_
    refine T_iloadn dX11_goesBy_8 rfl rfl ?_
    refine T_iload dX11_goesBy_9 rfl ?_
    first | refine T_isubN dX11_goesBy_11 (by omega) ?_ | refine T_isub dX11_goesBy_11 ?_
    refine TT_Vi dX11_goesBy_12 (h1) kX11_211 (by decide) (by first | decide | omega) (by first | assumption | rfl) rfl (leb rfl) ?_
    first | refine T_inegN dX11_goesBy_15 (by omega) ?_ | refine T_ineg dX11_goesBy_15 ?_
    refine T_goto (tgt := 28) dX11_goesBy_16 rfl ?_
    refine TT_ri dX11_goesBy_28 trivial ?_
    exact ro_q (by rw [if_neg (by omega)])
