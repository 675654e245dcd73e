/-! the reference: order -/
def fbV (P : Nat → Nat → Int) (n : Nat) : Nat → Nat → Nat → Int
  | 0, _, _ => 0
  | m + 1, t, code => if n ≤ code / 6 ^ m ∨ t.testBit (code / 6 ^ m) = true then -1 else if fbV P n m (t + 2 ^ (code / 6 ^ m)) (code % 6 ^ m) < 0 then -1 else P (code / 6 ^ m) (n - 1 - m) + fbV P n m (t + 2 ^ (code / 6 ^ m)) (code % 6 ^ m)
def bC (P : Nat → Nat → Int) (n : Nat) : Nat → Nat → Nat
  | 0, _ => 0
  | m + 1, t => gJ P n m t * 6 ^ m + bC P n m (t + 2 ^ gJ P n m t)
theorem fb_max {P : Nat → Nat → Int} {n : Nat} (hn : n < 7) (hB : PB P n) : ∀ m t code, t < 2 ^ n → pcU t 6 + m = n → fbV P n m t code ≤ MV P n m t
  | 0, t, code, ht, hm => by unfold fbV MV; omega
  | m + 1, t, code, ht, hm => by
    have h0 := (MV_bd hn hB (m + 1) (by omega) t).1
    unfold fbV
    split
    · omega
    · rename_i hc
      split
      · omega
      · have hf : code / 6 ^ m < n := by omega
        have hb : t.testBit (code / 6 ^ m) = false := by
          cases hh : t.testBit (code / 6 ^ m) with
          | false => rfl
          | true => exact absurd (Or.inr hh) hc
        have hr := rwS n hn t ht _ hf hb
        have ih := fb_max hn hB m (t + 2 ^ (code / 6 ^ m)) (code % 6 ^ m) hr.2.1 (by omega)
        have hg := tmU_ge (P := P) (M := MV P n m) (i := n - 1 - m) (s := t) n _ hf hb
        have e : MV P n (m + 1) t = tmU P (MV P n m) (n - 1 - m) t n := rfl
        omega
theorem fb_best {P : Nat → Nat → Int} {n : Nat} (hn : n < 7) (hB : PB P n) : ∀ m t, t < 2 ^ n → pcU t 6 + m = n → bC P n m t < 6 ^ m ∧ fbV P n m t (bC P n m t) = MV P n m t ∧ ∀ code, code < bC P n m t → fbV P n m t code < MV P n m t
  | 0, t, ht, hm => ⟨by unfold bC; decide, rfl, fun code h => by unfold bC at h; omega⟩
  | m + 1, t, ht, hm => by
    have h0 := (MV_bd hn hB (m + 1) (by omega) t).1
    obtain ⟨⟨g1, g2, g3⟩, g4⟩ := gJ_sp hn hB ht (m := m) (by omega)
    have hr := rwS n hn t ht _ g1 g2
    have ih := fb_best hn hB m (t + 2 ^ gJ P n m t) hr.2.1 (by omega)
    have h1 := (MV_bd hn hB m (by omega) (t + 2 ^ gJ P n m t)).1
    have e : bC P n (m + 1) t = gJ P n m t * 6 ^ m + bC P n m (t + 2 ^ gJ P n m t) := rfl
    have hp : 0 < 6 ^ m := Nat.pow_pos (by decide)
    have ed : bC P n (m + 1) t / 6 ^ m = gJ P n m t := by
      rw [e, Nat.add_comm, Nat.add_mul_div_right _ _ hp, Nat.div_eq_of_lt ih.1, Nat.zero_add]
    have em : bC P n (m + 1) t % 6 ^ m = bC P n m (t + 2 ^ gJ P n m t) := by
      rw [e, Nat.add_comm, Nat.add_mul_mod_self_right, Nat.mod_eq_of_lt ih.1]
    refine ⟨?_, ?_, ?_⟩
    · rw [Nat.pow_succ]
      have : bC P n (m + 1) t / 6 ^ m < 6 := by rw [ed]; omega
      have z := (Nat.div_lt_iff_lt_mul hp).mp this
      rw [Nat.mul_comm] at z
      exact z
    · unfold fbV
      rw [ed, em, ih.2.1, if_neg (fun z => by rcases z with z | z; · omega
                                              · rw [g2] at z; exact absurd z (by decide)), if_neg (by omega), g3]
    · intro code hc
      have hle : code / 6 ^ m ≤ gJ P n m t := by rw [← ed]; exact Nat.div_le_div_right (Nat.le_of_lt hc)
      unfold fbV
      split
      · omega
      · rename_i hbad
        split
        · omega
        · have hf : code / 6 ^ m < n := by omega
          have hb : t.testBit (code / 6 ^ m) = false := by
            cases hh : t.testBit (code / 6 ^ m) with
            | false => rfl
            | true => exact absurd (Or.inr hh) hbad
          by_cases hlt : code / 6 ^ m < gJ P n m t
          · have hr2 := rwS n hn t ht _ hf hb
            have hx := fb_max hn hB m (t + 2 ^ (code / 6 ^ m)) (code % 6 ^ m) hr2.2.1 (by omega)
            have hg := tmU_ge (P := P) (M := MV P n m) (i := n - 1 - m) (s := t) n _ hf hb
            have e2 : MV P n (m + 1) t = tmU P (MV P n m) (n - 1 - m) t n := rfl
            have hne := g4 _ hlt hb
            omega
          · have he : code / 6 ^ m = gJ P n m t := by omega
            have hmod : code % 6 ^ m < bC P n m (t + 2 ^ gJ P n m t) := by
              have k1 := Nat.div_add_mod code (6 ^ m)
              rw [he, Nat.mul_comm] at k1
              rw [e] at hc
              omega
            have := ih.2.2 _ hmod
            rw [he]
            omega
theorem bC_mod {P : Nat → Nat → Int} {n : Nat} (hn : n < 7) (hB : PB P n) : ∀ k, k ≤ n → bC P n n 0 % 6 ^ (n - k) = bC P n (n - k) (gS P n k)
  | 0, _ => by
    have h := (fb_best hn hB n 0 (Nat.two_pow_pos n) (by rw [show pcU 0 6 = 0 by decide]; omega)).1
    rw [Nat.sub_zero]
    exact Nat.mod_eq_of_lt h
  | k + 1, hk => by
    have ih := bC_mod hn hB k (by omega)
    have hs := gS_sp hn hB k (by omega)
    obtain ⟨m, hm⟩ : ∃ m, m = n - (k + 1) := ⟨_, rfl⟩
    have hm1 : n - k = m + 1 := by omega
    have hm2 : n - 1 - k = m := by omega
    rw [hm1] at ih
    obtain ⟨⟨g1, g2, g3⟩, g4⟩ := gJ_sp hn hB hs.1 (m := m) (by omega)
    have hr := rwS n hn _ hs.1 _ g1 g2
    have hb := (fb_best hn hB m (gS P n k + 2 ^ gJ P n m (gS P n k)) hr.2.1 (by omega)).1
    rw [← hm]
    have e1 : bC P n n 0 % 6 ^ m = (bC P n n 0 % 6 ^ (m + 1)) % 6 ^ m := (Nat.mod_mod_of_dvd _ (Nat.pow_dvd_pow 6 (by omega))).symm
    have e2 : gS P n (k + 1) = gS P n k + 2 ^ gJ P n m (gS P n k) := by
      show gS P n k + 2 ^ gJ P n (n - 1 - k) (gS P n k) = _
      rw [hm2]
    rw [e1, ih, e2]
    show (gJ P n m (gS P n k) * 6 ^ m + bC P n m (gS P n k + 2 ^ gJ P n m (gS P n k))) % 6 ^ m = _
    rw [Nat.add_comm, Nat.add_mul_mod_self_right, Nat.mod_eq_of_lt hb]
theorem six_dig (X m : Nat) : X / 6 ^ m % 6 = X % 6 ^ (m + 1) / 6 ^ m := by
  have hp : 0 < 6 ^ m := Nat.pow_pos (by decide)
  rw [Nat.pow_succ, Nat.mod_mul, Nat.add_mul_div_left _ _ hp, Nat.div_eq_of_lt (Nat.mod_lt _ hp), Nat.zero_add]
theorem bC_fig {P : Nat → Nat → Int} {n : Nat} (hn : n < 7) (hB : PB P n) (k : Nat) (hk : k < n) : bC P n n 0 / 6 ^ (n - 1 - k) % 6 = gJ P n (n - 1 - k) (gS P n k) := by
  have h := bC_mod hn hB k (by omega)
  have hs := gS_sp hn hB k (by omega)
  obtain ⟨m, hm⟩ : ∃ m, m = n - 1 - k := ⟨_, rfl⟩
  rw [← hm]
  rw [show n - k = m + 1 by omega] at h
  obtain ⟨⟨g1, g2, g3⟩, g4⟩ := gJ_sp hn hB hs.1 (m := m) (by omega)
  have hr := rwS n hn _ hs.1 _ g1 g2
  have hb := (fb_best hn hB m (gS P n k + 2 ^ gJ P n m (gS P n k)) hr.2.1 (by omega)).1
  have hp : 0 < 6 ^ m := Nat.pow_pos (by decide)
  rw [six_dig, h]
  show (gJ P n m (gS P n k) * 6 ^ m + bC P n m (gS P n k + 2 ^ gJ P n m (gS P n k))) / 6 ^ m = _
  rw [Nat.add_comm, Nat.add_mul_div_right _ _ hp, Nat.div_eq_of_lt hb, Nat.zero_add]
def pR (c : HC) (v : Int) (r y : Nat) : Int := pullF (c 122 1) (lg0 (c 141) (imin (c 126 r) (c 130 (2 + r) + (y : Int))) - imax 0 (v - (y : Int))) (c 127 r)
set_option maxHeartbeats 4000000 in
set_option maxRecDepth 100000 in
theorem rl_figure (c : HC) (C n k : Nat) (hn : n < 7) (hk : k < n) : ∀ (j : Nat) (L : Nat), j ≤ n - 1 - k → L ≤ 100000 → TT mX11_figure 0 7 [(0, vi (C : Int)), (1, vi (n : Int)), (2, vi (k : Int)), (3, vi (L : Int)), (4, vi ((k + j : Nat) : Int))] [] c (fun v c1 => v = some (vi ((L / 6 ^ j % 6 : Nat) : Int)) ∧ c1 = c) := by
  intro j
  induction j with
  | zero =>
    intro L hj hL
    refine T_iload dX11_figure_7 rfl ?_
    refine T_iloadn dX11_figure_9 rfl rfl ?_
    refine T_icmp_le (tgt := 24) dX11_figure_10 rfl (fun b10 => ?_) (fun b10 => absurd b10 (by omega))
    refine T_iloadn dX11_figure_24 rfl rfl ?_
    refine T_bipush dX11_figure_25 (bp8 rfl) (inr rfl) ?_
    first | refine T_iremN dX11_figure_27 (by omega) (by omega) ?_ | refine T_irem dX11_figure_27 (by omega) ?_
    refine TT_ri dX11_figure_28 trivial ?_
    exact ro_q (by rw [Nat.pow_zero, Nat.div_one]; omega)
  | succ j ih =>
    intro L hj hL
    have h := ih (L / 6) (by omega) (by omega)
    rw [Nat.div_div_eq_div_mul, show 6 * 6 ^ j = 6 ^ (j + 1) by rw [Nat.pow_succ, Nat.mul_comm]] at h
    refine T_iload dX11_figure_7 rfl ?_
    refine T_iloadn dX11_figure_9 rfl rfl ?_
    refine T_icmp_le (tgt := 24) dX11_figure_10 rfl (fun b10 => absurd b10 (by omega)) (fun b10 => ?_)
    refine T_iloadn dX11_figure_13 rfl rfl ?_
    refine T_bipush dX11_figure_14 (bp8 rfl) (inr rfl) ?_
    first | refine T_idivN dX11_figure_16 (by omega) (by omega) ?_ | refine T_idiv dX11_figure_16 (by omega) ?_
    refine T_istoren dX11_figure_17 rfl (by decide) rfl ?_
    refine T_iincN dX11_figure_18 rfl (by decide) rfl (by omega) ?_
    refine T_goto (tgt := 7) dX11_figure_21 rfl ?_
    rw [show (L : Int) / 6 = ((L / 6 : Nat) : Int) by omega, show ((k + (j + 1) : Nat) : Int) + -1 = ((k + j : Nat) : Int) by omega]
    exact h
set_option maxHeartbeats 4000000 in
set_option maxRecDepth 100000 in
theorem r_figure (c : HC) (C n k : Nat) (hn : n < 7) (hk : k < n) (hC : C ≤ 100000) : RO mX11_figure 0 c [vi (C : Int), vi (n : Int), vi (k : Int)] ((C / 6 ^ (n - 1 - k) % 6 : Nat) : Int) := by
  refine CC.of (by decide +kernel) (leb rfl) (fun hok => ?_)
  refine T_iloadn dX11_figure_0 rfl rfl ?_
  refine T_istoren dX11_figure_1 rfl (by decide) rfl ?_
  refine T_iloadn dX11_figure_2 rfl rfl ?_
  refine T_iconst dX11_figure_3 (inr rfl) ?_
  first | refine T_isubN dX11_figure_4 (by omega) ?_ | refine T_isub dX11_figure_4 ?_
  refine T_istore dX11_figure_5 (by decide) rfl ?_
  rw [show (n : Int) - 1 = ((k + (n - 1 - k) : Nat) : Int) by omega]
  exact rl_figure c C n k hn hk (n - 1 - k) C (by omega) hC
set_option maxHeartbeats 4000000 in
set_option maxRecDepth 100000 in
theorem r_pullAt (c : HC) (r : Nat) (hr : r < 10) (hb : 0 ≤ c 130 (2 + r) ∧ c 130 (2 + r) ≤ 40) (hB : 1 ≤ c 126 r ∧ c 126 r ≤ 40) (y : Nat) (hy : y < 6) (v : Int) (hv : 0 ≤ v ∧ v ≤ 40) : RO mX11_pullAt 1 c [vr 122, vi (r : Int), vi (y : Int), vi v] (pR c v r y) := by
  refine CC.of (by decide +kernel) (leb rfl) (fun hok => ?_)
  refine T_aloadn dX11_pullAt_0 rfl rfl ?_
  refine T_getfin dX11_pullAt_1 fX11_31 (by first | assumption | rfl) (by first | decide | omega) rfl (by first | assumption | rfl) ?_
  refine T_iconst dX11_pullAt_4 (inr rfl) ?_
  refine T_iloadn dX11_pullAt_5 rfl rfl ?_
  first | refine T_iaddN dX11_pullAt_6 (by omega) ?_ | refine T_iadd dX11_pullAt_6 ?_
  refine T_iald (j := 2 + r) dX11_pullAt_7 (by first | assumption | rfl) (by first | decide | omega) (by omega) (by omega) ?_
  refine T_iloadn dX11_pullAt_8 rfl rfl ?_
  first | refine T_iaddN dX11_pullAt_9 (by omega) ?_ | refine T_iadd dX11_pullAt_9 ?_
  refine T_aloadn dX11_pullAt_10 rfl rfl ?_
  refine T_getfin dX11_pullAt_11 fX11_19 (by first | assumption | rfl) (by first | decide | omega) rfl (by first | assumption | rfl) ?_
  refine T_iloadn dX11_pullAt_14 rfl rfl ?_
  refine T_iald (j := r) dX11_pullAt_15 (by first | assumption | rfl) (by first | decide | omega) (by omega) (by omega) ?_
  refine T_icmp_ge (tgt := 32) dX11_pullAt_16 rfl (fun b16 => ?_) (fun b16 => ?_)
  · refine T_aloadn dX11_pullAt_32 rfl rfl ?_
    refine T_getfin dX11_pullAt_33 fX11_19 (by first | assumption | rfl) (by first | decide | omega) rfl (by first | assumption | rfl) ?_
    refine T_iloadn dX11_pullAt_36 rfl rfl ?_
    refine T_iald (j := r) dX11_pullAt_37 (by first | assumption | rfl) (by first | decide | omega) (by omega) (by omega) ?_
    refine T_istore dX11_pullAt_38 (by decide) rfl ?_
    refine T_aloadn dX11_pullAt_40 rfl rfl ?_
    refine T_iload dX11_pullAt_41 rfl ?_
    refine TT_Vi dX11_pullAt_43 (r_longestOf c (c 126 r) (by omega)) kX11_208 (by decide) (by first | decide | omega) (by first | assumption | rfl) rfl (leb rfl) ?_
    have hl := lgL_bd (c 141) (imin (c 126 r) 41).toNat
    have hm := imin41 (b := c 126 r) (by omega)
    refine T_istore dX11_pullAt_46 (by decide) rfl ?_
    refine T_iloadn dX11_pullAt_48 rfl rfl ?_
    refine T_iloadn dX11_pullAt_49 rfl rfl ?_
    refine T_icmp_le (tgt := 59) dX11_pullAt_50 rfl (fun b50 => ?_) (fun b50 => ?_)
    · refine T_iconst dX11_pullAt_59 (inr rfl) ?_
      refine T_istore dX11_pullAt_60 (by decide) rfl ?_
      refine T_aloadn dX11_pullAt_62 rfl rfl ?_
      refine T_iloadn dX11_pullAt_63 rfl rfl ?_
      refine T_iload dX11_pullAt_64 rfl ?_
      refine T_if_ge (tgt := 73) dX11_pullAt_66 rfl (fun b66 => ?_) (fun b66 => ?_)
      · refine T_iload dX11_pullAt_73 rfl ?_
        refine T_iload dX11_pullAt_75 rfl ?_
        first | refine T_isubN dX11_pullAt_77 (by omega) ?_ | refine T_isub dX11_pullAt_77 ?_
        refine TT_Vi dX11_pullAt_78 (r_pullOf c r hr (lgL (c 141) (imin (c 126 r) 41).toNat - 0)) kX11_211 (by decide) (by first | decide | omega) (by first | assumption | rfl) rfl (leb rfl) ?_
        refine TT_ri dX11_pullAt_81 trivial ?_
        refine ro_q ?_
        unfold pR lg0
        rw [show imin (c 126 r) (c 130 (2 + r) + (y : Int)) = c 126 r by unfold imin; rw [if_neg (by omega)]]
        rw [show imax 0 (v - (y : Int)) = 0 by unfold imax; rw [if_neg (by omega)]]
        rw [if_neg (by omega)]
      · refine T_iconst dX11_pullAt_69 (inr rfl) ?_
        refine T_goto (tgt := 75) dX11_pullAt_70 rfl ?_
        refine T_iload dX11_pullAt_75 rfl ?_
        first | refine T_isubN dX11_pullAt_77 (by omega) ?_ | refine T_isub dX11_pullAt_77 ?_
        refine TT_Vi dX11_pullAt_78 (r_pullOf c r hr (0 - 0)) kX11_211 (by decide) (by first | decide | omega) (by first | assumption | rfl) rfl (leb rfl) ?_
        refine TT_ri dX11_pullAt_81 trivial ?_
        refine ro_q ?_
        unfold pR lg0
        rw [show imin (c 126 r) (c 130 (2 + r) + (y : Int)) = c 126 r by unfold imin; rw [if_neg (by omega)]]
        rw [show imax 0 (v - (y : Int)) = 0 by unfold imax; rw [if_neg (by omega)]]
        rw [if_pos (by omega)]
    · refine T_iloadn dX11_pullAt_53 rfl rfl ?_
      refine T_iloadn dX11_pullAt_54 rfl rfl ?_
      first | refine T_isubN dX11_pullAt_55 (by omega) ?_ | refine T_isub dX11_pullAt_55 ?_
      refine T_goto (tgt := 60) dX11_pullAt_56 rfl ?_
      refine T_istore dX11_pullAt_60 (by decide) rfl ?_
      refine T_aloadn dX11_pullAt_62 rfl rfl ?_
      refine T_iloadn dX11_pullAt_63 rfl rfl ?_
      refine T_iload dX11_pullAt_64 rfl ?_
      refine T_if_ge (tgt := 73) dX11_pullAt_66 rfl (fun b66 => ?_) (fun b66 => ?_)
      · refine T_iload dX11_pullAt_73 rfl ?_
        refine T_iload dX11_pullAt_75 rfl ?_
        first | refine T_isubN dX11_pullAt_77 (by omega) ?_ | refine T_isub dX11_pullAt_77 ?_
        refine TT_Vi dX11_pullAt_78 (r_pullOf c r hr (lgL (c 141) (imin (c 126 r) 41).toNat - (v - (y : Int)))) kX11_211 (by decide) (by first | decide | omega) (by first | assumption | rfl) rfl (leb rfl) ?_
        refine TT_ri dX11_pullAt_81 trivial ?_
        refine ro_q ?_
        unfold pR lg0
        rw [show imin (c 126 r) (c 130 (2 + r) + (y : Int)) = c 126 r by unfold imin; rw [if_neg (by omega)]]
        rw [show imax 0 (v - (y : Int)) = v - (y : Int) by unfold imax; rw [if_pos (by omega)]]
        rw [if_neg (by omega)]
      · refine T_iconst dX11_pullAt_69 (inr rfl) ?_
        refine T_goto (tgt := 75) dX11_pullAt_70 rfl ?_
        refine T_iload dX11_pullAt_75 rfl ?_
        first | refine T_isubN dX11_pullAt_77 (by omega) ?_ | refine T_isub dX11_pullAt_77 ?_
        refine TT_Vi dX11_pullAt_78 (r_pullOf c r hr (0 - (v - (y : Int)))) kX11_211 (by decide) (by first | decide | omega) (by first | assumption | rfl) rfl (leb rfl) ?_
        refine TT_ri dX11_pullAt_81 trivial ?_
        refine ro_q ?_
        unfold pR lg0
        rw [show imin (c 126 r) (c 130 (2 + r) + (y : Int)) = c 126 r by unfold imin; rw [if_neg (by omega)]]
        rw [show imax 0 (v - (y : Int)) = v - (y : Int) by unfold imax; rw [if_pos (by omega)]]
        rw [if_pos (by omega)]
  · refine T_aloadn dX11_pullAt_19 rfl rfl ?_
    refine T_getfin dX11_pullAt_20 fX11_31 (by first | assumption | rfl) (by first | decide | omega) rfl (by first | assumption | rfl) ?_
    refine T_iconst dX11_pullAt_23 (inr rfl) ?_
    refine T_iloadn dX11_pullAt_24 rfl rfl ?_
    first | refine T_iaddN dX11_pullAt_25 (by omega) ?_ | refine T_iadd dX11_pullAt_25 ?_
    refine T_iald (j := 2 + r) dX11_pullAt_26 (by first | assumption | rfl) (by first | decide | omega) (by omega) (by omega) ?_
    refine T_iloadn dX11_pullAt_27 rfl rfl ?_
    first | refine T_iaddN dX11_pullAt_28 (by omega) ?_ | refine T_iadd dX11_pullAt_28 ?_
    refine T_goto (tgt := 38) dX11_pullAt_29 rfl ?_
    refine T_istore dX11_pullAt_38 (by decide) rfl ?_
    refine T_aloadn dX11_pullAt_40 rfl rfl ?_
    refine T_iload dX11_pullAt_41 rfl ?_
    refine TT_Vi dX11_pullAt_43 (r_longestOf c (c 130 (2 + r) + (y : Int)) (by omega)) kX11_208 (by decide) (by first | decide | omega) (by first | assumption | rfl) rfl (leb rfl) ?_
    have hl := lgL_bd (c 141) (imin (c 130 (2 + r) + (y : Int)) 41).toNat
    have hm := imin41 (b := c 130 (2 + r) + (y : Int)) (by omega)
    refine T_istore dX11_pullAt_46 (by decide) rfl ?_
    refine T_iloadn dX11_pullAt_48 rfl rfl ?_
    refine T_iloadn dX11_pullAt_49 rfl rfl ?_
    refine T_icmp_le (tgt := 59) dX11_pullAt_50 rfl (fun b50 => ?_) (fun b50 => ?_)
    · refine T_iconst dX11_pullAt_59 (inr rfl) ?_
      refine T_istore dX11_pullAt_60 (by decide) rfl ?_
      refine T_aloadn dX11_pullAt_62 rfl rfl ?_
      refine T_iloadn dX11_pullAt_63 rfl rfl ?_
      refine T_iload dX11_pullAt_64 rfl ?_
      refine T_if_ge (tgt := 73) dX11_pullAt_66 rfl (fun b66 => ?_) (fun b66 => ?_)
      · refine T_iload dX11_pullAt_73 rfl ?_
        refine T_iload dX11_pullAt_75 rfl ?_
        first | refine T_isubN dX11_pullAt_77 (by omega) ?_ | refine T_isub dX11_pullAt_77 ?_
        refine TT_Vi dX11_pullAt_78 (r_pullOf c r hr (lgL (c 141) (imin ((c 130 (2 + r) + (y : Int))) 41).toNat - 0)) kX11_211 (by decide) (by first | decide | omega) (by first | assumption | rfl) rfl (leb rfl) ?_
        refine TT_ri dX11_pullAt_81 trivial ?_
        refine ro_q ?_
        unfold pR lg0
        rw [show imin (c 126 r) (c 130 (2 + r) + (y : Int)) = c 130 (2 + r) + (y : Int) by unfold imin; rw [if_pos (by omega)]]
        rw [show imax 0 (v - (y : Int)) = 0 by unfold imax; rw [if_neg (by omega)]]
        rw [if_neg (by omega)]
      · refine T_iconst dX11_pullAt_69 (inr rfl) ?_
        refine T_goto (tgt := 75) dX11_pullAt_70 rfl ?_
        refine T_iload dX11_pullAt_75 rfl ?_
        first | refine T_isubN dX11_pullAt_77 (by omega) ?_ | refine T_isub dX11_pullAt_77 ?_
        refine TT_Vi dX11_pullAt_78 (r_pullOf c r hr (0 - 0)) kX11_211 (by decide) (by first | decide | omega) (by first | assumption | rfl) rfl (leb rfl) ?_
        refine TT_ri dX11_pullAt_81 trivial ?_
        refine ro_q ?_
        unfold pR lg0
        rw [show imin (c 126 r) (c 130 (2 + r) + (y : Int)) = c 130 (2 + r) + (y : Int) by unfold imin; rw [if_pos (by omega)]]
        rw [show imax 0 (v - (y : Int)) = 0 by unfold imax; rw [if_neg (by omega)]]
        rw [if_pos (by omega)]
    · refine T_iloadn dX11_pullAt_53 rfl rfl ?_
      refine T_iloadn dX11_pullAt_54 rfl rfl ?_
      first | refine T_isubN dX11_pullAt_55 (by omega) ?_ | refine T_isub dX11_pullAt_55 ?_
      refine T_goto (tgt := 60) dX11_pullAt_56 rfl ?_
      refine T_istore dX11_pullAt_60 (by decide) rfl ?_
      refine T_aloadn dX11_pullAt_62 rfl rfl ?_
      refine T_iloadn dX11_pullAt_63 rfl rfl ?_
      refine T_iload dX11_pullAt_64 rfl ?_
      refine T_if_ge (tgt := 73) dX11_pullAt_66 rfl (fun b66 => ?_) (fun b66 => ?_)
      · refine T_iload dX11_pullAt_73 rfl ?_
        refine T_iload dX11_pullAt_75 rfl ?_
        first | refine T_isubN dX11_pullAt_77 (by omega) ?_ | refine T_isub dX11_pullAt_77 ?_
        refine TT_Vi dX11_pullAt_78 (r_pullOf c r hr (lgL (c 141) (imin ((c 130 (2 + r) + (y : Int))) 41).toNat - (v - (y : Int)))) kX11_211 (by decide) (by first | decide | omega) (by first | assumption | rfl) rfl (leb rfl) ?_
        refine TT_ri dX11_pullAt_81 trivial ?_
        refine ro_q ?_
        unfold pR lg0
        rw [show imin (c 126 r) (c 130 (2 + r) + (y : Int)) = c 130 (2 + r) + (y : Int) by unfold imin; rw [if_pos (by omega)]]
        rw [show imax 0 (v - (y : Int)) = v - (y : Int) by unfold imax; rw [if_pos (by omega)]]
        rw [if_neg (by omega)]
      · refine T_iconst dX11_pullAt_69 (inr rfl) ?_
        refine T_goto (tgt := 75) dX11_pullAt_70 rfl ?_
        refine T_iload dX11_pullAt_75 rfl ?_
        first | refine T_isubN dX11_pullAt_77 (by omega) ?_ | refine T_isub dX11_pullAt_77 ?_
        refine TT_Vi dX11_pullAt_78 (r_pullOf c r hr (0 - (v - (y : Int)))) kX11_211 (by decide) (by first | decide | omega) (by first | assumption | rfl) rfl (leb rfl) ?_
        refine TT_ri dX11_pullAt_81 trivial ?_
        refine ro_q ?_
        unfold pR lg0
        rw [show imin (c 126 r) (c 130 (2 + r) + (y : Int)) = c 130 (2 + r) + (y : Int) by unfold imin; rw [if_pos (by omega)]]
        rw [show imax 0 (v - (y : Int)) = v - (y : Int) by unfold imax; rw [if_pos (by omega)]]
        rw [if_pos (by omega)]
def frV (x sum : Int) : Int := if x < 0 then -1 else sum + x
set_option maxHeartbeats 4000000 in
set_option maxRecDepth 100000 in
theorem rl_farBy (c : HC) {np : Nat} (hv : RSV c np) (hbr : ∀ p, p < np → 0 ≤ c 130 (2 + p) ∧ c 130 (2 + p) ≤ 40) (s v : Int) (hV : 0 ≤ v ∧ v ≤ 40) {n : Nat} (hn : n < 7) (mb : Nat → Int) (P : Nat → Nat → Int) (hB : PB P n) (hM : ∀ j, j < n → ∃ r : Nat, nthL (c 125) s (-1) np 0 (j : Int) = (r : Int) ∧ r < np ∧ mb j = (r : Int) ∧ ∀ y, y < 6 → P j y = pR c v r y) (C : Nat) (hC : C ≤ 100000) : ∀ (m k t : Nat) (sum : Int), k + m = n → t < 2 ^ n → 0 ≤ sum → sum ≤ 100 * k → TT mX11_farBy 2 9 [(0, vr 122), (1, vi s), (2, vi (C : Int)), (3, vi (n : Int)), (4, vi v), (5, vi (t : Int)), (6, vi sum), (7, vi (k : Int))] [] c (fun v_ c1 => v_ = some (vi (frV (fbV P n m t (C % 6 ^ m)) sum)) ∧ c1 = c) := by
  have hn10 := hv.2.1
  have hp2 : 2 ^ n ≤ 64 := (rwP n hn).1
  intro m
  induction m with
  | zero =>
    intro k t sum hk ht h0 h1
    unfold fbV frV
    refine T_iload dX11_farBy_9 rfl ?_
    refine T_iloadn dX11_farBy_11 rfl rfl ?_
    refine T_icmp_ge (tgt := 77) dX11_farBy_12 rfl (fun b12 => ?_) (fun b12 => absurd b12 (by omega))
    refine T_iload dX11_farBy_77 rfl ?_
    refine TT_ri dX11_farBy_79 trivial ?_
    exact ro_q (by rw [if_neg (by decide), Int.add_zero])
  | succ m ih =>
    intro k t sum hk ht h0 h1
    obtain ⟨f, hf⟩ : ∃ f, f = C / 6 ^ (n - 1 - k) % 6 := ⟨_, rfl⟩
    have hmk : n - 1 - k = m := by omega
    have hf6 : f < 6 := by omega
    have e1 : C % 6 ^ (m + 1) / 6 ^ m = f := by rw [hf, hmk, six_dig]
    have e2 : C % 6 ^ (m + 1) % 6 ^ m = C % 6 ^ m := Nat.mod_mod_of_dvd _ (Nat.pow_dvd_pow 6 (by omega))
    have hfig := r_figure c C n k hn (by omega) hC
    rw [← hf] at hfig
    unfold fbV
    rw [e1, e2]
    have hb := bitI_tb (s := t) (k := f) (by omega)
    refine T_iload dX11_farBy_9 rfl ?_
    refine T_iloadn dX11_farBy_11 rfl rfl ?_
    refine T_icmp_ge (tgt := 77) dX11_farBy_12 rfl (fun b12 => absurd b12 (by omega)) (fun b12 => ?_)
    refine T_iloadn dX11_farBy_15 rfl rfl ?_
    refine T_iloadn dX11_farBy_16 rfl rfl ?_
    refine T_iload dX11_farBy_17 rfl ?_
    refine TT_Si dX11_farBy_19 (hfig) kX11_269 (by decide) rfl (leb rfl) ?_
    refine T_istore dX11_farBy_22 (by decide) rfl ?_
    refine T_iload dX11_farBy_24 rfl ?_
    refine T_iloadn dX11_farBy_26 rfl rfl ?_
    refine T_icmp_ge (tgt := 40) dX11_farBy_27 rfl (fun b27 => ?_) (fun b27 => ?_)
    · refine T_iconst dX11_farBy_40 (inr rfl) ?_
      refine TT_ri dX11_farBy_41 trivial ?_
      exact ro_q (by unfold frV; rw [if_pos (Or.inl (by omega)), if_pos (by decide)])
    · refine T_iload dX11_farBy_30 rfl ?_
      refine T_iload dX11_farBy_32 rfl ?_
      refine TT_Si dX11_farBy_34 (r_has c (t : Int) (f : Int) (by omega)) kX11_151 (by decide) rfl (leb rfl) ?_
      rw [hb]
      refine T_if_eq (tgt := 42) dX11_farBy_37 rfl (fun b37 => ?_) (fun b37 => ?_)
      · have hbt : t.testBit f = false := by
          cases hh : t.testBit f with
          | false => rfl
          | true => rw [hh, if_pos rfl] at b37; exact absurd b37 (by decide)
        have hrw := rwS n hn t ht f (by omega) hbt
        obtain ⟨r, hr0, hr, hmb, hPr⟩ := hM f (by omega)
        have hnt := r_nth c hv s (f : Int) (by omega)
        rw [hr0] at hnt
        have hPB := hB f (by omega) k (by omega)
        have hPk := hPr k (by omega)
        refine T_iload dX11_farBy_42 rfl ?_
        refine T_iconst dX11_farBy_44 (inr rfl) ?_
        refine T_iload dX11_farBy_45 rfl ?_
        refine T_ishl dX11_farBy_47 (by omega) (by omega) ?_
        refine T_ior dX11_farBy_48 ?_
        rw [bb_or hn ht (by omega) hbt]
        refine T_istore dX11_farBy_49 (by decide) rfl ?_
        refine T_iload dX11_farBy_51 rfl ?_
        refine T_aloadn dX11_farBy_53 rfl rfl ?_
        refine T_aloadn dX11_farBy_54 rfl rfl ?_
        refine T_iloadn dX11_farBy_55 rfl rfl ?_
        refine T_iload dX11_farBy_56 rfl ?_
        refine TT_Vi dX11_farBy_58 (hnt) kX11_261 (by decide) (by first | decide | omega) (by first | assumption | rfl) rfl (leb rfl) ?_
        refine T_iload dX11_farBy_61 rfl ?_
        refine T_iload dX11_farBy_63 rfl ?_
        refine TT_Vi dX11_farBy_65 (r_pullAt c r (by omega) (hbr r hr) ((hv.2.2 r hr).2.1) k (by omega) v hV) kX11_273 (by decide) (by first | decide | omega) (by first | assumption | rfl) rfl (leb rfl) ?_
        rw [← hPk]
        first | refine T_iaddN dX11_farBy_68 (by omega) ?_ | refine T_iadd dX11_farBy_68 ?_
        refine T_istore dX11_farBy_69 (by decide) rfl ?_
        refine T_iincN dX11_farBy_71 rfl (by decide) rfl (by omega) ?_
        refine T_goto (tgt := 9) dX11_farBy_74 rfl ?_
        refine T_keep [0, 1, 2, 3, 4, 5, 6, 7] ?_
        have h := ih (k + 1) (t + 2 ^ f) (sum + P f k) (by omega) hrw.2.1 (by omega) (by omega)
        have e3 : frV (if n ≤ f ∨ t.testBit f = true then -1 else if fbV P n m (t + 2 ^ f) (C % 6 ^ m) < 0 then -1 else P f (n - 1 - m) + fbV P n m (t + 2 ^ f) (C % 6 ^ m)) sum = frV (fbV P n m (t + 2 ^ f) (C % 6 ^ m)) (sum + P f k) := by
          rw [if_neg (fun z => by
            rcases z with z | z
            · omega
            · rw [hbt] at z; exact absurd z (by decide)), show n - 1 - m = k by omega]
          unfold frV
          by_cases hz : fbV P n m (t + 2 ^ f) (C % 6 ^ m) < 0
          · rw [if_pos hz, if_pos (by decide), if_pos hz]
          · rw [if_neg hz, if_neg (by omega), if_neg hz]; omega
        rw [e3]
        exact h
      · refine T_iconst dX11_farBy_40 (inr rfl) ?_
        refine TT_ri dX11_farBy_41 trivial ?_
        exact ro_q (by unfold frV; rw [if_pos (Or.inr (ite11 b37)), if_pos (by decide)])
set_option maxHeartbeats 4000000 in
set_option maxRecDepth 100000 in
theorem r_farBy (c : HC) {np : Nat} (hv : RSV c np) (hbr : ∀ p, p < np → 0 ≤ c 130 (2 + p) ∧ c 130 (2 + p) ≤ 40) (s v : Int) (hV : 0 ≤ v ∧ v ≤ 40) {n : Nat} (hn : n < 7) (mb : Nat → Int) (P : Nat → Nat → Int) (hB : PB P n) (hM : ∀ j, j < n → ∃ r : Nat, nthL (c 125) s (-1) np 0 (j : Int) = (r : Int) ∧ r < np ∧ mb j = (r : Int) ∧ ∀ y, y < 6 → P j y = pR c v r y) (C : Nat) (hC : C ≤ 100000) (hC6 : C < 6 ^ n) : RO mX11_farBy 2 c [vr 122, vi s, vi (C : Int), vi (n : Int), vi v] (frV (fbV P n n 0 C) 0) := by
  refine CC.of (by decide +kernel) (leb rfl) (fun hok => ?_)
  refine T_iconst dX11_farBy_0 (inr rfl) ?_
  refine T_istore dX11_farBy_1 (by decide) rfl ?_
  refine T_iconst dX11_farBy_3 (inr rfl) ?_
  refine T_istore dX11_farBy_4 (by decide) rfl ?_
  refine T_iconst dX11_farBy_6 (inr rfl) ?_
  refine T_istore dX11_farBy_7 (by decide) rfl ?_
  have h := rl_farBy c hv hbr s v hV hn mb P hB hM C hC n 0 0 0 (by omega) (Nat.two_pow_pos n) (by omega) (by omega)
  rw [Nat.mod_eq_of_lt hC6] at h
  exact h
set_option maxHeartbeats 4000000 in
set_option maxRecDepth 100000 in
theorem yl_ord1 (c : HC) (s v i : Int) (n : Nat) (hn : n < 7) (Q : Option PV → HC → Prop) (hq : TT mX11_order 3 71 [(0, vr 122), (1, vi s), (2, vi v), (3, vi i), (4, vi (n : Int)), (5, vi ((6 ^ n : Nat) : Int))] [] c Q) : ∀ (k j : Nat), j + k = n → TT mX11_order 3 51 [(0, vr 122), (1, vi s), (2, vi v), (3, vi i), (4, vi (n : Int)), (5, vi ((6 ^ j : Nat) : Int)), (6, vi (j : Int))] [] c Q := by
  intro k
  induction k with
  | zero =>
    intro j hk
    have e : j = n := by omega
    subst e
    refine T_iload dX11_order_51 rfl ?_
    refine T_iload dX11_order_53 rfl ?_
    refine T_icmp_ge (tgt := 71) dX11_order_55 rfl (fun b55 => ?_) (fun b55 => absurd b55 (by omega))
    refine T_keep [0, 1, 2, 3, 4, 5] ?_
    exact hq
  | succ k ih =>
    intro j hk
    have h := ih (j + 1) (by omega)
    have hM1 : 6 ^ j ≤ 7776 := Nat.pow_le_pow_right (n := 6) (by decide) (show j ≤ 5 by omega)
    rw [Nat.pow_succ] at h
    obtain ⟨M, hM⟩ : ∃ M, M = 6 ^ j := ⟨_, rfl⟩
    rw [← hM] at h hM1 ⊢
    refine T_iload dX11_order_51 rfl ?_
    refine T_iload dX11_order_53 rfl ?_
    refine T_icmp_ge (tgt := 71) dX11_order_55 rfl (fun b55 => absurd b55 (by omega)) (fun b55 => ?_)
    refine T_iload dX11_order_58 rfl ?_
    refine T_bipush dX11_order_60 (bp8 rfl) (inr rfl) ?_
    first | refine T_imulN dX11_order_62 (by omega) ?_ | refine T_imul dX11_order_62 ?_
    refine T_istore dX11_order_63 (by decide) rfl ?_
    refine T_iincN dX11_order_65 rfl (by decide) rfl (by omega) ?_
    refine T_goto (tgt := 51) dX11_order_68 rfl ?_
    rw [show (M : Int) * 6 = ((M * 6 : Nat) : Int) by omega]
    exact h
set_option maxHeartbeats 4000000 in
set_option maxRecDepth 100000 in
theorem yl_ord2 (c : HC) {np : Nat} (hv : RSV c np) (hbr : ∀ p, p < np → 0 ≤ c 130 (2 + p) ∧ c 130 (2 + p) ≤ 40) (s v : Int) (hV : 0 ≤ v ∧ v ≤ 40) {n : Nat} (hn : n < 7) (mb : Nat → Int) (P : Nat → Nat → Int) (hB : PB P n) (hM : ∀ j, j < n → ∃ r : Nat, nthL (c 125) s (-1) np 0 (j : Int) = (r : Int) ∧ r < np ∧ mb j = (r : Int) ∧ ∀ y, y < 6 → P j y = pR c v r y) (i : Int) (M6 : Nat) (hM6 : M6 = 6 ^ n) (Q : Option PV → HC → Prop) (hq : TT mX11_order 3 137 [(0, vr 122), (1, vi s), (2, vi v), (3, vi i), (4, vi (n : Int)), (6, vi ((bC P n n 0 : Nat) : Int)), (7, vi (MV P n n 0))] [] c Q) : ∀ (k N : Nat) (be fa : Int), N + k = M6 → (N ≤ bC P n n 0 → -1 ≤ fa ∧ fa < MV P n n 0) → (bC P n n 0 < N → fa = MV P n n 0 ∧ be = ((bC P n n 0 : Nat) : Int)) → TT mX11_order 3 80 [(0, vr 122), (1, vi s), (2, vi v), (3, vi i), (4, vi (n : Int)), (5, vi (M6 : Int)), (6, vi be), (7, vi fa), (8, vi (N : Int))] [] c Q := by
  have hval := fb_best hn hB n 0 (Nat.two_pow_pos n) (by rw [show pcU 0 6 = 0 by decide]; omega)
  have hmax := fun C => fb_max hn hB n 0 C (Nat.two_pow_pos n) (by rw [show pcU 0 6 = 0 by decide]; omega)
  have h0 := (MV_bd hn hB n (Nat.le_refl _) 0).1
  have hM1 : 6 ^ n ≤ 46656 := Nat.pow_le_pow_right (n := 6) (by decide) (show n ≤ 6 by omega)
  rw [← hM6] at hM1 hval
  have hlo := hmax
  intro k
  induction k with
  | zero =>
    intro N be fa hk h1 h2
    obtain ⟨e1, e2⟩ := h2 (by omega)
    subst e1
    subst e2
    refine T_iload dX11_order_80 rfl ?_
    refine T_iload dX11_order_82 rfl ?_
    refine T_icmp_ge (tgt := 137) dX11_order_84 rfl (fun b84 => ?_) (fun b84 => absurd b84 (by omega))
    refine T_keep [0, 1, 2, 3, 4, 6, 7] ?_
    exact hq
  | succ k ih =>
    intro N be fa hk h1 h2
    refine T_iload dX11_order_80 rfl ?_
    refine T_iload dX11_order_82 rfl ?_
    refine T_icmp_ge (tgt := 137) dX11_order_84 rfl (fun b84 => absurd b84 (by omega)) (fun b84 => ?_)
    refine T_aloadn dX11_order_87 rfl rfl ?_
    refine T_iloadn dX11_order_88 rfl rfl ?_
    refine T_iload dX11_order_89 rfl ?_
    refine T_iload dX11_order_91 rfl ?_
    refine T_iloadn dX11_order_93 rfl rfl ?_
    refine TT_Vi dX11_order_94 (r_farBy c hv hbr s v hV hn mb P hB hM N (by omega) (by omega)) kX11_278 (by decide) (by first | decide | omega) (by first | assumption | rfl) rfl (leb rfl) ?_
    refine T_istore dX11_order_97 (by decide) rfl ?_
    refine T_iload dX11_order_99 rfl ?_
    refine T_iload dX11_order_101 rfl ?_
    refine T_icmp_le (tgt := 111) dX11_order_103 rfl (fun b103 => ?_) (fun b103 => ?_)
    · refine T_iload dX11_order_111 rfl ?_
      refine T_istore dX11_order_113 (by decide) rfl ?_
      refine T_iload dX11_order_115 rfl ?_
      refine T_iload dX11_order_117 rfl ?_
      refine T_icmp_le (tgt := 127) dX11_order_119 rfl (fun b119 => ?_) (fun b119 => absurd b119 (by omega))
      refine T_iload dX11_order_127 rfl ?_
      refine T_istore dX11_order_129 (by decide) rfl ?_
      refine T_iincN dX11_order_131 rfl (by decide) rfl (by omega) ?_
      refine T_goto (tgt := 80) dX11_order_134 rfl ?_
      refine T_keep [0, 1, 2, 3, 4, 5, 6, 7, 8] ?_
      refine ih (N + 1) be fa (by omega) (fun z => h1 (by omega)) (fun z => ?_)
      by_cases hNB : N = bC P n n 0
      · have k1 := h1 (by omega)
        have k2 := hlo N
        rw [hNB, hval.2.1] at b103
        unfold frV at b103
        rw [if_neg (by omega)] at b103
        omega
      · exact h2 (by omega)
    · refine T_iload dX11_order_106 rfl ?_
      refine T_goto (tgt := 113) dX11_order_108 rfl ?_
      refine T_istore dX11_order_113 (by decide) rfl ?_
      refine T_iload dX11_order_115 rfl ?_
      refine T_iload dX11_order_117 rfl ?_
      refine T_icmp_le (tgt := 127) dX11_order_119 rfl (fun b119 => absurd b119 (by omega)) (fun b119 => ?_)
      refine T_iload dX11_order_122 rfl ?_
      refine T_goto (tgt := 129) dX11_order_124 rfl ?_
      refine T_istore dX11_order_129 (by decide) rfl ?_
      refine T_iincN dX11_order_131 rfl (by decide) rfl (by omega) ?_
      refine T_goto (tgt := 80) dX11_order_134 rfl ?_
      refine T_keep [0, 1, 2, 3, 4, 5, 6, 7, 8] ?_
      refine ih (N + 1) (N : Int) (frV (fbV P n n 0 N) 0) (by omega) (fun z => ?_) (fun z => ?_)
      · have k2 := hval.2.2 N (by omega)
        unfold frV
        split <;> omega
      · by_cases hNB : N = bC P n n 0
        · refine ⟨?_, by rw [hNB]⟩
          rw [hNB, hval.2.1]
          unfold frV
          rw [if_neg (by omega)]
          omega
        · have k1 := h2 (by omega)
          have k3 := hmax N
          unfold frV at b103
          split at b103 <;> omega
set_option maxHeartbeats 4000000 in
set_option maxRecDepth 100000 in
theorem yl_ord3 (c : HC) {np : Nat} (hv : RSV c np) (hbr : ∀ p, p < np → 0 ≤ c 130 (2 + p) ∧ c 130 (2 + p) ≤ 40) (s v : Int) (hV : 0 ≤ v ∧ v ≤ 40) {n : Nat} (hn : n < 7) (mb : Nat → Int) (P : Nat → Nat → Int) (hB : PB P n) (hM : ∀ j, j < n → ∃ r : Nat, nthL (c 125) s (-1) np 0 (j : Int) = (r : Int) ∧ r < np ∧ mb j = (r : Int) ∧ ∀ y, y < 6 → P j y = pR c v r y) (i : Int) : TT mX11_order 3 137 [(0, vr 122), (1, vi s), (2, vi v), (3, vi i), (4, vi (n : Int)), (6, vi ((bC P n n 0 : Nat) : Int)), (7, vi (MV P n n 0))] [] c (fun v_ c1 => v_ = some (vi (if i = -1 then MV P n n 0 else if i < 0 ∨ (n : Int) ≤ i then -1 else mb (gJ P n (n - 1 - i.toNat) (gS P n i.toNat)))) ∧ c1 = c) := by
  have hval := fb_best hn hB n 0 (Nat.two_pow_pos n) (by rw [show pcU 0 6 = 0 by decide]; omega)
  have hM1 : 6 ^ n ≤ 46656 := Nat.pow_le_pow_right (n := 6) (by decide) (show n ≤ 6 by omega)
  refine T_iloadn dX11_order_137 rfl rfl ?_
  refine T_iconst dX11_order_138 (inr rfl) ?_
  refine T_icmp_ne (tgt := 147) dX11_order_139 rfl (fun b139 => ?_) (fun b139 => ?_)
  · refine T_iloadn dX11_order_147 rfl rfl ?_
    refine T_i2l dX11_order_148 ?_
    refine T_lconst (z := 0) dX11_order_149 rfl (inl rfl) ?_
    refine T_iload dX11_order_150 rfl ?_
    refine T_iconst dX11_order_152 (inr rfl) ?_
    first | refine T_isubN dX11_order_153 (by omega) ?_ | refine T_isub dX11_order_153 ?_
    refine T_i2l dX11_order_154 ?_
    refine TT_Si dX11_order_155 (r_in c i 0 ((n : Int) - 1)) kX11_96 (by decide) rfl (leb rfl) ?_
    refine T_if_eq (tgt := 177) dX11_order_158 rfl (fun b158 => ?_) (fun b158 => ?_)
    · refine T_iconst dX11_order_177 (inr rfl) ?_
      refine TT_ri dX11_order_178 trivial ?_
      have hi := inF_f b158
      exact ro_q (by rw [if_neg b139, if_pos (by omega)])
    · have hi := inF_t b158
      have hfig := r_figure c (bC P n n 0) n i.toNat hn (by omega) (by omega)
      rw [bC_fig hn hB i.toNat (by omega), show ((i.toNat : Nat) : Int) = i by omega] at hfig
      have hs := gS_sp hn hB i.toNat (by omega)
      obtain ⟨⟨g1, _⟩, _⟩ := gJ_sp hn hB hs.1 (m := n - 1 - i.toNat) (by omega)
      obtain ⟨r, hr0, hr, hmb2, _⟩ := hM _ g1
      have hnt := r_nth c hv s ((gJ P n (n - 1 - i.toNat) (gS P n i.toNat) : Nat) : Int) (by omega)
      rw [hr0] at hnt
      refine T_aloadn dX11_order_161 rfl rfl ?_
      refine T_iloadn dX11_order_162 rfl rfl ?_
      refine T_iload dX11_order_163 rfl ?_
      refine T_iload dX11_order_165 rfl ?_
      refine T_iloadn dX11_order_167 rfl rfl ?_
      refine TT_Si dX11_order_168 (hfig) kX11_269 (by decide) rfl (leb rfl) ?_
      refine TT_Vi dX11_order_171 (hnt) kX11_261 (by decide) (by first | decide | omega) (by first | assumption | rfl) rfl (leb rfl) ?_
      refine T_goto (tgt := 178) dX11_order_174 rfl ?_
      refine TT_ri dX11_order_178 trivial ?_
      exact ro_q (by rw [if_neg b139, if_neg (by omega), hmb2])
  · refine T_iload dX11_order_142 rfl ?_
    refine T_goto (tgt := 178) dX11_order_144 rfl ?_
    refine TT_ri dX11_order_178 trivial ?_
    exact ro_q (by rw [if_pos b139])
set_option maxHeartbeats 4000000 in
set_option maxRecDepth 100000 in
theorem y_order (c : HC) {np : Nat} (hv : RSV c np) (hbr : ∀ p, p < np → 0 ≤ c 130 (2 + p) ∧ c 130 (2 + p) ≤ 40) (s v i : Int) (mb : Nat → Int) (P : Nat → Nat → Int) (hB : ∀ n : Nat, cntU (c 125) s np = (n : Int) → 0 ≤ v ∧ v ≤ 40 → PB P n) (hM : ∀ n : Nat, cntU (c 125) s np = (n : Int) → 0 ≤ v ∧ v ≤ 40 → ∀ j, j < n → ∃ r : Nat, nthL (c 125) s (-1) np 0 (j : Int) = (r : Int) ∧ r < np ∧ mb j = (r : Int) ∧ ∀ y, y < 6 → P j y = pR c v r y) : RO mX11_order 3 c [vr 122, vi s, vi v, vi i] (ordF mb P (cntU (c 125) s np) s v i) := by
  have hcb := cntU_bd (c 125) s np
  obtain ⟨n, hn⟩ := Int.eq_ofNat_of_zero_le hcb.1
  have hmany := r_many c hv s
  have hB2 := hB n hn
  have hM2 := hM n hn
  rw [hn] at hmany ⊢
  refine CC.of (by decide +kernel) (leb rfl) (fun hok => ?_)
  unfold ordF isSideF UNK OUT NOTN
  refine T_iloadn dX11_order_0 rfl rfl ?_
  refine T_i2l dX11_order_1 ?_
  refine T_lconst (z := 0) dX11_order_2 rfl (inl rfl) ?_
  refine T_lconst (z := 1) dX11_order_3 rfl (inl rfl) ?_
  refine TT_Si dX11_order_4 (r_in c s 0 1) kX11_96 (by decide) rfl (leb rfl) ?_
  refine T_if_ne (tgt := 13) dX11_order_7 rfl (fun b7 => ?_) (fun b7 => ?_)
  · have hi := inF_t b7
    rw [if_pos (show s = 0 ∨ s = 1 by omega), if_neg (by decide)]
    refine T_iloadn dX11_order_13 rfl rfl ?_
    refine T_i2l dX11_order_14 ?_
    refine T_lconst (z := 0) dX11_order_15 rfl (inl rfl) ?_
    refine T_ldc2 dX11_order_16 clX11_276 (inl rfl) ?_
    refine TT_Si dX11_order_19 (r_in c v 0 40) kX11_96 (by decide) rfl (leb rfl) ?_
    refine T_if_ne (tgt := 28) dX11_order_22 rfl (fun b22 => ?_) (fun b22 => ?_)
    · have hj := inF_t b22
      rw [if_neg (show ¬ (v < 0 ∨ 40 < v) by omega)]
      refine T_aloadn dX11_order_28 rfl rfl ?_
      refine T_iloadn dX11_order_29 rfl rfl ?_
      refine TT_Vi dX11_order_30 (hmany) kX11_258 (by decide) (by first | decide | omega) (by first | assumption | rfl) rfl (leb rfl) ?_
      refine T_istore dX11_order_33 (by decide) rfl ?_
      refine T_iload dX11_order_35 rfl ?_
      refine T_bipush dX11_order_37 (bp8 rfl) (inr rfl) ?_
      refine T_icmp_le (tgt := 45) dX11_order_39 rfl (fun b39 => ?_) (fun b39 => ?_)
      · refine T_iconst dX11_order_45 (inr rfl) ?_
        refine T_istore dX11_order_46 (by decide) rfl ?_
        refine T_iconst dX11_order_48 (inr rfl) ?_
        refine T_istore dX11_order_49 (by decide) rfl ?_
        rw [if_neg (show ¬ (6 < (n : Int)) by omega), Int.toNat_natCast]
        refine yl_ord1 c s v i n (by omega) _ ?_ n 0 (by omega)
        obtain ⟨M6, hM6⟩ : ∃ M, M = 6 ^ n := ⟨_, rfl⟩
        rw [← hM6]
        have h0 := (MV_bd (by omega) (hB2 hj) n (Nat.le_refl _) 0).1
        refine T_iconst dX11_order_71 (inr rfl) ?_
        refine T_istore dX11_order_72 (by decide) rfl ?_
        refine T_iconst dX11_order_74 (inr rfl) ?_
        refine T_istore dX11_order_75 (by decide) rfl ?_
        refine T_iconst dX11_order_77 (inr rfl) ?_
        refine T_istore dX11_order_78 (by decide) rfl ?_
        exact yl_ord2 c hv hbr s v hj (by omega) mb P (hB2 hj) (hM2 hj) i M6 hM6 _ (yl_ord3 c hv hbr s v hj (by omega) mb P (hB2 hj) (hM2 hj) i) M6 0 (-1) (-1) (by omega) (fun _ => by omega) (fun z => by omega)
      · refine T_ldc dX11_order_42 cX11_237 (inr rfl) ?_
        refine TT_ri dX11_order_44 trivial ?_
        exact ro_q (by rw [if_pos (by omega)])
    · refine T_ldc dX11_order_25 cX11_106 (inr rfl) ?_
      refine TT_ri dX11_order_27 trivial ?_
      have hj := inF_f b22
      exact ro_q (by rw [if_pos (by omega)])
  · refine T_ldc dX11_order_10 cX11_200 (inr rfl) ?_
    refine TT_ri dX11_order_12 trivial ?_
    have hi := inF_f b7
    exact ro_q (by rw [if_neg (show ¬ (s = 0 ∨ s = 1) by omega), if_pos rfl])
