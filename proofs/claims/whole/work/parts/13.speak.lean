/-! Speakers, Feast, Draws: what they read -/
theorem sK {f : Nat} (h : f = 96 ∨ f = 109) : 0 < f ∧ SH[f]? = some (0, 7) ∧ SH[f + 1]? = some (1, 10) ∧ SH[f + 2]? = some (1, 10) ∧ SH[f + 3]? = some (1, 10) ∧ SH[f + 4]? = some (1, 10) ∧ FIN f 0 = some (f + 1) ∧ FIN f 1 = some (f + 2) ∧ FIN f 2 = some (f + 3) ∧ FIN f 3 = some (f + 4) := by
  rcases h with rfl | rfl
  · exact ⟨by decide, rfl, rfl, rfl, rfl, rfl, rfl, rfl, rfl, rfl⟩
  · exact ⟨by decide, rfl, rfl, rfl, rfl, rfl, rfl, rfl, rfl, rfl⟩
theorem fK {f : Nat} (h : f = 88 ∨ f = 101) : 0 < f ∧ SH[f]? = some (0, 1) ∧ FIN f 0 = some (f + 1) ∧ FIN f 1 = some (f + 8) ∧ (f + 1 = 89 ∨ f + 1 = 102) ∧ (f + 8 = 96 ∨ f + 8 = 109) := by
  rcases h with rfl | rfl
  · exact ⟨by decide, rfl, rfl, rfl, Or.inl rfl, Or.inl rfl⟩
  · exact ⟨by decide, rfl, rfl, rfl, Or.inr rfl, Or.inr rfl⟩
/-- speakers as they may be: n of them -/
def SV (c : HC) (f n : Nat) : Prop := c f 4 = (n : Int) ∧ n ≤ 10 ∧ ∀ p : Nat, p < n → (c (f + 1) p = 0 ∨ c (f + 1) p = 1) ∧ (1 ≤ c (f + 2) p ∧ c (f + 2) p ≤ 40) ∧ (0 ≤ c (f + 3) p ∧ c (f + 3) p ≤ 99) ∧ (0 ≤ c (f + 4) p ∧ c (f + 4) p ≤ 100)
def isOfF (n : Nat) (sd : Nat → Int) (s p : Int) : Int := if 0 ≤ p ∧ p < n ∧ sd p.toNat = s then 1 else 0
def cntU (sd : Nat → Int) (s : Int) : Nat → Int
  | 0 => 0
  | n + 1 => if sd n = s then cntU sd s n + 1 else cntU sd s n
theorem cntU_bd (sd : Nat → Int) (s : Int) : ∀ n, 0 ≤ cntU sd s n ∧ cntU sd s n ≤ n
  | 0 => by simp [cntU]
  | n + 1 => by
    have := cntU_bd sd s n
    unfold cntU
    split <;> omega
def nthL (sd : Nat → Int) (s df : Int) : Nat → Nat → Int → Int
  | 0, _, _ => df
  | m + 1, p, left => if sd p = s then (if left = 0 then (p : Int) else nthL sd s df m (p + 1) (left - 1)) else nthL sd s df m (p + 1) left
def wsU (sd wt : Nat → Int) (s : Int) : Nat → Int
  | 0 => 0
  | n + 1 => if sd n = s then wsU sd wt s n + wt n else wsU sd wt s n
def dfU (wt : Nat → Int) (x : Int) : Nat → Int
  | 0 => 0
  | n + 1 => if bitI x (n : Int) = 1 then dfU wt x n + wt n else dfU wt x n + -wt n
def odU (cg : Nat → Int) (x : Int) : Nat → Int
  | 0 => 1000000000
  | n + 1 => if bitI x (n : Int) = 1 then (wl (odU cg x n * (100 - cg n))).tdiv 100 else odU cg x n
theorem bitI_t {x t : Int} (h : band (x / 2 ^ t.toNat) 1 = 1) : bitI x t = 1 := by unfold bitI; rw [if_pos h]
theorem bitI_f {x t : Int} (h : band (x / 2 ^ t.toNat) 1 ≠ 1) : bitI x t = 0 := by unfold bitI; rw [if_neg h]
theorem bitI_f1 {x t : Int} (h : band (x / 2 ^ t.toNat) 1 ≠ 1) : ¬ bitI x t = 1 := by rw [bitI_f h]; decide
set_option maxHeartbeats 4000000 in
set_option maxRecDepth 100000 in
theorem c_isOf (c : HC) {f n : Nat} (hf : f = 96 ∨ f = 109) (hv : SV c f n) (s p : Int) : RO mX7_isOf 0 c [vr f, vi s, vi p] (isOfF n (c (f + 1)) s p) := by
  obtain ⟨f0, fs, fs1, fs2, fs3, fs4, ff0, ff1, ff2, ff3⟩ := sK hf
  obtain ⟨hn, hn10, hv⟩ := id hv
  refine CC.of (by decide +kernel) (leb rfl) (fun hok => ?_)
  unfold isOfF
  refine T_iloadn dX7_isOf_0 rfl rfl ?_
  refine T_if_lt (tgt := 26) dX7_isOf_1 rfl (fun b1 => ?_) (fun b1 => ?_)
  · refine T_iconst dX7_isOf_26 (inr rfl) ?_
    refine TT_ri dX7_isOf_27 (by first | exact Or.inl rfl | exact Or.inr rfl | assumption) ?_
    exact ro_q (by first | (rw [if_pos]; exact ⟨by omega, by omega, b19⟩) | (rw [if_neg]; first | omega | (intro q; exact b19 q.2.2)))
  · refine T_iloadn dX7_isOf_4 rfl rfl ?_
    refine T_aloadn dX7_isOf_5 rfl rfl ?_
    first | refine T_getv dX7_isOf_6 fX7_24 (by first | assumption | rfl) (by first | decide | omega) rfl (by assumption) ?_ | refine T_geti dX7_isOf_6 fX7_24 (by first | assumption | rfl) (by first | decide | omega) rfl ?_
    refine T_icmp_ge (tgt := 26) dX7_isOf_9 rfl (fun b9 => ?_) (fun b9 => ?_)
    · refine T_iconst dX7_isOf_26 (inr rfl) ?_
      refine TT_ri dX7_isOf_27 (by first | exact Or.inl rfl | exact Or.inr rfl | assumption) ?_
      exact ro_q (by first | (rw [if_pos]; exact ⟨by omega, by omega, b19⟩) | (rw [if_neg]; first | omega | (intro q; exact b19 q.2.2)))
    · refine T_aloadn dX7_isOf_12 rfl rfl ?_
      refine T_getfin dX7_isOf_13 fX7_9 (by first | assumption | rfl) (by first | decide | omega) rfl (by first | assumption | rfl) ?_
      refine T_iloadn dX7_isOf_16 rfl rfl ?_
      refine T_iald (j := p.toNat) dX7_isOf_17 (by first | assumption | rfl) (by first | decide | omega) (by omega) (by omega) ?_
      refine T_iloadn dX7_isOf_18 rfl rfl ?_
      refine T_icmp_ne (tgt := 26) dX7_isOf_19 rfl (fun b19 => ?_) (fun b19 => ?_)
      · refine T_iconst dX7_isOf_26 (inr rfl) ?_
        refine TT_ri dX7_isOf_27 (by first | exact Or.inl rfl | exact Or.inr rfl | assumption) ?_
        exact ro_q (by first | (rw [if_pos]; exact ⟨by omega, by omega, b19⟩) | (rw [if_neg]; first | omega | (intro q; exact b19 q.2.2)))
      · refine T_iconst dX7_isOf_22 (inr rfl) ?_
        refine T_goto (tgt := 27) dX7_isOf_23 rfl ?_
        refine TT_ri dX7_isOf_27 (by first | exact Or.inl rfl | exact Or.inr rfl | assumption) ?_
        exact ro_q (by first | (rw [if_pos]; exact ⟨by omega, by omega, b19⟩) | (rw [if_neg]; first | omega | (intro q; exact b19 q.2.2)))
set_option maxHeartbeats 4000000 in
set_option maxRecDepth 100000 in
theorem l_countOf (c : HC) {f n : Nat} (hf : f = 96 ∨ f = 109) (hv : SV c f n) (s : Int) : ∀ (k i : Nat), i + k = n → TT mX7_countOf 0 4 [(0, vr f), (1, vi s), (2, vi (cntU (c (f + 1)) s i)), (3, vi (i : Int))] [] c (fun v c1 => v = some (vi (cntU (c (f + 1)) s n)) ∧ c1 = c) := by
  obtain ⟨f0, fs, fs1, fs2, fs3, fs4, ff0, ff1, ff2, ff3⟩ := sK hf
  obtain ⟨hn, hn10, hv⟩ := id hv
  intro k
  induction k with
  | zero =>
    intro i hk
    have e : i = n := by omega
    subst e
    refine T_iloadn dX7_countOf_4 rfl rfl ?_
    refine T_aloadn dX7_countOf_5 rfl rfl ?_
    first | refine T_getv dX7_countOf_6 fX7_24 (by first | assumption | rfl) (by first | decide | omega) rfl (by assumption) ?_ | refine T_geti dX7_countOf_6 fX7_24 (by first | assumption | rfl) (by first | decide | omega) rfl ?_
    refine T_icmp_ge (tgt := 31) dX7_countOf_9 rfl (fun b9 => ?_) (fun b9 => absurd b9 (by omega))
    refine T_iloadn dX7_countOf_31 rfl rfl ?_
    refine TT_ri dX7_countOf_32 trivial ?_
    exact ro_q rfl
  | succ k ih =>
    intro i hk
    have hb := cntU_bd (c (f + 1)) s i
    have h := ih (i + 1) (by omega)
    refine T_iloadn dX7_countOf_4 rfl rfl ?_
    refine T_aloadn dX7_countOf_5 rfl rfl ?_
    first | refine T_getv dX7_countOf_6 fX7_24 (by first | assumption | rfl) (by first | decide | omega) rfl (by assumption) ?_ | refine T_geti dX7_countOf_6 fX7_24 (by first | assumption | rfl) (by first | decide | omega) rfl ?_
    refine T_icmp_ge (tgt := 31) dX7_countOf_9 rfl (fun b9 => absurd b9 (by omega)) (fun b9 => ?_)
    refine T_aloadn dX7_countOf_12 rfl rfl ?_
    refine T_getfin dX7_countOf_13 fX7_9 (by first | assumption | rfl) (by first | decide | omega) rfl (by first | assumption | rfl) ?_
    refine T_iloadn dX7_countOf_16 rfl rfl ?_
    refine T_iald dX7_countOf_17 (by first | assumption | rfl) (by first | decide | omega) rfl (by omega) ?_
    refine T_iloadn dX7_countOf_18 rfl rfl ?_
    refine T_icmp_ne (tgt := 25) dX7_countOf_19 rfl (fun b19 => ?_) (fun b19 => ?_)
    · refine T_iincN dX7_countOf_25 rfl (by decide) rfl (by omega) ?_
      refine T_goto (tgt := 4) dX7_countOf_28 rfl ?_
      first | (rw [cntU.eq_2, if_pos b19] at h; exact h) | (rw [cntU.eq_2, if_neg b19] at h; exact h)
    · refine T_iincN dX7_countOf_22 rfl (by decide) rfl (by omega) ?_
      refine T_iincN dX7_countOf_25 rfl (by decide) rfl (by omega) ?_
      refine T_goto (tgt := 4) dX7_countOf_28 rfl ?_
      first | (rw [cntU.eq_2, if_pos b19] at h; exact h) | (rw [cntU.eq_2, if_neg b19] at h; exact h)
set_option maxHeartbeats 4000000 in
set_option maxRecDepth 100000 in
theorem c_countOf (c : HC) {f n : Nat} (hf : f = 96 ∨ f = 109) (hv : SV c f n) (s : Int) : RO mX7_countOf 0 c [vr f, vi s] (cntU (c (f + 1)) s n) := by
  refine CC.of (by decide +kernel) (leb rfl) (fun hok => ?_)
  refine T_iconst dX7_countOf_0 (inr rfl) ?_
  refine T_istoren dX7_countOf_1 rfl (by decide) rfl ?_
  refine T_iconst dX7_countOf_2 (inr rfl) ?_
  refine T_istoren dX7_countOf_3 rfl (by decide) rfl ?_
  exact l_countOf c hf hv s n 0 (by omega)
set_option maxHeartbeats 4000000 in
set_option maxRecDepth 100000 in
theorem l_nthOf (c : HC) {f n : Nat} (hf : f = 96 ∨ f = 109) (hv : SV c f n) (s j : Int) (hj0 : 0 ≤ j) (hj1 : j ≤ 1000) : ∀ (k i : Nat) (fo : Int), i + k = n → 0 ≤ fo → fo ≤ i → TT mX7_nthOf 0 5 [(0, vr f), (1, vi s), (2, vi j), (3, vi fo), (4, vi (i : Int))] [] c (fun v c1 => v = some (vi (nthL (c (f + 1)) s 0 k i (j - fo))) ∧ c1 = c) := by
  obtain ⟨f0, fs, fs1, fs2, fs3, fs4, ff0, ff1, ff2, ff3⟩ := sK hf
  obtain ⟨hn, hn10, hv⟩ := id hv
  intro k
  induction k with
  | zero =>
    intro i fo hk h1 h2
    have e : i = n := by omega
    subst e
    refine T_iload dX7_nthOf_5 rfl ?_
    refine T_aloadn dX7_nthOf_7 rfl rfl ?_
    first | refine T_getv dX7_nthOf_8 fX7_24 (by first | assumption | rfl) (by first | decide | omega) rfl (by assumption) ?_ | refine T_geti dX7_nthOf_8 fX7_24 (by first | assumption | rfl) (by first | decide | omega) rfl ?_
    refine T_icmp_ge (tgt := 42) dX7_nthOf_11 rfl (fun b11 => ?_) (fun b11 => absurd b11 (by omega))
    refine T_iconst dX7_nthOf_42 (inr rfl) ?_
    refine TT_ri dX7_nthOf_43 trivial ?_
    exact ro_q rfl
  | succ k ih =>
    intro i fo hk h1 h2
    refine T_iload dX7_nthOf_5 rfl ?_
    refine T_aloadn dX7_nthOf_7 rfl rfl ?_
    first | refine T_getv dX7_nthOf_8 fX7_24 (by first | assumption | rfl) (by first | decide | omega) rfl (by assumption) ?_ | refine T_geti dX7_nthOf_8 fX7_24 (by first | assumption | rfl) (by first | decide | omega) rfl ?_
    refine T_icmp_ge (tgt := 42) dX7_nthOf_11 rfl (fun b11 => absurd b11 (by omega)) (fun b11 => ?_)
    refine T_aloadn dX7_nthOf_14 rfl rfl ?_
    refine T_getfin dX7_nthOf_15 fX7_9 (by first | assumption | rfl) (by first | decide | omega) rfl (by first | assumption | rfl) ?_
    refine T_iload dX7_nthOf_18 rfl ?_
    refine T_iald dX7_nthOf_20 (by first | assumption | rfl) (by first | decide | omega) rfl (by omega) ?_
    refine T_iloadn dX7_nthOf_21 rfl rfl ?_
    refine T_icmp_ne (tgt := 36) dX7_nthOf_22 rfl (fun b22 => ?_) (fun b22 => ?_)
    · refine T_iincN dX7_nthOf_36 rfl (by decide) rfl (by omega) ?_
      refine T_goto (tgt := 5) dX7_nthOf_39 rfl ?_
      first
        | (rw [nthL.eq_2, if_neg b22]; exact ih (i + 1) fo (by omega) (by omega) (by omega))
        | (rw [nthL.eq_2, if_pos b22, if_neg (by omega), show j - fo - 1 = j - (fo + 1) by omega]; exact ih (i + 1) (fo + 1) (by omega) (by omega) (by omega))
    · refine T_iloadn dX7_nthOf_25 rfl rfl ?_
      refine T_iloadn dX7_nthOf_26 rfl rfl ?_
      refine T_icmp_ne (tgt := 33) dX7_nthOf_27 rfl (fun b27 => ?_) (fun b27 => ?_)
      · refine T_iincN dX7_nthOf_33 rfl (by decide) rfl (by omega) ?_
        refine T_iincN dX7_nthOf_36 rfl (by decide) rfl (by omega) ?_
        refine T_goto (tgt := 5) dX7_nthOf_39 rfl ?_
        first
          | (rw [nthL.eq_2, if_neg b22]; exact ih (i + 1) fo (by omega) (by omega) (by omega))
          | (rw [nthL.eq_2, if_pos b22, if_neg (by omega), show j - fo - 1 = j - (fo + 1) by omega]; exact ih (i + 1) (fo + 1) (by omega) (by omega) (by omega))
      · refine T_iload dX7_nthOf_30 rfl ?_
        refine TT_ri dX7_nthOf_32 trivial ?_
        exact ro_q (by rw [nthL.eq_2, if_pos b22, if_pos (by omega)])
set_option maxHeartbeats 4000000 in
set_option maxRecDepth 100000 in
theorem c_nthOf (c : HC) {f n : Nat} (hf : f = 96 ∨ f = 109) (hv : SV c f n) (s j : Int) (hj0 : 0 ≤ j) (hj1 : j ≤ 1000) : RO mX7_nthOf 0 c [vr f, vi s, vi j] (nthL (c (f + 1)) s 0 n 0 j) := by
  refine CC.of (by decide +kernel) (leb rfl) (fun hok => ?_)
  refine T_iconst dX7_nthOf_0 (inr rfl) ?_
  refine T_istoren dX7_nthOf_1 rfl (by decide) rfl ?_
  refine T_iconst dX7_nthOf_2 (inr rfl) ?_
  refine T_istore dX7_nthOf_3 (by decide) rfl ?_
  have h := l_nthOf c hf hv s j hj0 hj1 n 0 0 (by omega) (by omega) (by omega)
  rw [show j - 0 = j by omega] at h
  exact h
theorem wsU_bd {sd wt : Nat → Int} {s : Int} {m : Nat} (h : ∀ p, p < m → 0 ≤ wt p ∧ wt p ≤ 99) : ∀ n, n ≤ m → 0 ≤ wsU sd wt s n ∧ wsU sd wt s n ≤ 99 * n
  | 0, _ => by simp [wsU]
  | n + 1, hn => by
    have h1 := wsU_bd (sd := sd) (s := s) h n (by omega)
    have h2 := h n (by omega)
    unfold wsU
    split <;> omega
theorem dfU_bd {wt : Nat → Int} {x : Int} {m : Nat} (h : ∀ p, p < m → 0 ≤ wt p ∧ wt p ≤ 99) : ∀ n, n ≤ m → -(99 * (n : Int)) ≤ dfU wt x n ∧ dfU wt x n ≤ 99 * n
  | 0, _ => by simp [dfU]
  | n + 1, hn => by
    have h1 := dfU_bd (x := x) h n (by omega)
    have h2 := h n (by omega)
    unfold dfU
    split <;> omega
theorem SV.wt {c : HC} {f n : Nat} (h : SV c f n) : ∀ p, p < n → 0 ≤ c (f + 3) p ∧ c (f + 3) p ≤ 99 := fun p hp => (h.2.2 p hp).2.2.1
set_option maxHeartbeats 4000000 in
set_option maxRecDepth 100000 in
theorem l_weightOfSide (c : HC) {f n : Nat} (hf : f = 96 ∨ f = 109) (hv : SV c f n) (s : Int) : ∀ (k i : Nat), i + k = n → TT mX7_weightOfSide 0 4 [(0, vr f), (1, vi s), (2, vi (wsU (c (f + 1)) (c (f + 3)) s i)), (3, vi (i : Int))] [] c (fun v c1 => v = some (vi (wsU (c (f + 1)) (c (f + 3)) s n)) ∧ c1 = c) := by
  obtain ⟨f0, fs, fs1, fs2, fs3, fs4, ff0, ff1, ff2, ff3⟩ := sK hf
  have hw := hv.wt
  obtain ⟨hn, hn10, hv⟩ := id hv
  intro k
  induction k with
  | zero =>
    intro i hk
    have e : i = n := by omega
    subst e
    refine T_iloadn dX7_weightOfSide_4 rfl rfl ?_
    refine T_aloadn dX7_weightOfSide_5 rfl rfl ?_
    first | refine T_getv dX7_weightOfSide_6 fX7_24 (by first | assumption | rfl) (by first | decide | omega) rfl (by assumption) ?_ | refine T_geti dX7_weightOfSide_6 fX7_24 (by first | assumption | rfl) (by first | decide | omega) rfl ?_
    refine T_icmp_ge (tgt := 37) dX7_weightOfSide_9 rfl (fun b9 => ?_) (fun b9 => absurd b9 (by omega))
    refine T_iloadn dX7_weightOfSide_37 rfl rfl ?_
    refine TT_ri dX7_weightOfSide_38 trivial ?_
    exact ro_q rfl
  | succ k ih =>
    intro i hk
    have hb := wsU_bd (sd := c (f + 1)) (s := s) hw i (by omega)
    have hb2 := hw i (by omega)
    have h := ih (i + 1) (by omega)
    refine T_iloadn dX7_weightOfSide_4 rfl rfl ?_
    refine T_aloadn dX7_weightOfSide_5 rfl rfl ?_
    first | refine T_getv dX7_weightOfSide_6 fX7_24 (by first | assumption | rfl) (by first | decide | omega) rfl (by assumption) ?_ | refine T_geti dX7_weightOfSide_6 fX7_24 (by first | assumption | rfl) (by first | decide | omega) rfl ?_
    refine T_icmp_ge (tgt := 37) dX7_weightOfSide_9 rfl (fun b9 => absurd b9 (by omega)) (fun b9 => ?_)
    refine T_aloadn dX7_weightOfSide_12 rfl rfl ?_
    refine T_getfin dX7_weightOfSide_13 fX7_9 (by first | assumption | rfl) (by first | decide | omega) rfl (by first | assumption | rfl) ?_
    refine T_iloadn dX7_weightOfSide_16 rfl rfl ?_
    refine T_iald dX7_weightOfSide_17 (by first | assumption | rfl) (by first | decide | omega) rfl (by omega) ?_
    refine T_iloadn dX7_weightOfSide_18 rfl rfl ?_
    refine T_icmp_ne (tgt := 31) dX7_weightOfSide_19 rfl (fun b19 => ?_) (fun b19 => ?_)
    · refine T_iincN dX7_weightOfSide_31 rfl (by decide) rfl (by omega) ?_
      refine T_goto (tgt := 4) dX7_weightOfSide_34 rfl ?_
      first | (rw [wsU.eq_2, if_pos b19] at h; exact h) | (rw [wsU.eq_2, if_neg b19] at h; exact h)
    · refine T_iloadn dX7_weightOfSide_22 rfl rfl ?_
      refine T_aloadn dX7_weightOfSide_23 rfl rfl ?_
      refine T_getfin dX7_weightOfSide_24 fX7_18 (by first | assumption | rfl) (by first | decide | omega) rfl (by first | assumption | rfl) ?_
      refine T_iloadn dX7_weightOfSide_27 rfl rfl ?_
      refine T_iald dX7_weightOfSide_28 (by first | assumption | rfl) (by first | decide | omega) rfl (by omega) ?_
      first | refine T_iaddN dX7_weightOfSide_29 (by omega) ?_ | refine T_iadd dX7_weightOfSide_29 ?_
      refine T_istoren dX7_weightOfSide_30 rfl (by decide) rfl ?_
      refine T_iincN dX7_weightOfSide_31 rfl (by decide) rfl (by omega) ?_
      refine T_goto (tgt := 4) dX7_weightOfSide_34 rfl ?_
      first | (rw [wsU.eq_2, if_pos b19] at h; exact h) | (rw [wsU.eq_2, if_neg b19] at h; exact h)
set_option maxHeartbeats 4000000 in
set_option maxRecDepth 100000 in
theorem c_weightOfSide (c : HC) {f n : Nat} (hf : f = 96 ∨ f = 109) (hv : SV c f n) (s : Int) : RO mX7_weightOfSide 0 c [vr f, vi s] (wsU (c (f + 1)) (c (f + 3)) s n) := by
  refine CC.of (by decide +kernel) (leb rfl) (fun hok => ?_)
  refine T_iconst dX7_weightOfSide_0 (inr rfl) ?_
  refine T_istoren dX7_weightOfSide_1 rfl (by decide) rfl ?_
  refine T_iconst dX7_weightOfSide_2 (inr rfl) ?_
  refine T_istoren dX7_weightOfSide_3 rfl (by decide) rfl ?_
  exact l_weightOfSide c hf hv s n 0 (by omega)
set_option maxHeartbeats 4000000 in
set_option maxRecDepth 100000 in
theorem l_differenceBy (c : HC) {f n : Nat} (hf : f = 96 ∨ f = 109) (hv : SV c f n) (x : Int) : ∀ (k i : Nat), i + k = n → TT mX7_differenceBy 1 4 [(0, vr f), (1, vi x), (2, vi (dfU (c (f + 3)) x i)), (3, vi (i : Int))] [] c (fun v c1 => v = some (vi (iabs (dfU (c (f + 3)) x n))) ∧ c1 = c) := by
  obtain ⟨f0, fs, fs1, fs2, fs3, fs4, ff0, ff1, ff2, ff3⟩ := sK hf
  have hw := hv.wt
  obtain ⟨hn, hn10, hv⟩ := id hv
  intro k
  induction k with
  | zero =>
    intro i hk
    have e : i = n := by omega
    subst e
    refine T_iloadn dX7_differenceBy_4 rfl rfl ?_
    refine T_aloadn dX7_differenceBy_5 rfl rfl ?_
    first | refine T_getv dX7_differenceBy_6 fX7_24 (by first | assumption | rfl) (by first | decide | omega) rfl (by assumption) ?_ | refine T_geti dX7_differenceBy_6 fX7_24 (by first | assumption | rfl) (by first | decide | omega) rfl ?_
    refine T_icmp_ge (tgt := 46) dX7_differenceBy_9 rfl (fun b9 => ?_) (fun b9 => absurd b9 (by omega))
    refine T_iloadn dX7_differenceBy_46 rfl rfl ?_
    refine T_mabs dX7_differenceBy_47 kX7_28M (by decide) (leb rfl) ?_
    refine TT_ri dX7_differenceBy_50 trivial ?_
    exact ro_q rfl
  | succ k ih =>
    intro i hk
    have hb := dfU_bd (x := x) hw i (by omega)
    have hb2 := hw i (by omega)
    have h := ih (i + 1) (by omega)
    refine T_iloadn dX7_differenceBy_4 rfl rfl ?_
    refine T_aloadn dX7_differenceBy_5 rfl rfl ?_
    first | refine T_getv dX7_differenceBy_6 fX7_24 (by first | assumption | rfl) (by first | decide | omega) rfl (by assumption) ?_ | refine T_geti dX7_differenceBy_6 fX7_24 (by first | assumption | rfl) (by first | decide | omega) rfl ?_
    refine T_icmp_ge (tgt := 46) dX7_differenceBy_9 rfl (fun b9 => absurd b9 (by omega)) (fun b9 => ?_)
    refine T_iloadn dX7_differenceBy_12 rfl rfl ?_
    refine T_iloadn dX7_differenceBy_13 rfl rfl ?_
    refine T_iloadn dX7_differenceBy_14 rfl rfl ?_
    refine T_ishr dX7_differenceBy_15 (by omega) (by omega) ?_
    refine T_iconst dX7_differenceBy_16 (inr rfl) ?_
    refine T_iand dX7_differenceBy_17 ?_
    refine T_iconst dX7_differenceBy_18 (inr rfl) ?_
    refine T_icmp_ne (tgt := 31) dX7_differenceBy_19 rfl (fun b19 => ?_) (fun b19 => ?_)
    · refine T_aloadn dX7_differenceBy_31 rfl rfl ?_
      refine T_getfin dX7_differenceBy_32 fX7_18 (by first | assumption | rfl) (by first | decide | omega) rfl (by first | assumption | rfl) ?_
      refine T_iloadn dX7_differenceBy_35 rfl rfl ?_
      refine T_iald dX7_differenceBy_36 (by first | assumption | rfl) (by first | decide | omega) rfl (by omega) ?_
      first | refine T_inegN dX7_differenceBy_37 (by omega) ?_ | refine T_ineg dX7_differenceBy_37 ?_
      first | refine T_iaddN dX7_differenceBy_38 (by omega) ?_ | refine T_iadd dX7_differenceBy_38 ?_
      refine T_istoren dX7_differenceBy_39 rfl (by decide) rfl ?_
      refine T_iincN dX7_differenceBy_40 rfl (by decide) rfl (by omega) ?_
      refine T_goto (tgt := 4) dX7_differenceBy_43 rfl ?_
      first | (rw [dfU.eq_2, if_pos (bitI_t b19)] at h; exact h) | (rw [dfU.eq_2, if_neg (bitI_f1 b19)] at h; exact h)
    · refine T_aloadn dX7_differenceBy_22 rfl rfl ?_
      refine T_getfin dX7_differenceBy_23 fX7_18 (by first | assumption | rfl) (by first | decide | omega) rfl (by first | assumption | rfl) ?_
      refine T_iloadn dX7_differenceBy_26 rfl rfl ?_
      refine T_iald dX7_differenceBy_27 (by first | assumption | rfl) (by first | decide | omega) rfl (by omega) ?_
      refine T_goto (tgt := 38) dX7_differenceBy_28 rfl ?_
      first | refine T_iaddN dX7_differenceBy_38 (by omega) ?_ | refine T_iadd dX7_differenceBy_38 ?_
      refine T_istoren dX7_differenceBy_39 rfl (by decide) rfl ?_
      refine T_iincN dX7_differenceBy_40 rfl (by decide) rfl (by omega) ?_
      refine T_goto (tgt := 4) dX7_differenceBy_43 rfl ?_
      first | (rw [dfU.eq_2, if_pos (bitI_t b19)] at h; exact h) | (rw [dfU.eq_2, if_neg (bitI_f1 b19)] at h; exact h)
set_option maxHeartbeats 4000000 in
set_option maxRecDepth 100000 in
theorem c_differenceBy (c : HC) {f n : Nat} (hf : f = 96 ∨ f = 109) (hv : SV c f n) (x : Int) : RO mX7_differenceBy 1 c [vr f, vi x] (iabs (dfU (c (f + 3)) x n)) := by
  refine CC.of (by decide +kernel) (leb rfl) (fun hok => ?_)
  refine T_iconst dX7_differenceBy_0 (inr rfl) ?_
  refine T_istoren dX7_differenceBy_1 rfl (by decide) rfl ?_
  refine T_iconst dX7_differenceBy_2 (inr rfl) ?_
  refine T_istoren dX7_differenceBy_3 rfl (by decide) rfl ?_
  exact l_differenceBy c hf hv x n 0 (by omega)
def frU (wt : Nat → Int) (n : Nat) : Nat → Int × Int
  | 0 => (-1, 0)
  | s + 1 => if bcnt (s : Int) = ((n : Int) + 1) / 2 ∧ ((frU wt n s).1 = -1 ∨ iabs (dfU wt (s : Int) n) < (frU wt n s).2) then ((s : Int), iabs (dfU wt (s : Int) n)) else frU wt n s
theorem shl1 {n : Nat} (h : n ≤ 20) : wr (1 * 2 ^ ((n : Int)).toNat) = ((2 ^ n : Nat) : Int) := by
  rw [Int.toNat_natCast, Int.one_mul, Int.natCast_pow]
  have h1 : (2 : Int) ^ n ≤ 2 ^ 20 := by
    have := Nat.pow_le_pow_right (n := 2) (by decide) h
    exact_mod_cast this
  have h0 : (0 : Int) ≤ 2 ^ n := by
    have : (0 : Int) ≤ ((2 ^ n : Nat) : Int) := Int.natCast_nonneg _
    rwa [Int.natCast_pow] at this
  exact wr_id (by omega) (by omega)
set_option maxHeartbeats 4000000 in
set_option maxRecDepth 100000 in
theorem l_fairestHalf (c : HC) {f n : Nat} (hf : f = 96 ∨ f = 109) (hv : SV c f n) : ∀ (k s : Nat), s + k = 2 ^ n → TT mX7_fairestHalf 2 6 [(0, vr f), (1, vi (frU (c (f + 3)) n s).1), (2, vi (frU (c (f + 3)) n s).2), (3, vi (s : Int))] [] c (fun v c1 => v = some (vi (frU (c (f + 3)) n (2 ^ n)).1) ∧ c1 = c) := by
  obtain ⟨f0, fs, fs1, fs2, fs3, fs4, ff0, ff1, ff2, ff3⟩ := sK hf
  obtain ⟨hn, hn10, -⟩ := id hv
  have hp : 2 ^ n ≤ 1024 := Nat.pow_le_pow_right (n := 2) (by decide) hn10
  generalize hP : 2 ^ n = P at hp
  intro k
  induction k with
  | zero =>
    intro s hk
    have e : s = P := by omega
    subst e
    refine T_iloadn dX7_fairestHalf_6 rfl rfl ?_
    refine T_iconst dX7_fairestHalf_7 (inr rfl) ?_
    refine T_aloadn dX7_fairestHalf_8 rfl rfl ?_
    first | refine T_getv dX7_fairestHalf_9 fX7_24 (by first | assumption | rfl) (by first | decide | omega) rfl (by assumption) ?_ | refine T_geti dX7_fairestHalf_9 fX7_24 (by first | assumption | rfl) (by first | decide | omega) rfl ?_
    refine T_ishl dX7_fairestHalf_12 (by omega) (by omega) ?_
    rw [shl1 (n := n) (by omega), hP]
    refine T_icmp_ge (tgt := 60) dX7_fairestHalf_13 rfl (fun b13 => ?_) (fun b13 => absurd b13 (by omega))
    refine T_iloadn dX7_fairestHalf_60 rfl rfl ?_
    refine TT_ri dX7_fairestHalf_61 trivial ?_
    exact ro_q rfl
  | succ k ih =>
    intro s hk
    have h := ih (s + 1) (by omega)
    refine T_iloadn dX7_fairestHalf_6 rfl rfl ?_
    refine T_iconst dX7_fairestHalf_7 (inr rfl) ?_
    refine T_aloadn dX7_fairestHalf_8 rfl rfl ?_
    first | refine T_getv dX7_fairestHalf_9 fX7_24 (by first | assumption | rfl) (by first | decide | omega) rfl (by assumption) ?_ | refine T_geti dX7_fairestHalf_9 fX7_24 (by first | assumption | rfl) (by first | decide | omega) rfl ?_
    refine T_ishl dX7_fairestHalf_12 (by omega) (by omega) ?_
    rw [shl1 (n := n) (by omega), hP]
    refine T_icmp_ge (tgt := 60) dX7_fairestHalf_13 rfl (fun b13 => absurd b13 (by omega)) (fun b13 => ?_)
    refine T_iloadn dX7_fairestHalf_16 rfl rfl ?_
    refine TT_Si dX7_fairestHalf_17 (c_bitCount c _) kX7_34 (by decide) rfl (leb rfl) ?_
    refine T_aloadn dX7_fairestHalf_20 rfl rfl ?_
    first | refine T_getv dX7_fairestHalf_21 fX7_24 (by first | assumption | rfl) (by first | decide | omega) rfl (by assumption) ?_ | refine T_geti dX7_fairestHalf_21 fX7_24 (by first | assumption | rfl) (by first | decide | omega) rfl ?_
    refine T_iconst dX7_fairestHalf_24 (inr rfl) ?_
    first | refine T_iaddN dX7_fairestHalf_25 (by omega) ?_ | refine T_iadd dX7_fairestHalf_25 ?_
    refine T_iconst dX7_fairestHalf_26 (inr rfl) ?_
    first | refine T_idivN dX7_fairestHalf_27 (by omega) (by omega) ?_ | refine T_idiv dX7_fairestHalf_27 (by omega) ?_
    refine T_icmp_ne (tgt := 54) dX7_fairestHalf_28 rfl (fun b28 => ?_) (fun b28 => ?_)
    · refine T_iincN dX7_fairestHalf_54 rfl (by decide) rfl (by omega) ?_
      refine T_goto (tgt := 6) dX7_fairestHalf_57 rfl ?_
      first | refine T_keep [0, 1, 2, 3] ?_ | skip
      first
        | (rw [frU.eq_2, if_neg (fun q => b28 q.1)] at h; exact h)
        | (rw [frU.eq_2, if_pos ⟨b28, by first | exact Or.inl b40 | exact Or.inr (by omega)⟩] at h; exact h)
        | (rw [frU.eq_2, if_neg (fun q => by rcases q.2 with q | q; exact b40 q; omega)] at h; exact h)
    · refine T_aloadn dX7_fairestHalf_31 rfl rfl ?_
      refine T_iloadn dX7_fairestHalf_32 rfl rfl ?_
      refine TT_Vi dX7_fairestHalf_33 (c_differenceBy c hf hv _) kX7_39 (by decide) (by first | decide | omega) (by first | assumption | rfl) rfl (leb rfl) ?_
      refine T_istore dX7_fairestHalf_36 (by decide) rfl ?_
      refine T_iloadn dX7_fairestHalf_38 rfl rfl ?_
      refine T_iconst dX7_fairestHalf_39 (inr rfl) ?_
      refine T_icmp_eq (tgt := 49) dX7_fairestHalf_40 rfl (fun b40 => ?_) (fun b40 => ?_)
      · refine T_iloadn dX7_fairestHalf_49 rfl rfl ?_
        refine T_istoren dX7_fairestHalf_50 rfl (by decide) rfl ?_
        refine T_iload dX7_fairestHalf_51 rfl ?_
        refine T_istoren dX7_fairestHalf_53 rfl (by decide) rfl ?_
        refine T_iincN dX7_fairestHalf_54 rfl (by decide) rfl (by omega) ?_
        refine T_goto (tgt := 6) dX7_fairestHalf_57 rfl ?_
        first | refine T_keep [0, 1, 2, 3] ?_ | skip
        first
          | (rw [frU.eq_2, if_neg (fun q => b28 q.1)] at h; exact h)
          | (rw [frU.eq_2, if_pos ⟨b28, by first | exact Or.inl b40 | exact Or.inr (by omega)⟩] at h; exact h)
          | (rw [frU.eq_2, if_neg (fun q => by rcases q.2 with q | q; exact b40 q; omega)] at h; exact h)
      · refine T_iload dX7_fairestHalf_43 rfl ?_
        refine T_iloadn dX7_fairestHalf_45 rfl rfl ?_
        refine T_icmp_ge (tgt := 54) dX7_fairestHalf_46 rfl (fun b46 => ?_) (fun b46 => ?_)
        · refine T_iincN dX7_fairestHalf_54 rfl (by decide) rfl (by omega) ?_
          refine T_goto (tgt := 6) dX7_fairestHalf_57 rfl ?_
          first | refine T_keep [0, 1, 2, 3] ?_ | skip
          first
            | (rw [frU.eq_2, if_neg (fun q => b28 q.1)] at h; exact h)
            | (rw [frU.eq_2, if_pos ⟨b28, by first | exact Or.inl b40 | exact Or.inr (by omega)⟩] at h; exact h)
            | (rw [frU.eq_2, if_neg (fun q => by rcases q.2 with q | q; exact b40 q; omega)] at h; exact h)
        · refine T_iloadn dX7_fairestHalf_49 rfl rfl ?_
          refine T_istoren dX7_fairestHalf_50 rfl (by decide) rfl ?_
          refine T_iload dX7_fairestHalf_51 rfl ?_
          refine T_istoren dX7_fairestHalf_53 rfl (by decide) rfl ?_
          refine T_iincN dX7_fairestHalf_54 rfl (by decide) rfl (by omega) ?_
          refine T_goto (tgt := 6) dX7_fairestHalf_57 rfl ?_
          first | refine T_keep [0, 1, 2, 3] ?_ | skip
          first
            | (rw [frU.eq_2, if_neg (fun q => b28 q.1)] at h; exact h)
            | (rw [frU.eq_2, if_pos ⟨b28, by first | exact Or.inl b40 | exact Or.inr (by omega)⟩] at h; exact h)
            | (rw [frU.eq_2, if_neg (fun q => by rcases q.2 with q | q; exact b40 q; omega)] at h; exact h)
set_option maxHeartbeats 4000000 in
set_option maxRecDepth 100000 in
theorem c_fairestHalf (c : HC) {f n : Nat} (hf : f = 96 ∨ f = 109) (hv : SV c f n) : RO mX7_fairestHalf 2 c [vr f] (frU (c (f + 3)) n (2 ^ n)).1 := by
  refine CC.of (by decide +kernel) (leb rfl) (fun hok => ?_)
  refine T_iconst dX7_fairestHalf_0 (inr rfl) ?_
  refine T_istoren dX7_fairestHalf_1 rfl (by decide) rfl ?_
  refine T_iconst dX7_fairestHalf_2 (inr rfl) ?_
  refine T_istoren dX7_fairestHalf_3 rfl (by decide) rfl ?_
  refine T_iconst dX7_fairestHalf_4 (inr rfl) ?_
  refine T_istoren dX7_fairestHalf_5 rfl (by decide) rfl ?_
  exact l_fairestHalf c hf hv (2 ^ n) 0 (by omega)
set_option maxHeartbeats 4000000 in
set_option maxRecDepth 100000 in
theorem l_odds (c : HC) {f n : Nat} (hf : f = 96 ∨ f = 109) (hv : SV c f n) (x : Int) : ∀ (k i : Nat), i + k = n → TT mX7_oddsOfNoCough 0 7 [(0, vr f), (1, vi x), (2, vl (odU (c (f + 4)) x i)), (4, vi (i : Int))] [] c (fun v c1 => v = some (vi (wr (odU (c (f + 4)) x n))) ∧ c1 = c) := by
  obtain ⟨f0, fs, fs1, fs2, fs3, fs4, ff0, ff1, ff2, ff3⟩ := sK hf
  obtain ⟨hn, hn10, hv⟩ := id hv
  intro k
  induction k with
  | zero =>
    intro i hk
    have e : i = n := by omega
    subst e
    refine T_iload dX7_oddsOfNoCough_7 rfl ?_
    refine T_aloadn dX7_oddsOfNoCough_9 rfl rfl ?_
    first | refine T_getv dX7_oddsOfNoCough_10 fX7_24 (by first | assumption | rfl) (by first | decide | omega) rfl (by assumption) ?_ | refine T_geti dX7_oddsOfNoCough_10 fX7_24 (by first | assumption | rfl) (by first | decide | omega) rfl ?_
    refine T_icmp_ge (tgt := 50) dX7_oddsOfNoCough_13 rfl (fun b13 => ?_) (fun b13 => absurd b13 (by omega))
    refine T_lloadn dX7_oddsOfNoCough_50 rfl rfl ?_
    refine T_l2i dX7_oddsOfNoCough_51 ?_
    refine TT_ri dX7_oddsOfNoCough_52 trivial ?_
    exact ro_q rfl
  | succ k ih =>
    intro i hk
    have hb2 := hv i (by omega)
    have h := ih (i + 1) (by omega)
    refine T_iload dX7_oddsOfNoCough_7 rfl ?_
    refine T_aloadn dX7_oddsOfNoCough_9 rfl rfl ?_
    first | refine T_getv dX7_oddsOfNoCough_10 fX7_24 (by first | assumption | rfl) (by first | decide | omega) rfl (by assumption) ?_ | refine T_geti dX7_oddsOfNoCough_10 fX7_24 (by first | assumption | rfl) (by first | decide | omega) rfl ?_
    refine T_icmp_ge (tgt := 50) dX7_oddsOfNoCough_13 rfl (fun b13 => absurd b13 (by omega)) (fun b13 => ?_)
    refine T_iloadn dX7_oddsOfNoCough_16 rfl rfl ?_
    refine T_iload dX7_oddsOfNoCough_17 rfl ?_
    refine T_ishr dX7_oddsOfNoCough_19 (by omega) (by omega) ?_
    refine T_iconst dX7_oddsOfNoCough_20 (inr rfl) ?_
    refine T_iand dX7_oddsOfNoCough_21 ?_
    refine T_iconst dX7_oddsOfNoCough_22 (inr rfl) ?_
    refine T_icmp_ne (tgt := 44) dX7_oddsOfNoCough_23 rfl (fun b23 => ?_) (fun b23 => ?_)
    · refine T_iincN dX7_oddsOfNoCough_44 rfl (by decide) rfl (by omega) ?_
      refine T_goto (tgt := 7) dX7_oddsOfNoCough_47 rfl ?_
      first | (rw [odU.eq_2, if_pos (bitI_t b23)] at h; exact h) | (rw [odU.eq_2, if_neg (bitI_f1 b23)] at h; exact h)
    · refine T_lloadn dX7_oddsOfNoCough_26 rfl rfl ?_
      refine T_bipush dX7_oddsOfNoCough_27 (bp8 rfl) (inr rfl) ?_
      refine T_aloadn dX7_oddsOfNoCough_29 rfl rfl ?_
      refine T_getfin dX7_oddsOfNoCough_30 fX7_21 (by first | assumption | rfl) (by first | decide | omega) rfl (by first | assumption | rfl) ?_
      refine T_iload dX7_oddsOfNoCough_33 rfl ?_
      refine T_iald dX7_oddsOfNoCough_35 (by first | assumption | rfl) (by first | decide | omega) rfl (by omega) ?_
      first | refine T_isubN dX7_oddsOfNoCough_36 (by omega) ?_ | refine T_isub dX7_oddsOfNoCough_36 ?_
      refine T_i2l dX7_oddsOfNoCough_37 ?_
      refine T_lmul dX7_oddsOfNoCough_38 ?_
      refine T_ldc2 dX7_oddsOfNoCough_39 clX7_44 (inl rfl) ?_
      refine T_ldiv dX7_oddsOfNoCough_42 (by omega) ?_
      refine T_lstoren dX7_oddsOfNoCough_43 rfl (by decide) rfl ?_
      refine T_iincN dX7_oddsOfNoCough_44 rfl (by decide) rfl (by omega) ?_
      refine T_goto (tgt := 7) dX7_oddsOfNoCough_47 rfl ?_
      first | (rw [odU.eq_2, if_pos (bitI_t b23)] at h; exact h) | (rw [odU.eq_2, if_neg (bitI_f1 b23)] at h; exact h)
set_option maxHeartbeats 4000000 in
set_option maxRecDepth 100000 in
theorem c_odds (c : HC) {f n : Nat} (hf : f = 96 ∨ f = 109) (hv : SV c f n) (x : Int) : RO mX7_oddsOfNoCough 0 c [vr f, vi x] (wr (odU (c (f + 4)) x n)) := by
  refine CC.of (by decide +kernel) (leb rfl) (fun hok => ?_)
  refine T_ldc2 dX7_oddsOfNoCough_0 clX7_42 (inl rfl) ?_
  refine T_lstoren dX7_oddsOfNoCough_3 rfl (by decide) rfl ?_
  refine T_iconst dX7_oddsOfNoCough_4 (inr rfl) ?_
  refine T_istore dX7_oddsOfNoCough_5 (by decide) rfl ?_
  exact l_odds c hf hv x n 0 (by omega)
def lwU (sd wt cg : Nat → Int) (s : Int) : Nat → Int × Int
  | 0 => (-1, 0)
  | n + 1 => if sd n = s ∧ ((lwU sd wt cg s n).1 = -1 ∨ wt n * (100 - cg n) < (lwU sd wt cg s n).2) then ((n : Int), wt n * (100 - cg n)) else lwU sd wt cg s n
theorem mul_bd {a b m n : Int} (h1 : 0 ≤ a) (h2 : a ≤ m) (h3 : 0 ≤ b) (h4 : b ≤ n) : 0 ≤ a * b ∧ a * b ≤ m * n := ⟨Int.mul_nonneg h1 h3, Int.mul_le_mul h2 h4 h3 (by omega)⟩
set_option maxHeartbeats 4000000 in
set_option maxRecDepth 100000 in
theorem l_leastWorth (c : HC) {f n : Nat} (hf : f = 96 ∨ f = 109) (hv : SV c f n) (s : Int) : ∀ (k i : Nat), i + k = n → TT mX7_leastWorth 0 7 [(0, vr f), (1, vi s), (2, vi (lwU (c (f + 1)) (c (f + 3)) (c (f + 4)) s i).1), (3, vi (lwU (c (f + 1)) (c (f + 3)) (c (f + 4)) s i).2), (4, vi (i : Int))] [] c (fun v c1 => v = some (vi (lwU (c (f + 1)) (c (f + 3)) (c (f + 4)) s n).1) ∧ c1 = c) := by
  obtain ⟨f0, fs, fs1, fs2, fs3, fs4, ff0, ff1, ff2, ff3⟩ := sK hf
  obtain ⟨hn, hn10, hv⟩ := id hv
  intro k
  induction k with
  | zero =>
    intro i hk
    have e : i = n := by omega
    subst e
    refine T_iload dX7_leastWorth_7 rfl ?_
    refine T_aloadn dX7_leastWorth_9 rfl rfl ?_
    first | refine T_getv dX7_leastWorth_10 fX7_24 (by first | assumption | rfl) (by first | decide | omega) rfl (by assumption) ?_ | refine T_geti dX7_leastWorth_10 fX7_24 (by first | assumption | rfl) (by first | decide | omega) rfl ?_
    refine T_icmp_ge (tgt := 70) dX7_leastWorth_13 rfl (fun b13 => ?_) (fun b13 => absurd b13 (by omega))
    refine T_iloadn dX7_leastWorth_70 rfl rfl ?_
    refine TT_ri dX7_leastWorth_71 trivial ?_
    exact ro_q rfl
  | succ k ih =>
    intro i hk
    have hb2 := hv i (by omega)
    have hm := mul_bd (a := c (f + 3) i) (b := 100 - c (f + 4) i) (m := 99) (n := 100) (by omega) (by omega) (by omega) (by omega)
    have h := ih (i + 1) (by omega)
    refine T_iload dX7_leastWorth_7 rfl ?_
    refine T_aloadn dX7_leastWorth_9 rfl rfl ?_
    first | refine T_getv dX7_leastWorth_10 fX7_24 (by first | assumption | rfl) (by first | decide | omega) rfl (by assumption) ?_ | refine T_geti dX7_leastWorth_10 fX7_24 (by first | assumption | rfl) (by first | decide | omega) rfl ?_
    refine T_icmp_ge (tgt := 70) dX7_leastWorth_13 rfl (fun b13 => absurd b13 (by omega)) (fun b13 => ?_)
    refine T_aloadn dX7_leastWorth_16 rfl rfl ?_
    refine T_getfin dX7_leastWorth_17 fX7_18 (by first | assumption | rfl) (by first | decide | omega) rfl (by first | assumption | rfl) ?_
    refine T_iload dX7_leastWorth_20 rfl ?_
    refine T_iald dX7_leastWorth_22 (by first | assumption | rfl) (by first | decide | omega) rfl (by omega) ?_
    refine T_bipush dX7_leastWorth_23 (bp8 rfl) (inr rfl) ?_
    refine T_aloadn dX7_leastWorth_25 rfl rfl ?_
    refine T_getfin dX7_leastWorth_26 fX7_21 (by first | assumption | rfl) (by first | decide | omega) rfl (by first | assumption | rfl) ?_
    refine T_iload dX7_leastWorth_29 rfl ?_
    refine T_iald dX7_leastWorth_31 (by first | assumption | rfl) (by first | decide | omega) rfl (by omega) ?_
    first | refine T_isubN dX7_leastWorth_32 (by omega) ?_ | refine T_isub dX7_leastWorth_32 ?_
    first | refine T_imulN dX7_leastWorth_33 (by omega) ?_ | refine T_imul dX7_leastWorth_33 ?_
    refine T_istore dX7_leastWorth_34 (by decide) rfl ?_
    refine T_aloadn dX7_leastWorth_36 rfl rfl ?_
    refine T_getfin dX7_leastWorth_37 fX7_9 (by first | assumption | rfl) (by first | decide | omega) rfl (by first | assumption | rfl) ?_
    refine T_iload dX7_leastWorth_40 rfl ?_
    refine T_iald dX7_leastWorth_42 (by first | assumption | rfl) (by first | decide | omega) rfl (by omega) ?_
    refine T_iloadn dX7_leastWorth_43 rfl rfl ?_
    refine T_icmp_ne (tgt := 64) dX7_leastWorth_44 rfl (fun b44 => ?_) (fun b44 => ?_)
    · refine T_iincN dX7_leastWorth_64 rfl (by decide) rfl (by omega) ?_
      refine T_goto (tgt := 7) dX7_leastWorth_67 rfl ?_
      refine T_keep [0, 1, 2, 3, 4] ?_
      first
        | (rw [lwU.eq_2, if_neg (fun q => b44 q.1)] at h; exact h)
        | (rw [lwU.eq_2, if_pos ⟨b44, by first | exact Or.inl b49 | exact Or.inr (by omega)⟩] at h; exact h)
        | (rw [lwU.eq_2, if_neg (fun q => by rcases q.2 with q | q; exact b49 q; omega)] at h; exact h)
    · refine T_iloadn dX7_leastWorth_47 rfl rfl ?_
      refine T_iconst dX7_leastWorth_48 (inr rfl) ?_
      refine T_icmp_eq (tgt := 58) dX7_leastWorth_49 rfl (fun b49 => ?_) (fun b49 => ?_)
      · refine T_iload dX7_leastWorth_58 rfl ?_
        refine T_istoren dX7_leastWorth_60 rfl (by decide) rfl ?_
        refine T_iload dX7_leastWorth_61 rfl ?_
        refine T_istoren dX7_leastWorth_63 rfl (by decide) rfl ?_
        refine T_iincN dX7_leastWorth_64 rfl (by decide) rfl (by omega) ?_
        refine T_goto (tgt := 7) dX7_leastWorth_67 rfl ?_
        refine T_keep [0, 1, 2, 3, 4] ?_
        first
          | (rw [lwU.eq_2, if_neg (fun q => b44 q.1)] at h; exact h)
          | (rw [lwU.eq_2, if_pos ⟨b44, by first | exact Or.inl b49 | exact Or.inr (by omega)⟩] at h; exact h)
          | (rw [lwU.eq_2, if_neg (fun q => by rcases q.2 with q | q; exact b49 q; omega)] at h; exact h)
      · refine T_iload dX7_leastWorth_52 rfl ?_
        refine T_iloadn dX7_leastWorth_54 rfl rfl ?_
        refine T_icmp_ge (tgt := 64) dX7_leastWorth_55 rfl (fun b55 => ?_) (fun b55 => ?_)
        · refine T_iincN dX7_leastWorth_64 rfl (by decide) rfl (by omega) ?_
          refine T_goto (tgt := 7) dX7_leastWorth_67 rfl ?_
          refine T_keep [0, 1, 2, 3, 4] ?_
          first
            | (rw [lwU.eq_2, if_neg (fun q => b44 q.1)] at h; exact h)
            | (rw [lwU.eq_2, if_pos ⟨b44, by first | exact Or.inl b49 | exact Or.inr (by omega)⟩] at h; exact h)
            | (rw [lwU.eq_2, if_neg (fun q => by rcases q.2 with q | q; exact b49 q; omega)] at h; exact h)
        · refine T_iload dX7_leastWorth_58 rfl ?_
          refine T_istoren dX7_leastWorth_60 rfl (by decide) rfl ?_
          refine T_iload dX7_leastWorth_61 rfl ?_
          refine T_istoren dX7_leastWorth_63 rfl (by decide) rfl ?_
          refine T_iincN dX7_leastWorth_64 rfl (by decide) rfl (by omega) ?_
          refine T_goto (tgt := 7) dX7_leastWorth_67 rfl ?_
          refine T_keep [0, 1, 2, 3, 4] ?_
          first
            | (rw [lwU.eq_2, if_neg (fun q => b44 q.1)] at h; exact h)
            | (rw [lwU.eq_2, if_pos ⟨b44, by first | exact Or.inl b49 | exact Or.inr (by omega)⟩] at h; exact h)
            | (rw [lwU.eq_2, if_neg (fun q => by rcases q.2 with q | q; exact b49 q; omega)] at h; exact h)
set_option maxHeartbeats 4000000 in
set_option maxRecDepth 100000 in
theorem c_leastWorth (c : HC) {f n : Nat} (hf : f = 96 ∨ f = 109) (hv : SV c f n) (s : Int) : RO mX7_leastWorth 0 c [vr f, vi s] (lwU (c (f + 1)) (c (f + 3)) (c (f + 4)) s n).1 := by
  refine CC.of (by decide +kernel) (leb rfl) (fun hok => ?_)
  refine T_iconst dX7_leastWorth_0 (inr rfl) ?_
  refine T_istoren dX7_leastWorth_1 rfl (by decide) rfl ?_
  refine T_iconst dX7_leastWorth_2 (inr rfl) ?_
  refine T_istoren dX7_leastWorth_3 rfl (by decide) rfl ?_
  refine T_iconst dX7_leastWorth_4 (inr rfl) ?_
  refine T_istore dX7_leastWorth_5 (by decide) rfl ?_
  exact l_leastWorth c hf hv s n 0 (by omega)
