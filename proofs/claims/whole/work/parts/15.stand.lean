/-! Standing, Past -/
def stA (s : Nat) : Prop := s = 4 ∨ (∃ i, i < 20 ∧ s = 9 + 3 * i) ∨ s = 115 ∨ s = 119
theorem stK20 : ∀ i, i < 20 → 0 < 9 + 3 * i ∧ SH[9 + 3 * i]? = some (0, 8) ∧ SH[9 + 3 * i + 1]? = some (1, 10) ∧ SH[9 + 3 * i + 2]? = some (1, 40) ∧ FIN (9 + 3 * i) 0 = some (9 + 3 * i + 1) ∧ FIN (9 + 3 * i) 1 = some (9 + 3 * i + 2) := by decide +kernel
theorem stK {s : Nat} (h : stA s) : 0 < s ∧ SH[s]? = some (0, 8) ∧ SH[s + 1]? = some (1, 10) ∧ SH[s + 2]? = some (1, 40) ∧ FIN s 0 = some (s + 1) ∧ FIN s 1 = some (s + 2) := by
  rcases h with rfl | ⟨i, hi, rfl⟩ | rfl | rfl
  · exact ⟨by decide, rfl, rfl, rfl, rfl, rfl⟩
  · exact stK20 i hi
  · exact ⟨by decide, rfl, rfl, rfl, rfl, rfl⟩
  · exact ⟨by decide, rfl, rfl, rfl, rfl, rfl⟩
theorem stA_ap {s t : Nat} (h : stA s) (h2 : stA t) (hne : s ≠ t) : s + 2 < t ∨ t + 2 < s := by
  rcases h with rfl | ⟨i, hi, rfl⟩ | rfl | rfl <;> rcases h2 with rfl | ⟨j, hj, rfl⟩ | rfl | rfl <;> omega
/-- a standing as one row: 0 rope, 1 rounds, 2 .. breath, 12 how many words, 13 .. words -/
def stR (c : HC) (s : Nat) : Nat → Int := fun k => if k = 0 then c s 3 else if k = 1 then c s 4 else if k < 12 then c (s + 1) (k - 2) else if k = 12 then c s 2 else c (s + 2) (k - 13)
def putR (c : HC) (s : Nat) (R : Nat → Int) : HC := fun x y =>
  if x = s then (if y = 3 then R 0 else if y = 4 then R 1 else if y = 2 then R 12 else c x y) else if x = s + 1 then (if y < 10 then R (2 + y) else c x y) else if x = s + 2 then (if y < 40 then R (13 + y) else c x y) else c x y
def up1 (R : Nat → Int) (k : Nat) (v : Int) : Nat → Int := fun j => if j = k then v else R j
theorem putR_self (c : HC) (s : Nat) : putR c s (stR c s) = c := by
  funext x y
  unfold putR stR
  by_cases h1 : x = s
  · subst h1
    rw [if_pos rfl]
    by_cases h2 : y = 3
    · subst h2; rfl
    · by_cases h3 : y = 4
      · subst h3; rfl
      · by_cases h4 : y = 2
        · subst h4; rfl
        · simp [h2, h3, h4]
  · rw [if_neg h1]
    by_cases h2 : x = s + 1
    · subst h2
      rw [if_pos rfl]
      by_cases h3 : y < 10
      · rw [if_pos h3, if_neg (by omega), if_neg (by omega), if_pos (by omega), show 2 + y - 2 = y by omega]
      · rw [if_neg h3]
    · rw [if_neg h2]
      by_cases h3 : x = s + 2
      · subst h3
        rw [if_pos rfl]
        by_cases h4 : y < 40
        · rw [if_pos h4, if_neg (by omega), if_neg (by omega), if_neg (by omega), if_neg (by omega), show 13 + y - 13 = y by omega]
        · rw [if_neg h4]
      · rw [if_neg h3]
section PR
variable {c : HC} {s : Nat} {R : Nat → Int}
theorem pr3 : putR c s R s 3 = R 0 := by simp [putR]
theorem pr4 : putR c s R s 4 = R 1 := by simp [putR]
theorem pr2 : putR c s R s 2 = R 12 := by simp [putR]
theorem prb {j : Nat} (h : j < 10) : putR c s R (s + 1) j = R (2 + j) := by simp [putR, h]
theorem prw {j : Nat} (h : j < 40) : putR c s R (s + 2) j = R (13 + j) := by simp [putR, h]
theorem pro {x y : Nat} (h : x < s ∨ s + 2 < x) : putR c s R x y = c x y := by
  unfold putR
  rw [if_neg (by omega), if_neg (by omega), if_neg (by omega)]
theorem pu3 {v : Int} : up2 (putR c s R) s 3 v = putR c s (up1 R 0 v) := by
  funext x y
  unfold up2 putR up1
  by_cases h1 : x = s
  · subst h1
    by_cases h2 : y = 3
    · subst h2; simp
    · simp [h2]
  · simp [h1]
theorem pu4 {v : Int} : up2 (putR c s R) s 4 v = putR c s (up1 R 1 v) := by
  funext x y
  unfold up2 putR up1
  by_cases h1 : x = s
  · subst h1
    by_cases h2 : y = 4
    · subst h2; simp
    · simp [h2]
  · simp [h1]
    by_cases h3 : x = s + 1
    · simp [h3]
      split <;> first | rfl | omega
    · simp [h3]
      split <;> first | rfl | omega
theorem pu2 {v : Int} : up2 (putR c s R) s 2 v = putR c s (up1 R 12 v) := by
  funext x y
  unfold up2 putR up1
  by_cases h1 : x = s
  · subst h1
    by_cases h2 : y = 2
    · subst h2; simp
    · simp [h2]
  · simp [h1]
    by_cases h3 : x = s + 1
    · simp [h3]
      by_cases h4 : y < 10
      · rw [if_pos h4, if_pos h4, if_neg (by omega)]
      · rw [if_neg h4, if_neg h4]
    · simp [h3]
      by_cases h4 : x = s + 2
      · rw [if_pos h4, if_pos h4]
        by_cases h5 : y < 40
        · rw [if_pos h5, if_pos h5, if_neg (by omega)]
        · rw [if_neg h5, if_neg h5]
      · rw [if_neg h4, if_neg h4]
theorem pub {j : Nat} {v : Int} (h : j < 10) : up2 (putR c s R) (s + 1) j v = putR c s (up1 R (2 + j) v) := by
  funext x y
  unfold up2 putR up1
  by_cases h1 : x = s
  · subst h1
    simp
    split
    · rw [if_neg (by omega)]
    · split
      · rw [if_neg (by omega)]
      · split
        · rw [if_neg (by omega)]
        · rfl
  · by_cases h2 : x = s + 1
    · subst h2
      by_cases h3 : y = j
      · subst h3
        simp [h]
      · simp [h3]
    · simp [h1, h2]
      split
      · split
        · rw [if_neg (by omega)]
        · rfl
      · rfl
theorem puw {j : Nat} {v : Int} (h : j < 40) : up2 (putR c s R) (s + 2) j v = putR c s (up1 R (13 + j) v) := by
  funext x y
  unfold up2 putR up1
  by_cases h1 : x = s
  · subst h1
    simp
    split
    · rw [if_neg (by omega)]
    · split
      · rw [if_neg (by omega)]
      · split
        · rw [if_neg (by omega)]
        · rfl
  · by_cases h2 : x = s + 1
    · subst h2
      simp
      split
      · rw [if_neg (by omega)]
      · rfl
    · by_cases h3 : x = s + 2
      · subst h3
        by_cases h4 : y = j
        · subst h4
          simp [h]
        · simp [h4]
      · simp [h1, h2, h3]
theorem putR_ext {R2 : Nat → Int} (h : ∀ k, k < 53 → R k = R2 k) : putR c s R = putR c s R2 := by
  funext x y
  unfold putR
  rw [h 0 (by omega), h 1 (by omega), h 12 (by omega)]
  split
  · rfl
  · split
    · split
      · rw [h (2 + y) (by omega)]
      · rfl
    · split
      · split
        · rw [h (13 + y) (by omega)]
        · rfl
      · rfl
theorem putR_put {R2 : Nat → Int} : putR (putR c s R) s R2 = putR c s R2 := by
  funext x y
  unfold putR
  split
  · split
    · rfl
    · split
      · rfl
      · split
        · rfl
        · rfl
  · split
    · split <;> rfl
    · split
      · split <;> rfl
      · rfl
theorem stR_put {k : Nat} (h : k < 53) : stR (putR c s R) s k = R k := by
  unfold stR
  split
  · subst_vars; exact pr3
  · split
    · subst_vars; exact pr4
    · split
      · rw [prb (by omega)]
        congr 1
        omega
      · split
        · subst_vars; exact pr2
        · rw [prw (by omega)]
          congr 1
          omega
theorem stR_off {t k : Nat} (h : t + 2 < s ∨ s + 2 < t) : stR (putR c s R) t k = stR c t k := by
  unfold stR
  rw [pro (by omega), pro (by omega), pro (by omega), pro (by omega), pro (by omega)]
end PR
theorem put_alt (c : HC) (s : Nat) (R R2 : Nat → Int) (x y : Nat) (h0 : R 0 = R2 0) (h1 : R 1 = R2 1) (h2 : R 12 = R2 12) (hb : x = s + 1 → y < 10 → R (2 + y) = R2 (2 + y)) (hw : x = s + 2 → y < 40 → R (13 + y) = R2 (13 + y)) : putR c s R x y = putR c s R2 x y := by
  unfold putR
  rw [h0, h1, h2]
  split
  · rfl
  · split
    · rename_i e
      split
      · rw [hb e (by assumption)]
      · rfl
    · split
      · rename_i e
        split
        · rw [hw e (by assumption)]
        · rfl
      · rfl
theorem cpb (c : HC) (a0 : Nat) (s : Nat) (R : Nat → Int) (h : a0 < s ∨ s + 2 < a0) : cpy2 (putR c s R) a0 0 (s + 1) 0 10 = putR c s (fun k => if 2 ≤ k ∧ k < 12 then c a0 (k - 2) else R k) := by
  funext x y
  unfold cpy2
  by_cases h1 : x = s + 1 ∧ y < 10
  · obtain ⟨rfl, h2⟩ := h1
    rw [if_pos (by simp [h2]), pro h, prb h2, if_pos (by omega)]
    congr 1
    omega
  · rw [if_neg (by simp; omega)]
    exact put_alt _ _ _ _ _ _ rfl rfl rfl (fun e e2 => absurd ⟨e, e2⟩ h1) (fun _ _ => (if_neg (by omega)).symm)
theorem cpw (c : HC) (a0 : Nat) (s : Nat) (R : Nat → Int) (h : a0 < s ∨ s + 2 < a0) : cpy2 (putR c s R) a0 0 (s + 2) 0 40 = putR c s (fun k => if 13 ≤ k then c a0 (k - 13) else R k) := by
  funext x y
  unfold cpy2
  by_cases h1 : x = s + 2 ∧ y < 40
  · obtain ⟨rfl, h2⟩ := h1
    rw [if_pos (by simp [h2]), pro h, prw h2, if_pos (by omega)]
    congr 1
    omega
  · rw [if_neg (by simp; omega)]
    exact put_alt _ _ _ _ _ _ rfl rfl rfl (fun _ _ => (if_neg (by omega)).symm) (fun e e2 => absurd ⟨e, e2⟩ h1)
theorem cpsh (c : HC) (s : Nat) (R : Nat → Int) : cpy2 (putR c s R) (s + 2) 1 (s + 2) 0 39 = putR c s (fun k => if 13 ≤ k ∧ k < 52 then R (k + 1) else R k) := by
  funext x y
  unfold cpy2
  by_cases h1 : x = s + 2 ∧ y < 39
  · obtain ⟨rfl, h2⟩ := h1
    rw [if_pos (by simp [h2]), prw (by omega), prw (by omega), if_pos (by omega)]
    congr 1
    omega
  · rw [if_neg (by simp; omega)]
    exact put_alt _ _ _ _ _ _ rfl rfl rfl (fun _ _ => (if_neg (by omega)).symm) (fun e e2 => (if_neg (by omega)).symm)
def begR (bt : Nat → Int) (R : Nat → Int) : Nat → Int := up1 (up1 (up1 (fun k => if 2 ≤ k ∧ k < 12 then bt (k - 2) else R k) 12 0) 0 0) 1 0
set_option maxHeartbeats 4000000 in
set_option maxRecDepth 100000 in
theorem c_begin (c : HC) {f s : Nat} (hf : f = 96 ∨ f = 109) (hs : stA s) (hsf : s + 2 < f + 2 ∨ f + 2 < s) (R : Nat → Int) : VO mX8_begin 1 (putR c s R) [vr s, vr f] (putR c s (begR (c (f + 2)) R)) := by
  obtain ⟨f0, fs, fs1, fs2, fs3, fs4, ff0, ff1, ff2, ff3⟩ := sK hf
  obtain ⟨s0, ss, ss1, ss2, sf0, sf1⟩ := stK hs
  refine CC.of (by decide +kernel) (leb rfl) (fun hok => ?_)
  refine T_aloadn dX8_begin_0 rfl rfl ?_
  refine T_getfin dX8_begin_1 fX8_18 (by first | assumption | rfl) (by first | decide | omega) rfl (by first | assumption | rfl) ?_
  refine T_iconst dX8_begin_4 (inr rfl) ?_
  refine T_aloadn dX8_begin_5 rfl rfl ?_
  refine T_getfin dX8_begin_6 fX8_9 (by first | assumption | rfl) (by first | decide | omega) rfl (by first | assumption | rfl) ?_
  refine T_iconst dX8_begin_9 (inr rfl) ?_
  refine T_bipush dX8_begin_10 (bp8 rfl) (inr rfl) ?_
  refine T_acopy (sp := 0) (dp := 0) (n := 10) dX8_begin_12 kX8_21 wa_nat wa_st wi_J10 (by first | assumption | rfl) (by first | assumption | rfl) (by first | decide | omega) (by first | decide | omega) (by omega) (by omega) (by omega) (by omega) (by decide) (leb rfl) ?_
  refine T_c (cpb c (f + 2) s R (by omega)) ?_
  refine T_aloadn dX8_begin_15 rfl rfl ?_
  refine T_iconst dX8_begin_16 (inr rfl) ?_
  refine T_puti dX8_begin_17 fX8_27 (by first | assumption | rfl) (by first | decide | omega) rfl rfl ?_
  refine T_c pu2 ?_
  refine T_aloadn dX8_begin_20 rfl rfl ?_
  refine T_iconst dX8_begin_21 (inr rfl) ?_
  refine T_puti dX8_begin_22 fX8_31 (by first | assumption | rfl) (by first | decide | omega) rfl rfl ?_
  refine T_c pu3 ?_
  refine T_aloadn dX8_begin_25 rfl rfl ?_
  refine T_iconst dX8_begin_26 (inr rfl) ?_
  refine T_puti dX8_begin_27 fX8_34 (by first | assumption | rfl) (by first | decide | omega) rfl rfl ?_
  refine T_c pu4 ?_
  refine TT_rv dX8_begin_30 trivial ?_
  exact ⟨rfl, rfl⟩
set_option maxHeartbeats 4000000 in
set_option maxRecDepth 100000 in
theorem c_copyFrom (c : HC) {s t : Nat} (hs : stA s) (ht : stA t) (hst : s ≠ t) (R : Nat → Int) : VO mX8_copyFrom 1 (putR c s R) [vr s, vr t] (putR c s (stR c t)) := by
  have hap := stA_ap hs ht hst
  obtain ⟨t0, ts, ts1, ts2, tf0, tf1⟩ := stK ht
  obtain ⟨s0, ss, ss1, ss2, sf0, sf1⟩ := stK hs
  refine CC.of (by decide +kernel) (leb rfl) (fun hok => ?_)
  refine T_aloadn dX8_copyFrom_0 rfl rfl ?_
  refine T_getfin dX8_copyFrom_1 fX8_9 (by first | assumption | rfl) (by first | decide | omega) rfl (by first | assumption | rfl) ?_
  refine T_iconst dX8_copyFrom_4 (inr rfl) ?_
  refine T_aloadn dX8_copyFrom_5 rfl rfl ?_
  refine T_getfin dX8_copyFrom_6 fX8_9 (by first | assumption | rfl) (by first | decide | omega) rfl (by first | assumption | rfl) ?_
  refine T_iconst dX8_copyFrom_9 (inr rfl) ?_
  refine T_bipush dX8_copyFrom_10 (bp8 rfl) (inr rfl) ?_
  refine T_acopy (sp := 0) (dp := 0) (n := 10) dX8_copyFrom_12 kX8_21 wa_nat wa_st wi_J10 (by first | assumption | rfl) (by first | assumption | rfl) (by first | decide | omega) (by first | decide | omega) (by omega) (by omega) (by omega) (by omega) (by decide) (leb rfl) ?_
  refine T_c (cpb c (t + 1) s R (by omega)) ?_
  refine T_aloadn dX8_copyFrom_15 rfl rfl ?_
  refine T_getfin dX8_copyFrom_16 fX8_15 (by first | assumption | rfl) (by first | decide | omega) rfl (by first | assumption | rfl) ?_
  refine T_iconst dX8_copyFrom_19 (inr rfl) ?_
  refine T_aloadn dX8_copyFrom_20 rfl rfl ?_
  refine T_getfin dX8_copyFrom_21 fX8_15 (by first | assumption | rfl) (by first | decide | omega) rfl (by first | assumption | rfl) ?_
  refine T_iconst dX8_copyFrom_24 (inr rfl) ?_
  refine T_bipush dX8_copyFrom_25 (bp8 rfl) (inr rfl) ?_
  refine T_acopy (sp := 0) (dp := 0) (n := 40) dX8_copyFrom_27 kX8_21 wa_nat wa_st wi_J10 (by first | assumption | rfl) (by first | assumption | rfl) (by first | decide | omega) (by first | decide | omega) (by omega) (by omega) (by omega) (by omega) (by decide) (leb rfl) ?_
  refine T_c (cpw c (t + 2) s _ (by omega)) ?_
  refine T_aloadn dX8_copyFrom_30 rfl rfl ?_
  refine T_aloadn dX8_copyFrom_31 rfl rfl ?_
  refine T_getv dX8_copyFrom_32 fX8_27 (by first | assumption | rfl) (by first | decide | omega) rfl (pro (by omega)) ?_
  refine T_puti dX8_copyFrom_35 fX8_27 (by first | assumption | rfl) (by first | decide | omega) rfl rfl ?_
  refine T_c pu2 ?_
  refine T_aloadn dX8_copyFrom_38 rfl rfl ?_
  refine T_aloadn dX8_copyFrom_39 rfl rfl ?_
  refine T_getv dX8_copyFrom_40 fX8_31 (by first | assumption | rfl) (by first | decide | omega) rfl (pro (by omega)) ?_
  refine T_puti dX8_copyFrom_43 fX8_31 (by first | assumption | rfl) (by first | decide | omega) rfl rfl ?_
  refine T_c pu3 ?_
  refine T_aloadn dX8_copyFrom_46 rfl rfl ?_
  refine T_aloadn dX8_copyFrom_47 rfl rfl ?_
  refine T_getv dX8_copyFrom_48 fX8_34 (by first | assumption | rfl) (by first | decide | omega) rfl (pro (by omega)) ?_
  refine T_puti dX8_copyFrom_51 fX8_34 (by first | assumption | rfl) (by first | decide | omega) rfl rfl ?_
  refine T_c pu4 ?_
  refine TT_rv dX8_copyFrom_54 trivial ?_
  refine ⟨rfl, putR_ext (fun k hk => ?_)⟩
  unfold up1 stR
  by_cases h1 : k = 1
  · subst h1; rfl
  · by_cases h0 : k = 0
    · subst h0; rfl
    · by_cases h12 : k = 12
      · subst h12; rfl
      · simp only [h1, h0, h12, if_false]
        by_cases h13 : 13 ≤ k
        · rw [if_pos h13, if_neg (by omega)]
        · rw [if_neg h13, if_pos (by omega), if_pos (by omega)]
/-- whether a word is among the first n of a row -/
def saidL (R : Nat → Int) (w : Int) : Nat → Nat → Int
  | 0, _ => 0
  | k + 1, i => if R (13 + i) = w then 1 else saidL R w k (i + 1)
set_option maxHeartbeats 4000000 in
set_option maxRecDepth 100000 in
theorem l_wasSaid (c : HC) {s : Nat} (hs : stA s) (R : Nat → Int) (w : Int) (n : Nat) (hn : R 12 = (n : Int)) (h40 : n ≤ 40) : ∀ (k i : Nat), i + k = n → TT mX8_wasSaid 0 2 [(0, vr s), (1, vi w), (2, vi (i : Int))] [] (putR c s R) (fun v c1 => v = some (vi (saidL R w k i)) ∧ c1 = putR c s R) := by
  obtain ⟨s0, ss, ss1, ss2, sf0, sf1⟩ := stK hs
  intro k
  induction k with
  | zero =>
    intro i hk
    refine T_iloadn dX8_wasSaid_2 rfl rfl ?_
    refine T_aloadn dX8_wasSaid_3 rfl rfl ?_
    refine T_getv dX8_wasSaid_4 fX8_27 (by first | assumption | rfl) (by first | decide | omega) rfl (pr2.trans hn) ?_
    refine T_icmp_ge (tgt := 28) dX8_wasSaid_7 rfl (fun b7 => ?_) (fun b7 => absurd b7 (by omega))
    refine T_iconst dX8_wasSaid_28 (inr rfl) ?_
    refine TT_ri dX8_wasSaid_29 (by first | exact Or.inl rfl | exact Or.inr rfl | assumption) ?_
    exact ro_q rfl
  | succ k ih =>
    intro i hk
    refine T_iloadn dX8_wasSaid_2 rfl rfl ?_
    refine T_aloadn dX8_wasSaid_3 rfl rfl ?_
    refine T_getv dX8_wasSaid_4 fX8_27 (by first | assumption | rfl) (by first | decide | omega) rfl (pr2.trans hn) ?_
    refine T_icmp_ge (tgt := 28) dX8_wasSaid_7 rfl (fun b7 => absurd b7 (by omega)) (fun b7 => ?_)
    refine T_aloadn dX8_wasSaid_10 rfl rfl ?_
    refine T_getfin dX8_wasSaid_11 fX8_15 (by first | assumption | rfl) (by first | decide | omega) rfl (by first | assumption | rfl) ?_
    refine T_iloadn dX8_wasSaid_14 rfl rfl ?_
    refine T_ialdv (j := i) dX8_wasSaid_15 (by first | assumption | rfl) (by first | decide | omega) (by omega) (by omega) (prw (by omega)) ?_
    refine T_iloadn dX8_wasSaid_16 rfl rfl ?_
    refine T_icmp_ne (tgt := 22) dX8_wasSaid_17 rfl (fun b17 => ?_) (fun b17 => ?_)
    · refine T_iincN dX8_wasSaid_22 rfl (by decide) rfl (by omega) ?_
      refine T_goto (tgt := 2) dX8_wasSaid_25 rfl ?_
      rw [saidL.eq_2, if_neg b17]
      exact ih (i + 1) (by omega)
    · refine T_iconst dX8_wasSaid_20 (inr rfl) ?_
      refine TT_ri dX8_wasSaid_21 (by first | exact Or.inl rfl | exact Or.inr rfl | assumption) ?_
      exact ro_q (by rw [saidL.eq_2, if_pos b17])
set_option maxHeartbeats 4000000 in
set_option maxRecDepth 100000 in
theorem c_wasSaid (c : HC) {s : Nat} (hs : stA s) (R : Nat → Int) (w : Int) (n : Nat) (hn : R 12 = (n : Int)) (h40 : n ≤ 40) : RO mX8_wasSaid 0 (putR c s R) [vr s, vi w] (saidL R w n 0) := by
  refine CC.of (by decide +kernel) (leb rfl) (fun hok => ?_)
  refine T_iconst dX8_wasSaid_0 (inr rfl) ?_
  refine T_istoren dX8_wasSaid_1 rfl (by decide) rfl ?_
  exact l_wasSaid c hs R w n hn h40 n 0 (by omega)
/-- all who did not speak rest: rows up to place k are done -/
def restR (bt : Nat → Int) (p q : Int) (R : Nat → Int) (k : Nat) : Nat → Int := fun j => if 2 ≤ j ∧ j < 2 + k ∧ ((j - 2 : Nat) : Int) ≠ p ∧ ((j - 2 : Nat) : Int) ≠ q ∧ R j < bt (j - 2) then R j + 1 else R j
theorem restR_0 (bt : Nat → Int) (p q : Int) (R : Nat → Int) : restR bt p q R 0 = R := by
  funext j
  unfold restR
  rw [if_neg (by omega)]
theorem restR_at (bt : Nat → Int) (p q : Int) (R : Nat → Int) (k : Nat) : restR bt p q R k (2 + k) = R (2 + k) := by
  unfold restR
  rw [if_neg (by omega)]
theorem restR_s (bt : Nat → Int) (p q : Int) (R : Nat → Int) (k : Nat) (h1 : (k : Int) ≠ p) (h2 : (k : Int) ≠ q) (h3 : R (2 + k) < bt k) : up1 (restR bt p q R k) (2 + k) (R (2 + k) + 1) = restR bt p q R (k + 1) := by
  funext j
  unfold up1
  by_cases e : j = 2 + k
  · subst e
    rw [if_pos rfl]
    unfold restR
    rw [if_pos]
    rw [show 2 + k - 2 = k by omega]
    exact ⟨by omega, by omega, h1, h2, h3⟩
  · rw [if_neg e]
    unfold restR
    by_cases hh : 2 ≤ j ∧ j < 2 + k ∧ ((j - 2 : Nat) : Int) ≠ p ∧ ((j - 2 : Nat) : Int) ≠ q ∧ R j < bt (j - 2)
    · rw [if_pos hh, if_pos ⟨hh.1, by omega, hh.2.2⟩]
    · rw [if_neg hh, if_neg (fun z => hh ⟨z.1, by omega, z.2.2⟩)]
theorem restR_n (bt : Nat → Int) (p q : Int) (R : Nat → Int) (k : Nat) (h : (k : Int) = p ∨ (k : Int) = q ∨ bt k ≤ R (2 + k)) : restR bt p q R k = restR bt p q R (k + 1) := by
  funext j
  unfold restR
  by_cases hh : 2 ≤ j ∧ j < 2 + k ∧ ((j - 2 : Nat) : Int) ≠ p ∧ ((j - 2 : Nat) : Int) ≠ q ∧ R j < bt (j - 2)
  · rw [if_pos hh, if_pos ⟨hh.1, by omega, hh.2.2⟩]
  · rw [if_neg hh, if_neg]
    intro z
    by_cases e : j = 2 + k
    · subst e
      rw [show 2 + k - 2 = k by omega] at z
      omega
    · exact hh ⟨z.1, by omega, z.2.2⟩
set_option maxHeartbeats 4000000 in
set_option maxRecDepth 100000 in
theorem l_restAllBut (c : HC) {f n s : Nat} (hf : f = 96 ∨ f = 109) (hs : stA s) (hsf : s + 2 < f ∨ f + 4 < s) (hn : c f 4 = (n : Int)) (hn10 : n ≤ 10) (R : Nat → Int) (hR : ∀ j, j < n → -1000 ≤ R (2 + j) ∧ R (2 + j) ≤ 1000) (p q : Int) : ∀ (k i : Nat), i + k = n →
    TT mX8_restAllBut 0 3 [(0, vr s), (1, vr f), (2, vi p), (3, vi q), (4, vi (i : Int))] [] (putR c s (restR (c (f + 2)) p q R i)) (fun v c1 => v = none ∧ c1 = putR c s (restR (c (f + 2)) p q R n)) := by
  obtain ⟨f0, fs, fs1, fs2, fs3, fs4, ff0, ff1, ff2, ff3⟩ := sK hf
  obtain ⟨s0, ss, ss1, ss2, sf0, sf1⟩ := stK hs
  intro k
  induction k with
  | zero =>
    intro i hk
    have e : i = n := by omega
    subst e
    refine T_iload dX8_restAllBut_3 rfl ?_
    refine T_aloadn dX8_restAllBut_5 rfl rfl ?_
    refine T_getv dX8_restAllBut_6 fX8_74 (by first | assumption | rfl) (by first | decide | omega) rfl ((pro (by omega)).trans hn) ?_
    refine T_icmp_ge (tgt := 58) dX8_restAllBut_9 rfl (fun b9 => ?_) (fun b9 => absurd b9 (by omega))
    refine TT_rv dX8_restAllBut_58 trivial ?_
    exact ⟨rfl, rfl⟩
  | succ k ih =>
    intro i hk
    have h := ih (i + 1) (by omega)
    have hRi := hR i (by omega)
    have e30 : putR c s (restR (c (f + 2)) p q R i) (s + 1) i = R (2 + i) := by rw [prb (by omega), restR_at]
    refine T_iload dX8_restAllBut_3 rfl ?_
    refine T_aloadn dX8_restAllBut_5 rfl rfl ?_
    refine T_getv dX8_restAllBut_6 fX8_74 (by first | assumption | rfl) (by first | decide | omega) rfl ((pro (by omega)).trans hn) ?_
    refine T_icmp_ge (tgt := 58) dX8_restAllBut_9 rfl (fun b9 => absurd b9 (by omega)) (fun b9 => ?_)
    refine T_iload dX8_restAllBut_12 rfl ?_
    refine T_iloadn dX8_restAllBut_14 rfl rfl ?_
    refine T_icmp_eq (tgt := 52) dX8_restAllBut_15 rfl (fun b15 => ?_) (fun b15 => ?_)
    · first
        | (refine T_c (pub (by omega)) ?_
           rw [restR_s (c (f + 2)) p q R i b15 b21 (by omega)])
        | rw [restR_n (c (f + 2)) p q R i (by first | exact Or.inl b15 | exact Or.inr (Or.inl b21) | exact Or.inr (Or.inr (by omega)))]
      refine T_iincN dX8_restAllBut_52 rfl (by decide) rfl (by omega) ?_
      refine T_goto (tgt := 3) dX8_restAllBut_55 rfl ?_
      exact h
    · refine T_iload dX8_restAllBut_18 rfl ?_
      refine T_iloadn dX8_restAllBut_20 rfl rfl ?_
      refine T_icmp_eq (tgt := 52) dX8_restAllBut_21 rfl (fun b21 => ?_) (fun b21 => ?_)
      · first
          | (refine T_c (pub (by omega)) ?_
             rw [restR_s (c (f + 2)) p q R i b15 b21 (by omega)])
          | rw [restR_n (c (f + 2)) p q R i (by first | exact Or.inl b15 | exact Or.inr (Or.inl b21) | exact Or.inr (Or.inr (by omega)))]
        refine T_iincN dX8_restAllBut_52 rfl (by decide) rfl (by omega) ?_
        refine T_goto (tgt := 3) dX8_restAllBut_55 rfl ?_
        exact h
      · refine T_aloadn dX8_restAllBut_24 rfl rfl ?_
        refine T_getfin dX8_restAllBut_25 fX8_9 (by first | assumption | rfl) (by first | decide | omega) rfl (by first | assumption | rfl) ?_
        refine T_iload dX8_restAllBut_28 rfl ?_
        refine T_ialdv (j := i) dX8_restAllBut_30 (by first | assumption | rfl) (by first | decide | omega) (by omega) (by omega) e30 ?_
        refine T_aloadn dX8_restAllBut_31 rfl rfl ?_
        refine T_getfin dX8_restAllBut_32 fX8_18 (by first | assumption | rfl) (by first | decide | omega) rfl (by first | assumption | rfl) ?_
        refine T_iload dX8_restAllBut_35 rfl ?_
        refine T_ialdv (j := i) dX8_restAllBut_37 (by first | assumption | rfl) (by first | decide | omega) (by omega) (by omega) (pro (by omega)) ?_
        refine T_icmp_ge (tgt := 52) dX8_restAllBut_38 rfl (fun b38 => ?_) (fun b38 => ?_)
        · first
            | (refine T_c (pub (by omega)) ?_
               rw [restR_s (c (f + 2)) p q R i b15 b21 (by omega)])
            | rw [restR_n (c (f + 2)) p q R i (by first | exact Or.inl b15 | exact Or.inr (Or.inl b21) | exact Or.inr (Or.inr (by omega)))]
          refine T_iincN dX8_restAllBut_52 rfl (by decide) rfl (by omega) ?_
          refine T_goto (tgt := 3) dX8_restAllBut_55 rfl ?_
          exact h
        · refine T_aloadn dX8_restAllBut_41 rfl rfl ?_
          refine T_getfin dX8_restAllBut_42 fX8_9 (by first | assumption | rfl) (by first | decide | omega) rfl (by first | assumption | rfl) ?_
          refine T_iload dX8_restAllBut_45 rfl ?_
          refine T_dup2 dX8_restAllBut_47 rfl rfl ?_
          refine T_ialdv (j := i) dX8_restAllBut_48 (by first | assumption | rfl) (by first | decide | omega) (by omega) (by omega) e30 ?_
          refine T_iconst dX8_restAllBut_49 (inr rfl) ?_
          first | refine T_iaddN dX8_restAllBut_50 (by omega) ?_ | refine T_iadd dX8_restAllBut_50 ?_
          refine T_iast (j := i) dX8_restAllBut_51 (by first | assumption | rfl) (by first | decide | omega) (by omega) (by omega) ?_
          first
            | (refine T_c (pub (by omega)) ?_
               rw [restR_s (c (f + 2)) p q R i b15 b21 (by omega)])
            | rw [restR_n (c (f + 2)) p q R i (by first | exact Or.inl b15 | exact Or.inr (Or.inl b21) | exact Or.inr (Or.inr (by omega)))]
          refine T_iincN dX8_restAllBut_52 rfl (by decide) rfl (by omega) ?_
          refine T_goto (tgt := 3) dX8_restAllBut_55 rfl ?_
          exact h
set_option maxHeartbeats 4000000 in
set_option maxRecDepth 100000 in
theorem c_restAllBut (c : HC) {f n s : Nat} (hf : f = 96 ∨ f = 109) (hs : stA s) (hsf : s + 2 < f ∨ f + 4 < s) (hn : c f 4 = (n : Int)) (hn10 : n ≤ 10) (R : Nat → Int) (hR : ∀ j, j < n → -1000 ≤ R (2 + j) ∧ R (2 + j) ≤ 1000) (p q : Int) : VO mX8_restAllBut 0 (putR c s R) [vr s, vr f, vi p, vi q] (putR c s (restR (c (f + 2)) p q R n)) := by
  refine CC.of (by decide +kernel) (leb rfl) (fun hok => ?_)
  refine T_iconst dX8_restAllBut_0 (inr rfl) ?_
  refine T_istore dX8_restAllBut_1 (by decide) rfl ?_
  have h := l_restAllBut c hf hs hsf hn hn10 R hR p q n 0 (by omega)
  rw [restR_0] at h
  exact h
/-- a word is said: kept behind the others; of 40 the oldest is lost -/
def shR (R : Nat → Int) : Nat → Int := up1 (fun k => if 13 ≤ k ∧ k < 52 then R (k + 1) else R k) 12 39
def sayR (R : Nat → Int) (w : Int) : Nat → Int := if w = -1 then R else if R 12 < 40 then up1 (up1 R (13 + (R 12).toNat) w) 12 (R 12 + 1) else up1 (up1 (shR R) (13 + 39) w) 12 40
set_option maxHeartbeats 4000000 in
set_option maxRecDepth 100000 in
theorem c_remember (c : HC) {s : Nat} (hs : stA s) (R : Nat → Int) (w : Int) (h0 : 0 ≤ R 12) (h40 : R 12 ≤ 40) : VO mX8_remember 1 (putR c s R) [vr s, vi w] (putR c s (sayR R w)) := by
  obtain ⟨s0, ss, ss1, ss2, sf0, sf1⟩ := stK hs
  refine CC.of (by decide +kernel) (leb rfl) (fun hok => ?_)
  have ew : ∀ {R : Nat → Int} {j : Nat} {v : Int}, up1 R (13 + j) v 12 = R 12 := by
    intro R j v
    unfold up1
    rw [if_neg (by omega)]
  refine T_iloadn dX8_remember_0 rfl rfl ?_
  refine T_iconst dX8_remember_1 (inr rfl) ?_
  refine T_icmp_ne (tgt := 6) dX8_remember_2 rfl (fun b2 => ?_) (fun b2 => ?_)
  · refine T_aloadn dX8_remember_6 rfl rfl ?_
    refine T_getv dX8_remember_7 fX8_27 (by first | assumption | rfl) (by first | decide | omega) rfl pr2 ?_
    refine T_bipush dX8_remember_10 (bp8 rfl) (inr rfl) ?_
    refine T_icmp_lt (tgt := 36) dX8_remember_12 rfl (fun b12 => ?_) (fun b12 => ?_)
    · try refine T_c pu2 ?_
      refine T_aloadn dX8_remember_36 rfl rfl ?_
      refine T_getfin dX8_remember_37 fX8_15 (by first | assumption | rfl) (by first | decide | omega) rfl (by first | assumption | rfl) ?_
      refine T_aloadn dX8_remember_40 rfl rfl ?_
      refine T_getv dX8_remember_41 fX8_27 (by first | assumption | rfl) (by first | decide | omega) rfl pr2 ?_
      refine T_iloadn dX8_remember_44 rfl rfl ?_
      first | refine T_iast (j := (R 12).toNat) dX8_remember_45 (by first | assumption | rfl) (by omega) (by omega) (by omega) ?_ | refine T_iast (j := 39) dX8_remember_45 (by first | assumption | rfl) (by omega) rfl (by omega) ?_
      refine T_c (puw (by omega)) ?_
      refine T_aloadn dX8_remember_46 rfl rfl ?_
      refine T_dup dX8_remember_47 rfl ?_
      refine T_getv dX8_remember_48 fX8_27 (by first | assumption | rfl) (by first | decide | omega) rfl (pr2.trans ew) ?_
      refine T_iconst dX8_remember_51 (inr rfl) ?_
      first | refine T_iaddN dX8_remember_52 (by omega) ?_ | refine T_iadd dX8_remember_52 ?_
      refine T_puti dX8_remember_53 fX8_27 (by first | assumption | rfl) (by first | decide | omega) rfl rfl ?_
      refine T_c pu2 ?_
      refine TT_rv dX8_remember_56 trivial ?_
      refine ⟨rfl, ?_⟩
      unfold sayR
      first
        | rw [if_neg b2, if_pos b12]
        | rw [if_neg b2, if_neg b12]; rfl
    · refine T_aloadn dX8_remember_15 rfl rfl ?_
      refine T_getfin dX8_remember_16 fX8_15 (by first | assumption | rfl) (by first | decide | omega) rfl (by first | assumption | rfl) ?_
      refine T_iconst dX8_remember_19 (inr rfl) ?_
      refine T_aloadn dX8_remember_20 rfl rfl ?_
      refine T_getfin dX8_remember_21 fX8_15 (by first | assumption | rfl) (by first | decide | omega) rfl (by first | assumption | rfl) ?_
      refine T_iconst dX8_remember_24 (inr rfl) ?_
      refine T_bipush dX8_remember_25 (bp8 rfl) (inr rfl) ?_
      refine T_acopy (sp := 1) (dp := 0) (n := 39) dX8_remember_27 kX8_21 wa_nat wa_st wi_J10 (by first | assumption | rfl) (by first | assumption | rfl) (by first | decide | omega) (by first | decide | omega) (by omega) (by omega) (by omega) (by omega) (by decide) (leb rfl) ?_
      refine T_c (cpsh c s R) ?_
      refine T_aloadn dX8_remember_30 rfl rfl ?_
      refine T_bipush dX8_remember_31 (bp8 rfl) (inr rfl) ?_
      refine T_puti dX8_remember_33 fX8_27 (by first | assumption | rfl) (by first | decide | omega) rfl rfl ?_
      try refine T_c pu2 ?_
      refine T_aloadn dX8_remember_36 rfl rfl ?_
      refine T_getfin dX8_remember_37 fX8_15 (by first | assumption | rfl) (by first | decide | omega) rfl (by first | assumption | rfl) ?_
      refine T_aloadn dX8_remember_40 rfl rfl ?_
      refine T_getv dX8_remember_41 fX8_27 (by first | assumption | rfl) (by first | decide | omega) rfl pr2 ?_
      refine T_iloadn dX8_remember_44 rfl rfl ?_
      first | refine T_iast (j := (R 12).toNat) dX8_remember_45 (by first | assumption | rfl) (by omega) (by omega) (by omega) ?_ | refine T_iast (j := 39) dX8_remember_45 (by first | assumption | rfl) (by omega) rfl (by omega) ?_
      refine T_c (puw (by omega)) ?_
      refine T_aloadn dX8_remember_46 rfl rfl ?_
      refine T_dup dX8_remember_47 rfl ?_
      refine T_getv dX8_remember_48 fX8_27 (by first | assumption | rfl) (by first | decide | omega) rfl (pr2.trans ew) ?_
      refine T_iconst dX8_remember_51 (inr rfl) ?_
      first | refine T_iaddN dX8_remember_52 (by omega) ?_ | refine T_iadd dX8_remember_52 ?_
      refine T_puti dX8_remember_53 fX8_27 (by first | assumption | rfl) (by first | decide | omega) rfl rfl ?_
      refine T_c pu2 ?_
      refine TT_rv dX8_remember_56 trivial ?_
      refine ⟨rfl, ?_⟩
      unfold sayR
      first
        | rw [if_neg b2, if_pos b12]
        | rw [if_neg b2, if_neg b12]; rfl
  · refine TT_rv dX8_remember_5 trivial ?_
    exact ⟨rfl, by unfold sayR; rw [if_pos b2]⟩
