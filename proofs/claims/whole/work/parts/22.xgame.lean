/-! the game by turns: its values, and the class's tables of them -/
def mxU (V : Nat → Nat → Int) (s l : Nat) : Nat → Int
  | 0 => -1000
  | k + 1 => if (s.testBit k = true ∧ (l = 0 ∨ k + 1 ≠ l + 1)) ∧ mxU V s l k < ((k + 1 : Nat) : Int) - V (s - 2 ^ k) (k + 1) then ((k + 1 : Nat) : Int) - V (s - 2 ^ k) (k + 1) else mxU V s l k
def gst (V : Nat → Nat → Int) (s l : Nat) : Int := if -1000 < mxU V s l 10 then mxU V s l 10 else if s = 0 then 0 else -5
def gF : Nat → Nat → Nat → Int
  | 0 => fun _ _ => 0
  | n + 1 => gst (gF n)
def gV (s l : Nat) : Int := gF (s + 1) s l
theorem tb_le {s k : Nat} (h : s.testBit k = true) : 2 ^ k ≤ s := Nat.ge_two_pow_of_testBit h
theorem mxU_congr {V W : Nat → Nat → Int} {s l : Nat} (h : ∀ t j, t < s → V t j = W t j) : ∀ k, mxU V s l k = mxU W s l k
  | 0 => rfl
  | k + 1 => by
    have ih := mxU_congr (l := l) h k
    unfold mxU
    by_cases hb : s.testBit k = true
    · have h2 := tb_le hb
      have h3 : 0 < 2 ^ k := Nat.two_pow_pos k
      rw [h (s - 2 ^ k) (k + 1) (by omega), ih]
    · rw [if_neg (fun q => hb q.1.1), if_neg (fun q => hb q.1.1), ih]
theorem gF_st : ∀ (s n m l : Nat), s < n → s < m → gF n s l = gF m s l := by
  intro s
  induction s using Nat.strongRecOn with
  | ind s ih =>
    intro n m l h1 h2
    obtain ⟨n, rfl⟩ : ∃ k, n = k + 1 := ⟨n - 1, by omega⟩
    obtain ⟨m, rfl⟩ : ∃ k, m = k + 1 := ⟨m - 1, by omega⟩
    show gst (gF n) s l = gst (gF m) s l
    unfold gst
    rw [mxU_congr (fun t j ht => ih t ht n m j (by omega) (by omega)) 10]
theorem gV_rec (s l : Nat) : gV s l = gst gV s l := by
  show gst (gF s) s l = gst gV s l
  unfold gst
  rw [mxU_congr (fun t j ht => gF_st t s (t + 1) j ht (by omega)) 10]
  rfl
def pcU (s : Nat) : Nat → Nat
  | 0 => 0
  | k + 1 => if s.testBit k = true then pcU s k + 1 else pcU s k
theorem pc_sub : ∀ s, s < 1024 → ∀ k, k < 10 → s.testBit k = true → pcU (s - 2 ^ k) 10 + 1 = pcU s 10 := by decide +kernel
theorem xor_sub : ∀ s, s < 1024 → ∀ k, k < 10 → s.testBit k = true → s ^^^ 2 ^ k = s - 2 ^ k := by decide +kernel
theorem pc_le : ∀ s, s < 1024 → pcU s 10 ≤ 10 := by decide +kernel
theorem tb10 : ∀ s, s < 1024 → s ≠ 0 → ∃ k, k < 10 ∧ s.testBit k = true := by decide +kernel
theorem mxU_sp {V : Nat → Nat → Int} {s l : Nat} (hg : ∀ i, i < 10 → s.testBit i = true → -1000 < ((i + 1 : Nat) : Int) - V (s - 2 ^ i) (i + 1)) : ∀ k, k ≤ 10 → (∀ i, i < k → s.testBit i = true → (l = 0 ∨ i + 1 ≠ l + 1) → ((i + 1 : Nat) : Int) - V (s - 2 ^ i) (i + 1) ≤ mxU V s l k) ∧ ((mxU V s l k = -1000 ∧ ∀ i, i < k → s.testBit i = true → ¬ (l = 0 ∨ i + 1 ≠ l + 1)) ∨ ∃ i, i < k ∧ s.testBit i = true ∧ (l = 0 ∨ i + 1 ≠ l + 1) ∧ mxU V s l k = ((i + 1 : Nat) : Int) - V (s - 2 ^ i) (i + 1))
  | 0, _ => ⟨fun i h => by omega, Or.inl ⟨rfl, fun i h => by omega⟩⟩
  | k + 1, hk => by
    obtain ⟨h1, h2⟩ := mxU_sp (l := l) hg k (by omega)
    unfold mxU
    by_cases hc : (s.testBit k = true ∧ (l = 0 ∨ k + 1 ≠ l + 1)) ∧ mxU V s l k < ((k + 1 : Nat) : Int) - V (s - 2 ^ k) (k + 1)
    · rw [if_pos hc]
      refine ⟨fun i hi hb ha => ?_, Or.inr ⟨k, by omega, hc.1.1, hc.1.2, rfl⟩⟩
      by_cases e : i = k
      · subst e; exact Int.le_refl _
      · have := h1 i (by omega) hb ha
        omega
    · rw [if_neg hc]
      refine ⟨fun i hi hb ha => ?_, ?_⟩
      · by_cases e : i = k
        · subst e
          have : ¬ (mxU V s l i < ((i + 1 : Nat) : Int) - V (s - 2 ^ i) (i + 1)) := fun q => hc ⟨⟨hb, ha⟩, q⟩
          omega
        · exact h1 i (by omega) hb ha
      · rcases h2 with ⟨a1, a2⟩ | ⟨i, a1, a2, a3, a4⟩
        · refine Or.inl ⟨a1, fun i hi hb ha => ?_⟩
          by_cases e : i = k
          · subst e
            have := hg i (by omega) hb
            exact hc ⟨⟨hb, ha⟩, by omega⟩
          · exact a2 i (by omega) hb ha
        · exact Or.inr ⟨i, by omega, a2, a3, a4⟩
theorem gV_bd : ∀ (s : Nat), s < 1024 → ∀ l, -(11 * (pcU s 10 : Int) + 5) ≤ gV s l ∧ gV s l ≤ 11 * (pcU s 10 : Int) + 5 := by
  intro s
  induction s using Nat.strongRecOn with
  | ind s ih =>
    intro hs l
    have hp := pc_le s hs
    have hgb : ∀ i, i < 10 → s.testBit i = true → -(11 * (pcU s 10 : Int) + 5) ≤ ((i + 1 : Nat) : Int) - gV (s - 2 ^ i) (i + 1) ∧ ((i + 1 : Nat) : Int) - gV (s - 2 ^ i) (i + 1) ≤ 11 * (pcU s 10 : Int) + 5 := fun i hi hb => by
      have h2 := tb_le hb
      have h3 : 0 < 2 ^ i := Nat.two_pow_pos i
      have h4 := ih (s - 2 ^ i) (by omega) (by omega) (i + 1)
      have h5 := pc_sub s hs i hi hb
      omega
    rw [gV_rec]
    have h := mxU_sp (V := gV) (s := s) (l := l) (fun i hi hb => by have := hgb i hi hb; omega) 10 (Nat.le_refl _)
    unfold gst
    split
    · rcases h.2 with ⟨a1, a2⟩ | ⟨i, a1, a2, a3, a4⟩
      · omega
      · rw [a4]
        exact hgb i a1 a2
    · split <;> omega
theorem gV_b {s : Nat} (hs : s < 1024) (l : Nat) : -120 ≤ gV s l ∧ gV s l ≤ 120 := by
  have := gV_bd s hs l
  have := pc_le s hs
  omega
theorem gV_sp {s l : Nat} (hs : s < 1024) : (∀ i, i < 10 → s.testBit i = true → (l = 0 ∨ i + 1 ≠ l + 1) → ((i + 1 : Nat) : Int) - gV (s - 2 ^ i) (i + 1) ≤ gV s l) ∧ (((∀ i, i < 10 → s.testBit i = true → ¬ (l = 0 ∨ i + 1 ≠ l + 1)) ∧ gV s l = if s = 0 then 0 else -5) ∨ ∃ i, i < 10 ∧ s.testBit i = true ∧ (l = 0 ∨ i + 1 ≠ l + 1) ∧ gV s l = ((i + 1 : Nat) : Int) - gV (s - 2 ^ i) (i + 1)) := by
  have hgb : ∀ i, i < 10 → s.testBit i = true → -1000 < ((i + 1 : Nat) : Int) - gV (s - 2 ^ i) (i + 1) := fun i hi hb => by
    have h4 := gV_b (s := s - 2 ^ i) (Nat.lt_of_le_of_lt (Nat.sub_le _ _) hs) (i + 1)
    omega
  have h := mxU_sp (V := gV) (s := s) (l := l) hgb 10 (Nat.le_refl _)
  have er : gV s l = gst gV s l := gV_rec s l
  unfold gst at er
  rcases h.2 with ⟨a1, a2⟩ | ⟨i, a1, a2, a3, a4⟩
  · rw [if_neg (by omega)] at er
    exact ⟨fun i hi hb ha => absurd ha (a2 i hi hb), Or.inl ⟨a2, er⟩⟩
  · have := hgb i a1 a2
    rw [if_pos (by omega)] at er
    rw [er]
    exact ⟨h.1, Or.inr ⟨i, a1, a2, a3, a4⟩⟩
/-- the class's tables -/
def wF (c : HC) (s l : Nat) : Int := if 0 < l ∧ c 71 s = (l : Int) + 1 then c 73 s else c 72 s
def GOK (c : HC) (m : Nat) : Prop := (∀ s, s < m → ∀ l, l ≤ 10 → wF c s l = gV s l) ∧ ∀ s, s < m → (0 ≤ c 71 s ∧ c 71 s ≤ 10) ∧ (-200 ≤ c 72 s ∧ c 72 s ≤ 200) ∧ (-200 ≤ c 73 s ∧ c 73 s ≤ 200)
def gnV (s : Nat) (l : Int) : Int := if l = 0 then -5 else l - gV (s - 2 ^ (l - 1).toNat) l.toNat
/-- the best of the first k lengths, but for one; what it gives -/
def bbU (s : Nat) (bar : Int) : Nat → Int × Int
  | 0 => (0, 0)
  | k + 1 => if (s.testBit k = true ∧ (k : Int) + 1 ≠ bar) ∧ ((bbU s bar k).1 = 0 ∨ (bbU s bar k).2 < gnV s ((k : Int) + 1)) then ((k : Int) + 1, gnV s ((k : Int) + 1)) else bbU s bar k
theorem bit_tb {s k : Nat} (h : s < 1024) : band ((s : Int) / 2 ^ k) 1 = 1 ↔ s.testBit k = true := by
  have e : ((s : Int) / 2 ^ k) = ((s / 2 ^ k : Nat) : Int) := by rw [Int.natCast_ediv, Int.natCast_pow]; rfl
  have hle : s / 2 ^ k ≤ s := Nat.div_le_self _ _
  rw [e, Nat.testBit_eq_decide_div_mod_eq]
  generalize s / 2 ^ k = dd at *
  rw [band1 (by unfold InR; omega)]
  simp only [decide_eq_true_eq]
  omega
set_option maxHeartbeats 4000000 in
set_option maxRecDepth 100000 in
theorem c_worth (c : HC) (s l : Nat) (hs : s < 1024) (hl : l ≤ 10) : RO mX2_worth 0 c [vr 70, vi (s : Int), vi (l : Int)] (wF c s l) := by
  refine CC.of (by decide +kernel) (leb rfl) (fun hok => ?_)
  unfold wF
  refine T_iloadn dX2_worth_0 rfl rfl ?_
  refine T_if_le (tgt := 20) dX2_worth_1 rfl (fun b1 => ?_) (fun b1 => ?_)
  · refine T_iconst dX2_worth_20 (inr rfl) ?_
    refine T_istoren dX2_worth_21 rfl (by decide) rfl ?_
    refine T_iloadn dX2_worth_22 rfl rfl ?_
    refine T_if_eq (tgt := 35) dX2_worth_23 rfl (fun b23 => ?_) (fun b23 => ?_)
    · refine T_aloadn dX2_worth_35 rfl rfl ?_
      refine T_getfin dX2_worth_36 fX2_13 (by first | assumption | rfl) (by first | decide | omega) rfl (by first | assumption | rfl) ?_
      refine T_iloadn dX2_worth_39 rfl rfl ?_
      refine T_iald (j := s) dX2_worth_40 (by first | assumption | rfl) (by first | decide | omega) (by omega) (by omega) ?_
      refine TT_ri dX2_worth_41 trivial ?_
      exact ro_q (by first | (exfalso; omega) | (rw [if_pos]; exact ⟨by omega, b13⟩) | (rw [if_neg]; first | omega | (intro z; exact b13 z.2)))
    · refine T_aloadn dX2_worth_26 rfl rfl ?_
      refine T_getfin dX2_worth_27 fX2_16 (by first | assumption | rfl) (by first | decide | omega) rfl (by first | assumption | rfl) ?_
      refine T_iloadn dX2_worth_30 rfl rfl ?_
      refine T_iald (j := s) dX2_worth_31 (by first | assumption | rfl) (by first | decide | omega) (by omega) (by omega) ?_
      refine T_goto (tgt := 41) dX2_worth_32 rfl ?_
      refine TT_ri dX2_worth_41 trivial ?_
      exact ro_q (by first | (exfalso; omega) | (rw [if_pos]; exact ⟨by omega, b13⟩) | (rw [if_neg]; first | omega | (intro z; exact b13 z.2)))
  · refine T_aloadn dX2_worth_4 rfl rfl ?_
    refine T_getfin dX2_worth_5 fX2_9 (by first | assumption | rfl) (by first | decide | omega) rfl (by first | assumption | rfl) ?_
    refine T_iloadn dX2_worth_8 rfl rfl ?_
    refine T_iald (j := s) dX2_worth_9 (by first | assumption | rfl) (by first | decide | omega) (by omega) (by omega) ?_
    refine T_iloadn dX2_worth_10 rfl rfl ?_
    refine T_iconst dX2_worth_11 (inr rfl) ?_
    first | refine T_iaddN dX2_worth_12 (by omega) ?_ | refine T_iadd dX2_worth_12 ?_
    refine T_icmp_ne (tgt := 20) dX2_worth_13 rfl (fun b13 => ?_) (fun b13 => ?_)
    · refine T_iconst dX2_worth_20 (inr rfl) ?_
      refine T_istoren dX2_worth_21 rfl (by decide) rfl ?_
      refine T_iloadn dX2_worth_22 rfl rfl ?_
      refine T_if_eq (tgt := 35) dX2_worth_23 rfl (fun b23 => ?_) (fun b23 => ?_)
      · refine T_aloadn dX2_worth_35 rfl rfl ?_
        refine T_getfin dX2_worth_36 fX2_13 (by first | assumption | rfl) (by first | decide | omega) rfl (by first | assumption | rfl) ?_
        refine T_iloadn dX2_worth_39 rfl rfl ?_
        refine T_iald (j := s) dX2_worth_40 (by first | assumption | rfl) (by first | decide | omega) (by omega) (by omega) ?_
        refine TT_ri dX2_worth_41 trivial ?_
        exact ro_q (by first | (exfalso; omega) | (rw [if_pos]; exact ⟨by omega, b13⟩) | (rw [if_neg]; first | omega | (intro z; exact b13 z.2)))
      · refine T_aloadn dX2_worth_26 rfl rfl ?_
        refine T_getfin dX2_worth_27 fX2_16 (by first | assumption | rfl) (by first | decide | omega) rfl (by first | assumption | rfl) ?_
        refine T_iloadn dX2_worth_30 rfl rfl ?_
        refine T_iald (j := s) dX2_worth_31 (by first | assumption | rfl) (by first | decide | omega) (by omega) (by omega) ?_
        refine T_goto (tgt := 41) dX2_worth_32 rfl ?_
        refine TT_ri dX2_worth_41 trivial ?_
        exact ro_q (by first | (exfalso; omega) | (rw [if_pos]; exact ⟨by omega, b13⟩) | (rw [if_neg]; first | omega | (intro z; exact b13 z.2)))
    · refine T_iconst dX2_worth_16 (inr rfl) ?_
      refine T_goto (tgt := 21) dX2_worth_17 rfl ?_
      refine T_istoren dX2_worth_21 rfl (by decide) rfl ?_
      refine T_iloadn dX2_worth_22 rfl rfl ?_
      refine T_if_eq (tgt := 35) dX2_worth_23 rfl (fun b23 => ?_) (fun b23 => ?_)
      · refine T_aloadn dX2_worth_35 rfl rfl ?_
        refine T_getfin dX2_worth_36 fX2_13 (by first | assumption | rfl) (by first | decide | omega) rfl (by first | assumption | rfl) ?_
        refine T_iloadn dX2_worth_39 rfl rfl ?_
        refine T_iald (j := s) dX2_worth_40 (by first | assumption | rfl) (by first | decide | omega) (by omega) (by omega) ?_
        refine TT_ri dX2_worth_41 trivial ?_
        exact ro_q (by first | (exfalso; omega) | (rw [if_pos]; exact ⟨by omega, b13⟩) | (rw [if_neg]; first | omega | (intro z; exact b13 z.2)))
      · refine T_aloadn dX2_worth_26 rfl rfl ?_
        refine T_getfin dX2_worth_27 fX2_16 (by first | assumption | rfl) (by first | decide | omega) rfl (by first | assumption | rfl) ?_
        refine T_iloadn dX2_worth_30 rfl rfl ?_
        refine T_iald (j := s) dX2_worth_31 (by first | assumption | rfl) (by first | decide | omega) (by omega) (by omega) ?_
        refine T_goto (tgt := 41) dX2_worth_32 rfl ?_
        refine TT_ri dX2_worth_41 trivial ?_
        exact ro_q (by first | (exfalso; omega) | (rw [if_pos]; exact ⟨by omega, b13⟩) | (rw [if_neg]; first | omega | (intro z; exact b13 z.2)))
theorem bb_xor {s k : Nat} (hs : s < 1024) (hk : k < 10) (hb : s.testBit k = true) : bxor (s : Int) (wr (1 * 2 ^ ((k : Int)).toNat)) = ((s - 2 ^ k : Nat) : Int) := by
  have hp : 2 ^ k ≤ 512 := Nat.pow_le_pow_right (n := 2) (by decide) (show k ≤ 9 by omega)
  rw [shl1 (by omega), bxor_nat (k := 10) (by decide) (by omega) (by omega), xor_sub s hs k hk hb]
set_option maxHeartbeats 4000000 in
set_option maxRecDepth 100000 in
theorem c_gainBy (c : HC) (s : Nat) (hs : s < 1024) (hG : GOK c s) (l : Nat) (hl : l ≤ 10) (hb : l ≠ 0 → s.testBit (l - 1) = true) : RO mX2_gainBy 1 c [vr 70, vi (s : Int), vi (l : Int)] (gnV s (l : Int)) := by
  refine CC.of (by decide +kernel) (leb rfl) (fun hok => ?_)
  have hw : l ≠ 0 → RO mX2_worth 0 c [vr 70, vi ((s - 2 ^ (l - 1) : Nat) : Int), vi (l : Int)] (gV (s - 2 ^ (l - 1)) l) := fun h0 => by
    have h1 := tb_le (hb h0)
    have h3 : 0 < 2 ^ (l - 1) := Nat.two_pow_pos _
    have h := c_worth c (s - 2 ^ (l - 1)) l (by omega) hl
    rw [hG.1 (s - 2 ^ (l - 1)) (by omega) l hl] at h
    exact h
  have hvb : l ≠ 0 → -120 ≤ gV (s - 2 ^ (l - 1)) l ∧ gV (s - 2 ^ (l - 1)) l ≤ 120 := fun h0 => gV_b (Nat.lt_of_le_of_lt (Nat.sub_le _ _) hs) l
  unfold gnV
  refine T_iloadn dX2_gainBy_0 rfl rfl ?_
  refine T_if_ne (tgt := 9) dX2_gainBy_1 rfl (fun b1 => ?_) (fun b1 => ?_)
  · refine T_iloadn dX2_gainBy_9 rfl rfl ?_
    refine T_aloadn dX2_gainBy_10 rfl rfl ?_
    refine T_iloadn dX2_gainBy_11 rfl rfl ?_
    refine T_iconst dX2_gainBy_12 (inr rfl) ?_
    refine T_iloadn dX2_gainBy_13 rfl rfl ?_
    refine T_iconst dX2_gainBy_14 (inr rfl) ?_
    first | refine T_isubN dX2_gainBy_15 (by omega) ?_ | refine T_isub dX2_gainBy_15 ?_
    rw [show (l : Int) - 1 = ((l - 1 : Nat) : Int) by omega]
    refine T_ishl dX2_gainBy_16 (by omega) (by omega) ?_
    refine T_ixor dX2_gainBy_17 ?_
    rw [bb_xor hs (by omega) (hb (by omega))]
    refine T_iloadn dX2_gainBy_18 rfl rfl ?_
    refine TT_Vi dX2_gainBy_19 (hw (by omega)) kX2_34 (by decide) (by first | decide | omega) (by first | assumption | rfl) rfl (leb rfl) ?_
    have hv9 := hvb (by omega)
    first | refine T_isubN dX2_gainBy_22 (by omega) ?_ | refine T_isub dX2_gainBy_22 ?_
    refine TT_ri dX2_gainBy_23 trivial ?_
    exact ro_q (by first | rw [if_pos b1] | (rw [if_neg b1]; simp only [Int.toNat_natCast]))
  · refine T_bipush dX2_gainBy_4 (bp8 rfl) (inr rfl) ?_
    refine T_goto (tgt := 23) dX2_gainBy_6 rfl ?_
    refine TT_ri dX2_gainBy_23 trivial ?_
    exact ro_q (by first | rw [if_pos b1] | (rw [if_neg b1]; simp only [Int.toNat_natCast]))
set_option maxHeartbeats 4000000 in
set_option maxRecDepth 100000 in
theorem l_bestBut (c : HC) (s : Nat) (hs : s < 1024) (hG : GOK c s) (bar : Int) : ∀ (k i : Nat), i + k = 10 → TT mX2_bestBut 2 8 [(0, vr 70), (1, vi (s : Int)), (2, vi bar), (3, vi (bbU s bar i).1), (4, vi (bbU s bar i).2), (5, vi ((i : Int) + 1))] [] c (fun v c1 => v = some (vi (bbU s bar 10).1) ∧ c1 = c) := by
  intro k
  induction k with
  | zero =>
    intro i hk
    have e : i = 10 := by omega
    subst e
    refine T_iload dX2_bestBut_8 rfl ?_
    refine T_bipush dX2_bestBut_10 (bp8 rfl) (inr rfl) ?_
    refine T_icmp_gt (tgt := 66) dX2_bestBut_12 rfl (fun b12 => ?_) (fun b12 => absurd b12 (by omega))
    refine T_iloadn dX2_bestBut_66 rfl rfl ?_
    refine TT_ri dX2_bestBut_67 trivial ?_
    exact ro_q rfl
  | succ k ih =>
    intro i hk
    have h := ih (i + 1) (by omega)
    rw [bbU.eq_2] at h
    have e1 : ((i : Int) + 1 - 1) = (i : Int) := by omega
    have e2 : ((i : Int) + 1) = ((i + 1 : Nat) : Int) := rfl
    have et : ∀ q : band ((s : Int) / 2 ^ ((i : Int)).toNat) 1 = 1, s.testBit i = true := fun q => by rw [Int.toNat_natCast] at q; exact (bit_tb hs).mp q
    have ef : ∀ q : band ((s : Int) / 2 ^ ((i : Int)).toNat) 1 ≠ 1, ¬ s.testBit i = true := fun q z => by rw [Int.toNat_natCast] at q; exact q ((bit_tb hs).mpr z)
    refine T_iload dX2_bestBut_8 rfl ?_
    refine T_bipush dX2_bestBut_10 (bp8 rfl) (inr rfl) ?_
    refine T_icmp_gt (tgt := 66) dX2_bestBut_12 rfl (fun b12 => absurd b12 (by omega)) (fun b12 => ?_)
    refine T_iloadn dX2_bestBut_15 rfl rfl ?_
    refine T_iload dX2_bestBut_16 rfl ?_
    refine T_iconst dX2_bestBut_18 (inr rfl) ?_
    first | refine T_isubN dX2_bestBut_19 (by omega) ?_ | refine T_isub dX2_bestBut_19 ?_
    rw [e1]
    refine T_ishr dX2_bestBut_20 (by omega) (by omega) ?_
    refine T_iconst dX2_bestBut_21 (inr rfl) ?_
    refine T_iand dX2_bestBut_22 ?_
    refine T_iconst dX2_bestBut_23 (inr rfl) ?_
    refine T_icmp_ne (tgt := 60) dX2_bestBut_24 rfl (fun b24 => ?_) (fun b24 => ?_)
    · refine T_iincN dX2_bestBut_60 rfl (by decide) rfl (by omega) ?_
      refine T_goto (tgt := 8) dX2_bestBut_63 rfl ?_
      refine T_keep [0, 1, 2, 3, 4, 5] ?_
      rw [if_neg (fun q => ef b24 q.1.1)] at h
      exact h
    · refine T_iload dX2_bestBut_27 rfl ?_
      refine T_iloadn dX2_bestBut_29 rfl rfl ?_
      refine T_icmp_eq (tgt := 60) dX2_bestBut_30 rfl (fun b30 => ?_) (fun b30 => ?_)
      · refine T_iincN dX2_bestBut_60 rfl (by decide) rfl (by omega) ?_
        refine T_goto (tgt := 8) dX2_bestBut_63 rfl ?_
        refine T_keep [0, 1, 2, 3, 4, 5] ?_
        rw [if_neg (fun q => q.1.2 b30)] at h
        exact h
      · refine T_aloadn dX2_bestBut_33 rfl rfl ?_
        refine T_iloadn dX2_bestBut_34 rfl rfl ?_
        refine T_iload dX2_bestBut_35 rfl ?_
        refine TT_Vi dX2_bestBut_37 (c_gainBy c s hs hG (i + 1) (by omega) (fun _ => et b24)) kX2_31 (by decide) (by first | decide | omega) (by first | assumption | rfl) rfl (leb rfl) ?_
        refine T_istore dX2_bestBut_40 (by decide) rfl ?_
        refine T_iloadn dX2_bestBut_42 rfl rfl ?_
        refine T_if_eq (tgt := 53) dX2_bestBut_43 rfl (fun b43 => ?_) (fun b43 => ?_)
        · refine T_iload dX2_bestBut_53 rfl ?_
          refine T_istoren dX2_bestBut_55 rfl (by decide) rfl ?_
          refine T_iload dX2_bestBut_56 rfl ?_
          refine T_istore dX2_bestBut_58 (by decide) rfl ?_
          refine T_iincN dX2_bestBut_60 rfl (by decide) rfl (by omega) ?_
          refine T_goto (tgt := 8) dX2_bestBut_63 rfl ?_
          refine T_keep [0, 1, 2, 3, 4, 5] ?_
          rw [if_pos ⟨⟨et b24, b30⟩, Or.inl b43⟩] at h
          exact h
        · refine T_iload dX2_bestBut_46 rfl ?_
          refine T_iload dX2_bestBut_48 rfl ?_
          refine T_icmp_le (tgt := 60) dX2_bestBut_50 rfl (fun b50 => ?_) (fun b50 => ?_)
          · refine T_iincN dX2_bestBut_60 rfl (by decide) rfl (by omega) ?_
            refine T_goto (tgt := 8) dX2_bestBut_63 rfl ?_
            refine T_keep [0, 1, 2, 3, 4, 5] ?_
            rw [if_neg (fun q => by rcases q.2 with q | q; exact b43 q; exact absurd b50 (Int.not_le.mpr q))] at h
            exact h
          · refine T_iload dX2_bestBut_53 rfl ?_
            refine T_istoren dX2_bestBut_55 rfl (by decide) rfl ?_
            refine T_iload dX2_bestBut_56 rfl ?_
            refine T_istore dX2_bestBut_58 (by decide) rfl ?_
            refine T_iincN dX2_bestBut_60 rfl (by decide) rfl (by omega) ?_
            refine T_goto (tgt := 8) dX2_bestBut_63 rfl ?_
            refine T_keep [0, 1, 2, 3, 4, 5] ?_
            rw [if_pos ⟨⟨et b24, b30⟩, Or.inr (Int.not_le.mp b50)⟩] at h
            exact h
set_option maxHeartbeats 4000000 in
set_option maxRecDepth 100000 in
theorem c_bestBut (c : HC) (s : Nat) (hs : s < 1024) (hG : GOK c s) (bar : Int) : RO mX2_bestBut 2 c [vr 70, vi (s : Int), vi bar] (bbU s bar 10).1 := by
  refine CC.of (by decide +kernel) (leb rfl) (fun hok => ?_)
  refine T_iconst dX2_bestBut_0 (inr rfl) ?_
  refine T_istoren dX2_bestBut_1 rfl (by decide) rfl ?_
  refine T_iconst dX2_bestBut_2 (inr rfl) ?_
  refine T_istore dX2_bestBut_3 (by decide) rfl ?_
  refine T_iconst dX2_bestBut_5 (inr rfl) ?_
  refine T_istore dX2_bestBut_6 (by decide) rfl ?_
  exact l_bestBut c s hs hG bar 10 0 (by omega)
theorem bbU_sp (s : Nat) (bar : Int) : ∀ k, k ≤ 10 → (((bbU s bar k).1 = 0 ∧ ∀ i, i < k → s.testBit i = true → (i : Int) + 1 = bar) ∨ ∃ i, i < k ∧ s.testBit i = true ∧ (i : Int) + 1 ≠ bar ∧ bbU s bar k = ((i : Int) + 1, gnV s ((i : Int) + 1))) ∧ ∀ i, i < k → s.testBit i = true → (i : Int) + 1 ≠ bar → gnV s ((i : Int) + 1) ≤ (bbU s bar k).2
  | 0, _ => ⟨Or.inl ⟨rfl, fun i h => by omega⟩, fun i h => by omega⟩
  | k + 1, hk => by
    obtain ⟨h1, h2⟩ := bbU_sp s bar k (by omega)
    unfold bbU
    by_cases hc : (s.testBit k = true ∧ (k : Int) + 1 ≠ bar) ∧ ((bbU s bar k).1 = 0 ∨ (bbU s bar k).2 < gnV s ((k : Int) + 1))
    · rw [if_pos hc]
      refine ⟨Or.inr ⟨k, by omega, hc.1.1, hc.1.2, rfl⟩, fun i hi hb ha => ?_⟩
      by_cases e : i = k
      · subst e; exact Int.le_refl _
      · rcases hc.2 with q | q
        · rcases h1 with ⟨a1, a2⟩ | ⟨j, a1, a2, a3, a4⟩
          · exact absurd (a2 i (by omega) hb) ha
          · rw [a4] at q
            have q2 : (j : Int) + 1 = 0 := q
            omega
        · have := h2 i (by omega) hb ha
          show _ ≤ gnV s ((k : Int) + 1)
          omega
    · rw [if_neg hc]
      refine ⟨?_, fun i hi hb ha => ?_⟩
      · rcases h1 with ⟨a1, a2⟩ | ⟨j, a1, a2, a3, a4⟩
        · refine Or.inl ⟨a1, fun i hi hb => ?_⟩
          by_cases e : i = k
          · subst e
            rcases Decidable.em ((i : Int) + 1 = bar) with q | q
            · exact q
            · exact absurd ⟨⟨hb, q⟩, Or.inl a1⟩ hc
          · exact a2 i (by omega) hb
        · exact Or.inr ⟨j, by omega, a2, a3, a4⟩
      · by_cases e : i = k
        · subst e
          have : ¬ ((bbU s bar i).2 < gnV s ((i : Int) + 1)) := fun q => hc ⟨⟨hb, ha⟩, Or.inr q⟩
          omega
        · exact h2 i (by omega) hb ha
theorem gnV_eq (s i : Nat) : gnV s ((i : Int) + 1) = ((i + 1 : Nat) : Int) - gV (s - 2 ^ i) (i + 1) := by
  unfold gnV
  rw [if_neg (by omega), show ((i : Int) + 1 - 1).toNat = i by omega, show ((i : Int) + 1).toNat = i + 1 by omega]
  omega
/-- what fill lays -/
def b1F (s : Nat) : Int := (bbU s 0 10).1
def v1F (s : Nat) : Int := gnV s (b1F s)
def v2F (s : Nat) : Int := gnV s (bbU s (b1F s) 10).1
theorem b1_in {s : Nat} (hs : s < 1024) (h0 : s ≠ 0) : ∃ i, i < 10 ∧ s.testBit i = true ∧ b1F s = (i : Int) + 1 ∧ v1F s = gnV s ((i : Int) + 1) ∧ ∀ j, j < 10 → s.testBit j = true → gnV s ((j : Int) + 1) ≤ v1F s := by
  obtain ⟨h1, h2⟩ := bbU_sp s 0 10 (Nat.le_refl _)
  rcases h1 with ⟨a1, a2⟩ | ⟨j, a1, a2, a3, a4⟩
  · obtain ⟨k, hk, hb⟩ := tb10 s hs h0
    have := a2 k hk hb
    omega
  · have e1 : b1F s = (j : Int) + 1 := by unfold b1F; rw [a4]
    have e2 : v1F s = gnV s ((j : Int) + 1) := by unfold v1F; rw [e1]
    refine ⟨j, a1, a2, e1, e2, fun i hi hb => ?_⟩
    have := h2 i hi hb (by omega)
    rw [a4] at this
    rw [e2]
    exact this
theorem v2_in {s : Nat} (hs : s < 1024) : ((∀ i, i < 10 → s.testBit i = true → (i : Int) + 1 = b1F s) ∧ v2F s = -5) ∨ ∃ i, i < 10 ∧ s.testBit i = true ∧ (i : Int) + 1 ≠ b1F s ∧ (bbU s (b1F s) 10).1 = (i : Int) + 1 ∧ v2F s = gnV s ((i : Int) + 1) ∧ ∀ j, j < 10 → s.testBit j = true → (j : Int) + 1 ≠ b1F s → gnV s ((j : Int) + 1) ≤ v2F s := by
  obtain ⟨h1, h2⟩ := bbU_sp s (b1F s) 10 (Nat.le_refl _)
  rcases h1 with ⟨a1, a2⟩ | ⟨j, a1, a2, a3, a4⟩
  · refine Or.inl ⟨a2, ?_⟩
    unfold v2F
    rw [a1]
    rfl
  · have e2 : v2F s = gnV s ((j : Int) + 1) := by unfold v2F; rw [a4]
    refine Or.inr ⟨j, a1, a2, a3, by rw [a4], e2, fun i hi hb hne => ?_⟩
    have := h2 i hi hb hne
    rw [a4] at this
    rw [e2]
    exact this
/-- the tables' answer is the game's value -/
theorem fill_V {s l : Nat} (hs : s < 1024) (h0 : s ≠ 0) (hl : l ≤ 10) : (if 0 < l ∧ b1F s = (l : Int) + 1 then v2F s else v1F s) = gV s l := by
  obtain ⟨i, i1, i2, i3, i4, i5⟩ := b1_in hs h0
  obtain ⟨g1, g2⟩ := gV_sp (l := l) hs
  by_cases hc : 0 < l ∧ b1F s = (l : Int) + 1
  · rw [if_pos hc]
    rcases v2_in hs with ⟨a1, a2⟩ | ⟨j, a1, a2, a3, a4, a5, a6⟩
    · rcases g2 with ⟨b1, b2⟩ | ⟨k, b1, b2, b3, b4⟩
      · rw [a2, b2, if_neg h0]
      · have := a1 k b1 b2
        omega
    · rcases g2 with ⟨b1, b2⟩ | ⟨k, b1, b2, b3, b4⟩
      · exact absurd (Or.inr (by omega)) (b1 j a1 a2)
      · have q1 := a6 k b1 b2 (by omega)
        have q2 := g1 j a1 a2 (Or.inr (by omega))
        rw [gnV_eq] at q1 a5
        omega
  · rw [if_neg hc]
    rcases g2 with ⟨b1, b2⟩ | ⟨k, b1, b2, b3, b4⟩
    · exact absurd (by omega) (b1 i i1 i2)
    · have q1 := i5 k b1 b2
      have q2 := g1 i i1 i2 (by omega)
      rw [gnV_eq] at q1 i4
      omega
def fillC (c : HC) (s : Nat) : HC := up2 (up2 (up2 c 71 s (b1F s)) 72 s (v1F s)) 73 s (v2F s)
theorem gn_b {s i : Nat} (hs : s < 1024) (hi : i < 10) : -200 ≤ gnV s ((i : Int) + 1) ∧ gnV s ((i : Int) + 1) ≤ 200 := by
  rw [gnV_eq]
  have := gV_b (s := s - 2 ^ i) (Nat.lt_of_le_of_lt (Nat.sub_le _ _) hs) (i + 1)
  omega
theorem fill_OK {c : HC} {s : Nat} (hs : s < 1024) (h0 : s ≠ 0) (h : GOK c s) : GOK (fillC c s) (s + 1) := by
  obtain ⟨h1, h2⟩ := h
  have e71 : ∀ t, fillC c s 71 t = if t = s then b1F s else c 71 t := fun t => by
    unfold fillC
    rw [up2_a _ _ (by decide), up2_a _ _ (by decide)]
    by_cases e : t = s
    · subst e; rw [up2_s, if_pos rfl]
    · rw [up2_k _ _ e, if_neg e]
  have e72 : ∀ t, fillC c s 72 t = if t = s then v1F s else c 72 t := fun t => by
    unfold fillC
    rw [up2_a _ _ (by decide)]
    by_cases e : t = s
    · subst e; rw [up2_s, if_pos rfl]
    · rw [up2_k _ _ e, if_neg e, up2_a _ _ (by decide)]
  have e73 : ∀ t, fillC c s 73 t = if t = s then v2F s else c 73 t := fun t => by
    unfold fillC
    by_cases e : t = s
    · subst e; rw [up2_s, if_pos rfl]
    · rw [up2_k _ _ e, if_neg e, up2_a _ _ (by decide), up2_a _ _ (by decide)]
  refine ⟨fun t ht l hl => ?_, fun t ht => ?_⟩
  · unfold wF
    rw [e71, e72, e73]
    by_cases e : t = s
    · subst e
      rw [if_pos rfl, if_pos rfl, if_pos rfl]
      exact fill_V hs h0 hl
    · rw [if_neg e, if_neg e, if_neg e]
      exact h1 t (by omega) l hl
  · rw [e71, e72, e73]
    by_cases e : t = s
    · subst e
      rw [if_pos rfl, if_pos rfl, if_pos rfl]
      obtain ⟨i, i1, i2, i3, i4, i5⟩ := b1_in hs h0
      have q1 := gn_b hs i1
      refine ⟨by omega, by omega, ?_⟩
      rcases v2_in hs with ⟨a1, a2⟩ | ⟨j, a1, a2, a3, a4, a5, a6⟩
      · omega
      · have q2 := gn_b hs a1
        omega
    · rw [if_neg e, if_neg e, if_neg e]
      exact h2 t (by omega)
theorem GOK_up {c : HC} {s x t : Nat} {v : Int} (h : GOK c s) (hx : 71 ≤ x ∧ x ≤ 73) (ht : s ≤ t) : GOK (up2 c x t v) s := by
  obtain ⟨h1, h2⟩ := h
  have e : ∀ y u, u < s → up2 c x t v y u = c y u := fun y u hu => up2_k _ _ (by omega)
  refine ⟨fun u hu l hl => ?_, fun u hu => ?_⟩
  · unfold wF
    rw [e _ _ hu, e _ _ hu, e _ _ hu]
    exact h1 u hu l hl
  · rw [e _ _ hu, e _ _ hu, e _ _ hu]
    exact h2 u hu
set_option maxHeartbeats 4000000 in
set_option maxRecDepth 100000 in
theorem c_fill1 (c : HC) (s : Nat) (hs : s < 1024) (h0 : s ≠ 0) (hG : GOK c s) : VO mX2_fill 3 c [vr 70, vi (s : Int)] (fillC c s) := by
  refine CC.of (by decide +kernel) (leb rfl) (fun hok => ?_)
  have hG1 := GOK_up (x := 71) (t := s) (v := b1F s) hG (by decide) (Nat.le_refl _)
  have hG2 := GOK_up (x := 72) (t := s) (v := v1F s) hG1 (by decide) (Nat.le_refl _)
  obtain ⟨i, i1, i2, i3, i4, i5⟩ := b1_in hs h0
  have cb := c_bestBut c s hs hG 0
  have cg := c_gainBy (up2 c 71 s (b1F s)) s hs hG1 (i + 1) (by omega) (fun _ => i2)
  rw [show ((i + 1 : Nat) : Int) = b1F s by rw [i3]; rfl] at cg
  have cb2 := c_bestBut (up2 (up2 c 71 s (b1F s)) 72 s (v1F s)) s hs hG2 (b1F s)
  have cg2 : RO mX2_gainBy 1 (up2 (up2 c 71 s (b1F s)) 72 s (v1F s)) [vr 70, vi (s : Int), vi (bbU s (b1F s) 10).1] (v2F s) := by
    rcases bbU_sp s (b1F s) 10 (Nat.le_refl _) with ⟨⟨a1, a2⟩ | ⟨j, a1, a2, a3, a4⟩, -⟩
    · have h := c_gainBy (up2 (up2 c 71 s (b1F s)) 72 s (v1F s)) s hs hG2 0 (by omega) (fun q => absurd rfl q)
      unfold v2F
      rw [a1]
      exact h
    · have h := c_gainBy (up2 (up2 c 71 s (b1F s)) 72 s (v1F s)) s hs hG2 (j + 1) (by omega) (fun _ => a2)
      unfold v2F
      rw [a4]
      exact h
  refine T_aloadn dX2_fill_0 rfl rfl ?_
  refine T_getfin dX2_fill_1 fX2_9 (by first | assumption | rfl) (by first | decide | omega) rfl (by first | assumption | rfl) ?_
  refine T_iloadn dX2_fill_4 rfl rfl ?_
  refine T_aloadn dX2_fill_5 rfl rfl ?_
  refine T_iloadn dX2_fill_6 rfl rfl ?_
  refine T_iconst dX2_fill_7 (inr rfl) ?_
  refine TT_Vi dX2_fill_8 (cb) kX2_27 (by decide) (by first | decide | omega) (by first | assumption | rfl) rfl (leb rfl) ?_
  refine T_iast (j := s) dX2_fill_11 (by first | assumption | rfl) (by first | decide | omega) (by omega) (by omega) ?_
  refine T_aloadn dX2_fill_12 rfl rfl ?_
  refine T_getfin dX2_fill_13 fX2_13 (by first | assumption | rfl) (by first | decide | omega) rfl (by first | assumption | rfl) ?_
  refine T_iloadn dX2_fill_16 rfl rfl ?_
  refine T_aloadn dX2_fill_17 rfl rfl ?_
  refine T_iloadn dX2_fill_18 rfl rfl ?_
  refine T_aloadn dX2_fill_19 rfl rfl ?_
  refine T_getfin dX2_fill_20 fX2_9 (by first | assumption | rfl) (by first | decide | omega) rfl (by first | assumption | rfl) ?_
  refine T_iloadn dX2_fill_23 rfl rfl ?_
  refine T_ialdv (j := s) dX2_fill_24 (by first | assumption | rfl) (by first | decide | omega) (by omega) (by omega) (up2_s _ _ _ _) ?_
  refine TT_Vi dX2_fill_25 (cg) kX2_31 (by decide) (by first | decide | omega) (by first | assumption | rfl) rfl (leb rfl) ?_
  refine T_iast (j := s) dX2_fill_28 (by first | assumption | rfl) (by first | decide | omega) (by omega) (by omega) ?_
  refine T_aloadn dX2_fill_29 rfl rfl ?_
  refine T_getfin dX2_fill_30 fX2_16 (by first | assumption | rfl) (by first | decide | omega) rfl (by first | assumption | rfl) ?_
  refine T_iloadn dX2_fill_33 rfl rfl ?_
  refine T_aloadn dX2_fill_34 rfl rfl ?_
  refine T_iloadn dX2_fill_35 rfl rfl ?_
  refine T_aloadn dX2_fill_36 rfl rfl ?_
  refine T_iloadn dX2_fill_37 rfl rfl ?_
  refine T_aloadn dX2_fill_38 rfl rfl ?_
  refine T_getfin dX2_fill_39 fX2_9 (by first | assumption | rfl) (by first | decide | omega) rfl (by first | assumption | rfl) ?_
  refine T_iloadn dX2_fill_42 rfl rfl ?_
  refine T_ialdv (j := s) dX2_fill_43 (by first | assumption | rfl) (by first | decide | omega) (by omega) (by omega) ((up2_a _ _ (by decide)).trans (up2_s _ _ _ _)) ?_
  refine TT_Vi dX2_fill_44 (cb2) kX2_27 (by decide) (by first | decide | omega) (by first | assumption | rfl) rfl (leb rfl) ?_
  refine TT_Vi dX2_fill_47 (cg2) kX2_31 (by decide) (by first | decide | omega) (by first | assumption | rfl) rfl (leb rfl) ?_
  refine T_iast (j := s) dX2_fill_50 (by first | assumption | rfl) (by first | decide | omega) (by omega) (by omega) ?_
  refine TT_rv dX2_fill_51 trivial ?_
  exact ⟨rfl, rfl⟩
def FRG (c c2 : HC) : Prop := ∀ x, x < 70 ∨ 73 < x → c2 x = c x
def GI (c : HC) (M : Nat) : Prop := c 70 3 = (M : Int) ∧ 1 ≤ M ∧ M ≤ 1024 ∧ GOK c M
theorem GOK_70 {c : HC} {m k : Nat} {v : Int} (h : GOK c m) : GOK (up2 c 70 k v) m := by
  obtain ⟨h1, h2⟩ := h
  refine ⟨fun u hu l hl => ?_, fun u hu => ?_⟩
  · unfold wF
    rw [up2_a _ _ (by decide), up2_a _ _ (by decide), up2_a _ _ (by decide)]
    exact h1 u hu l hl
  · rw [up2_a _ _ (by decide), up2_a _ _ (by decide), up2_a _ _ (by decide)]
    exact h2 u hu
theorem FRG_fill {c : HC} {s : Nat} {v : Int} : FRG c (up2 (fillC c s) 70 3 v) := by
  intro x hx
  unfold fillC
  rw [up2_row _ _ _ _ (by omega), up2_row _ _ _ _ (by omega), up2_row _ _ _ _ (by omega), up2_row _ _ _ _ (by omega)]
set_option maxHeartbeats 4000000 in
set_option maxRecDepth 100000 in
theorem l_fillTo (t : Nat) (ht : t < 1024) : ∀ (k : Nat) (M : Nat) (c : HC), GI c M → 1024 - M = k → TT mX2_fillTo 4 5 [(0, vr 70), (1, vi (t : Int)), (2, vi (M : Int))] [] c (fun v c1 => v = none ∧ FRG c c1 ∧ ∃ M2, GI c1 M2 ∧ t < M2) := by
  intro k
  induction k with
  | zero =>
    intro M c hM hk
    obtain ⟨m1, m2, m3, m4⟩ := id hM
    refine T_iloadn dX2_fillTo_5 rfl rfl ?_
    refine T_iloadn dX2_fillTo_6 rfl rfl ?_
    refine T_icmp_gt (tgt := 35) dX2_fillTo_7 rfl (fun b7 => ?_) (fun b7 => absurd b7 (by omega))
    refine TT_rv dX2_fillTo_35 trivial ?_
    exact ⟨rfl, fun _ _ => rfl, M, hM, by omega⟩
  | succ k ih =>
    intro M c hM hk
    obtain ⟨m1, m2, m3, m4⟩ := id hM
    have hf := c_fill1 c M (by omega) (by omega) m4
    have h := ih (M + 1) (up2 (fillC c M) 70 3 ((M : Int) + 1)) ⟨up2_s _ _ _ _, by omega, by omega, GOK_70 (fill_OK (by omega) (by omega) m4)⟩ (by omega)
    refine T_iloadn dX2_fillTo_5 rfl rfl ?_
    refine T_iloadn dX2_fillTo_6 rfl rfl ?_
    refine T_icmp_gt (tgt := 35) dX2_fillTo_7 rfl (fun b7 => ?_) (fun b7 => ?_)
    · refine TT_rv dX2_fillTo_35 trivial ?_
      exact ⟨rfl, fun _ _ => rfl, M, hM, by omega⟩
    · refine T_iloadn dX2_fillTo_10 rfl rfl ?_
      refine T_sipush dX2_fillTo_11 (bp16 rfl) (inr rfl) ?_
      refine T_icmp_ge (tgt := 35) dX2_fillTo_14 rfl (fun b14 => absurd b14 (by omega)) (fun b14 => ?_)
      refine T_aloadn dX2_fillTo_17 rfl rfl ?_
      refine T_iloadn dX2_fillTo_18 rfl rfl ?_
      refine TT_Vv dX2_fillTo_19 (hf) kX2_23 (by decide) (by first | decide | omega) (by first | assumption | rfl) rfl (leb rfl) ?_
      refine T_aloadn dX2_fillTo_22 rfl rfl ?_
      refine T_iloadn dX2_fillTo_23 rfl rfl ?_
      refine T_iconst dX2_fillTo_24 (inr rfl) ?_
      first | refine T_iaddN dX2_fillTo_25 (by omega) ?_ | refine T_iadd dX2_fillTo_25 ?_
      refine T_puti dX2_fillTo_26 fX2_19 (by first | assumption | rfl) (by first | decide | omega) rfl rfl ?_
      refine T_iincN dX2_fillTo_29 rfl (by decide) rfl (by omega) ?_
      refine T_goto (tgt := 5) dX2_fillTo_32 rfl ?_
      refine T_mono h (fun v s1 c1 hq => ⟨hq.1, hq.2.1, fun x hx => ?_, hq.2.2.2⟩)
      rw [hq.2.2.1 x hx]
      exact FRG_fill x hx
set_option maxHeartbeats 4000000 in
set_option maxRecDepth 100000 in
theorem c_fillTo (t : Nat) (ht : t < 1024) (M : Nat) (c : HC) (hM : GI c M) : CC mX2_fillTo 4 c [vr 70, vi (t : Int)] (fun v c1 => v = none ∧ FRG c c1 ∧ ∃ M2, GI c1 M2 ∧ t < M2) := by
  have hm1 := hM.1
  refine CC.of (by decide +kernel) (leb rfl) (fun hok => ?_)
  refine T_aloadn dX2_fillTo_0 rfl rfl ?_
  first | refine T_getv dX2_fillTo_1 fX2_19 (by first | assumption | rfl) (by first | decide | omega) rfl (by assumption) ?_ | refine T_geti dX2_fillTo_1 fX2_19 (by first | assumption | rfl) (by first | decide | omega) rfl ?_
  refine T_istoren dX2_fillTo_4 rfl (by decide) rfl ?_
  exact l_fillTo t ht _ M c hM rfl
def gameF (n x l : Int) : Int := if (n < 1 ∨ 10 < n) ∨ (l < 0 ∨ n < l) then OUT else if (x < 0 ∨ ((2 ^ n.toNat : Nat) : Int) ≤ x) ∨ (0 < l ∧ bitI x (l - 1) = 1) then OUT else gV x.toNat l.toNat + 1000
set_option maxHeartbeats 4000000 in
set_option maxRecDepth 100000 in
theorem x_game (c : HC) (M : Nat) (hM : GI c M) (n x l : Int) : CC mX10_game 5 c [vr 1, vi n, vi x, vi l] (fun v c1 => v = some (vi (gameF n x l)) ∧ FRG c c1 ∧ ∃ M2, GI c1 M2) := by
  refine CC.of (by decide +kernel) (leb rfl) (fun hok => ?_)
  have sh1 : 1 ≤ n → n ≤ 10 → wr (1 * 2 ^ n.toNat) = ((2 ^ n.toNat : Nat) : Int) ∧ 2 ^ n.toNat ≤ 1024 := fun h1 h2 => by
    have h := shl1 (n := n.toNat) (by omega)
    rw [show ((n.toNat : Nat) : Int) = n by omega] at h
    exact ⟨h, Nat.pow_le_pow_right (n := 2) (by decide) (show n.toNat ≤ 10 by omega)⟩
  unfold gameF OUT
  have hnr : FRG c c := fun _ _ => rfl
  have hx : InR x := hok (vi x) (by simp)
  refine T_iloadn dX10_game_0 rfl rfl ?_
  refine T_iconst dX10_game_1 (inr rfl) ?_
  refine T_icmp_lt (tgt := 20) dX10_game_2 rfl (fun b2 => ?_) (fun b2 => ?_)
  · refine T_ldc dX10_game_20 cX10_78 (inr rfl) ?_
    refine TT_ri dX10_game_22 trivial ?_
    exact ⟨by rw [if_pos (by omega)], hnr, M, hM⟩
  · refine T_iloadn dX10_game_5 rfl rfl ?_
    refine T_bipush dX10_game_6 (bp8 rfl) (inr rfl) ?_
    refine T_icmp_gt (tgt := 20) dX10_game_8 rfl (fun b8 => ?_) (fun b8 => ?_)
    · refine T_ldc dX10_game_20 cX10_78 (inr rfl) ?_
      refine TT_ri dX10_game_22 trivial ?_
      exact ⟨by rw [if_pos (by omega)], hnr, M, hM⟩
    · refine T_iloadn dX10_game_11 rfl rfl ?_
      refine T_if_lt (tgt := 20) dX10_game_12 rfl (fun b12 => ?_) (fun b12 => ?_)
      · refine T_ldc dX10_game_20 cX10_78 (inr rfl) ?_
        refine TT_ri dX10_game_22 trivial ?_
        exact ⟨by rw [if_pos (by omega)], hnr, M, hM⟩
      · refine T_iloadn dX10_game_15 rfl rfl ?_
        refine T_iloadn dX10_game_16 rfl rfl ?_
        refine T_icmp_le (tgt := 23) dX10_game_17 rfl (fun b17 => ?_) (fun b17 => ?_)
        · refine T_iloadn dX10_game_23 rfl rfl ?_
          refine T_if_le (tgt := 42) dX10_game_24 rfl (fun b24 => ?_) (fun b24 => ?_)
          · refine T_iconst dX10_game_42 (inr rfl) ?_
            refine T_istore dX10_game_43 (by decide) rfl ?_
            refine T_iloadn dX10_game_45 rfl rfl ?_
            refine T_if_lt (tgt := 61) dX10_game_46 rfl (fun b46 => ?_) (fun b46 => ?_)
            · refine T_ldc dX10_game_61 cX10_78 (inr rfl) ?_
              refine TT_ri dX10_game_63 trivial ?_
              exact ⟨by rw [if_neg (by omega), if_pos (Or.inl (Or.inl b46))], hnr, M, hM⟩
            · refine T_iloadn dX10_game_49 rfl rfl ?_
              refine T_iconst dX10_game_50 (inr rfl) ?_
              refine T_iloadn dX10_game_51 rfl rfl ?_
              refine T_ishl dX10_game_52 (by omega) (by omega) ?_
              have hs9 := sh1 (by omega) (by omega)
              rw [hs9.1]
              generalize 2 ^ n.toNat = P at *
              refine T_icmp_ge (tgt := 61) dX10_game_53 rfl (fun b53 => ?_) (fun b53 => ?_)
              · refine T_ldc dX10_game_61 cX10_78 (inr rfl) ?_
                refine TT_ri dX10_game_63 trivial ?_
                exact ⟨by rw [if_neg (by omega), if_pos (Or.inl (Or.inr b53))], hnr, M, hM⟩
              · refine T_iload dX10_game_56 rfl ?_
                refine T_if_eq (tgt := 64) dX10_game_58 rfl (fun b58 => ?_) (fun b58 => ?_)
                · have hft := c_fillTo x.toNat (by omega) M c hM
                  rw [show ((x.toNat : Nat) : Int) = x by omega] at hft
                  refine T_aloadn dX10_game_64 rfl rfl ?_
                  refine T_getfin dX10_game_65 fX10_39 (by first | assumption | rfl) (by first | decide | omega) rfl (by first | assumption | rfl) ?_
                  refine T_iloadn dX10_game_68 rfl rfl ?_
                  refine TT_V dX10_game_69 (hft) kX10_224 (by decide) (by first | decide | omega) (by first | assumption | rfl) rfl (leb rfl) (fun v c1 hq => ?_)
                  obtain ⟨rfl, hfr, M2, hGI, hlt⟩ := hq
                  have hcw := c_worth c1 x.toNat l.toNat (by omega) (by omega)
                  rw [hGI.2.2.2.1 x.toNat hlt l.toNat (by omega), show ((x.toNat : Nat) : Int) = x by omega, show ((l.toNat : Nat) : Int) = l by omega] at hcw
                  have hvb := gV_b (s := x.toNat) (by omega) l.toNat
                  refine T_aloadn dX10_game_72 rfl rfl ?_
                  refine T_getfin dX10_game_73 fX10_39 (by first | assumption | rfl) (by first | decide | omega) rfl (by first | assumption | rfl) ?_
                  refine T_iloadn dX10_game_76 rfl rfl ?_
                  refine T_iloadn dX10_game_77 rfl rfl ?_
                  refine TT_Vi dX10_game_78 (hcw) kX10_227 (by decide) (by first | decide | omega) (by first | assumption | rfl) rfl (leb rfl) ?_
                  refine T_sipush dX10_game_81 (bp16 rfl) (inr rfl) ?_
                  first | refine T_iaddN dX10_game_84 (by omega) ?_ | refine T_iadd dX10_game_84 ?_
                  refine TT_ri dX10_game_85 trivial ?_
                  refine ⟨?_, hfr, M2, hGI⟩
                  rw [if_neg (by omega), if_neg]
                  intro z
                  rcases z with z | z
                  · omega
                  · omega
                · refine T_ldc dX10_game_61 cX10_78 (inr rfl) ?_
                  refine TT_ri dX10_game_63 trivial ?_
                  exfalso; omega
          · refine T_iloadn dX10_game_27 rfl rfl ?_
            refine T_iloadn dX10_game_28 rfl rfl ?_
            refine T_iconst dX10_game_29 (inr rfl) ?_
            first | refine T_isubN dX10_game_30 (by omega) ?_ | refine T_isub dX10_game_30 ?_
            refine T_ishr dX10_game_31 (by omega) (by omega) ?_
            refine T_iconst dX10_game_32 (inr rfl) ?_
            refine T_iand dX10_game_33 ?_
            refine T_iconst dX10_game_34 (inr rfl) ?_
            refine T_icmp_ne (tgt := 42) dX10_game_35 rfl (fun b35 => ?_) (fun b35 => ?_)
            · refine T_iconst dX10_game_42 (inr rfl) ?_
              refine T_istore dX10_game_43 (by decide) rfl ?_
              refine T_iloadn dX10_game_45 rfl rfl ?_
              refine T_if_lt (tgt := 61) dX10_game_46 rfl (fun b46 => ?_) (fun b46 => ?_)
              · refine T_ldc dX10_game_61 cX10_78 (inr rfl) ?_
                refine TT_ri dX10_game_63 trivial ?_
                exact ⟨by rw [if_neg (by omega), if_pos (Or.inl (Or.inl b46))], hnr, M, hM⟩
              · refine T_iloadn dX10_game_49 rfl rfl ?_
                refine T_iconst dX10_game_50 (inr rfl) ?_
                refine T_iloadn dX10_game_51 rfl rfl ?_
                refine T_ishl dX10_game_52 (by omega) (by omega) ?_
                have hs9 := sh1 (by omega) (by omega)
                rw [hs9.1]
                generalize 2 ^ n.toNat = P at *
                refine T_icmp_ge (tgt := 61) dX10_game_53 rfl (fun b53 => ?_) (fun b53 => ?_)
                · refine T_ldc dX10_game_61 cX10_78 (inr rfl) ?_
                  refine TT_ri dX10_game_63 trivial ?_
                  exact ⟨by rw [if_neg (by omega), if_pos (Or.inl (Or.inr b53))], hnr, M, hM⟩
                · refine T_iload dX10_game_56 rfl ?_
                  refine T_if_eq (tgt := 64) dX10_game_58 rfl (fun b58 => ?_) (fun b58 => ?_)
                  · have hft := c_fillTo x.toNat (by omega) M c hM
                    rw [show ((x.toNat : Nat) : Int) = x by omega] at hft
                    refine T_aloadn dX10_game_64 rfl rfl ?_
                    refine T_getfin dX10_game_65 fX10_39 (by first | assumption | rfl) (by first | decide | omega) rfl (by first | assumption | rfl) ?_
                    refine T_iloadn dX10_game_68 rfl rfl ?_
                    refine TT_V dX10_game_69 (hft) kX10_224 (by decide) (by first | decide | omega) (by first | assumption | rfl) rfl (leb rfl) (fun v c1 hq => ?_)
                    obtain ⟨rfl, hfr, M2, hGI, hlt⟩ := hq
                    have hcw := c_worth c1 x.toNat l.toNat (by omega) (by omega)
                    rw [hGI.2.2.2.1 x.toNat hlt l.toNat (by omega), show ((x.toNat : Nat) : Int) = x by omega, show ((l.toNat : Nat) : Int) = l by omega] at hcw
                    have hvb := gV_b (s := x.toNat) (by omega) l.toNat
                    refine T_aloadn dX10_game_72 rfl rfl ?_
                    refine T_getfin dX10_game_73 fX10_39 (by first | assumption | rfl) (by first | decide | omega) rfl (by first | assumption | rfl) ?_
                    refine T_iloadn dX10_game_76 rfl rfl ?_
                    refine T_iloadn dX10_game_77 rfl rfl ?_
                    refine TT_Vi dX10_game_78 (hcw) kX10_227 (by decide) (by first | decide | omega) (by first | assumption | rfl) rfl (leb rfl) ?_
                    refine T_sipush dX10_game_81 (bp16 rfl) (inr rfl) ?_
                    first | refine T_iaddN dX10_game_84 (by omega) ?_ | refine T_iadd dX10_game_84 ?_
                    refine TT_ri dX10_game_85 trivial ?_
                    refine ⟨?_, hfr, M2, hGI⟩
                    rw [if_neg (by omega), if_neg]
                    intro z
                    rcases z with z | z
                    · omega
                    · exact bitI_f1 b35 z.2
                  · refine T_ldc dX10_game_61 cX10_78 (inr rfl) ?_
                    refine TT_ri dX10_game_63 trivial ?_
                    exfalso; omega
            · refine T_iconst dX10_game_38 (inr rfl) ?_
              refine T_goto (tgt := 43) dX10_game_39 rfl ?_
              refine T_istore dX10_game_43 (by decide) rfl ?_
              refine T_iloadn dX10_game_45 rfl rfl ?_
              refine T_if_lt (tgt := 61) dX10_game_46 rfl (fun b46 => ?_) (fun b46 => ?_)
              · refine T_ldc dX10_game_61 cX10_78 (inr rfl) ?_
                refine TT_ri dX10_game_63 trivial ?_
                exact ⟨by rw [if_neg (by omega), if_pos (Or.inl (Or.inl b46))], hnr, M, hM⟩
              · refine T_iloadn dX10_game_49 rfl rfl ?_
                refine T_iconst dX10_game_50 (inr rfl) ?_
                refine T_iloadn dX10_game_51 rfl rfl ?_
                refine T_ishl dX10_game_52 (by omega) (by omega) ?_
                have hs9 := sh1 (by omega) (by omega)
                rw [hs9.1]
                generalize 2 ^ n.toNat = P at *
                refine T_icmp_ge (tgt := 61) dX10_game_53 rfl (fun b53 => ?_) (fun b53 => ?_)
                · refine T_ldc dX10_game_61 cX10_78 (inr rfl) ?_
                  refine TT_ri dX10_game_63 trivial ?_
                  exact ⟨by rw [if_neg (by omega), if_pos (Or.inl (Or.inr b53))], hnr, M, hM⟩
                · refine T_iload dX10_game_56 rfl ?_
                  refine T_if_eq (tgt := 64) dX10_game_58 rfl (fun b58 => ?_) (fun b58 => ?_)
                  · have hft := c_fillTo x.toNat (by omega) M c hM
                    rw [show ((x.toNat : Nat) : Int) = x by omega] at hft
                    refine T_aloadn dX10_game_64 rfl rfl ?_
                    refine T_getfin dX10_game_65 fX10_39 (by first | assumption | rfl) (by first | decide | omega) rfl (by first | assumption | rfl) ?_
                    refine T_iloadn dX10_game_68 rfl rfl ?_
                    refine TT_V dX10_game_69 (hft) kX10_224 (by decide) (by first | decide | omega) (by first | assumption | rfl) rfl (leb rfl) (fun v c1 hq => ?_)
                    obtain ⟨rfl, hfr, M2, hGI, hlt⟩ := hq
                    have hcw := c_worth c1 x.toNat l.toNat (by omega) (by omega)
                    rw [hGI.2.2.2.1 x.toNat hlt l.toNat (by omega), show ((x.toNat : Nat) : Int) = x by omega, show ((l.toNat : Nat) : Int) = l by omega] at hcw
                    have hvb := gV_b (s := x.toNat) (by omega) l.toNat
                    refine T_aloadn dX10_game_72 rfl rfl ?_
                    refine T_getfin dX10_game_73 fX10_39 (by first | assumption | rfl) (by first | decide | omega) rfl (by first | assumption | rfl) ?_
                    refine T_iloadn dX10_game_76 rfl rfl ?_
                    refine T_iloadn dX10_game_77 rfl rfl ?_
                    refine TT_Vi dX10_game_78 (hcw) kX10_227 (by decide) (by first | decide | omega) (by first | assumption | rfl) rfl (leb rfl) ?_
                    refine T_sipush dX10_game_81 (bp16 rfl) (inr rfl) ?_
                    first | refine T_iaddN dX10_game_84 (by omega) ?_ | refine T_iadd dX10_game_84 ?_
                    refine TT_ri dX10_game_85 trivial ?_
                    exfalso; omega
                  · refine T_ldc dX10_game_61 cX10_78 (inr rfl) ?_
                    refine TT_ri dX10_game_63 trivial ?_
                    exact ⟨by rw [if_neg (by omega), if_pos (Or.inr ⟨by omega, bitI_t b35⟩)], hnr, M, hM⟩
        · refine T_ldc dX10_game_20 cX10_78 (inr rfl) ?_
          refine TT_ri dX10_game_22 trivial ?_
          exact ⟨by rw [if_pos (by omega)], hnr, M, hM⟩
