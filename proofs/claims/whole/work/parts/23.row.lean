/-! Row: who speaks when -/
def tmU (P : Nat → Nat → Int) (M : Nat → Int) (i s : Nat) : Nat → Int
  | 0 => 0
  | k + 1 => if s.testBit k = true then tmU P M i s k else imax (tmU P M i s k) (P k i + M (s + 2 ^ k))
def MV (P : Nat → Nat → Int) (n : Nat) : Nat → Nat → Int
  | 0 => fun _ => 0
  | m + 1 => fun s => tmU P (MV P n m) (n - 1 - m) s n
def PB (P : Nat → Nat → Int) (n : Nat) : Prop := ∀ j, j < n → ∀ i, i < 6 → 0 ≤ P j i ∧ P j i ≤ 95
def PC (c : HC) (P : Nat → Nat → Int) (n : Nat) : Prop := ∀ j, j < n → ∀ i, i < 6 → c (77 + j) i = P j i
def TAB (c : HC) (P : Nat → Nat → Int) (n s : Nat) : Prop := ∀ t, s ≤ t → t < 2 ^ n → c 83 t = MV P n (n - pcU t 6) t
theorem rwK : ∀ j, j < 6 → SH[77 + j]? = some (1, 6) ∧ FIN 76 j = some (77 + j) ∧ 0 < 77 + j := by decide +kernel
theorem rwS1 : ∀ s, s < 64 → ∀ j, j < 6 → s.testBit j = false → s ||| 2 ^ j = s + 2 ^ j := by decide +kernel
theorem rwS2 : ∀ s, s < 64 → ∀ j, j < 6 → s.testBit j = false → pcU (s + 2 ^ j) 6 = pcU s 6 + 1 := by decide +kernel
theorem rwS3 : ∀ n, n < 7 → ∀ s, s < 2 ^ n → ∀ j, j < n → s.testBit j = false → s + 2 ^ j < 2 ^ n := by decide +kernel
theorem rwS4 : ∀ n, n < 7 → ∀ s, s < 2 ^ n → ∀ j, j < n → s.testBit j = false → pcU s 6 < n := by decide +kernel
theorem rwP : ∀ n, n < 7 → 2 ^ n ≤ 64 ∧ pcU (2 ^ n - 1) 6 = n := by decide +kernel
theorem rwS (n : Nat) (hn : n < 7) (s : Nat) (hs : s < 2 ^ n) (j : Nat) (hj : j < n) (hb : s.testBit j = false) : s ||| 2 ^ j = s + 2 ^ j ∧ s + 2 ^ j < 2 ^ n ∧ pcU (s + 2 ^ j) 6 = pcU s 6 + 1 ∧ pcU s 6 < n := by
  have h := (rwP n hn).1
  exact ⟨rwS1 s (by omega) j (by omega) hb, rwS3 n hn s hs j hj hb, rwS2 s (by omega) j (by omega) hb, rwS4 n hn s hs j hj hb⟩
theorem rwE : ∀ n, n < 7 → ∀ s, s < 2 ^ n → pcU s 6 < n → ∃ j, j < n ∧ s.testBit j = false := by decide +kernel
theorem rwF : ∀ n, n < 7 → ∀ s, s < 2 ^ n - 1 → pcU s 6 < n := by decide +kernel
theorem bc64 : ∀ s : Nat, s < 64 → bcnt (s : Int) = ((pcU s 6 : Nat) : Int) := by decide +kernel
theorem bit_t0 {s k : Nat} (h : s < 1024) : band ((s : Int) / 2 ^ ((k : Int)).toNat) 1 ≠ 0 ↔ s.testBit k = true := by
  rw [Int.toNat_natCast]
  have e : ((s : Int) / 2 ^ k) = ((s / 2 ^ k : Nat) : Int) := by rw [Int.natCast_ediv, Int.natCast_pow]; rfl
  have hle : s / 2 ^ k ≤ s := Nat.div_le_self _ _
  rw [e, Nat.testBit_eq_decide_div_mod_eq]
  generalize s / 2 ^ k = dd at *
  rw [band1 (by unfold InR; omega)]
  simp only [decide_eq_true_eq]
  omega
theorem bit_f0 {s k : Nat} (h : s < 1024) (hb : band ((s : Int) / 2 ^ ((k : Int)).toNat) 1 = 0) : s.testBit k = false := by
  rcases q : s.testBit k with _ | _
  · rfl
  · exact absurd hb ((bit_t0 h).mpr q)
theorem bb_or {n s j : Nat} (hn : n < 7) (hs : s < 2 ^ n) (hj : j < n) (hb : s.testBit j = false) : bor (s : Int) (wr (1 * 2 ^ ((j : Int)).toNat)) = ((s + 2 ^ j : Nat) : Int) := by
  have hp : 2 ^ j < 64 := Nat.lt_of_le_of_lt (Nat.pow_le_pow_right (n := 2) (by decide) (show j ≤ 5 by omega)) (by decide)
  have h64 := (rwP n hn).1
  rw [shl1 (by omega), bor_nat (k := 6) (by decide) (by omega) hp, (rwS n hn s hs j hj hb).1]
theorem tmU_bd {P : Nat → Nat → Int} {M : Nat → Int} {n i s : Nat} {B : Int} (h0 : 0 ≤ B) (hB : ∀ j, j < n → 0 ≤ P j i + M (s + 2 ^ j) ∧ P j i + M (s + 2 ^ j) ≤ B) : ∀ k, k ≤ n → 0 ≤ tmU P M i s k ∧ tmU P M i s k ≤ B
  | 0, _ => ⟨Int.le_refl _, h0⟩
  | k + 1, hk => by
    have h := tmU_bd h0 hB k (by omega)
    have h2 := hB k (by omega)
    unfold tmU imax
    split
    · exact h
    · split
      · exact h2
      · exact h
theorem MV_bd {P : Nat → Nat → Int} {n : Nat} (hn : n < 7) (hB : PB P n) : ∀ m, m ≤ n → ∀ s, 0 ≤ MV P n m s ∧ MV P n m s ≤ 100 * m
  | 0, _, s => by unfold MV; omega
  | m + 1, hm, s => by
    have ih := MV_bd hn hB m (by omega)
    unfold MV
    have h := tmU_bd (P := P) (M := MV P n m) (n := n) (i := n - 1 - m) (s := s) (B := 100 * ((m + 1 : Nat) : Int)) (by omega) (fun j hj => by
      have h1 := hB j hj (n - 1 - m) (by omega)
      have h2 := ih (s + 2 ^ j)
      omega) n (Nat.le_refl _)
    exact h
theorem tmU_ge {P : Nat → Nat → Int} {M : Nat → Int} {i s : Nat} : ∀ k j, j < k → s.testBit j = false → P j i + M (s + 2 ^ j) ≤ tmU P M i s k
  | 0, j, h, _ => absurd h (Nat.not_lt_zero _)
  | k + 1, j, h, hb => by
    unfold tmU
    by_cases e : j = k
    · subst e
      rw [if_neg (by rw [hb]; decide)]
      unfold imax
      split <;> omega
    · have ih := tmU_ge (P := P) (M := M) (i := i) k j (by omega) hb
      split
      · exact ih
      · unfold imax
        split <;> omega
theorem tmU_at {P : Nat → Nat → Int} {M : Nat → Int} {n i s : Nat} (hB : ∀ j, j < n → 0 ≤ P j i + M (s + 2 ^ j)) : ∀ k, k ≤ n → (∃ j, j < k ∧ s.testBit j = false) → ∃ j, j < k ∧ s.testBit j = false ∧ tmU P M i s k = P j i + M (s + 2 ^ j)
  | 0, _, ⟨j, h, _⟩ => absurd h (Nat.not_lt_zero _)
  | k + 1, hk, ⟨j, h, hb⟩ => by
    unfold tmU
    by_cases hf : s.testBit k = true
    · rw [if_pos hf]
      have hjk : j ≠ k := fun e => by subst e; rw [hb] at hf; exact absurd hf (by decide)
      obtain ⟨r, r1, r2, r3⟩ := tmU_at hB k (by omega) ⟨j, by omega, hb⟩
      exact ⟨r, by omega, r2, r3⟩
    · rw [if_neg hf]
      have hf2 : s.testBit k = false := by simpa using hf
      unfold imax
      by_cases hl : tmU P M i s k < P k i + M (s + 2 ^ k)
      · rw [if_pos hl]
        exact ⟨k, by omega, hf2, rfl⟩
      · rw [if_neg hl]
        by_cases hx : ∃ j, j < k ∧ s.testBit j = false
        · obtain ⟨r, r1, r2, r3⟩ := tmU_at hB k (by omega) hx
          exact ⟨r, by omega, r2, r3⟩
        · have hz : ∀ q, q ≤ k → tmU P M i s q = 0 := by
            intro q
            induction q with
            | zero => intro _; rfl
            | succ q ih =>
              intro hq
              unfold tmU
              have : s.testBit q = true := by
                rcases hh : s.testBit q with _ | _
                · exact absurd ⟨q, by omega, hh⟩ hx
                · rfl
              rw [if_pos this]
              exact ih (by omega)
          have h1 := hz k (Nat.le_refl _)
          have h2 := hB k (by omega)
          refine ⟨k, by omega, hf2, ?_⟩
          omega
def fbS (P : Nat → Nat → Int) (M : Nat → Int) (i s : Nat) (t : Int) : Nat → Nat → Nat
  | 0, _ => 0
  | k + 1, j => if s.testBit j = false ∧ P j i + M (s + 2 ^ j) = t then j else fbS P M i s t k (j + 1)
theorem fbS_sp {P : Nat → Nat → Int} {M : Nat → Int} {i s : Nat} {t : Int} : ∀ k j, (∃ r, j ≤ r ∧ r < j + k ∧ s.testBit r = false ∧ P r i + M (s + 2 ^ r) = t) → (j ≤ fbS P M i s t k j ∧ fbS P M i s t k j < j + k) ∧ (s.testBit (fbS P M i s t k j) = false ∧ P (fbS P M i s t k j) i + M (s + 2 ^ fbS P M i s t k j) = t) ∧ ∀ q, j ≤ q → q < fbS P M i s t k j → s.testBit q = false → P q i + M (s + 2 ^ q) ≠ t
  | 0, j, ⟨r, h1, h2, _⟩ => by omega
  | k + 1, j, ⟨r, h1, h2, h3, h4⟩ => by
    unfold fbS
    by_cases hc : s.testBit j = false ∧ P j i + M (s + 2 ^ j) = t
    · rw [if_pos hc]
      exact ⟨by omega, hc, fun q q1 q2 => by omega⟩
    · rw [if_neg hc]
      have hr : r ≠ j := fun e => by subst e; exact hc ⟨h3, h4⟩
      obtain ⟨a1, a2, a3⟩ := fbS_sp (P := P) (M := M) (i := i) (s := s) (t := t) k (j + 1) ⟨r, by omega, by omega, h3, h4⟩
      refine ⟨by omega, a2, fun q q1 q2 q3 q4 => ?_⟩
      by_cases e : q = j
      · subst e; exact hc ⟨q3, q4⟩
      · exact a3 q (by omega) q2 q3 q4
/-- who is chosen, m being those who follow him -/
def gJ (P : Nat → Nat → Int) (n m s : Nat) : Nat := fbS P (MV P n m) (n - 1 - m) s (MV P n (m + 1) s) n 0
theorem gJ_sp {P : Nat → Nat → Int} {n m s : Nat} (hn : n < 7) (hB : PB P n) (hs : s < 2 ^ n) (hm : pcU s 6 + (m + 1) = n) : (gJ P n m s < n ∧ s.testBit (gJ P n m s) = false ∧ P (gJ P n m s) (n - 1 - m) + MV P n m (s + 2 ^ gJ P n m s) = MV P n (m + 1) s) ∧ ∀ q, q < gJ P n m s → s.testBit q = false → P q (n - 1 - m) + MV P n m (s + 2 ^ q) ≠ MV P n (m + 1) s := by
  obtain ⟨r, r1, r2, r3⟩ := tmU_at (P := P) (M := MV P n m) (n := n) (i := n - 1 - m) (s := s) (fun j hj => by
    have h1 := hB j hj (n - 1 - m) (by omega)
    have h2 := MV_bd hn hB m (by omega) (s + 2 ^ j)
    omega) n (Nat.le_refl _) (rwE n hn s hs (by omega))
  obtain ⟨a1, a2, a3⟩ := fbS_sp (P := P) (M := MV P n m) (i := n - 1 - m) (s := s) (t := MV P n (m + 1) s) n 0 ⟨r, by omega, by omega, r2, r3.symm⟩
  exact ⟨⟨by unfold gJ; omega, a2.1, a2.2⟩, fun q q1 q2 => a3 q (by omega) q1 q2⟩
def gS (P : Nat → Nat → Int) (n : Nat) : Nat → Nat
  | 0 => 0
  | k + 1 => gS P n k + 2 ^ gJ P n (n - 1 - k) (gS P n k)
theorem gS_sp {P : Nat → Nat → Int} {n : Nat} (hn : n < 7) (hB : PB P n) : ∀ k, k ≤ n → gS P n k < 2 ^ n ∧ pcU (gS P n k) 6 = k
  | 0, _ => ⟨Nat.two_pow_pos n, by unfold gS; decide⟩
  | k + 1, hk => by
    obtain ⟨h1, h2⟩ := gS_sp hn hB k (by omega)
    obtain ⟨⟨a1, a2, -⟩, -⟩ := gJ_sp (m := n - 1 - k) hn hB h1 (by omega)
    obtain ⟨-, b2, b3, -⟩ := rwS n hn _ h1 _ a1 a2
    unfold gS
    exact ⟨b2, by omega⟩
set_option maxHeartbeats 4000000 in
set_option maxRecDepth 100000 in
theorem c_tm (c : HC) {P : Nat → Nat → Int} {n s m : Nat} (hn : n < 7) (hs : s < 2 ^ n) (hm : pcU s 6 + (m + 1) = n) (hB : PB P n) (hP : PC c P n) (hT : TAB c P n (s + 1)) {j : Nat} (hj : j < n) (hb : s.testBit j = false) : RO mX6_throughMember 1 c [vr 74, vi (s : Int), vi (j : Int)] (P j (n - 1 - m) + MV P n m (s + 2 ^ j)) := by
  refine CC.of (by decide +kernel) (leb rfl) (fun hok => ?_)
  obtain ⟨a1, a2, a3, a4⟩ := rwS n hn s hs j hj hb
  have h64 := (rwP n hn).1
  obtain ⟨k1, k2, k3⟩ := rwK j (by omega)
  have hp := hP j hj (pcU s 6) (by omega)
  have hpb := hB j hj (pcU s 6) (by omega)
  have hmb := MV_bd hn hB m (by omega) (s + 2 ^ j)
  have hv : c 83 (s + 2 ^ j) = MV P n m (s + 2 ^ j) := by
    have h2 : 0 < 2 ^ j := Nat.two_pow_pos j
    rw [hT (s + 2 ^ j) (by omega) a2, a3, show n - (pcU s 6 + 1) = m by omega]
  have hbc := c_bitCount c (s : Int)
  rw [bc64 s (by omega)] at hbc
  have hi : n - 1 - m = pcU s 6 := by omega
  rw [hi]
  refine T_iloadn dX6_throughMember_0 rfl rfl ?_
  refine TT_Si dX6_throughMember_1 (hbc) kX6_80 (by decide) rfl (leb rfl) ?_
  refine T_istoren dX6_throughMember_4 rfl (by decide) rfl ?_
  refine T_iloadn dX6_throughMember_5 rfl rfl ?_
  refine T_bipush dX6_throughMember_6 (bp8 rfl) (inr rfl) ?_
  refine T_icmp_lt (tgt := 15) dX6_throughMember_8 rfl (fun b8 => ?_) (fun b8 => absurd b8 (by omega))
  refine T_aloadn dX6_throughMember_15 rfl rfl ?_
  refine T_getfin dX6_throughMember_16 fX6_17 (by first | assumption | rfl) (by first | decide | omega) rfl (by first | assumption | rfl) ?_
  refine T_iloadn dX6_throughMember_19 rfl rfl ?_
  refine T_aaldfin (j := j) dX6_throughMember_20 (by first | assumption | rfl) (by decide) rfl (by first | decide | omega) (by omega) (by omega) k2 ?_
  refine T_iloadn dX6_throughMember_21 rfl rfl ?_
  refine T_ialdv (j := pcU s 6) dX6_throughMember_22 k1 (by first | decide | omega) (by omega) (by omega) hp ?_
  refine T_aloadn dX6_throughMember_23 rfl rfl ?_
  refine T_getfin dX6_throughMember_24 fX6_20 (by first | assumption | rfl) (by first | decide | omega) rfl (by first | assumption | rfl) ?_
  refine T_iloadn dX6_throughMember_27 rfl rfl ?_
  refine T_iconst dX6_throughMember_28 (inr rfl) ?_
  refine T_iloadn dX6_throughMember_29 rfl rfl ?_
  refine T_ishl dX6_throughMember_30 (by omega) (by omega) ?_
  refine T_ior dX6_throughMember_31 ?_
  rw [bb_or hn hs hj hb]
  refine T_ialdv (j := s + 2 ^ j) dX6_throughMember_32 (by first | assumption | rfl) (by first | decide | omega) rfl (Nat.lt_of_lt_of_le a2 h64) hv ?_
  first | refine T_iaddN dX6_throughMember_33 (by omega) ?_ | refine T_iadd dX6_throughMember_33 ?_
  refine TT_ri dX6_throughMember_34 trivial ?_
  exact ro_q rfl
set_option maxHeartbeats 4000000 in
set_option maxRecDepth 100000 in
theorem l_mostBehind (c : HC) {P : Nat → Nat → Int} {n s m : Nat} (hn : n < 7) (hs : s < 2 ^ n) (hm : pcU s 6 + (m + 1) = n) (hB : PB P n) (hP : PC c P n) (hT : TAB c P n (s + 1)) (hc : c 74 3 = (n : Int)) : ∀ (k j : Nat), j + k = n → TT mX6_mostBehind 2 4 [(0, vr 74), (1, vi (s : Int)), (2, vi (tmU P (MV P n m) (n - 1 - m) s j)), (3, vi (j : Int))] [] c (fun v c1 => v = some (vi (MV P n (m + 1) s)) ∧ c1 = c) := by
  have h64 := (rwP n hn).1
  intro k
  induction k with
  | zero =>
    intro j hk
    have e : j = n := by omega
    subst e
    refine T_iloadn dX6_mostBehind_4 rfl rfl ?_
    refine T_aloadn dX6_mostBehind_5 rfl rfl ?_
    first | refine T_getv dX6_mostBehind_6 fX6_23 (by first | assumption | rfl) (by first | decide | omega) rfl (by assumption) ?_ | refine T_geti dX6_mostBehind_6 fX6_23 (by first | assumption | rfl) (by first | decide | omega) rfl ?_
    refine T_icmp_ge (tgt := 37) dX6_mostBehind_9 rfl (fun b9 => ?_) (fun b9 => absurd b9 (by omega))
    refine T_iloadn dX6_mostBehind_37 rfl rfl ?_
    refine TT_ri dX6_mostBehind_38 trivial ?_
    exact ro_q rfl
  | succ k ih =>
    intro j hk
    have h := ih (j + 1) (by omega)
    rw [tmU.eq_2] at h
    refine T_iloadn dX6_mostBehind_4 rfl rfl ?_
    refine T_aloadn dX6_mostBehind_5 rfl rfl ?_
    first | refine T_getv dX6_mostBehind_6 fX6_23 (by first | assumption | rfl) (by first | decide | omega) rfl (by assumption) ?_ | refine T_geti dX6_mostBehind_6 fX6_23 (by first | assumption | rfl) (by first | decide | omega) rfl ?_
    refine T_icmp_ge (tgt := 37) dX6_mostBehind_9 rfl (fun b9 => absurd b9 (by omega)) (fun b9 => ?_)
    refine T_iloadn dX6_mostBehind_12 rfl rfl ?_
    refine T_iloadn dX6_mostBehind_13 rfl rfl ?_
    refine T_ishr dX6_mostBehind_14 (by omega) (by omega) ?_
    refine T_iconst dX6_mostBehind_15 (inr rfl) ?_
    refine T_iand dX6_mostBehind_16 ?_
    refine T_if_ne (tgt := 31) dX6_mostBehind_17 rfl (fun b17 => ?_) (fun b17 => ?_)
    · refine T_iincN dX6_mostBehind_31 rfl (by decide) rfl (by omega) ?_
      refine T_goto (tgt := 4) dX6_mostBehind_34 rfl ?_
      refine T_keep [0, 1, 2, 3] ?_
      rw [if_pos ((bit_t0 (s := s) (k := j) (by omega)).mp b17)] at h
      exact h
    · have ef := bit_f0 (k := j) (by omega) b17
      refine T_iloadn dX6_mostBehind_20 rfl rfl ?_
      refine T_aloadn dX6_mostBehind_21 rfl rfl ?_
      refine T_iloadn dX6_mostBehind_22 rfl rfl ?_
      refine T_iloadn dX6_mostBehind_23 rfl rfl ?_
      refine TT_Vi dX6_mostBehind_24 (c_tm c hn hs hm hB hP hT (by omega) ef) kX6_77 (by decide) (by first | decide | omega) (by first | assumption | rfl) rfl (leb rfl) ?_
      refine T_mmax dX6_mostBehind_27 kX6_68M (by decide) (leb rfl) ?_
      refine T_istoren dX6_mostBehind_30 rfl (by decide) rfl ?_
      refine T_iincN dX6_mostBehind_31 rfl (by decide) rfl (by omega) ?_
      refine T_goto (tgt := 4) dX6_mostBehind_34 rfl ?_
      refine T_keep [0, 1, 2, 3] ?_
      rw [if_neg (by rw [ef]; decide)] at h
      exact h
set_option maxHeartbeats 4000000 in
set_option maxRecDepth 100000 in
theorem c_mostBehind (c : HC) {P : Nat → Nat → Int} {n s m : Nat} (hn : n < 7) (hs : s < 2 ^ n) (hm : pcU s 6 + (m + 1) = n) (hB : PB P n) (hP : PC c P n) (hT : TAB c P n (s + 1)) (hc : c 74 3 = (n : Int)) : RO mX6_mostBehind 2 c [vr 74, vi (s : Int)] (MV P n (m + 1) s) := by
  refine CC.of (by decide +kernel) (leb rfl) (fun hok => ?_)
  refine T_iconst dX6_mostBehind_0 (inr rfl) ?_
  refine T_istoren dX6_mostBehind_1 rfl (by decide) rfl ?_
  refine T_iconst dX6_mostBehind_2 (inr rfl) ?_
  refine T_istoren dX6_mostBehind_3 rfl (by decide) rfl ?_
  exact l_mostBehind c hn hs hm hB hP hT hc n 0 (by omega)
set_option maxHeartbeats 4000000 in
set_option maxRecDepth 100000 in
theorem l_firstOfBest (c : HC) {P : Nat → Nat → Int} {n s m : Nat} (hn : n < 7) (hs : s < 2 ^ n) (hm : pcU s 6 + (m + 1) = n) (hB : PB P n) (hP : PC c P n) (hT : TAB c P n s) (hc : c 74 3 = (n : Int)) : ∀ (k j : Nat), j + k = n → TT mX6_firstOfBest 2 2 [(0, vr 74), (1, vi (s : Int)), (2, vi (j : Int))] [] c (fun v c1 => v = some (vi ((fbS P (MV P n m) (n - 1 - m) s (MV P n (m + 1) s) k j : Nat) : Int)) ∧ c1 = c) := by
  have h64 := (rwP n hn).1
  have hT1 : TAB c P n (s + 1) := fun t h1 h2 => hT t (by omega) h2
  have hv : c 83 s = MV P n (m + 1) s := by
    rw [hT s (Nat.le_refl _) hs, show n - pcU s 6 = m + 1 by omega]
  intro k
  induction k with
  | zero =>
    intro j hk
    refine T_iloadn dX6_firstOfBest_2 rfl rfl ?_
    refine T_aloadn dX6_firstOfBest_3 rfl rfl ?_
    first | refine T_getv dX6_firstOfBest_4 fX6_23 (by first | assumption | rfl) (by first | decide | omega) rfl (by assumption) ?_ | refine T_geti dX6_firstOfBest_4 fX6_23 (by first | assumption | rfl) (by first | decide | omega) rfl ?_
    refine T_icmp_ge (tgt := 41) dX6_firstOfBest_7 rfl (fun b7 => ?_) (fun b7 => absurd b7 (by omega))
    refine T_iconst dX6_firstOfBest_41 (inr rfl) ?_
    refine TT_ri dX6_firstOfBest_42 trivial ?_
    exact ro_q rfl
  | succ k ih =>
    intro j hk
    have h := ih (j + 1) (by omega)
    rw [fbS.eq_2]
    refine T_iloadn dX6_firstOfBest_2 rfl rfl ?_
    refine T_aloadn dX6_firstOfBest_3 rfl rfl ?_
    first | refine T_getv dX6_firstOfBest_4 fX6_23 (by first | assumption | rfl) (by first | decide | omega) rfl (by assumption) ?_ | refine T_geti dX6_firstOfBest_4 fX6_23 (by first | assumption | rfl) (by first | decide | omega) rfl ?_
    refine T_icmp_ge (tgt := 41) dX6_firstOfBest_7 rfl (fun b7 => absurd b7 (by omega)) (fun b7 => ?_)
    refine T_iloadn dX6_firstOfBest_10 rfl rfl ?_
    refine T_iloadn dX6_firstOfBest_11 rfl rfl ?_
    refine T_ishr dX6_firstOfBest_12 (by omega) (by omega) ?_
    refine T_iconst dX6_firstOfBest_13 (inr rfl) ?_
    refine T_iand dX6_firstOfBest_14 ?_
    refine T_if_ne (tgt := 35) dX6_firstOfBest_15 rfl (fun b15 => ?_) (fun b15 => ?_)
    · refine T_iincN dX6_firstOfBest_35 rfl (by decide) rfl (by omega) ?_
      refine T_goto (tgt := 2) dX6_firstOfBest_38 rfl ?_
      refine T_keep [0, 1, 2] ?_
      rw [if_neg (fun q => by have q2 := (bit_t0 (s := s) (k := j) (by omega)).mp b15; rw [q.1] at q2; exact absurd q2 (by decide))]
      exact h
    · have ef := bit_f0 (k := j) (by omega) b15
      refine T_aloadn dX6_firstOfBest_18 rfl rfl ?_
      refine T_iloadn dX6_firstOfBest_19 rfl rfl ?_
      refine T_iloadn dX6_firstOfBest_20 rfl rfl ?_
      refine TT_Vi dX6_firstOfBest_21 (c_tm c hn hs hm hB hP hT1 (by omega) ef) kX6_77 (by decide) (by first | decide | omega) (by first | assumption | rfl) rfl (leb rfl) ?_
      refine T_aloadn dX6_firstOfBest_24 rfl rfl ?_
      refine T_getfin dX6_firstOfBest_25 fX6_20 (by first | assumption | rfl) (by first | decide | omega) rfl (by first | assumption | rfl) ?_
      refine T_iloadn dX6_firstOfBest_28 rfl rfl ?_
      refine T_ialdv (j := s) dX6_firstOfBest_29 (by first | assumption | rfl) (by first | decide | omega) (by omega) (by omega) hv ?_
      refine T_icmp_ne (tgt := 35) dX6_firstOfBest_30 rfl (fun b30 => ?_) (fun b30 => ?_)
      · refine T_iincN dX6_firstOfBest_35 rfl (by decide) rfl (by omega) ?_
        refine T_goto (tgt := 2) dX6_firstOfBest_38 rfl ?_
        refine T_keep [0, 1, 2] ?_
        rw [if_neg (fun q => b30 q.2)]
        exact h
      · refine T_iloadn dX6_firstOfBest_33 rfl rfl ?_
        refine TT_ri dX6_firstOfBest_34 trivial ?_
        rw [if_pos ⟨ef, b30⟩]
        exact ro_q rfl
set_option maxHeartbeats 4000000 in
set_option maxRecDepth 100000 in
theorem c_firstOfBest (c : HC) {P : Nat → Nat → Int} {n s m : Nat} (hn : n < 7) (hs : s < 2 ^ n) (hm : pcU s 6 + (m + 1) = n) (hB : PB P n) (hP : PC c P n) (hT : TAB c P n s) (hc : c 74 3 = (n : Int)) : RO mX6_firstOfBest 2 c [vr 74, vi (s : Int)] ((gJ P n m s : Nat) : Int) := by
  refine CC.of (by decide +kernel) (leb rfl) (fun hok => ?_)
  refine T_iconst dX6_firstOfBest_0 (inr rfl) ?_
  refine T_istoren dX6_firstOfBest_1 rfl (by decide) rfl ?_
  exact l_firstOfBest c hn hs hm hB hP hT hc n 0 (by omega)
set_option maxHeartbeats 4000000 in
set_option maxRecDepth 100000 in
theorem c_farthest (c : HC) {P : Nat → Nat → Int} {n : Nat} (hT : TAB c P n 0) : RO mX6_farthest 0 c [vr 74] (MV P n n 0) := by
  refine CC.of (by decide +kernel) (leb rfl) (fun hok => ?_)
  have hv : c 83 0 = MV P n n 0 := hT 0 (Nat.le_refl _) (Nat.two_pow_pos n)
  refine T_aloadn dX6_farthest_0 rfl rfl ?_
  refine T_getfin dX6_farthest_1 fX6_20 (by first | assumption | rfl) (by first | decide | omega) rfl (by first | assumption | rfl) ?_
  refine T_iconst dX6_farthest_4 (inr rfl) ?_
  refine T_ialdv (j := 0) dX6_farthest_5 (by first | assumption | rfl) (by first | decide | omega) (by omega) (by omega) hv ?_
  refine TT_ri dX6_farthest_6 trivial ?_
  exact ro_q rfl
set_option maxHeartbeats 4000000 in
set_option maxRecDepth 100000 in
theorem l_nth (c : HC) {P : Nat → Nat → Int} {n : Nat} (hn : n < 7) (hB : PB P n) (hP : PC c P n) (hT : TAB c P n 0) (hc : c 74 3 = (n : Int)) (i : Nat) (hi : i < n) : ∀ (r k : Nat), k + r = i → TT mX6_nth 3 27 [(0, vr 74), (1, vi (i : Int)), (2, vi ((gS P n k : Nat) : Int)), (4, vi (k : Int))] [] c (fun v c1 => v = some (vi (c 75 (gJ P n (n - 1 - i) (gS P n i)))) ∧ c1 = c) := by
  have h64 := (rwP n hn).1
  have hT1 : ∀ s, TAB c P n s := fun s t h1 h2 => hT t (by omega) h2
  intro r
  induction r with
  | zero =>
    intro k hk
    have e : k = i := by omega
    subst e
    obtain ⟨s1, s2⟩ := gS_sp hn hB k (by omega)
    obtain ⟨⟨a1, a2, -⟩, -⟩ := gJ_sp (m := n - 1 - k) hn hB s1 (by omega)
    have hcf := c_firstOfBest c (m := n - 1 - k) hn s1 (by omega) hB hP (hT1 _) hc
    refine T_aloadn dX6_nth_27 rfl rfl ?_
    refine T_iloadn dX6_nth_28 rfl rfl ?_
    refine TT_Vi dX6_nth_29 (hcf) kX6_85 (by decide) (by first | decide | omega) (by first | assumption | rfl) rfl (leb rfl) ?_
    refine T_istoren dX6_nth_32 rfl (by decide) rfl ?_
    refine T_iloadn dX6_nth_33 rfl rfl ?_
    refine T_iconst dX6_nth_34 (inr rfl) ?_
    refine T_iloadn dX6_nth_35 rfl rfl ?_
    refine T_ishl dX6_nth_36 (by omega) (by omega) ?_
    refine T_ior dX6_nth_37 ?_
    rw [bb_or hn s1 a1 a2]
    refine T_istoren dX6_nth_38 rfl (by decide) rfl ?_
    refine T_iincN dX6_nth_39 rfl (by decide) rfl (by omega) ?_
    refine T_goto (tgt := 21) dX6_nth_42 rfl ?_
    refine T_iload dX6_nth_21 rfl ?_
    refine T_iloadn dX6_nth_23 rfl rfl ?_
    refine T_icmp_gt (tgt := 45) dX6_nth_24 rfl (fun b24 => ?_) (fun b24 => absurd b24 (by omega))
    refine T_aloadn dX6_nth_45 rfl rfl ?_
    refine T_getfin dX6_nth_46 fX6_11 (by first | assumption | rfl) (by first | decide | omega) rfl (by first | assumption | rfl) ?_
    refine T_iloadn dX6_nth_49 rfl rfl ?_
    refine T_iald (j := gJ P n (n - 1 - k) (gS P n k)) dX6_nth_50 (by first | assumption | rfl) (by first | decide | omega) rfl (by omega) ?_
    refine TT_ri dX6_nth_51 trivial ?_
    exact ro_q rfl
  | succ r ih =>
    intro k hk
    have h := ih (k + 1) (by omega)
    obtain ⟨s1, s2⟩ := gS_sp hn hB k (by omega)
    obtain ⟨⟨a1, a2, -⟩, -⟩ := gJ_sp (m := n - 1 - k) hn hB s1 (by omega)
    have hcf := c_firstOfBest c (m := n - 1 - k) hn s1 (by omega) hB hP (hT1 _) hc
    refine T_aloadn dX6_nth_27 rfl rfl ?_
    refine T_iloadn dX6_nth_28 rfl rfl ?_
    refine TT_Vi dX6_nth_29 (hcf) kX6_85 (by decide) (by first | decide | omega) (by first | assumption | rfl) rfl (leb rfl) ?_
    refine T_istoren dX6_nth_32 rfl (by decide) rfl ?_
    refine T_iloadn dX6_nth_33 rfl rfl ?_
    refine T_iconst dX6_nth_34 (inr rfl) ?_
    refine T_iloadn dX6_nth_35 rfl rfl ?_
    refine T_ishl dX6_nth_36 (by omega) (by omega) ?_
    refine T_ior dX6_nth_37 ?_
    rw [bb_or hn s1 a1 a2]
    refine T_istoren dX6_nth_38 rfl (by decide) rfl ?_
    refine T_iincN dX6_nth_39 rfl (by decide) rfl (by omega) ?_
    refine T_goto (tgt := 21) dX6_nth_42 rfl ?_
    refine T_iload dX6_nth_21 rfl ?_
    refine T_iloadn dX6_nth_23 rfl rfl ?_
    refine T_icmp_gt (tgt := 45) dX6_nth_24 rfl (fun b24 => absurd b24 (by omega)) (fun b24 => ?_)
    refine T_keep [0, 1, 2, 4] ?_
    exact h
def nthV (c : HC) (P : Nat → Nat → Int) (n : Nat) (i : Int) : Int := if i < 0 ∨ (n : Int) ≤ i then -1 else c 75 (gJ P n (n - 1 - i.toNat) (gS P n i.toNat))
set_option maxHeartbeats 4000000 in
set_option maxRecDepth 100000 in
theorem c_nth (c : HC) {P : Nat → Nat → Int} {n : Nat} (hn : n < 7) (hB : PB P n) (hP : PC c P n) (hT : TAB c P n 0) (hc : c 74 3 = (n : Int)) (i : Int) : RO mX6_nth 3 c [vr 74, vi i] (nthV c P n i) := by
  refine CC.of (by decide +kernel) (leb rfl) (fun hok => ?_)
  unfold nthV
  refine T_iloadn dX6_nth_0 rfl rfl ?_
  refine T_if_lt (tgt := 12) dX6_nth_1 rfl (fun b1 => ?_) (fun b1 => ?_)
  · refine T_iconst dX6_nth_12 (inr rfl) ?_
    refine TT_ri dX6_nth_13 trivial ?_
    exact ro_q (by rw [if_pos (by omega)])
  · refine T_iloadn dX6_nth_4 rfl rfl ?_
    refine T_aloadn dX6_nth_5 rfl rfl ?_
    first | refine T_getv dX6_nth_6 fX6_23 (by first | assumption | rfl) (by first | decide | omega) rfl (by assumption) ?_ | refine T_geti dX6_nth_6 fX6_23 (by first | assumption | rfl) (by first | decide | omega) rfl ?_
    refine T_icmp_lt (tgt := 14) dX6_nth_9 rfl (fun b9 => ?_) (fun b9 => ?_)
    · refine T_iconst dX6_nth_14 (inr rfl) ?_
      refine T_istoren dX6_nth_15 rfl (by decide) rfl ?_
      refine T_iconst dX6_nth_16 (inr rfl) ?_
      refine T_istoren dX6_nth_17 rfl (by decide) rfl ?_
      refine T_iconst dX6_nth_18 (inr rfl) ?_
      refine T_istore dX6_nth_19 (by decide) rfl ?_
      refine T_iload dX6_nth_21 rfl ?_
      refine T_iloadn dX6_nth_23 rfl rfl ?_
      refine T_icmp_gt (tgt := 45) dX6_nth_24 rfl (fun b24 => absurd b24 (by omega)) (fun b24 => ?_)
      have h := l_nth c hn hB hP hT hc i.toNat (by omega) i.toNat 0 (by omega)
      rw [show ((i.toNat : Nat) : Int) = i by omega] at h
      rw [if_neg (by omega)]
      refine T_keep [0, 1, 2, 4] ?_
      exact h
    · refine T_iconst dX6_nth_12 (inr rfl) ?_
      refine TT_ri dX6_nth_13 trivial ?_
      exact ro_q (by rw [if_pos (by omega)])
