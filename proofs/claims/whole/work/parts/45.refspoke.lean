/-! the reference: could, spoke; the bits of the class's own search -/
theorem lbor_nat {a b : Nat} {k : Nat} (hk : k ≤ 63) (ha : a < 2 ^ k) (hb : b < 2 ^ k) : lbor (a : Int) (b : Int) = ((a ||| b : Nat) : Int) := by
  have h2 : 2 ^ k ≤ 9223372036854775808 := Nat.pow_le_pow_right (n := 2) (by decide) hk
  unfold lbor
  rw [i64_int]
  rw [show (i64 (a : Int) ||| i64 (b : Int)).toBitVec = (i64 (a : Int)).toBitVec ||| (i64 (b : Int)).toBitVec from rfl, BitVec.toNat_or, i64_tnN (by omega), i64_tnN (by omega)]
  have h1 : a ||| b < 2 ^ k := Nat.or_lt_two_pow ha hb
  exact wl_id (by omega) (by omega)
theorem lbshl_1 : ∀ k : Nat, k < 42 → lbshl 1 (k : Int) = ((2 ^ k : Nat) : Int) := by decide +kernel
theorem sh_amt : ∀ b : Nat, b < 64 → ((i32 (b : Int)).toInt64.toUInt64 &&& Int64.toUInt64 63).toNat % 64 = b := by decide +kernel
theorem lbushr_nat {a b : Nat} (ha : a < 9223372036854775808) (hb : b < 64) : lbushr (a : Int) (b : Int) = ((a >>> b : Nat) : Int) := by
  unfold lbushr
  rw [i64_int]
  have h1 : (((i64 (a : Int)).toUInt64 >>> ((i32 (b : Int)).toInt64.toUInt64 &&& Int64.toUInt64 63)).toInt64).toBitVec.toNat = a >>> b := by
    show ((i64 (a : Int)).toUInt64 >>> ((i32 (b : Int)).toInt64.toUInt64 &&& Int64.toUInt64 63)).toNat = a >>> b
    rw [UInt64.toNat_shiftRight, sh_amt b hb]
    show (i64 (a : Int)).toBitVec.toNat >>> b = a >>> b
    rw [i64_tnN ha]
  rw [h1]
  have h2 : a >>> b ≤ a := Nat.shiftRight_le a b
  exact wl_id (by omega) (by omega)
def lwN (wo : Nat → Int) : Nat → Nat
  | 0 => 1
  | n + 1 => if wo (n + 1) ≤ 0 then lwN wo n else lwN wo n ||| 2 ^ (n + 1)
theorem lwN_lt (wo : Nat → Int) : ∀ n, lwN wo n < 2 ^ (n + 1)
  | 0 => by unfold lwN; decide
  | n + 1 => by
    have h := lwN_lt wo n
    have h1 : 2 ^ (n + 1) < 2 ^ (n + 1 + 1) := Nat.pow_lt_pow_right (by decide) (by omega)
    unfold lwN
    split
    · omega
    · exact Nat.or_lt_two_pow (by omega) h1
theorem lwS_N (wo : Nat → Int) : ∀ n, n ≤ 41 → lwS wo n = ((lwN wo n : Nat) : Int)
  | 0, _ => rfl
  | n + 1, hn => by
    have h := lwS_N wo n (by omega)
    have h0 := lwN_lt wo n
    have h1 : 2 ^ (n + 1) < 2 ^ (n + 1 + 1) := Nat.pow_lt_pow_right (by decide) (by omega)
    unfold lwS lwN
    split
    · exact h
    · rw [h, lbshl_1 (n + 1) (by omega)]
      exact lbor_nat (k := n + 1 + 1) (by omega) (by omega) h1
theorem lwN_tb (wo : Nat → Int) (l : Nat) : ∀ n, (lwN wo n).testBit l = true ↔ l = 0 ∨ (l ≤ n ∧ 0 < wo l)
  | 0 => by
    unfold lwN
    by_cases h : l = 0
    · subst h; simp
    · have : (1 : Nat).testBit l = false := by
        rw [show (1 : Nat) = 2 ^ 0 from rfl, Nat.testBit_two_pow]
        simpa using fun e => h e.symm
      rw [this]
      constructor
      · intro z; cases z
      · rintro (z | z)
        · exact absurd z h
        · omega
  | n + 1 => by
    have ih := lwN_tb wo l n
    unfold lwN
    split
    · rename_i hc
      rw [ih]
      constructor
      · rintro (z | z)
        · exact Or.inl z
        · exact Or.inr ⟨by omega, z.2⟩
      · rintro (z | z)
        · exact Or.inl z
        · refine Or.inr ⟨?_, z.2⟩
          by_cases e : l = n + 1
          · subst e; omega
          · omega
    · rename_i hc
      rw [Nat.testBit_or, Bool.or_eq_true, ih, Nat.testBit_two_pow]
      simp only [decide_eq_true_eq]
      constructor
      · rintro ((z | z) | z)
        · exact Or.inl z
        · exact Or.inr ⟨by omega, z.2⟩
        · subst z; exact Or.inr ⟨Nat.le_refl _, by omega⟩
      · rintro (z | z)
        · exact Or.inl (Or.inl z)
        · by_cases e : l = n + 1
          · exact Or.inr e.symm
          · exact Or.inl (Or.inr ⟨by omega, z.2⟩)
theorem cmL_01 (mud wt d L S : Int) : ∀ k b, cmL mud wt d L S k b = 0 ∨ cmL mud wt d L S k b = 1
  | 0, _ => Or.inl rfl
  | k + 1, b => by
    unfold cmL
    split
    · exact Or.inr rfl
    · exact cmL_01 mud wt d L S k (b + 1)
theorem cmL_iff (mud wt d L S : Int) : ∀ k b, cmL mud wt d L S k b = 1 ↔ ∃ j : Nat, j < k ∧ pullF mud (b + (j : Int)) wt = iabs d ∧ lband (lbushr L (b + (j : Int))) S ≠ 0
  | 0, b => ⟨fun z => absurd z (by show ¬ ((0 : Int) = 1); decide), fun ⟨j, hj, _⟩ => absurd hj (Nat.not_lt_zero _)⟩
  | k + 1, b => by
    have ih := cmL_iff mud wt d L S k (b + 1)
    unfold cmL
    split
    · rename_i hc
      refine ⟨fun _ => ⟨0, by omega, ?_⟩, fun _ => rfl⟩
      rw [show b + ((0 : Nat) : Int) = b by omega]
      exact hc
    · rename_i hc
      rw [ih]
      constructor
      · rintro ⟨j, h1, h2⟩
        refine ⟨j + 1, by omega, ?_⟩
        rw [show b + ((j + 1 : Nat) : Int) = b + 1 + (j : Int) by omega]
        exact h2
      · rintro ⟨j, h1, h2⟩
        cases j with
        | zero =>
          rw [show b + ((0 : Nat) : Int) = b by omega] at h2
          exact absurd h2 hc
        | succ j =>
          refine ⟨j, by omega, ?_⟩
          rw [show b + 1 + (j : Int) = b + ((j + 1 : Nat) : Int) by omega]
          exact h2
theorem and_tb (wo : Nat → Int) (A B x : Nat) (hA : A ≤ 40) (hB : B ≤ 40) (hx : x < 64) : lband (lbushr (lwS wo A) (x : Int)) (lwS wo B) ≠ 0 ↔ ∃ l : Nat, (x + l = 0 ∨ (x + l ≤ A ∧ 0 < wo (x + l))) ∧ (l = 0 ∨ (l ≤ B ∧ 0 < wo l)) := by
  have h1 := lwN_lt wo A
  have h2 := lwN_lt wo B
  have hp : 2 ^ (A + 1) ≤ 2199023255552 := Nat.pow_le_pow_right (n := 2) (by decide) (show A + 1 ≤ 41 by omega)
  have hq : 2 ^ (B + 1) ≤ 2199023255552 := Nat.pow_le_pow_right (n := 2) (by decide) (show B + 1 ≤ 41 by omega)
  have h3 : lwN wo A >>> x ≤ lwN wo A := Nat.shiftRight_le _ _
  rw [lwS_N wo A (by omega), lwS_N wo B (by omega), lbushr_nat (by omega) hx, lband_nat (by omega) (by omega)]
  constructor
  · intro hne
    obtain ⟨l, hl⟩ := Nat.exists_testBit_of_ne_zero (x := lwN wo A >>> x &&& lwN wo B) (by omega)
    rw [Nat.testBit_and, Bool.and_eq_true, Nat.testBit_shiftRight, lwN_tb, lwN_tb] at hl
    exact ⟨l, hl⟩
  · rintro ⟨l, hl⟩ hz
    have hz2 : lwN wo A >>> x &&& lwN wo B = 0 := by omega
    have ht : (lwN wo A >>> x &&& lwN wo B).testBit l = true := by
      rw [Nat.testBit_and, Bool.and_eq_true, Nat.testBit_shiftRight, lwN_tb, lwN_tb]
      exact hl
    rw [hz2] at ht
    simp at ht
def isL (wo : Nat → Int) (l : Nat) : Prop := l = 0 ∨ 0 < wo l
def cdT (mud : Int) (wt wo : Nat → Int) (p q : Nat) (d : Int) (a b : Nat) : Prop := isL wo a ∧ isL wo b ∧ wayF mud wt (p : Int) (a : Int) (q : Int) (b : Int) = d
theorem pull0 (mud w : Int) {x : Int} (h : x ≤ 0) : pullF mud x w = 0 := by unfold pullF; rw [if_neg (by omega)]
theorem cm_iff {mud : Int} {wt bt wo : Nat → Int} {p q : Nat} {d : Int} (hd : -1000 ≤ d ∧ d ≤ 1000) (hp : 0 ≤ bt p ∧ bt p ≤ 40) (hq : 0 ≤ bt q ∧ bt q ≤ 40) : cmF mud wt bt wo (p : Int) (q : Int) d = 1 ↔ ∃ a, a ≤ (bt p).toNat ∧ ∃ b, b ≤ (bt q).toNat ∧ cdT mud wt wo p q d a b := by
  unfold cmF
  by_cases h0 : d = 0
  · rw [if_pos h0]
    refine ⟨fun _ => ⟨0, Nat.zero_le _, 0, Nat.zero_le _, Or.inl rfl, Or.inl rfl, ?_⟩, fun _ => rfl⟩
    unfold wayF
    rw [if_neg (by omega), pull0 _ _ (by omega), h0]
    rfl
  · rw [if_neg h0, cmL_iff]
    have im : ∀ x : Int, 0 ≤ x → x ≤ 40 → imin x 41 = x := fun x _ h => by unfold imin; rw [if_neg (by omega)]
    by_cases hn : d ≤ 0
    · simp only [if_pos hn, Int.toNat_natCast]
      rw [im _ hp.1 hp.2, im _ hq.1 hq.2]
      have ha : iabs d = -d := by unfold iabs; rw [if_neg (by omega), wr_id (by omega) (by omega)]
      rw [ha]
      constructor
      · rintro ⟨j, h1, h2, h3⟩
        rw [show (1 : Int) + (j : Int) = ((1 + j : Nat) : Int) by omega, and_tb wo _ _ _ (by omega) (by omega) (by omega)] at h3
        obtain ⟨l, h4, h5⟩ := h3
        have h4' : 1 + j + l ≤ (bt p).toNat ∧ 0 < wo (1 + j + l) := by
          rcases h4 with z | z
          · omega
          · exact z
        refine ⟨1 + j + l, h4'.1, l, ?_, Or.inr h4'.2, ?_, ?_⟩
        · rcases h5 with z | z <;> omega
        · rcases h5 with z | z
          · exact Or.inl z
          · exact Or.inr z.2
        · unfold wayF
          rw [if_neg (by omega), Int.toNat_natCast, show ((1 + j + l : Nat) : Int) - (l : Int) = 1 + (j : Int) by omega, h2]
          omega
      · rintro ⟨a, ha1, b, hb1, h1, h2, h3⟩
        unfold wayF at h3
        have k1 := pullF_bd mud ((b : Int) - (a : Int)) (wt q)
        by_cases hab : (a : Int) < (b : Int)
        · rw [if_pos hab, Int.toNat_natCast] at h3
          omega
        · rw [if_neg hab, Int.toNat_natCast] at h3
          have hlt : b < a := by
            by_cases e : a = b
            · subst e
              rw [pull0 _ _ (by omega)] at h3
              omega
            · omega
          refine ⟨a - b - 1, by omega, ?_, ?_⟩
          · rw [show (1 : Int) + ((a - b - 1 : Nat) : Int) = (a : Int) - (b : Int) by omega]
            omega
          · rw [show (1 : Int) + ((a - b - 1 : Nat) : Int) = ((a - b : Nat) : Int) by omega, and_tb wo _ _ _ (by omega) (by omega) (by omega)]
            refine ⟨b, Or.inr ?_, ?_⟩
            · rw [show a - b + b = a by omega]
              refine ⟨ha1, ?_⟩
              rcases h1 with z | z
              · omega
              · exact z
            · rcases h2 with z | z
              · exact Or.inl z
              · exact Or.inr ⟨hb1, z⟩
    · simp only [if_neg hn, Int.toNat_natCast]
      rw [im _ hp.1 hp.2, im _ hq.1 hq.2]
      have ha : iabs d = d := by unfold iabs; rw [if_pos (by omega)]
      rw [ha]
      constructor
      · rintro ⟨j, h1, h2, h3⟩
        rw [show (1 : Int) + (j : Int) = ((1 + j : Nat) : Int) by omega, and_tb wo _ _ _ (by omega) (by omega) (by omega)] at h3
        obtain ⟨l, h4, h5⟩ := h3
        have h4' : 1 + j + l ≤ (bt q).toNat ∧ 0 < wo (1 + j + l) := by
          rcases h4 with z | z
          · omega
          · exact z
        refine ⟨l, ?_, 1 + j + l, h4'.1, ?_, Or.inr h4'.2, ?_⟩
        · rcases h5 with z | z <;> omega
        · rcases h5 with z | z
          · exact Or.inl z
          · exact Or.inr z.2
        · unfold wayF
          rw [if_pos (by omega), Int.toNat_natCast, show ((1 + j + l : Nat) : Int) - (l : Int) = 1 + (j : Int) by omega, h2]
      · rintro ⟨a, ha1, b, hb1, h1, h2, h3⟩
        unfold wayF at h3
        have k1 := pullF_bd mud ((a : Int) - (b : Int)) (wt p)
        by_cases hab : (a : Int) < (b : Int)
        · rw [if_pos hab, Int.toNat_natCast] at h3
          refine ⟨b - a - 1, by omega, ?_, ?_⟩
          · rw [show (1 : Int) + ((b - a - 1 : Nat) : Int) = (b : Int) - (a : Int) by omega]
            omega
          · rw [show (1 : Int) + ((b - a - 1 : Nat) : Int) = ((b - a : Nat) : Int) by omega, and_tb wo _ _ _ (by omega) (by omega) (by omega)]
            refine ⟨a, Or.inr ?_, ?_⟩
            · rw [show b - a + a = b by omega]
              refine ⟨hb1, ?_⟩
              rcases h2 with z | z
              · omega
              · exact z
            · rcases h1 with z | z
              · exact Or.inl z
              · exact Or.inr ⟨ha1, z⟩
        · rw [if_neg hab, Int.toNat_natCast] at h3
          omega
theorem ex_sh {t : Nat → Prop} {b B : Nat} {x y x2 : Int} (hb : b ≤ B) (h1 : x2 = 1 ↔ y = 1 ∨ ∃ b2, b + 1 ≤ b2 ∧ b2 ≤ B ∧ t b2) (h2 : y = 1 ↔ x = 1 ∨ t b) : x2 = 1 ↔ x = 1 ∨ ∃ b2, b ≤ b2 ∧ b2 ≤ B ∧ t b2 := by
  rw [h1, h2]
  constructor
  · rintro ((z | z) | ⟨b2, z1, z2, z3⟩)
    · exact Or.inl z
    · exact Or.inr ⟨b, Nat.le_refl _, hb, z⟩
    · exact Or.inr ⟨b2, by omega, z2, z3⟩
  · rintro (z | ⟨b2, z1, z2, z3⟩)
    · exact Or.inl (Or.inl z)
    · by_cases e : b2 = b
      · subst e; exact Or.inl (Or.inr z3)
      · exact Or.inr ⟨b2, by omega, z2, z3⟩
theorem ite10 {P : Prop} [Decidable P] (h : (if P then (1 : Int) else 0) = 0) : ¬ P := by
  intro hp
  rw [if_pos hp] at h
  exact absurd h (by decide)
theorem ite11 {P : Prop} [Decidable P] (h : ¬ (if P then (1 : Int) else 0) = 0) : P := by
  by_cases hp : P
  · exact hp
  · rw [if_neg hp] at h
    exact absurd rfl h
set_option maxHeartbeats 4000000 in
set_option maxRecDepth 100000 in
theorem rl_could2 (c : HC) {n : Nat} (hv : RSV c n) (p q : Nat) (hp : p < n) (hq : q < n) (d : Int) (a : Nat) (ha : a ≤ 40) (B : Nat) (hB : c 126 q = (B : Int)) (Q : Option PV → HC → Prop) : ∀ (k b : Nat) (x : Int), b + k = B + 1 → (x = 0 ∨ x = 1) → (∀ x2 : Int, (x2 = 0 ∨ x2 = 1) → (x2 = 1 ↔ x = 1 ∨ ∃ b2, b ≤ b2 ∧ b2 ≤ B ∧ cdT (c 122 1) (c 127) (c 141) p q d a b2) → TT mX11_could 2 81 [(0, vr 122), (1, vi (p : Int)), (2, vi (q : Int)), (3, vi d), (4, vi x2), (5, vi (a : Int))] [] c Q) → TT mX11_could 2 20 [(0, vr 122), (1, vi (p : Int)), (2, vi (q : Int)), (3, vi d), (4, vi x), (5, vi (a : Int)), (6, vi (b : Int))] [] c Q := by
  have hn10 := hv.2.1
  have hbq := (hv.2.2 q hq).2.1
  intro k
  induction k with
  | zero =>
    intro b x hk hx hK
    have h := hK x hx ⟨fun z => Or.inl z, fun z => z.elim id (fun ⟨b2, z1, z2, _⟩ => by omega)⟩
    refine T_iload dX11_could_20 rfl ?_
    refine T_aloadn dX11_could_22 rfl rfl ?_
    refine T_getfin dX11_could_23 fX11_19 (by first | assumption | rfl) (by first | decide | omega) rfl (by first | assumption | rfl) ?_
    refine T_iloadn dX11_could_26 rfl rfl ?_
    refine T_ialdv (j := q) dX11_could_27 (by first | assumption | rfl) (by first | decide | omega) (by omega) (by omega) hB ?_
    refine T_icmp_gt (tgt := 81) dX11_could_28 rfl (fun b28 => ?_) (fun b28 => absurd b28 (by omega))
    refine T_keep [0, 1, 2, 3, 4, 5] ?_
    exact h
  | succ k ih =>
    intro b x hk hx hK
    refine T_iload dX11_could_20 rfl ?_
    refine T_aloadn dX11_could_22 rfl rfl ?_
    refine T_getfin dX11_could_23 fX11_19 (by first | assumption | rfl) (by first | decide | omega) rfl (by first | assumption | rfl) ?_
    refine T_iloadn dX11_could_26 rfl rfl ?_
    refine T_ialdv (j := q) dX11_could_27 (by first | assumption | rfl) (by first | decide | omega) (by omega) (by omega) hB ?_
    refine T_icmp_gt (tgt := 81) dX11_could_28 rfl (fun b28 => absurd b28 (by omega)) (fun b28 => ?_)
    refine T_iload dX11_could_31 rfl ?_
    refine T_if_ne (tgt := 68) dX11_could_33 rfl (fun b33 => ?_) (fun b33 => ?_)
    · refine T_iconst dX11_could_68 (inr rfl) ?_
      refine T_goto (tgt := 73) dX11_could_69 rfl ?_
      refine T_istore dX11_could_73 (by decide) rfl ?_
      refine T_iincN dX11_could_75 rfl (by decide) rfl (by omega) ?_
      refine T_goto (tgt := 20) dX11_could_78 rfl ?_
      have hx1 : x = 1 := by omega
      refine T_keep [0, 1, 2, 3, 4, 5, 6] ?_
      exact ih (b + 1) 1 (by omega) (by omega) (fun x2 h1 h2 => hK x2 h1 (ex_sh (by omega) h2 ⟨fun _ => Or.inl hx1, fun _ => rfl⟩))
    · refine T_aloadn dX11_could_36 rfl rfl ?_
      refine T_iload dX11_could_37 rfl ?_
      refine TT_Vi dX11_could_39 (r_isLength c a (by omega)) kX11_296 (by decide) (by first | decide | omega) (by first | assumption | rfl) rfl (leb rfl) ?_
      refine T_if_eq (tgt := 72) dX11_could_42 rfl (fun b42 => ?_) (fun b42 => ?_)
      · refine T_iconst dX11_could_72 (inr rfl) ?_
        refine T_istore dX11_could_73 (by decide) rfl ?_
        refine T_iincN dX11_could_75 rfl (by decide) rfl (by omega) ?_
        refine T_goto (tgt := 20) dX11_could_78 rfl ?_
        have hx0 : ¬ x = 1 := by omega
        refine T_keep [0, 1, 2, 3, 4, 5, 6] ?_
        exact ih (b + 1) 0 (by omega) (by omega) (fun x2 h1 h2 => hK x2 h1 (ex_sh (by omega) h2 ⟨fun z => absurd z (by decide), fun z => z.elim (fun z => absurd z hx0) (fun z => absurd (show a = 0 ∨ 0 < c 141 a from z.1) (ite10 b42))⟩))
      · refine T_aloadn dX11_could_45 rfl rfl ?_
        refine T_iload dX11_could_46 rfl ?_
        refine TT_Vi dX11_could_48 (r_isLength c b (by omega)) kX11_296 (by decide) (by first | decide | omega) (by first | assumption | rfl) rfl (leb rfl) ?_
        refine T_if_eq (tgt := 72) dX11_could_51 rfl (fun b51 => ?_) (fun b51 => ?_)
        · refine T_iconst dX11_could_72 (inr rfl) ?_
          refine T_istore dX11_could_73 (by decide) rfl ?_
          refine T_iincN dX11_could_75 rfl (by decide) rfl (by omega) ?_
          refine T_goto (tgt := 20) dX11_could_78 rfl ?_
          have hx0 : ¬ x = 1 := by omega
          refine T_keep [0, 1, 2, 3, 4, 5, 6] ?_
          exact ih (b + 1) 0 (by omega) (by omega) (fun x2 h1 h2 => hK x2 h1 (ex_sh (by omega) h2 ⟨fun z => absurd z (by decide), fun z => z.elim (fun z => absurd z hx0) (fun z => absurd (show b = 0 ∨ 0 < c 141 b from z.2.1) (ite10 b51))⟩))
        · refine T_aloadn dX11_could_54 rfl rfl ?_
          refine T_iloadn dX11_could_55 rfl rfl ?_
          refine T_iload dX11_could_56 rfl ?_
          refine T_iloadn dX11_could_58 rfl rfl ?_
          refine T_iload dX11_could_59 rfl ?_
          refine TT_Vi dX11_could_61 (r_goesBy c p q (by omega) (by omega) (a : Int) (b : Int) (by omega) (by omega)) kX11_217 (by decide) (by first | decide | omega) (by first | assumption | rfl) rfl (leb rfl) ?_
          refine T_iloadn dX11_could_64 rfl rfl ?_
          refine T_icmp_ne (tgt := 72) dX11_could_65 rfl (fun b65 => ?_) (fun b65 => ?_)
          · refine T_iconst dX11_could_72 (inr rfl) ?_
            refine T_istore dX11_could_73 (by decide) rfl ?_
            refine T_iincN dX11_could_75 rfl (by decide) rfl (by omega) ?_
            refine T_goto (tgt := 20) dX11_could_78 rfl ?_
            have hx0 : ¬ x = 1 := by omega
            refine T_keep [0, 1, 2, 3, 4, 5, 6] ?_
            exact ih (b + 1) 0 (by omega) (by omega) (fun x2 h1 h2 => hK x2 h1 (ex_sh (by omega) h2 ⟨fun z => absurd z (by decide), fun z => z.elim (fun z => absurd z hx0) (fun z => absurd z.2.2 b65)⟩))
          · refine T_iconst dX11_could_68 (inr rfl) ?_
            refine T_goto (tgt := 73) dX11_could_69 rfl ?_
            refine T_istore dX11_could_73 (by decide) rfl ?_
            refine T_iincN dX11_could_75 rfl (by decide) rfl (by omega) ?_
            refine T_goto (tgt := 20) dX11_could_78 rfl ?_
            have hx0 : ¬ x = 1 := by omega
            refine T_keep [0, 1, 2, 3, 4, 5, 6] ?_
            exact ih (b + 1) 1 (by omega) (by omega) (fun x2 h1 h2 => hK x2 h1 (ex_sh (by omega) h2 ⟨fun _ => Or.inr ⟨(ite11 b42 : a = 0 ∨ 0 < c 141 a), (ite11 b51 : b = 0 ∨ 0 < c 141 b), b65⟩, fun _ => rfl⟩))
set_option maxHeartbeats 4000000 in
set_option maxRecDepth 100000 in
theorem rl_could1 (c : HC) {n : Nat} (hv : RSV c n) (p q : Nat) (hp : p < n) (hq : q < n) (d : Int) (A B : Nat) (hA : c 126 p = (A : Int)) (hB : c 126 q = (B : Int)) (Q : Option PV → HC → Prop) : ∀ (k a : Nat) (x : Int), a + k = A + 1 → (x = 0 ∨ x = 1) → (∀ x2 : Int, (x2 = 0 ∨ x2 = 1) → (x2 = 1 ↔ x = 1 ∨ ∃ a2, a ≤ a2 ∧ a2 ≤ A ∧ ∃ b, b ≤ B ∧ cdT (c 122 1) (c 127) (c 141) p q d a2 b) → Q (some (vi x2)) c) → TT mX11_could 2 6 [(0, vr 122), (1, vi (p : Int)), (2, vi (q : Int)), (3, vi d), (4, vi x), (5, vi (a : Int))] [] c (fun v c1 => Q v c1) := by
  have hn10 := hv.2.1
  have hbp := (hv.2.2 p hp).2.1
  intro k
  induction k with
  | zero =>
    intro a x hk hx hK
    have h := hK x hx ⟨fun z => Or.inl z, fun z => z.elim id (fun ⟨b2, z1, z2, _⟩ => by omega)⟩
    refine T_iload dX11_could_6 rfl ?_
    refine T_aloadn dX11_could_8 rfl rfl ?_
    refine T_getfin dX11_could_9 fX11_19 (by first | assumption | rfl) (by first | decide | omega) rfl (by first | assumption | rfl) ?_
    refine T_iloadn dX11_could_12 rfl rfl ?_
    refine T_ialdv (j := p) dX11_could_13 (by first | assumption | rfl) (by first | decide | omega) (by omega) (by omega) hA ?_
    refine T_icmp_gt (tgt := 87) dX11_could_14 rfl (fun b14 => ?_) (fun b14 => absurd b14 (by omega))
    refine T_iload dX11_could_87 rfl ?_
    refine TT_ri dX11_could_89 (by first | exact Or.inl rfl | exact Or.inr rfl | assumption) ?_
    exact h
  | succ k ih =>
    intro a x hk hx hK
    refine T_iload dX11_could_6 rfl ?_
    refine T_aloadn dX11_could_8 rfl rfl ?_
    refine T_getfin dX11_could_9 fX11_19 (by first | assumption | rfl) (by first | decide | omega) rfl (by first | assumption | rfl) ?_
    refine T_iloadn dX11_could_12 rfl rfl ?_
    refine T_ialdv (j := p) dX11_could_13 (by first | assumption | rfl) (by first | decide | omega) (by omega) (by omega) hA ?_
    refine T_icmp_gt (tgt := 87) dX11_could_14 rfl (fun b14 => absurd b14 (by omega)) (fun b14 => ?_)
    refine T_iconst dX11_could_17 (inr rfl) ?_
    refine T_istore dX11_could_18 (by decide) rfl ?_
    refine T_keep [0, 1, 2, 3, 4, 5, 6] ?_
    refine rl_could2 c hv p q hp hq d a (by omega) B hB _ (B + 1) 0 x (by omega) hx (fun y hy hy2 => ?_)
    refine T_iincN dX11_could_81 rfl (by decide) rfl (by omega) ?_
    refine T_goto (tgt := 6) dX11_could_84 rfl ?_
    refine T_keep [0, 1, 2, 3, 4, 5] ?_
    exact ih (a + 1) y (by omega) hy (fun x2 h1 h2 => hK x2 h1 (ex_sh (by omega) h2 (by
      rw [hy2]
      exact ⟨fun z => z.elim Or.inl (fun ⟨b2, _, z2, z3⟩ => Or.inr ⟨b2, z2, z3⟩), fun z => z.elim Or.inl (fun ⟨b2, z2, z3⟩ => Or.inr ⟨b2, Nat.zero_le _, z2, z3⟩)⟩)))
set_option maxHeartbeats 4000000 in
set_option maxRecDepth 100000 in
theorem r_could (c : HC) {n : Nat} (hv : RSV c n) (p q : Nat) (hp : p < n) (hq : q < n) (d : Int) (hd : -1000 ≤ d ∧ d ≤ 1000) : RO mX11_could 2 c [vr 122, vi (p : Int), vi (q : Int), vi d] (cmF (c 122 1) (c 127) (c 126) (c 141) (p : Int) (q : Int) d) := by
  have hbp := (hv.2.2 p hp).2.1
  have hbq := (hv.2.2 q hq).2.1
  have hz : cmF (c 122 1) (c 127) (c 126) (c 141) (p : Int) (q : Int) d = 0 ∨ cmF (c 122 1) (c 127) (c 126) (c 141) (p : Int) (q : Int) d = 1 := by
    unfold cmF
    split
    · exact Or.inr rfl
    · exact cmL_01 _ _ _ _ _ _ _
  have hi := cm_iff (mud := c 122 1) (wt := c 127) (bt := c 126) (wo := c 141) (p := p) (q := q) (d := d) hd (by omega) (by omega)
  refine CC.of (by decide +kernel) (leb rfl) (fun hok => ?_)
  refine T_iconst dX11_could_0 (inr rfl) ?_
  refine T_istore dX11_could_1 (by decide) rfl ?_
  refine T_iconst dX11_could_3 (inr rfl) ?_
  refine T_istore dX11_could_4 (by decide) rfl ?_
  refine rl_could1 c hv p q hp hq d (c 126 p).toNat (c 126 q).toNat (by omega) (by omega) _ ((c 126 p).toNat + 1) 0 0 (by omega) (Or.inl rfl) (fun x2 h1 h2 => ro_q ?_)
  have e : x2 = 1 ↔ cmF (c 122 1) (c 127) (c 126) (c 141) (p : Int) (q : Int) d = 1 := by
    rw [h2, hi]
    exact ⟨fun z => z.elim (fun z => absurd z (by decide)) (fun ⟨a, _, z2, z3⟩ => ⟨a, z2, z3⟩), fun ⟨a, z2, z3⟩ => Or.inr ⟨a, Nat.zero_le _, z2, z3⟩⟩
  rcases h1 with k1 | k1 <;> rcases hz with k2 | k2
  · rw [k1, k2]
  · exact absurd (e.mpr k2) (by rw [k1]; decide)
  · exact absurd (e.mp k1) (by rw [k2]; decide)
  · rw [k1, k2]
def spR (t : Nat → Nat → Int) (i : Int) : Nat → Nat → Int → Int
  | 0, _, fo => if i = -1 then fo else -1
  | k + 1, pr, fo => if t (pr / 10) (pr % 10) = 0 then spR t i k (pr + 1) fo else if fo = i then (pr : Int) else spR t i k (pr + 1) (fo + 1)
theorem spR_row (t : Nat → Nat → Int) (i : Int) (p K : Nat) : ∀ (k q : Nat) (fo : Int), q + k = 10 → spR t i (k + K) (10 * p + q) fo = match spQ t i p k q fo with
    | .inl fo2 => spR t i K (10 * (p + 1)) fo2
    | .inr r => r
  | 0, q, fo, h => by
    have e : q = 10 := by omega
    subst e
    rw [show 10 * p + 10 = 10 * (p + 1) by omega, Nat.zero_add]
    rfl
  | k + 1, q, fo, h => by
    rw [show k + 1 + K = (k + K) + 1 by omega, spR.eq_2, spQ.eq_2, show (10 * p + q) / 10 = p by omega, show (10 * p + q) % 10 = q by omega]
    by_cases h0 : t p q = 0
    · rw [if_pos h0, if_pos h0]
      exact spR_row t i p K k (q + 1) fo (by omega)
    · rw [if_neg h0, if_neg h0]
      by_cases h1 : fo = i
      · rw [if_pos h1, if_pos h1]
        show ((10 * p + q : Nat) : Int) = 10 * (p : Int) + (q : Int)
        omega
      · rw [if_neg h1, if_neg h1]
        exact spR_row t i p K k (q + 1) (fo + 1) (by omega)
theorem spQ_zero (t : Nat → Nat → Int) (i : Int) (p : Nat) : ∀ (k q : Nat) (fo : Int), (∀ r, q ≤ r → r < q + k → t p r = 0) → spQ t i p k q fo = .inl fo
  | 0, _, _, _ => rfl
  | k + 1, q, fo, h => by
    rw [spQ.eq_2, if_pos (h q (Nat.le_refl _) (by omega))]
    exact spQ_zero t i p k (q + 1) fo (fun r h1 h2 => h r (by omega) (by omega))
theorem spQ_ext (t : Nat → Nat → Int) (i : Int) (p m : Nat) : ∀ (k q : Nat) (fo : Int), (∀ r, q + k ≤ r → t p r = 0) → spQ t i p (k + m) q fo = spQ t i p k q fo
  | 0, q, fo, h => by
    rw [Nat.zero_add]
    exact spQ_zero t i p m q fo (fun r h1 _ => h r (by omega))
  | k + 1, q, fo, h => by
    rw [show k + 1 + m = (k + m) + 1 by omega, spQ.eq_2, spQ.eq_2, spQ_ext t i p m k (q + 1) fo (fun r h1 => h r (by omega)), spQ_ext t i p m k (q + 1) (fo + 1) (fun r h1 => h r (by omega))]
theorem spR_zero (t : Nat → Nat → Int) (i : Int) : ∀ (k pr : Nat) (fo : Int), (∀ r, pr ≤ r → t (r / 10) (r % 10) = 0) → spR t i k pr fo = if i = -1 then fo else -1
  | 0, _, _, _ => rfl
  | k + 1, pr, fo, h => by
    rw [spR.eq_2, if_pos (h pr (Nat.le_refl _))]
    exact spR_zero t i k (pr + 1) fo (fun r h1 => h r (by omega))
theorem spP_R {t : Nat → Nat → Int} {i : Int} {n : Nat} (hn : n ≤ 10) (h1 : ∀ p q, n ≤ p → t p q = 0) (h2 : ∀ p q, n ≤ q → t p q = 0) : ∀ (k p : Nat) (fo : Int), p + k = n → spR t i (100 - 10 * p) (10 * p) fo = spP t i n k p fo
  | 0, p, fo, h => by
    unfold spP
    exact spR_zero t i _ _ fo (fun r hr => h1 _ _ (by omega))
  | k + 1, p, fo, h => by
    have e := spR_row t i p (100 - 10 * (p + 1)) 10 0 fo (by omega)
    rw [show 10 + (100 - 10 * (p + 1)) = 100 - 10 * p by omega, Nat.add_zero] at e
    rw [e]
    have e2 := spQ_ext t i p (10 - n) n 0 fo (fun r hr => h2 p r (by omega))
    rw [show n + (10 - n) = 10 by omega] at e2
    rw [e2]
    unfold spP
    cases spQ t i p n 0 fo with
    | inl fo2 => exact spP_R hn h1 h2 k (p + 1) fo2 (by omega)
    | inr r => rfl
theorem isOf_hi {n : Nat} {sd : Nat → Int} {s : Int} {p : Nat} (h : n ≤ p) : isOfF n sd s (p : Int) = 0 := by
  unfold isOfF
  rw [if_neg (by omega)]
set_option maxHeartbeats 4000000 in
set_option maxRecDepth 100000 in
theorem yl_spoke (c : HC) {n : Nat} (hv : RSV c n) (j i : Int) (hj : 0 ≤ j ∧ j < 8) (hd : -1000 ≤ c 144 j.toNat ∧ c 144 j.toNat ≤ 1000) : ∀ (k pr : Nat) (fo : Int), pr + k = 100 → 0 ≤ fo → fo ≤ pr → TT mX11_spoke 3 23 [(0, vr 122), (1, vi j), (2, vi i), (3, vi fo), (4, vi (pr : Int))] [] c (fun v c1 => v = some (vi (spR (tC n (c 125) (c 122 1) (c 127) (c 126) (c 141) (c 144 j.toNat)) i k pr fo)) ∧ c1 = c) := by
  intro k
  induction k with
  | zero =>
    intro pr fo hk h0 h1
    unfold spR
    refine T_iload dX11_spoke_23 rfl ?_
    refine T_bipush dX11_spoke_25 (bp8 rfl) (inr rfl) ?_
    refine T_icmp_ge (tgt := 96) dX11_spoke_27 rfl (fun b27 => ?_) (fun b27 => absurd b27 (by omega))
    refine T_iloadn dX11_spoke_96 rfl rfl ?_
    refine T_iconst dX11_spoke_97 (inr rfl) ?_
    refine T_icmp_ne (tgt := 105) dX11_spoke_98 rfl (fun b98 => ?_) (fun b98 => ?_)
    · refine T_iconst dX11_spoke_105 (inr rfl) ?_
      refine TT_ri dX11_spoke_106 trivial ?_
      exact ro_q (by rw [if_neg b98])
    · refine T_iloadn dX11_spoke_101 rfl rfl ?_
      refine T_goto (tgt := 106) dX11_spoke_102 rfl ?_
      refine TT_ri dX11_spoke_106 trivial ?_
      exact ro_q (by rw [if_pos b98])
  | succ k ih =>
    intro pr fo hk h0 h1
    rw [spR.eq_2]
    refine T_iload dX11_spoke_23 rfl ?_
    refine T_bipush dX11_spoke_25 (bp8 rfl) (inr rfl) ?_
    refine T_icmp_ge (tgt := 96) dX11_spoke_27 rfl (fun b27 => absurd b27 (by omega)) (fun b27 => ?_)
    refine T_aloadn dX11_spoke_30 rfl rfl ?_
    refine T_iload dX11_spoke_31 rfl ?_
    refine T_bipush dX11_spoke_33 (bp8 rfl) (inr rfl) ?_
    first | refine T_idivN dX11_spoke_35 (by omega) (by omega) ?_ | refine T_idiv dX11_spoke_35 (by omega) ?_
    rw [show ((pr : Int) / 10) = ((pr / 10 : Nat) : Int) by omega]
    refine T_iconst dX11_spoke_36 (inr rfl) ?_
    refine TT_Vi dX11_spoke_37 (r_isOf c hv _ 0) kX11_231 (by decide) (by first | decide | omega) (by first | assumption | rfl) rfl (leb rfl) ?_
    refine T_if_eq (tgt := 90) dX11_spoke_40 rfl (fun b40 => ?_) (fun b40 => ?_)
    · refine T_iincN dX11_spoke_90 rfl (by decide) rfl (by omega) ?_
      refine T_goto (tgt := 23) dX11_spoke_93 rfl ?_
      refine T_keep [0, 1, 2, 3, 4] ?_
      have e : (tC n (c 125) (c 122 1) (c 127) (c 126) (c 141) (c 144 j.toNat)) (pr / 10) (pr % 10) = 0 := by unfold tC opF; rw [if_pos b40, if_pos rfl]
      rw [if_pos e]
      exact ih (pr + 1) fo (by omega) (by omega) (by omega)
    · refine T_aloadn dX11_spoke_43 rfl rfl ?_
      refine T_iload dX11_spoke_44 rfl ?_
      refine T_bipush dX11_spoke_46 (bp8 rfl) (inr rfl) ?_
      first | refine T_iremN dX11_spoke_48 (by omega) (by omega) ?_ | refine T_irem dX11_spoke_48 (by omega) ?_
      rw [show ((pr : Int) % 10) = ((pr % 10 : Nat) : Int) by omega]
      refine T_iconst dX11_spoke_49 (inr rfl) ?_
      refine TT_Vi dX11_spoke_50 (r_isOf c hv _ 1) kX11_231 (by decide) (by first | decide | omega) (by first | assumption | rfl) rfl (leb rfl) ?_
      refine T_if_eq (tgt := 90) dX11_spoke_53 rfl (fun b53 => ?_) (fun b53 => ?_)
      · refine T_iincN dX11_spoke_90 rfl (by decide) rfl (by omega) ?_
        refine T_goto (tgt := 23) dX11_spoke_93 rfl ?_
        refine T_keep [0, 1, 2, 3, 4] ?_
        have e : (tC n (c 125) (c 122 1) (c 127) (c 126) (c 141) (c 144 j.toNat)) (pr / 10) (pr % 10) = 0 := by unfold tC opF; rw [if_neg b40, if_pos b53, if_pos rfl]
        rw [if_pos e]
        exact ih (pr + 1) fo (by omega) (by omega) (by omega)
      · obtain ⟨_, hpe, hpn, _⟩ := isOf_nz b40
        obtain ⟨_, hqe, hqn, _⟩ := isOf_nz b53
        refine T_aloadn dX11_spoke_56 rfl rfl ?_
        refine T_iload dX11_spoke_57 rfl ?_
        refine T_bipush dX11_spoke_59 (bp8 rfl) (inr rfl) ?_
        first | refine T_idivN dX11_spoke_61 (by omega) (by omega) ?_ | refine T_idiv dX11_spoke_61 (by omega) ?_
        rw [show ((pr : Int) / 10) = ((pr / 10 : Nat) : Int) by omega]
        refine T_iload dX11_spoke_62 rfl ?_
        refine T_bipush dX11_spoke_64 (bp8 rfl) (inr rfl) ?_
        first | refine T_iremN dX11_spoke_66 (by omega) (by omega) ?_ | refine T_irem dX11_spoke_66 (by omega) ?_
        rw [show ((pr : Int) % 10) = ((pr % 10 : Nat) : Int) by omega]
        refine T_aloadn dX11_spoke_67 rfl rfl ?_
        refine T_getfin dX11_spoke_68 fX11_77 (by first | assumption | rfl) (by first | decide | omega) rfl (by first | assumption | rfl) ?_
        refine T_iloadn dX11_spoke_71 rfl rfl ?_
        refine T_iald (j := j.toNat) dX11_spoke_72 (by first | assumption | rfl) (by first | decide | omega) (by omega) (by omega) ?_
        refine TT_Vi dX11_spoke_73 (r_could c hv (pr / 10) (pr % 10) (by omega) (by omega) _ hd) kX11_299 (by decide) (by first | decide | omega) (by first | assumption | rfl) rfl (leb rfl) ?_
        refine T_if_eq (tgt := 90) dX11_spoke_76 rfl (fun b76 => ?_) (fun b76 => ?_)
        · refine T_iincN dX11_spoke_90 rfl (by decide) rfl (by omega) ?_
          refine T_goto (tgt := 23) dX11_spoke_93 rfl ?_
          refine T_keep [0, 1, 2, 3, 4] ?_
          have e : (tC n (c 125) (c 122 1) (c 127) (c 126) (c 141) (c 144 j.toNat)) (pr / 10) (pr % 10) = 0 := by unfold tC opF; rw [if_neg b40, if_neg b53, if_neg (by decide)]; exact b76
          rw [if_pos e]
          exact ih (pr + 1) fo (by omega) (by omega) (by omega)
        · refine T_iloadn dX11_spoke_79 rfl rfl ?_
          refine T_iloadn dX11_spoke_80 rfl rfl ?_
          refine T_icmp_ne (tgt := 87) dX11_spoke_81 rfl (fun b81 => ?_) (fun b81 => ?_)
          · refine T_iincN dX11_spoke_87 rfl (by decide) rfl (by omega) ?_
            refine T_iincN dX11_spoke_90 rfl (by decide) rfl (by omega) ?_
            refine T_goto (tgt := 23) dX11_spoke_93 rfl ?_
            refine T_keep [0, 1, 2, 3, 4] ?_
            have e : ¬ (tC n (c 125) (c 122 1) (c 127) (c 126) (c 141) (c 144 j.toNat)) (pr / 10) (pr % 10) = 0 := by unfold tC opF; rw [if_neg b40, if_neg b53, if_neg (by decide)]; exact b76
            rw [if_neg e, if_neg b81]
            exact ih (pr + 1) (fo + 1) (by omega) (by omega) (by omega)
          · refine T_iload dX11_spoke_84 rfl ?_
            refine TT_ri dX11_spoke_86 trivial ?_
            have e : ¬ (tC n (c 125) (c 122 1) (c 127) (c 126) (c 141) (c 144 j.toNat)) (pr / 10) (pr % 10) = 0 := by unfold tC opF; rw [if_neg b40, if_neg b53, if_neg (by decide)]; exact b76
            exact ro_q (by rw [if_neg e, if_pos b81])
set_option maxHeartbeats 4000000 in
set_option maxRecDepth 100000 in
theorem y_spoke (c : HC) {n : Nat} (hv : RSV c n) (m : Nat) (hm : c 122 37 = (m : Int)) (h8 : m ≤ 8) (hd : ∀ k, k < m → -99 ≤ c 144 k ∧ c 144 k ≤ 99) (j i : Int) : RO mX11_spoke 3 c [vr 122, vi j, vi i] (spkeF m j (spP (tC n (c 125) (c 122 1) (c 127) (c 126) (c 141) (c 144 j.toNat)) i n n 0 0)) := by
  have hn10 := hv.2.1
  refine CC.of (by decide +kernel) (leb rfl) (fun hok => ?_)
  unfold spkeF
  refine T_iloadn dX11_spoke_0 rfl rfl ?_
  refine T_i2l dX11_spoke_1 ?_
  refine T_lconst (z := 0) dX11_spoke_2 rfl (inl rfl) ?_
  refine T_aloadn dX11_spoke_3 rfl rfl ?_
  refine T_getv dX11_spoke_4 fX11_191 (by first | assumption | rfl) (by first | decide | omega) rfl hm ?_
  refine T_iconst dX11_spoke_7 (inr rfl) ?_
  first | refine T_isubN dX11_spoke_8 (by omega) ?_ | refine T_isub dX11_spoke_8 ?_
  refine T_i2l dX11_spoke_9 ?_
  refine TT_Si dX11_spoke_10 (r_in c j 0 ((m : Int) - 1)) kX11_96 (by decide) rfl (leb rfl) ?_
  refine T_if_ne (tgt := 18) dX11_spoke_13 rfl (fun b13 => ?_) (fun b13 => ?_)
  · have hi := inF_t b13
    refine T_iconst dX11_spoke_18 (inr rfl) ?_
    refine T_istoren dX11_spoke_19 rfl (by decide) rfl ?_
    refine T_iconst dX11_spoke_20 (inr rfl) ?_
    refine T_istore dX11_spoke_21 (by decide) rfl ?_
    rw [if_neg (by omega)]
    have hdj := hd j.toNat (by omega)
    have h := yl_spoke c hv j i (by omega) (by omega) 100 0 0 (by omega) (by omega) (by omega)
    have e := spP_R (t := (tC n (c 125) (c 122 1) (c 127) (c 126) (c 141) (c 144 j.toNat))) (i := i) (n := n) hn10 (fun p q h => by unfold tC opF; rw [isOf_hi h, if_pos rfl, if_pos rfl]) (fun p q h => by
      unfold tC opF
      rw [isOf_hi h]
      split
      · rw [if_pos rfl]
      · rw [if_pos rfl, if_pos rfl]) n 0 0 (by omega)
    rw [show 100 - 10 * 0 = 100 from rfl, show 10 * 0 = 0 from rfl] at e
    rw [e] at h
    exact h
  · refine T_iconst dX11_spoke_16 (inr rfl) ?_
    refine TT_ri dX11_spoke_17 trivial ?_
    have hi := inF_f b13
    exact ro_q (by rw [if_pos (by omega)])
