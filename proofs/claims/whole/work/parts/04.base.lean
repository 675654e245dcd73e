/-! The plain machine: values are whole numbers, cells are rows of whole numbers; first its words -/
abbrev PV : Type := Int ⊕ (Int ⊕ (Nat ⊕ Unit))
abbrev vi (z : Int) : PV := Sum.inl z
abbrev vl (z : Int) : PV := Sum.inr (Sum.inl z)
abbrev vr (n : Nat) : PV := Sum.inr (Sum.inr (Sum.inl n))
abbrev vscr : PV := Sum.inr (Sum.inr (Sum.inr ()))
abbrev HC : Type := Nat → Nat → Int
abbrev SHP : Type := List (Nat × Nat)
abbrev MI : Type := MethodName × ByteArray × Nat × Option FieldType
abbrev PL : Type := List (Nat × PV)
def InR (z : Int) : Prop := -2147483648 ≤ z ∧ z ≤ 2147483647
def InL (z : Int) : Prop := -9223372036854775808 ≤ z ∧ z ≤ 9223372036854775807
def wr (z : Int) : Int := (z + 2147483648) % 4294967296 - 2147483648
def wl (z : Int) : Int := (z + 9223372036854775808) % 18446744073709551616 - 9223372036854775808
def i32 (z : Int) : Int32 := Int32.ofInt z
def i64 (z : Int) : Int64 := Int64.ofInt z
def rf (b n : Nat) : Value := if n = 0 then .null else .ref (b + n)
def cv (b qs : Nat) : PV → Value
  | .inl z => .int (i32 z)
  | .inr (.inl z) => .long (i64 z)
  | .inr (.inr (.inl n)) => rf b n
  | .inr (.inr (.inr _)) => .ref qs
def okv : PV → Prop
  | .inl z => InR z
  | .inr (.inl z) => InL z
  | .inr (.inr _) => True
def band (a b : Int) : Int := (i32 a &&& i32 b).toInt
def bor (a b : Int) : Int := (i32 a ||| i32 b).toInt
def bxor (a b : Int) : Int := (i32 a ^^^ i32 b).toInt
def bushr (a b : Int) : Int := ((i32 a).toUInt32 >>> ((i32 b).toUInt32 &&& Int32.toUInt32 31)).toInt32.toInt
def lband (a b : Int) : Int := (i64 a &&& i64 b).toInt
def lbor (a b : Int) : Int := (i64 a ||| i64 b).toInt
def lbushr (a b : Int) : Int := ((i64 a).toUInt64 >>> ((i32 b).toInt64.toUInt64 &&& Int64.toUInt64 63)).toInt64.toInt
def lbshl (a b : Int) : Int := (i64 a <<< ((i32 b).toInt64 &&& 63)).toInt
def lcm (a b : Int) : Int := if a > b then 1 else if a = b then 0 else -1
def up2 (c : HC) (a k : Nat) (v : Int) : HC := fun x y => if (x == a && y == k) = true then v else c x y
theorem wr_in (z : Int) : InR (wr z) := by unfold InR wr; omega
theorem wl_in (z : Int) : InL (wl z) := by unfold InL wl; omega
theorem wr_id {z : Int} (h1 : -2147483648 ≤ z) (h2 : z ≤ 2147483647) : wr z = z := by unfold wr; omega
theorem wl_id {z : Int} (h1 : -9223372036854775808 ≤ z) (h2 : z ≤ 9223372036854775807) : wl z = z := by unfold wl; omega
theorem i32_toInt {z : Int} (h : InR z) : (i32 z).toInt = z := Int32.toInt_ofInt_of_le (by have := h.1; omega) (by have := h.2; omega)
theorem i64_toInt {z : Int} (h : InL z) : (i64 z).toInt = z := Int64.toInt_ofInt_of_le (by have := h.1; omega) (by have := h.2; omega)
theorem i32_toI (x : Int32) : i32 x.toInt = x := Int32.ofInt_toInt x
theorem i64_toI (x : Int64) : i64 x.toInt = x := Int64.ofInt_toInt x
theorem InR_toInt (x : Int32) : InR x.toInt := ⟨Int32.le_toInt x, by have := Int32.toInt_lt x; omega⟩
theorem InL_toInt (x : Int64) : InL x.toInt := ⟨Int64.le_toInt x, by have := Int64.toInt_lt x; omega⟩
theorem wr_bmod (z : Int) : z.bmod 4294967296 = wr z := by unfold Int.bmod wr; dsimp only; split <;> omega
theorem wl_bmod (z : Int) : z.bmod 18446744073709551616 = wl z := by unfold Int.bmod wl; dsimp only; split <;> omega
theorem i32_wr (z : Int) : i32 (wr z) = i32 z := by
  have h : (i32 z).toInt = wr z := by rw [← wr_bmod]; exact Int32.toInt_ofInt
  rw [← h, i32_toI]
theorem i64_wl (z : Int) : i64 (wl z) = i64 z := by
  have h : (i64 z).toInt = wl z := by rw [← wl_bmod]; exact Int64.toInt_ofInt
  rw [← h, i64_toI]
theorem i32_inj {x y : Int32} (h : x.toInt = y.toInt) : x = y := Int32.toInt_inj.mp h
theorem i64_inj {x y : Int64} (h : x.toInt = y.toInt) : x = y := Int64.toInt_inj.mp h
theorem i32_add (a b : Int) : i32 a + i32 b = i32 (wr (a + b)) := by rw [i32_wr]; exact (Int32.ofInt_add a b).symm
theorem i32_sub (a b : Int) : i32 a - i32 b = i32 (wr (a - b)) := by rw [i32_wr]; exact (Int32.ofInt_sub a b).symm
theorem i32_mul (a b : Int) : i32 a * i32 b = i32 (wr (a * b)) := by rw [i32_wr]; exact (Int32.ofInt_mul a b).symm
theorem i32_neg (a : Int) : - i32 a = i32 (wr (-a)) := by rw [i32_wr]; exact (Int32.ofInt_neg a).symm
theorem i64_add (a b : Int) : i64 a + i64 b = i64 (wl (a + b)) := by rw [i64_wl]; exact (Int64.ofInt_add a b).symm
theorem i64_mul (a b : Int) : i64 a * i64 b = i64 (wl (a * b)) := by rw [i64_wl]; exact (Int64.ofInt_mul a b).symm
theorem tdiv_in {a b : Int} (ha : InR a) (hb : 0 < b) : InR (a.tdiv b) := by
  unfold InR at *
  rcases Int.le_total 0 a with h | h
  · have h1 : a.tdiv b = a / b := Int.tdiv_eq_ediv_of_nonneg h
    have h2 : a / b ≤ a := Int.ediv_le_self b h
    have h3 : 0 ≤ a / b := Int.ediv_nonneg h (Int.le_of_lt hb)
    omega
  · have h0 : a.tdiv b = -((-a).tdiv b) := by rw [Int.neg_tdiv, Int.neg_neg]
    have h1 : (-a).tdiv b = (-a) / b := Int.tdiv_eq_ediv_of_nonneg (by omega)
    have h2 : (-a) / b ≤ -a := Int.ediv_le_self b (by omega)
    have h3 : 0 ≤ (-a) / b := Int.ediv_nonneg (by omega) (Int.le_of_lt hb)
    omega
theorem tdivL_in {a b : Int} (ha : InL a) (hb : 0 < b) : InL (a.tdiv b) := by
  unfold InL at *
  rcases Int.le_total 0 a with h | h
  · have h1 : a.tdiv b = a / b := Int.tdiv_eq_ediv_of_nonneg h
    have h2 : a / b ≤ a := Int.ediv_le_self b h
    have h3 : 0 ≤ a / b := Int.ediv_nonneg h (Int.le_of_lt hb)
    omega
  · have h0 : a.tdiv b = -((-a).tdiv b) := by rw [Int.neg_tdiv, Int.neg_neg]
    have h1 : (-a).tdiv b = (-a) / b := Int.tdiv_eq_ediv_of_nonneg (by omega)
    have h2 : (-a) / b ≤ -a := Int.ediv_le_self b (by omega)
    have h3 : 0 ≤ (-a) / b := Int.ediv_nonneg (by omega) (Int.le_of_lt hb)
    omega
theorem i32_div {a b : Int} (ha : InR a) (hb : InR b) (h0 : 0 < b) : i32 a / i32 b = i32 (a.tdiv b) := by
  apply i32_inj
  have h := tdiv_in ha h0
  rw [i32_toInt h, Int32.toInt_div, i32_toInt ha, i32_toInt hb]
  rw [show (2 ^ 32 : Nat) = 4294967296 from rfl, wr_bmod]
  exact wr_id h.1 h.2
theorem i64_div {a b : Int} (ha : InL a) (hb : InL b) (h0 : 0 < b) : i64 a / i64 b = i64 (a.tdiv b) := by
  apply i64_inj
  have h := tdivL_in ha h0
  rw [i64_toInt h, Int64.toInt_div, i64_toInt ha, i64_toInt hb]
  rw [show (2 ^ 64 : Nat) = 18446744073709551616 from rfl, wl_bmod]
  exact wl_id h.1 h.2
theorem tmod_in {a b : Int} (h0 : 0 < b) (hb : InR b) : InR (a.tmod b) := by
  have h := tmod_bounds (a := a) h0
  unfold InR at *
  omega
theorem tmodL_in {a b : Int} (h0 : 0 < b) (hb : InL b) : InL (a.tmod b) := by
  have h := tmod_bounds (a := a) h0
  unfold InL at *
  omega
theorem i32_rem {a b : Int} (ha : InR a) (hb : InR b) (h0 : 0 < b) : i32 a - i32 a / i32 b * i32 b = i32 (a.tmod b) := by
  apply i32_inj
  rw [rem_toInt, i32_toInt ha, i32_toInt hb, i32_toInt (tmod_in h0 hb)]
theorem i64_rem {a b : Int} (ha : InL a) (hb : InL b) (h0 : 0 < b) : i64 a - i64 a / i64 b * i64 b = i64 (a.tmod b) := by
  rw [i64_div ha hb h0, i64_mul, i64_wl, ← show i64 (a - a.tdiv b * b) = i64 a - i64 (a.tdiv b * b) from Int64.ofInt_sub _ _]
  congr 1
  have := Int.tmod_add_tdiv_mul a b
  omega
theorem i32_band (a b : Int) : i32 a &&& i32 b = i32 (band a b) := (i32_toI _).symm
theorem i32_bor (a b : Int) : i32 a ||| i32 b = i32 (bor a b) := (i32_toI _).symm
theorem i32_bxor (a b : Int) : i32 a ^^^ i32 b = i32 (bxor a b) := (i32_toI _).symm
theorem i32_lt {a b : Int} (ha : InR a) (hb : InR b) : i32 a < i32 b ↔ a < b := by rw [Int32.lt_iff_toInt_lt, i32_toInt ha, i32_toInt hb]
theorem i32_le {a b : Int} (ha : InR a) (hb : InR b) : i32 a ≤ i32 b ↔ a ≤ b := by rw [Int32.le_iff_toInt_le, i32_toInt ha, i32_toInt hb]
theorem i32_eq {a b : Int} (ha : InR a) (hb : InR b) : i32 a = i32 b ↔ a = b := ⟨fun h => by have := congrArg Int32.toInt h; rwa [i32_toInt ha, i32_toInt hb] at this, fun h => by rw [h]⟩
theorem i32_0 : (0 : Int32) = i32 0 := rfl
theorem InR0 : InR 0 := by unfold InR; omega
theorem i32_clamp {z : Int} (h : InR z) (h0 : 0 ≤ z) : (i32 z).toNatClampNeg = z.toNat := by
  show (i32 z).toInt.toNat = z.toNat
  rw [i32_toInt h]
theorem i32_in {z : Int} {n : Nat} (h : InR z) (h0 : 0 ≤ z) (h1 : z < n) : vp_in (i32 z) n := by
  rw [vp_in_iff, i32_toInt h]
  exact ⟨h0, h1⟩
theorem sm5 : ∀ n : Nat, n < 32 → ((Int32.ofNat n &&& 31).toBitVec.smod 32).toNat = n := by decide +kernel
theorem i32_nat (n : Nat) : i32 (n : Int) = Int32.ofNat n := rfl
theorem i32_shl {a b : Int} (hb0 : 0 ≤ b) (hb1 : b < 32) : i32 a <<< (i32 b &&& 31) = i32 (wr (a * 2 ^ b.toNat)) := by
  obtain ⟨n, rfl⟩ := Int.eq_ofNat_of_zero_le hb0
  have hn : n < 32 := by omega
  have h := pk_shl (i32 a) (i32 (n : Int) &&& 31) n (by rw [i32_nat]; exact sm5 n hn)
  rw [i32_wr]
  apply Int32.toBitVec_inj.mp
  apply BitVec.eq_of_toNat_eq
  rw [h]
  rw [Int.toNat_natCast]
  rw [show i32 (a * 2 ^ n) = i32 a * i32 ((2 ^ n : Nat) : Int) by rw [i32_mul, i32_wr, Int.natCast_pow]; rfl]
  rw [show (i32 a * i32 ((2 ^ n : Nat) : Int)).toBitVec = (i32 a).toBitVec * (i32 ((2 ^ n : Nat) : Int)).toBitVec from rfl, BitVec.toNat_mul]
  rw [i32_nat, show (Int32.ofNat (2 ^ n)).toBitVec = BitVec.ofNat 32 (2 ^ n) from rfl, BitVec.toNat_ofNat, Nat.mod_eq_of_lt (Nat.pow_lt_pow_right (by decide) hn)]
theorem i32_shr {a b : Int} (ha : InR a) (hb0 : 0 ≤ b) (hb1 : b < 32) : i32 a >>> (i32 b &&& 31) = i32 (a / 2 ^ b.toNat) ∧ InR (a / 2 ^ b.toNat) := by
  obtain ⟨n, rfl⟩ := Int.eq_ofNat_of_zero_le hb0
  have hn : n < 32 := by omega
  have h := pk_shr (i32 a) (i32 (n : Int) &&& 31) n (by rw [i32_nat]; exact sm5 n hn)
  rw [i32_toInt ha, Int.shiftRight_eq_div_pow] at h
  rw [Int.toNat_natCast]
  have e : (a / ((2 ^ n : Nat) : Int)) = a / 2 ^ n := by rw [Int.natCast_pow]; rfl
  rw [e] at h
  refine ⟨?_, ?_⟩
  · rw [← h, i32_toI]
  · rw [← h]; exact InR_toInt _
theorem i2c_eq {a : Int} (ha : InR a) : ((i32 a).toUInt32 % 65536).toInt32 = i32 (a % 65536) := by
  rw [pk_char, show nI ((i32 a).toBitVec.toNat % 65536) = i32 (((i32 a).toBitVec.toNat % 65536 : Nat) : Int) from rfl]
  congr 1
  have h : ((i32 a).toBitVec.toNat : Int) = a % 4294967296 := by
    have h1 := BitVec.toInt_eq_toNat_bmod (i32 a).toBitVec
    have h2 : (i32 a).toBitVec.toInt = a := i32_toInt ha
    rw [h2] at h1
    have h3 := (i32 a).toBitVec.isLt
    have h4 : a = wr ((i32 a).toBitVec.toNat : Int) := by rw [← wr_bmod]; exact h1
    unfold wr at h4
    omega
  omega
theorem sxl {z : Int} (h : InR z) : (i32 z).toInt64 = i64 z := by
  apply i64_inj
  rw [Int32.toInt_toInt64, i32_toInt h, i64_toInt (by unfold InR at h; unfold InL; omega)]
theorem l2i_eq (z : Int) (h : InL z) : (i64 z).toInt32 = i32 (wr z) := by
  apply i32_inj
  rw [Int64.toInt_toInt32, i64_toInt h, i32_toInt (wr_in z), ← wr_bmod]
theorem lcm_eq {a b : Int} (ha : InL a) (hb : InL b) : lg_cmp (i64 a) (i64 b) = i32 (lcm a b) := by
  have h1 : (i64 a > i64 b) ↔ a > b := by
    show i64 b < i64 a ↔ b < a
    rw [Int64.lt_iff_toInt_lt, i64_toInt ha, i64_toInt hb]
  have h2 : (i64 a = i64 b) ↔ a = b := ⟨fun h => by have := congrArg Int64.toInt h; rwa [i64_toInt ha, i64_toInt hb] at this, fun h => by rw [h]⟩
  unfold lg_cmp lcm
  by_cases h : a > b
  · rw [if_pos (h1.mpr h), if_pos h]; rfl
  · rw [if_neg (fun q => h (h1.mp q)), if_neg h]
    by_cases e : a = b
    · rw [if_pos (h2.mpr e), if_pos e]; rfl
    · rw [if_neg (fun q => e (h2.mp q)), if_neg e]; rfl
theorem up2_s (c : HC) (a k : Nat) (v : Int) : up2 c a k v a k = v := by simp [up2]
theorem up2_a (c : HC) {a k x y : Nat} (v : Int) (h : x ≠ a) : up2 c a k v x y = c x y := by simp [up2, h]
theorem up2_k (c : HC) {a k x y : Nat} (v : Int) (h : y ≠ k) : up2 c a k v x y = c x y := by simp [up2, h]
theorem up2_in {c : HC} {a k : Nat} {v : Int} (h : ∀ x y, InR (c x y)) (hv : InR v) : ∀ x y, InR (up2 c a k v x y) := by
  intro x y
  unfold up2
  split
  · exact hv
  · exact h x y
