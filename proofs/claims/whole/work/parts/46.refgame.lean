/-! the reference: game -/
theorem clrN : ∀ s, s < 1024 → ∀ i, i < 10 → s.testBit i = true → s &&& (2 ^ i ^^^ 4294967295) = s - 2 ^ i := by decide +kernel
theorem and_clr {s i : Nat} (hs : s < 1024) (hi : i < 10) (hb : s.testBit i = true) : band (s : Int) (bxor (wr (1 * 2 ^ ((i : Int)).toNat)) (-1)) = ((s - 2 ^ i : Nat) : Int) := by
  have hp : 2 ^ i ≤ 1024 := Nat.pow_le_pow_right (n := 2) (by decide) (show i ≤ 10 by omega)
  rw [shl1 (by omega)]
  unfold band bxor
  rw [i32_toI, i32_int]
  rw [show (i32 (s : Int) &&& (i32 ((2 ^ i : Nat) : Int) ^^^ i32 (-1))).toBitVec = (i32 (s : Int)).toBitVec &&& ((i32 ((2 ^ i : Nat) : Int)).toBitVec ^^^ (i32 (-1)).toBitVec) from rfl, BitVec.toNat_and, BitVec.toNat_xor, i32_tnN (by omega), i32_tnN (by omega), show (i32 (-1)).toBitVec.toNat = 4294967295 from rfl, clrN s hs i hi hb]
  have hu : s - 2 ^ i ≤ s := Nat.sub_le _ _
  generalize s - 2 ^ i = u at hu
  exact wr_id (by omega) (by omega)
theorem bitI_tb {s k : Nat} (h : s < 1024) : bitI (s : Int) (k : Int) = if s.testBit k = true then 1 else 0 := by
  unfold bitI
  rw [band_tb h]
  split
  · rw [if_pos rfl]
  · rw [if_neg (by decide)]
theorem mxU_hi {V : Nat → Nat → Int} {s l n : Nat} (hs : s < 2 ^ n) : ∀ k, mxU V s l (n + k) = mxU V s l n
  | 0 => rfl
  | k + 1 => by
    have h : s.testBit (n + k) = false := Nat.testBit_lt_two_pow (Nat.lt_of_lt_of_le hs (Nat.pow_le_pow_right (by decide) (by omega)))
    rw [show n + (k + 1) = (n + k) + 1 by omega, mxU.eq_2, if_neg (fun z => by rw [h] at z; exact absurd z.1.1 (by decide))]
    exact mxU_hi hs k
def GR (c : HC) (n s l : Nat) : Prop := ∀ s2 l2, l2 ≤ n → (s2 < s ∨ (s2 = s ∧ l2 < l)) → c 143 (11 * s2 + l2) = gV s2 l2
def FR3 (c c2 : HC) : Prop := ∀ x, x ≠ 143 → c2 x = c x
theorem GR_put {c : HC} {n s l : Nat} (hn : n ≤ 10) (hl : l ≤ n) (h : GR c n s l) {z : Int} (hz : z = gV s l) : GR (up2 c 143 (11 * s + l) z) n s (l + 1) := by
  intro s2 l2 h1 h2
  by_cases e : s2 = s ∧ l2 = l
  · rw [e.1, e.2, up2_s, hz]
  · rw [up2_k c z (show 11 * s2 + l2 ≠ 11 * s + l by omega)]
    exact h s2 l2 h1 (by omega)
theorem FR3_put {c c2 : HC} {k : Nat} {z : Int} (h : FR3 c c2) : FR3 c (up2 c2 143 k z) := fun x hx => (up2_row c2 143 k z hx).trans (h x hx)
set_option maxHeartbeats 4000000 in
set_option maxRecDepth 100000 in
theorem yl_g3 (c : HC) (n t la s l : Nat) (hn : 1 ≤ n ∧ n ≤ 10) (hs : s < 2 ^ n) (hl : l ≤ n) (hG : GR c n s l) (Q : Option PV → HC → Prop) (hq : TT mX11_game 1 179 [(0, vr 122), (1, vi (n : Int)), (2, vi (t : Int)), (3, vi (la : Int)), (4, vi (s : Int)), (5, vi (l : Int)), (6, vi (mxU gV s l n))] [] c Q) : ∀ (k i : Nat), i + k = n → TT mX11_game 1 81 [(0, vr 122), (1, vi (n : Int)), (2, vi (t : Int)), (3, vi (la : Int)), (4, vi (s : Int)), (5, vi (l : Int)), (6, vi (mxU gV s l i)), (7, vi ((i : Int) + 1))] [] c Q := by
  have hp : 2 ^ n ≤ 1024 := Nat.pow_le_pow_right (n := 2) (by decide) (show n ≤ 10 by omega)
  intro k
  induction k with
  | zero =>
    intro i hk
    have e : i = n := by omega
    subst e
    refine T_iload dX11_game_81 rfl ?_
    refine T_iloadn dX11_game_83 rfl rfl ?_
    refine T_icmp_gt (tgt := 179) dX11_game_84 rfl (fun b84 => ?_) (fun b84 => absurd b84 (by omega))
    refine T_keep [0, 1, 2, 3, 4, 5, 6] ?_
    exact hq
  | succ k ih =>
    intro i hk
    have h := ih (i + 1) (by omega)
    rw [mxU.eq_2, show ((i + 1 : Nat) : Int) = (i : Int) + 1 by omega] at h
    have hb := bitI_tb (s := s) (k := i) (by omega)
    by_cases hbt : s.testBit i = true
    · rw [if_pos hbt] at hb
      have hle := tb_le hbt
      have hlt : s - 2 ^ i < s := by have := Nat.two_pow_pos i; omega
      obtain ⟨u, hu⟩ : ∃ u, u = s - 2 ^ i := ⟨_, rfl⟩
      rw [← hu] at h hlt
      have hgb := gV_b (s := u) (by omega) (i + 1)
      have hval : c 143 (11 * u + (i + 1)) = gV u (i + 1) := hG u (i + 1) (by omega) (Or.inl hlt)
      refine T_iload dX11_game_81 rfl ?_
      refine T_iloadn dX11_game_83 rfl rfl ?_
      refine T_icmp_gt (tgt := 179) dX11_game_84 rfl (fun b84 => absurd b84 (by omega)) (fun b84 => ?_)
      refine T_iload dX11_game_87 rfl ?_
      refine T_iload dX11_game_89 rfl ?_
      refine T_iconst dX11_game_91 (inr rfl) ?_
      first | refine T_isubN dX11_game_92 (by omega) ?_ | refine T_isub dX11_game_92 ?_
      rw [show (i : Int) + 1 - 1 = (i : Int) by omega]
      refine TT_Si dX11_game_93 (r_has c (s : Int) (i : Int) (by omega)) kX11_151 (by decide) rfl (leb rfl) ?_
      rw [hb]
      refine T_if_eq (tgt := 117) dX11_game_96 rfl (fun b96 => absurd b96 (by omega)) (fun b96 => ?_)
      refine T_iload dX11_game_99 rfl ?_
      refine T_if_eq (tgt := 113) dX11_game_101 rfl (fun b101 => ?_) (fun b101 => ?_)
      · refine T_iconst dX11_game_113 (inr rfl) ?_
        refine T_goto (tgt := 118) dX11_game_114 rfl ?_
        refine T_istore dX11_game_118 (by decide) rfl ?_
        refine T_iload dX11_game_120 rfl ?_
        refine T_if_eq (tgt := 153) dX11_game_122 rfl (fun b122 => absurd b122 (by omega)) (fun b122 => ?_)
        refine T_iload dX11_game_125 rfl ?_
        refine T_aloadn dX11_game_127 rfl rfl ?_
        refine T_getfin dX11_game_128 fX11_74 (by first | assumption | rfl) (by first | decide | omega) rfl (by first | assumption | rfl) ?_
        refine T_bipush dX11_game_131 (bp8 rfl) (inr rfl) ?_
        refine T_iload dX11_game_133 rfl ?_
        refine T_iconst dX11_game_135 (inr rfl) ?_
        refine T_iload dX11_game_136 rfl ?_
        refine T_iconst dX11_game_138 (inr rfl) ?_
        first | refine T_isubN dX11_game_139 (by omega) ?_ | refine T_isub dX11_game_139 ?_
        rw [show (i : Int) + 1 - 1 = (i : Int) by omega]
        refine T_ishl dX11_game_140 (by omega) (by omega) ?_
        refine T_iconst dX11_game_141 (inr rfl) ?_
        refine T_ixor dX11_game_142 ?_
        refine T_iand dX11_game_143 ?_
        rw [and_clr (by omega) (by omega) hbt, ← hu]
        first | refine T_imulN dX11_game_144 (by omega) ?_ | refine T_imul dX11_game_144 ?_
        refine T_iload dX11_game_145 rfl ?_
        first | refine T_iaddN dX11_game_147 (by omega) ?_ | refine T_iadd dX11_game_147 ?_
        refine T_ialdv (j := 11 * u + (i + 1)) dX11_game_148 (by first | assumption | rfl) (by first | decide | omega) (by omega) (by omega) hval ?_
        first | refine T_isubN dX11_game_149 (by omega) ?_ | refine T_isub dX11_game_149 ?_
        refine T_goto (tgt := 155) dX11_game_150 rfl ?_
        refine T_istore dX11_game_155 (by decide) rfl ?_
        refine T_iload dX11_game_157 rfl ?_
        refine T_iload dX11_game_159 rfl ?_
        refine T_icmp_le (tgt := 169) dX11_game_161 rfl (fun b161 => ?_) (fun b161 => ?_)
        · refine T_iload dX11_game_169 rfl ?_
          refine T_istore dX11_game_171 (by decide) rfl ?_
          refine T_iincN dX11_game_173 rfl (by decide) rfl (by omega) ?_
          refine T_goto (tgt := 81) dX11_game_176 rfl ?_
          refine T_keep [0, 1, 2, 3, 4, 5, 6, 7] ?_
          rw [if_neg (fun z => by omega)] at h
          exact h
        · refine T_iload dX11_game_164 rfl ?_
          refine T_goto (tgt := 171) dX11_game_166 rfl ?_
          refine T_istore dX11_game_171 (by decide) rfl ?_
          refine T_iincN dX11_game_173 rfl (by decide) rfl (by omega) ?_
          refine T_goto (tgt := 81) dX11_game_176 rfl ?_
          refine T_keep [0, 1, 2, 3, 4, 5, 6, 7] ?_
          rw [if_pos ⟨⟨hbt, (Or.inl (by omega))⟩, by omega⟩] at h
          exact h
      · refine T_iload dX11_game_104 rfl ?_
        refine T_iload dX11_game_106 rfl ?_
        refine T_iconst dX11_game_108 (inr rfl) ?_
        first | refine T_iaddN dX11_game_109 (by omega) ?_ | refine T_iadd dX11_game_109 ?_
        refine T_icmp_eq (tgt := 117) dX11_game_110 rfl (fun b110 => ?_) (fun b110 => ?_)
        · refine T_iconst dX11_game_117 (inr rfl) ?_
          refine T_istore dX11_game_118 (by decide) rfl ?_
          refine T_iload dX11_game_120 rfl ?_
          refine T_if_eq (tgt := 153) dX11_game_122 rfl (fun b122 => ?_) (fun b122 => absurd b122 (by omega))
          refine T_iload dX11_game_153 rfl ?_
          refine T_istore dX11_game_155 (by decide) rfl ?_
          refine T_iload dX11_game_157 rfl ?_
          refine T_iload dX11_game_159 rfl ?_
          refine T_icmp_le (tgt := 169) dX11_game_161 rfl (fun b161 => ?_) (fun b161 => absurd (Int.le_refl _) b161)
          refine T_iload dX11_game_169 rfl ?_
          refine T_istore dX11_game_171 (by decide) rfl ?_
          refine T_iincN dX11_game_173 rfl (by decide) rfl (by omega) ?_
          refine T_goto (tgt := 81) dX11_game_176 rfl ?_
          refine T_keep [0, 1, 2, 3, 4, 5, 6, 7] ?_
          rw [if_neg (fun z => by have := z.1.2; omega)] at h
          exact h
        · refine T_iconst dX11_game_113 (inr rfl) ?_
          refine T_goto (tgt := 118) dX11_game_114 rfl ?_
          refine T_istore dX11_game_118 (by decide) rfl ?_
          refine T_iload dX11_game_120 rfl ?_
          refine T_if_eq (tgt := 153) dX11_game_122 rfl (fun b122 => absurd b122 (by omega)) (fun b122 => ?_)
          refine T_iload dX11_game_125 rfl ?_
          refine T_aloadn dX11_game_127 rfl rfl ?_
          refine T_getfin dX11_game_128 fX11_74 (by first | assumption | rfl) (by first | decide | omega) rfl (by first | assumption | rfl) ?_
          refine T_bipush dX11_game_131 (bp8 rfl) (inr rfl) ?_
          refine T_iload dX11_game_133 rfl ?_
          refine T_iconst dX11_game_135 (inr rfl) ?_
          refine T_iload dX11_game_136 rfl ?_
          refine T_iconst dX11_game_138 (inr rfl) ?_
          first | refine T_isubN dX11_game_139 (by omega) ?_ | refine T_isub dX11_game_139 ?_
          rw [show (i : Int) + 1 - 1 = (i : Int) by omega]
          refine T_ishl dX11_game_140 (by omega) (by omega) ?_
          refine T_iconst dX11_game_141 (inr rfl) ?_
          refine T_ixor dX11_game_142 ?_
          refine T_iand dX11_game_143 ?_
          rw [and_clr (by omega) (by omega) hbt, ← hu]
          first | refine T_imulN dX11_game_144 (by omega) ?_ | refine T_imul dX11_game_144 ?_
          refine T_iload dX11_game_145 rfl ?_
          first | refine T_iaddN dX11_game_147 (by omega) ?_ | refine T_iadd dX11_game_147 ?_
          refine T_ialdv (j := 11 * u + (i + 1)) dX11_game_148 (by first | assumption | rfl) (by first | decide | omega) (by omega) (by omega) hval ?_
          first | refine T_isubN dX11_game_149 (by omega) ?_ | refine T_isub dX11_game_149 ?_
          refine T_goto (tgt := 155) dX11_game_150 rfl ?_
          refine T_istore dX11_game_155 (by decide) rfl ?_
          refine T_iload dX11_game_157 rfl ?_
          refine T_iload dX11_game_159 rfl ?_
          refine T_icmp_le (tgt := 169) dX11_game_161 rfl (fun b161 => ?_) (fun b161 => ?_)
          · refine T_iload dX11_game_169 rfl ?_
            refine T_istore dX11_game_171 (by decide) rfl ?_
            refine T_iincN dX11_game_173 rfl (by decide) rfl (by omega) ?_
            refine T_goto (tgt := 81) dX11_game_176 rfl ?_
            refine T_keep [0, 1, 2, 3, 4, 5, 6, 7] ?_
            rw [if_neg (fun z => by omega)] at h
            exact h
          · refine T_iload dX11_game_164 rfl ?_
            refine T_goto (tgt := 171) dX11_game_166 rfl ?_
            refine T_istore dX11_game_171 (by decide) rfl ?_
            refine T_iincN dX11_game_173 rfl (by decide) rfl (by omega) ?_
            refine T_goto (tgt := 81) dX11_game_176 rfl ?_
            refine T_keep [0, 1, 2, 3, 4, 5, 6, 7] ?_
            rw [if_pos ⟨⟨hbt, (Or.inr (by omega))⟩, by omega⟩] at h
            exact h
    · rw [if_neg hbt] at hb
      have hnt := hbt
      refine T_iload dX11_game_81 rfl ?_
      refine T_iloadn dX11_game_83 rfl rfl ?_
      refine T_icmp_gt (tgt := 179) dX11_game_84 rfl (fun b84 => absurd b84 (by omega)) (fun b84 => ?_)
      refine T_iload dX11_game_87 rfl ?_
      refine T_iload dX11_game_89 rfl ?_
      refine T_iconst dX11_game_91 (inr rfl) ?_
      first | refine T_isubN dX11_game_92 (by omega) ?_ | refine T_isub dX11_game_92 ?_
      rw [show (i : Int) + 1 - 1 = (i : Int) by omega]
      refine TT_Si dX11_game_93 (r_has c (s : Int) (i : Int) (by omega)) kX11_151 (by decide) rfl (leb rfl) ?_
      rw [hb]
      refine T_if_eq (tgt := 117) dX11_game_96 rfl (fun b96 => ?_) (fun b96 => absurd b96 (by omega))
      refine T_iconst dX11_game_117 (inr rfl) ?_
      refine T_istore dX11_game_118 (by decide) rfl ?_
      refine T_iload dX11_game_120 rfl ?_
      refine T_if_eq (tgt := 153) dX11_game_122 rfl (fun b122 => ?_) (fun b122 => absurd b122 (by omega))
      refine T_iload dX11_game_153 rfl ?_
      refine T_istore dX11_game_155 (by decide) rfl ?_
      refine T_iload dX11_game_157 rfl ?_
      refine T_iload dX11_game_159 rfl ?_
      refine T_icmp_le (tgt := 169) dX11_game_161 rfl (fun b161 => ?_) (fun b161 => absurd (Int.le_refl _) b161)
      refine T_iload dX11_game_169 rfl ?_
      refine T_istore dX11_game_171 (by decide) rfl ?_
      refine T_iincN dX11_game_173 rfl (by decide) rfl (by omega) ?_
      refine T_goto (tgt := 81) dX11_game_176 rfl ?_
      refine T_keep [0, 1, 2, 3, 4, 5, 6, 7] ?_
      rw [if_neg (fun z => hnt z.1.1)] at h
      exact h
set_option maxHeartbeats 4000000 in
set_option maxRecDepth 100000 in
theorem yl_g2 (c0 : HC) (n t la s : Nat) (hn : 1 ≤ n ∧ n ≤ 10) (hs : s < 2 ^ n) (Q : Option PV → HC → Prop) (hK : ∀ c, GR c n (s + 1) 0 → FR3 c0 c → TT mX11_game 1 222 [(0, vr 122), (1, vi (n : Int)), (2, vi (t : Int)), (3, vi (la : Int)), (4, vi (s : Int))] [] c Q) : ∀ (k l : Nat) (c : HC), l + k = n + 1 → GR c n s l → FR3 c0 c → TT mX11_game 1 67 [(0, vr 122), (1, vi (n : Int)), (2, vi (t : Int)), (3, vi (la : Int)), (4, vi (s : Int)), (5, vi (l : Int))] [] c Q := by
  have hp : 2 ^ n ≤ 1024 := Nat.pow_le_pow_right (n := 2) (by decide) (show n ≤ 10 by omega)
  intro k
  induction k with
  | zero =>
    intro l c hk hG hF
    have h := hK c (fun s2 l2 h1 h2 => hG s2 l2 h1 (by omega)) hF
    refine T_iload dX11_game_67 rfl ?_
    refine T_iloadn dX11_game_69 rfl rfl ?_
    refine T_icmp_gt (tgt := 222) dX11_game_70 rfl (fun b70 => ?_) (fun b70 => absurd b70 (by omega))
    refine T_keep [0, 1, 2, 3, 4] ?_
    exact h
  | succ k ih =>
    intro l c hk hG hF
    have h10 : mxU gV s l 10 = mxU gV s l n := by
      have := mxU_hi (V := gV) (l := l) hs (10 - n)
      rw [show n + (10 - n) = 10 by omega] at this
      exact this
    refine T_iload dX11_game_67 rfl ?_
    refine T_iloadn dX11_game_69 rfl rfl ?_
    refine T_icmp_gt (tgt := 222) dX11_game_70 rfl (fun b70 => absurd b70 (by omega)) (fun b70 => ?_)
    refine T_sipush dX11_game_73 (bp16 rfl) (inr rfl) ?_
    refine T_istore dX11_game_76 (by decide) rfl ?_
    refine T_iconst dX11_game_78 (inr rfl) ?_
    refine T_istore dX11_game_79 (by decide) rfl ?_
    refine yl_g3 c n t la s l hn hs (by omega) hG _ ?_ n 0 (by omega)
    refine T_aloadn dX11_game_179 rfl rfl ?_
    refine T_getfin dX11_game_180 fX11_74 (by first | assumption | rfl) (by first | decide | omega) rfl (by first | assumption | rfl) ?_
    refine T_bipush dX11_game_183 (bp8 rfl) (inr rfl) ?_
    refine T_iload dX11_game_185 rfl ?_
    first | refine T_imulN dX11_game_187 (by omega) ?_ | refine T_imul dX11_game_187 ?_
    refine T_iload dX11_game_188 rfl ?_
    first | refine T_iaddN dX11_game_190 (by omega) ?_ | refine T_iadd dX11_game_190 ?_
    refine T_iload dX11_game_191 rfl ?_
    refine T_sipush dX11_game_193 (bp16 rfl) (inr rfl) ?_
    refine T_icmp_le (tgt := 204) dX11_game_196 rfl (fun b196 => ?_) (fun b196 => ?_)
    · refine T_iload dX11_game_204 rfl ?_
      refine T_if_ne (tgt := 213) dX11_game_206 rfl (fun b206 => ?_) (fun b206 => ?_)
      · refine T_bipush dX11_game_213 (bp8 rfl) (inr rfl) ?_
        refine T_iast (j := 11 * s + l) dX11_game_215 (by first | assumption | rfl) (by first | decide | omega) (by omega) (by omega) ?_
        refine T_iincN dX11_game_216 rfl (by decide) rfl (by omega) ?_
        refine T_goto (tgt := 67) dX11_game_219 rfl ?_
        refine T_keep [0, 1, 2, 3, 4, 5] ?_
        exact ih (l + 1) _ (by omega) (GR_put hn.2 (by omega) hG (by rw [gV_rec]; unfold gst; rw [h10, if_neg (by omega), if_neg (by omega)])) (FR3_put hF)
      · refine T_iconst dX11_game_209 (inr rfl) ?_
        refine T_goto (tgt := 215) dX11_game_210 rfl ?_
        refine T_iast (j := 11 * s + l) dX11_game_215 (by first | assumption | rfl) (by first | decide | omega) (by omega) (by omega) ?_
        refine T_iincN dX11_game_216 rfl (by decide) rfl (by omega) ?_
        refine T_goto (tgt := 67) dX11_game_219 rfl ?_
        refine T_keep [0, 1, 2, 3, 4, 5] ?_
        exact ih (l + 1) _ (by omega) (GR_put hn.2 (by omega) hG (by rw [gV_rec]; unfold gst; rw [h10, if_neg (by omega), if_pos (by omega)])) (FR3_put hF)
    · refine T_iload dX11_game_199 rfl ?_
      refine T_goto (tgt := 215) dX11_game_201 rfl ?_
      refine T_iast (j := 11 * s + l) dX11_game_215 (by first | assumption | rfl) (by first | decide | omega) (by omega) (by omega) ?_
      refine T_iincN dX11_game_216 rfl (by decide) rfl (by omega) ?_
      refine T_goto (tgt := 67) dX11_game_219 rfl ?_
      refine T_keep [0, 1, 2, 3, 4, 5] ?_
      exact ih (l + 1) _ (by omega) (GR_put hn.2 (by omega) hG (by rw [gV_rec]; unfold gst; rw [h10, if_pos (by omega)])) (FR3_put hF)
set_option maxHeartbeats 4000000 in
set_option maxRecDepth 100000 in
theorem yl_g1 (c0 : HC) (n t la : Nat) (hn : 1 ≤ n ∧ n ≤ 10) (ht : t < 2 ^ n) (hla : la ≤ n) : ∀ (k s : Nat) (c : HC), s + k = t + 1 → GR c n s 0 → FR3 c0 c → TT mX11_game 1 58 [(0, vr 122), (1, vi (n : Int)), (2, vi (t : Int)), (3, vi (la : Int)), (4, vi (s : Int))] [] c (fun v c1 => v = some (vi (gV t la + 1000)) ∧ FR3 c0 c1) := by
  have hp : 2 ^ n ≤ 1024 := Nat.pow_le_pow_right (n := 2) (by decide) (show n ≤ 10 by omega)
  have hgb := gV_b (s := t) (by omega) la
  intro k
  induction k with
  | zero =>
    intro s c hk hG hF
    have hval : c 143 (11 * t + la) = gV t la := hG t la hla (by omega)
    refine T_iload dX11_game_58 rfl ?_
    refine T_iloadn dX11_game_60 rfl rfl ?_
    refine T_icmp_gt (tgt := 228) dX11_game_61 rfl (fun b61 => ?_) (fun b61 => absurd b61 (by omega))
    refine T_aloadn dX11_game_228 rfl rfl ?_
    refine T_getfin dX11_game_229 fX11_74 (by first | assumption | rfl) (by first | decide | omega) rfl (by first | assumption | rfl) ?_
    refine T_bipush dX11_game_232 (bp8 rfl) (inr rfl) ?_
    refine T_iloadn dX11_game_234 rfl rfl ?_
    first | refine T_imulN dX11_game_235 (by omega) ?_ | refine T_imul dX11_game_235 ?_
    refine T_iloadn dX11_game_236 rfl rfl ?_
    first | refine T_iaddN dX11_game_237 (by omega) ?_ | refine T_iadd dX11_game_237 ?_
    refine T_ialdv (j := 11 * t + la) dX11_game_238 (by first | assumption | rfl) (by first | decide | omega) (by omega) (by omega) hval ?_
    refine T_sipush dX11_game_239 (bp16 rfl) (inr rfl) ?_
    first | refine T_iaddN dX11_game_242 (by omega) ?_ | refine T_iadd dX11_game_242 ?_
    refine TT_ri dX11_game_243 trivial ?_
    exact ⟨rfl, hF⟩
  | succ k ih =>
    intro s c hk hG hF
    refine T_iload dX11_game_58 rfl ?_
    refine T_iloadn dX11_game_60 rfl rfl ?_
    refine T_icmp_gt (tgt := 228) dX11_game_61 rfl (fun b61 => absurd b61 (by omega)) (fun b61 => ?_)
    refine T_iconst dX11_game_64 (inr rfl) ?_
    refine T_istore dX11_game_65 (by decide) rfl ?_
    refine yl_g2 c0 n t la s hn (by omega) _ (fun c1 h1 h2 => ?_) (n + 1) 0 c (by omega) hG hF
    refine T_iincN dX11_game_222 rfl (by decide) rfl (by omega) ?_
    refine T_goto (tgt := 58) dX11_game_225 rfl ?_
    refine T_keep [0, 1, 2, 3, 4] ?_
    exact ih (s + 1) c1 (by omega) h1 h2
set_option maxHeartbeats 4000000 in
set_option maxRecDepth 100000 in
theorem y_game (c : HC) (n x l : Int) : CC mX11_game 1 c [vr 122, vi n, vi x, vi l] (fun v c1 => v = some (vi (gameF n x l)) ∧ FR3 c c1) := by
  refine CC.of (by decide +kernel) (leb rfl) (fun hok => ?_)
  unfold gameF OUT
  refine T_iloadn dX11_game_0 rfl rfl ?_
  refine T_i2l dX11_game_1 ?_
  refine T_lconst (z := 1) dX11_game_2 rfl (inl rfl) ?_
  refine T_ldc2 dX11_game_3 clX11_267 (inl rfl) ?_
  refine TT_Si dX11_game_6 (r_in c n 1 10) kX11_96 (by decide) rfl (leb rfl) ?_
  refine T_if_eq (tgt := 52) dX11_game_9 rfl (fun b9 => ?_) (fun b9 => ?_)
  · refine T_ldc dX11_game_52 cX11_106 (inr rfl) ?_
    refine TT_ri dX11_game_54 trivial ?_
    have hi := inF_f b9
    exact ⟨by rw [if_pos (by omega)], fun _ _ => rfl⟩
  · have hi := inF_t b9
    obtain ⟨nn, rfl⟩ := Int.eq_ofNat_of_zero_le (show 0 ≤ n by omega)
    have hp : 2 ^ nn ≤ 1024 := Nat.pow_le_pow_right (n := 2) (by decide) (show nn ≤ 10 by omega)
    obtain ⟨M, hM⟩ : ∃ M, M = 2 ^ nn := ⟨_, rfl⟩
    rw [Int.toNat_natCast, ← hM]
    rw [← hM] at hp
    refine T_iloadn dX11_game_12 rfl rfl ?_
    refine T_i2l dX11_game_13 ?_
    refine T_lconst (z := 0) dX11_game_14 rfl (inl rfl) ?_
    refine T_iconst dX11_game_15 (inr rfl) ?_
    refine T_iloadn dX11_game_16 rfl rfl ?_
    refine T_ishl dX11_game_17 (by omega) (by omega) ?_
    rw [shl1 (by omega), ← hM]
    refine T_iconst dX11_game_18 (inr rfl) ?_
    first | refine T_isubN dX11_game_19 (by omega) ?_ | refine T_isub dX11_game_19 ?_
    refine T_i2l dX11_game_20 ?_
    refine TT_Si dX11_game_21 (r_in c x 0 ((M : Int) - 1)) kX11_96 (by decide) rfl (leb rfl) ?_
    refine T_if_eq (tgt := 52) dX11_game_24 rfl (fun b24 => ?_) (fun b24 => ?_)
    · refine T_ldc dX11_game_52 cX11_106 (inr rfl) ?_
      refine TT_ri dX11_game_54 trivial ?_
      have hx := inF_f b24
      refine ⟨?_, fun _ _ => rfl⟩
      split
      · rfl
      · rw [if_pos (Or.inl (by omega))]
    · have hx := inF_t b24
      refine T_iloadn dX11_game_27 rfl rfl ?_
      refine T_i2l dX11_game_28 ?_
      refine T_lconst (z := 0) dX11_game_29 rfl (inl rfl) ?_
      refine T_iloadn dX11_game_30 rfl rfl ?_
      refine T_i2l dX11_game_31 ?_
      refine TT_Si dX11_game_32 (r_in c l 0 (nn : Int)) kX11_96 (by decide) rfl (leb rfl) ?_
      refine T_if_eq (tgt := 52) dX11_game_35 rfl (fun b35 => ?_) (fun b35 => ?_)
      · refine T_ldc dX11_game_52 cX11_106 (inr rfl) ?_
        refine TT_ri dX11_game_54 trivial ?_
        have hl := inF_f b35
        exact ⟨by rw [if_pos (by omega)], fun _ _ => rfl⟩
      · have hl := inF_t b35
        refine T_iloadn dX11_game_38 rfl rfl ?_
        refine T_if_le (tgt := 55) dX11_game_39 rfl (fun b39 => ?_) (fun b39 => ?_)
        · refine T_iconst dX11_game_55 (inr rfl) ?_
          refine T_istore dX11_game_56 (by decide) rfl ?_
          obtain ⟨tt, rfl⟩ := Int.eq_ofNat_of_zero_le (show 0 ≤ x by omega)
          obtain ⟨ll, rfl⟩ := Int.eq_ofNat_of_zero_le (show 0 ≤ l by omega)
          refine T_keep [0, 1, 2, 3, 4] ?_
          have h := yl_g1 c nn tt ll ⟨by omega, by omega⟩ (by rw [← hM]; omega) (by omega) (tt + 1) 0 c (by omega) (fun s2 l2 h1 h2 => by omega) (fun x _ => rfl)
          rw [if_neg (by omega), if_neg (by omega), Int.toNat_natCast, Int.toNat_natCast]
          exact h
        · refine T_iloadn dX11_game_42 rfl rfl ?_
          refine T_iloadn dX11_game_43 rfl rfl ?_
          refine T_iconst dX11_game_44 (inr rfl) ?_
          first | refine T_isubN dX11_game_45 (by omega) ?_ | refine T_isub dX11_game_45 ?_
          refine TT_Si dX11_game_46 (r_has c x (l - 1) (by omega)) kX11_151 (by decide) rfl (leb rfl) ?_
          refine T_if_eq (tgt := 55) dX11_game_49 rfl (fun b49 => ?_) (fun b49 => ?_)
          · refine T_iconst dX11_game_55 (inr rfl) ?_
            refine T_istore dX11_game_56 (by decide) rfl ?_
            obtain ⟨tt, rfl⟩ := Int.eq_ofNat_of_zero_le (show 0 ≤ x by omega)
            obtain ⟨ll, rfl⟩ := Int.eq_ofNat_of_zero_le (show 0 ≤ l by omega)
            refine T_keep [0, 1, 2, 3, 4] ?_
            have h := yl_g1 c nn tt ll ⟨by omega, by omega⟩ (by rw [← hM]; omega) (by omega) (tt + 1) 0 c (by omega) (fun s2 l2 h1 h2 => by omega) (fun x _ => rfl)
            rw [if_neg (by omega), if_neg (by rw [b49]; omega), Int.toNat_natCast, Int.toNat_natCast]
            exact h
          · refine T_ldc dX11_game_52 cX11_106 (inr rfl) ?_
            refine TT_ri dX11_game_54 trivial ?_
            exact ⟨by rw [if_neg (by omega), if_pos (Or.inr ⟨by omega, bit1 b49⟩)], fun _ _ => rfl⟩
