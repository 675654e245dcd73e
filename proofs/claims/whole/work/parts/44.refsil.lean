/-! the reference: silence -/
theorem bor_0 {S : Int} (h : InR S) : bor S 0 = S := by
  unfold bor
  rw [show i32 0 = (0 : Int32) from rfl, Int32.or_zero, i32_toInt h]
theorem bor_in (a b : Int) : InR (bor a b) := InR_toInt _
theorem bt00 : bitI 0 0 = 0 := by decide +kernel
theorem bt01 : bitI 0 1 = 0 := by decide +kernel
theorem bt10 : bitI 1 0 = 1 := by decide +kernel
theorem bt11 : bitI 1 1 = 0 := by decide +kernel
theorem bt20 : bitI 2 0 = 0 := by decide +kernel
theorem bt21 : bitI 2 1 = 1 := by decide +kernel
theorem bt30 : bitI 3 0 = 1 := by decide +kernel
theorem bt31 : bitI 3 1 = 1 := by decide +kernel
theorem bn0 : band 0 1 = 0 := by decide +kernel
theorem bn1 : band 1 1 = 1 := by decide +kernel
theorem bn2 : band 2 1 = 0 := by decide +kernel
theorem bn3 : band 3 1 = 1 := by decide +kernel
theorem bh0 : (0 : Int) / 2 ^ (1 : Int).toNat = 0 := by decide +kernel
theorem bh1 : (1 : Int) / 2 ^ (1 : Int).toNat = 0 := by decide +kernel
theorem bh2 : (2 : Int) / 2 ^ (1 : Int).toNat = 1 := by decide +kernel
theorem bh3 : (3 : Int) / 2 ^ (1 : Int).toNat = 1 := by decide +kernel
theorem bx01 : bxor 0 1 = 1 := by decide +kernel
theorem bx11 : bxor 1 1 = 0 := by decide +kernel
theorem bx21 : bxor 2 1 = 3 := by decide +kernel
theorem bx31 : bxor 3 1 = 2 := by decide +kernel
theorem bx02 : bxor 0 2 = 2 := by decide +kernel
theorem bx12 : bxor 1 2 = 3 := by decide +kernel
theorem bx22 : bxor 2 2 = 0 := by decide +kernel
theorem bx32 : bxor 3 2 = 1 := by decide +kernel
theorem gn00 (M : Int) (wt : Nat → Int) (a b p q : Int) : gainF M wt a b p q 0 0 = -wayF M wt p 0 q 0 - 0 := by
  unfold gainF
  rw [bh0, bn0]
  rw [if_pos rfl]
  simp only [Int.zero_mul, Int.one_mul]
theorem gn01 (M : Int) (wt : Nat → Int) (a b p q : Int) : gainF M wt a b p q 0 1 = -wayF M wt p a q 0 - 1 := by
  unfold gainF
  rw [bh1, bn1, bn0]
  rw [if_pos rfl]
  simp only [Int.zero_mul, Int.one_mul]
theorem gn02 (M : Int) (wt : Nat → Int) (a b p q : Int) : gainF M wt a b p q 0 2 = -wayF M wt p 0 q b - 0 := by
  unfold gainF
  rw [bh2, bn2, bn1]
  rw [if_pos rfl]
  simp only [Int.zero_mul, Int.one_mul]
theorem gn03 (M : Int) (wt : Nat → Int) (a b p q : Int) : gainF M wt a b p q 0 3 = -wayF M wt p a q b - 1 := by
  unfold gainF
  rw [bh3, bn3, bn1]
  rw [if_pos rfl]
  simp only [Int.zero_mul, Int.one_mul]
theorem gn10 (M : Int) (wt : Nat → Int) (a b p q : Int) : gainF M wt a b p q 1 0 = wayF M wt p 0 q 0 - 0 := by
  unfold gainF
  rw [bh0, bn0]
  rw [if_neg (by decide)]
  simp only [Int.zero_mul, Int.one_mul]
theorem gn11 (M : Int) (wt : Nat → Int) (a b p q : Int) : gainF M wt a b p q 1 1 = wayF M wt p a q 0 - 0 := by
  unfold gainF
  rw [bh1, bn1, bn0]
  rw [if_neg (by decide)]
  simp only [Int.zero_mul, Int.one_mul]
theorem gn12 (M : Int) (wt : Nat → Int) (a b p q : Int) : gainF M wt a b p q 1 2 = wayF M wt p 0 q b - 1 := by
  unfold gainF
  rw [bh2, bn2, bn1]
  rw [if_neg (by decide)]
  simp only [Int.zero_mul, Int.one_mul]
theorem gn13 (M : Int) (wt : Nat → Int) (a b p q : Int) : gainF M wt a b p q 1 3 = wayF M wt p a q b - 1 := by
  unfold gainF
  rw [bh3, bn3, bn1]
  rw [if_neg (by decide)]
  simp only [Int.zero_mul, Int.one_mul]
set_option maxHeartbeats 4000000 in
set_option maxRecDepth 100000 in
theorem yl_sil0 (c : HC) {n : Nat} (hg : RGV c) (hv : RSV c n) (p q : Nat) (hp : p < n) (hq : q < n) (a b S : Int) (ha : 0 ≤ a ∧ a ≤ 41) (hb : 0 ≤ b ∧ b ≤ 41) (hS : InR S) (Q : Option PV → HC → Prop)
    (h : TT mX11_silence 3 40 [(0, vr 122), (1, vi (p : Int)), (2, vi (q : Int)), (3, vi a), (4, vi b), (5, vi (if -wayF (c 122 1) (c 127) (p : Int) a (q : Int) 0 - 1 ≤ -wayF (c 122 1) (c 127) (p : Int) 0 (q : Int) 0 - 0 ∧ wayF (c 122 1) (c 127) (p : Int) 0 (q : Int) b - 1 ≤ wayF (c 122 1) (c 127) (p : Int) 0 (q : Int) 0 - 0 then bor S (wr (1 * 2 ^ (0 : Int).toNat)) else S)), (6, vi 1)] [] c Q) : TT mX11_silence 3 40 [(0, vr 122), (1, vi (p : Int)), (2, vi (q : Int)), (3, vi a), (4, vi b), (5, vi S), (6, vi 0)] [] c Q := by
  have hn10 := hv.2.1
  have hwp := (hv.2.2 p hp).2.2.1
  have hwq := (hv.2.2 q hq).2.2.1
  have hm := hg.2.1
  have w1 := wayF_sm (mud := c 122 1) (wt := c 127) (p := (p : Int)) (q := (q : Int)) (a := 0) (b := 0) hm (by omega) (by omega) (by rw [Int.toNat_natCast]; exact hwp) (by rw [Int.toNat_natCast]; exact hwq)
  have w2 := wayF_sm (mud := c 122 1) (wt := c 127) (p := (p : Int)) (q := (q : Int)) (a := a) (b := 0) hm (by omega) (by omega) (by rw [Int.toNat_natCast]; exact hwp) (by rw [Int.toNat_natCast]; exact hwq)
  have w3 := wayF_sm (mud := c 122 1) (wt := c 127) (p := (p : Int)) (q := (q : Int)) (a := 0) (b := b) hm (by omega) (by omega) (by rw [Int.toNat_natCast]; exact hwp) (by rw [Int.toNat_natCast]; exact hwq)
  refine T_iload dX11_silence_40 rfl ?_
  refine T_iconst dX11_silence_42 (inr rfl) ?_
  refine T_icmp_ge (tgt := 253) dX11_silence_43 rfl (fun b43 => absurd b43 (by omega)) (fun b43 => ?_)
  refine T_aloadn dX11_silence_46 rfl rfl ?_
  refine T_iloadn dX11_silence_47 rfl rfl ?_
  refine T_iload dX11_silence_48 rfl ?_
  refine T_iconst dX11_silence_50 (inr rfl) ?_
  refine TT_Si dX11_silence_51 (r_has c 0 0 (by omega)) kX11_151 (by decide) rfl (leb rfl) ?_
  rw [bt00]
  refine T_if_eq (tgt := 61) dX11_silence_54 rfl (fun b54 => ?_) (fun b54 => absurd b54 (by omega))
  refine T_iconst dX11_silence_61 (inr rfl) ?_
  refine T_iloadn dX11_silence_62 rfl rfl ?_
  refine T_iload dX11_silence_63 rfl ?_
  refine T_iconst dX11_silence_65 (inr rfl) ?_
  refine TT_Si dX11_silence_66 (r_has c 0 1 (by omega)) kX11_151 (by decide) rfl (leb rfl) ?_
  rw [bt01]
  refine T_if_eq (tgt := 77) dX11_silence_69 rfl (fun b69 => ?_) (fun b69 => absurd b69 (by omega))
  refine T_iconst dX11_silence_77 (inr rfl) ?_
  refine TT_Vi dX11_silence_78 (r_goesBy c p q (by omega) (by omega) 0 0 (by omega) (by omega)) kX11_217 (by decide) (by first | decide | omega) (by first | assumption | rfl) rfl (leb rfl) ?_
  first | refine T_inegN dX11_silence_81 (by omega) ?_ | refine T_ineg dX11_silence_81 ?_
  refine T_iload dX11_silence_82 rfl ?_
  refine T_iconst dX11_silence_84 (inr rfl) ?_
  refine T_iand dX11_silence_85 ?_
  rw [bn0]
  first | refine T_isubN dX11_silence_86 (by omega) ?_ | refine T_isub dX11_silence_86 ?_
  refine T_istore dX11_silence_87 (by decide) rfl ?_
  refine T_aloadn dX11_silence_89 rfl rfl ?_
  refine T_iloadn dX11_silence_90 rfl rfl ?_
  refine T_iload dX11_silence_91 rfl ?_
  refine T_iconst dX11_silence_93 (inr rfl) ?_
  refine TT_Si dX11_silence_94 (r_has c 0 0 (by omega)) kX11_151 (by decide) rfl (leb rfl) ?_
  rw [bt00]
  refine T_if_eq (tgt := 104) dX11_silence_97 rfl (fun b97 => ?_) (fun b97 => absurd b97 (by omega))
  refine T_iloadn dX11_silence_104 rfl rfl ?_
  refine T_iloadn dX11_silence_105 rfl rfl ?_
  refine T_iload dX11_silence_106 rfl ?_
  refine T_iconst dX11_silence_108 (inr rfl) ?_
  refine TT_Si dX11_silence_109 (r_has c 0 1 (by omega)) kX11_151 (by decide) rfl (leb rfl) ?_
  rw [bt01]
  refine T_if_eq (tgt := 120) dX11_silence_112 rfl (fun b112 => ?_) (fun b112 => absurd b112 (by omega))
  refine T_iconst dX11_silence_120 (inr rfl) ?_
  refine TT_Vi dX11_silence_121 (r_goesBy c p q (by omega) (by omega) a 0 (by omega) (by omega)) kX11_217 (by decide) (by first | decide | omega) (by first | assumption | rfl) rfl (leb rfl) ?_
  first | refine T_inegN dX11_silence_124 (by omega) ?_ | refine T_ineg dX11_silence_124 ?_
  refine T_iconst dX11_silence_125 (inr rfl) ?_
  refine T_iload dX11_silence_126 rfl ?_
  refine T_iconst dX11_silence_128 (inr rfl) ?_
  refine T_iand dX11_silence_129 ?_
  rw [bn0]
  first | refine T_isubN dX11_silence_130 (by omega) ?_ | refine T_isub dX11_silence_130 ?_
  first | refine T_isubN dX11_silence_131 (by omega) ?_ | refine T_isub dX11_silence_131 ?_
  refine T_istore dX11_silence_132 (by decide) rfl ?_
  refine T_aloadn dX11_silence_134 rfl rfl ?_
  refine T_iloadn dX11_silence_135 rfl rfl ?_
  refine T_iload dX11_silence_136 rfl ?_
  refine T_iconst dX11_silence_138 (inr rfl) ?_
  refine TT_Si dX11_silence_139 (r_has c 0 0 (by omega)) kX11_151 (by decide) rfl (leb rfl) ?_
  rw [bt00]
  refine T_if_eq (tgt := 149) dX11_silence_142 rfl (fun b142 => ?_) (fun b142 => absurd b142 (by omega))
  refine T_iconst dX11_silence_149 (inr rfl) ?_
  refine T_iloadn dX11_silence_150 rfl rfl ?_
  refine T_iload dX11_silence_151 rfl ?_
  refine T_iconst dX11_silence_153 (inr rfl) ?_
  refine TT_Si dX11_silence_154 (r_has c 0 1 (by omega)) kX11_151 (by decide) rfl (leb rfl) ?_
  rw [bt01]
  refine T_if_eq (tgt := 165) dX11_silence_157 rfl (fun b157 => ?_) (fun b157 => absurd b157 (by omega))
  refine T_iconst dX11_silence_165 (inr rfl) ?_
  refine TT_Vi dX11_silence_166 (r_goesBy c p q (by omega) (by omega) 0 0 (by omega) (by omega)) kX11_217 (by decide) (by first | decide | omega) (by first | assumption | rfl) rfl (leb rfl) ?_
  refine T_iload dX11_silence_169 rfl ?_
  refine T_iconst dX11_silence_171 (inr rfl) ?_
  refine T_ishr dX11_silence_172 (by omega) (by omega) ?_
  rw [bh0]
  first | refine T_isubN dX11_silence_173 (by omega) ?_ | refine T_isub dX11_silence_173 ?_
  refine T_istore dX11_silence_174 (by decide) rfl ?_
  refine T_aloadn dX11_silence_176 rfl rfl ?_
  refine T_iloadn dX11_silence_177 rfl rfl ?_
  refine T_iload dX11_silence_178 rfl ?_
  refine T_iconst dX11_silence_180 (inr rfl) ?_
  refine TT_Si dX11_silence_181 (r_has c 0 0 (by omega)) kX11_151 (by decide) rfl (leb rfl) ?_
  rw [bt00]
  refine T_if_eq (tgt := 191) dX11_silence_184 rfl (fun b184 => ?_) (fun b184 => absurd b184 (by omega))
  refine T_iconst dX11_silence_191 (inr rfl) ?_
  refine T_iloadn dX11_silence_192 rfl rfl ?_
  refine T_iload dX11_silence_193 rfl ?_
  refine T_iconst dX11_silence_195 (inr rfl) ?_
  refine TT_Si dX11_silence_196 (r_has c 0 1 (by omega)) kX11_151 (by decide) rfl (leb rfl) ?_
  rw [bt01]
  refine T_if_eq (tgt := 206) dX11_silence_199 rfl (fun b199 => ?_) (fun b199 => absurd b199 (by omega))
  refine T_iload dX11_silence_206 rfl ?_
  refine TT_Vi dX11_silence_208 (r_goesBy c p q (by omega) (by omega) 0 b (by omega) (by omega)) kX11_217 (by decide) (by first | decide | omega) (by first | assumption | rfl) rfl (leb rfl) ?_
  refine T_iconst dX11_silence_211 (inr rfl) ?_
  refine T_iload dX11_silence_212 rfl ?_
  refine T_iconst dX11_silence_214 (inr rfl) ?_
  refine T_ishr dX11_silence_215 (by omega) (by omega) ?_
  rw [bh0]
  first | refine T_isubN dX11_silence_216 (by omega) ?_ | refine T_isub dX11_silence_216 ?_
  first | refine T_isubN dX11_silence_217 (by omega) ?_ | refine T_isub dX11_silence_217 ?_
  refine T_istore dX11_silence_218 (by decide) rfl ?_
  refine T_iload dX11_silence_220 rfl ?_
  refine T_iload dX11_silence_222 rfl ?_
  refine T_iload dX11_silence_224 rfl ?_
  refine T_icmp_lt (tgt := 243) dX11_silence_226 rfl (fun b226 => ?_) (fun b226 => ?_)
  · refine T_iconst dX11_silence_243 (inr rfl) ?_
    refine T_ior dX11_silence_244 ?_
    refine T_istore dX11_silence_245 (by decide) rfl ?_
    refine T_iincN dX11_silence_247 rfl (by decide) rfl (by omega) ?_
    refine T_goto (tgt := 40) dX11_silence_250 rfl ?_
    rw [if_neg (by omega)] at h
    rw [bor_0 hS]
    refine T_keep [0, 1, 2, 3, 4, 5, 6] ?_
    exact h
  · refine T_iload dX11_silence_229 rfl ?_
    refine T_iload dX11_silence_231 rfl ?_
    refine T_icmp_lt (tgt := 243) dX11_silence_233 rfl (fun b233 => ?_) (fun b233 => ?_)
    · refine T_iconst dX11_silence_243 (inr rfl) ?_
      refine T_ior dX11_silence_244 ?_
      refine T_istore dX11_silence_245 (by decide) rfl ?_
      refine T_iincN dX11_silence_247 rfl (by decide) rfl (by omega) ?_
      refine T_goto (tgt := 40) dX11_silence_250 rfl ?_
      rw [if_neg (by omega)] at h
      rw [bor_0 hS]
      refine T_keep [0, 1, 2, 3, 4, 5, 6] ?_
      exact h
    · refine T_iconst dX11_silence_236 (inr rfl) ?_
      refine T_iload dX11_silence_237 rfl ?_
      refine T_ishl dX11_silence_239 (by omega) (by omega) ?_
      refine T_goto (tgt := 244) dX11_silence_240 rfl ?_
      refine T_ior dX11_silence_244 ?_
      refine T_istore dX11_silence_245 (by decide) rfl ?_
      refine T_iincN dX11_silence_247 rfl (by decide) rfl (by omega) ?_
      refine T_goto (tgt := 40) dX11_silence_250 rfl ?_
      rw [if_pos (by omega)] at h
      refine T_keep [0, 1, 2, 3, 4, 5, 6] ?_
      exact h
set_option maxHeartbeats 4000000 in
set_option maxRecDepth 100000 in
theorem yl_sil1 (c : HC) {n : Nat} (hg : RGV c) (hv : RSV c n) (p q : Nat) (hp : p < n) (hq : q < n) (a b S : Int) (ha : 0 ≤ a ∧ a ≤ 41) (hb : 0 ≤ b ∧ b ≤ 41) (hS : InR S) (Q : Option PV → HC → Prop)
    (h : TT mX11_silence 3 40 [(0, vr 122), (1, vi (p : Int)), (2, vi (q : Int)), (3, vi a), (4, vi b), (5, vi (if -wayF (c 122 1) (c 127) (p : Int) 0 (q : Int) 0 - 0 ≤ -wayF (c 122 1) (c 127) (p : Int) a (q : Int) 0 - 1 ∧ wayF (c 122 1) (c 127) (p : Int) a (q : Int) b - 1 ≤ wayF (c 122 1) (c 127) (p : Int) a (q : Int) 0 - 0 then bor S (wr (1 * 2 ^ (1 : Int).toNat)) else S)), (6, vi 2)] [] c Q) : TT mX11_silence 3 40 [(0, vr 122), (1, vi (p : Int)), (2, vi (q : Int)), (3, vi a), (4, vi b), (5, vi S), (6, vi 1)] [] c Q := by
  have hn10 := hv.2.1
  have hwp := (hv.2.2 p hp).2.2.1
  have hwq := (hv.2.2 q hq).2.2.1
  have hm := hg.2.1
  have w1 := wayF_sm (mud := c 122 1) (wt := c 127) (p := (p : Int)) (q := (q : Int)) (a := a) (b := 0) hm (by omega) (by omega) (by rw [Int.toNat_natCast]; exact hwp) (by rw [Int.toNat_natCast]; exact hwq)
  have w2 := wayF_sm (mud := c 122 1) (wt := c 127) (p := (p : Int)) (q := (q : Int)) (a := 0) (b := 0) hm (by omega) (by omega) (by rw [Int.toNat_natCast]; exact hwp) (by rw [Int.toNat_natCast]; exact hwq)
  have w3 := wayF_sm (mud := c 122 1) (wt := c 127) (p := (p : Int)) (q := (q : Int)) (a := a) (b := b) hm (by omega) (by omega) (by rw [Int.toNat_natCast]; exact hwp) (by rw [Int.toNat_natCast]; exact hwq)
  refine T_iload dX11_silence_40 rfl ?_
  refine T_iconst dX11_silence_42 (inr rfl) ?_
  refine T_icmp_ge (tgt := 253) dX11_silence_43 rfl (fun b43 => absurd b43 (by omega)) (fun b43 => ?_)
  refine T_aloadn dX11_silence_46 rfl rfl ?_
  refine T_iloadn dX11_silence_47 rfl rfl ?_
  refine T_iload dX11_silence_48 rfl ?_
  refine T_iconst dX11_silence_50 (inr rfl) ?_
  refine TT_Si dX11_silence_51 (r_has c 1 0 (by omega)) kX11_151 (by decide) rfl (leb rfl) ?_
  rw [bt10]
  refine T_if_eq (tgt := 61) dX11_silence_54 rfl (fun b54 => absurd b54 (by omega)) (fun b54 => ?_)
  refine T_iloadn dX11_silence_57 rfl rfl ?_
  refine T_goto (tgt := 62) dX11_silence_58 rfl ?_
  refine T_iloadn dX11_silence_62 rfl rfl ?_
  refine T_iload dX11_silence_63 rfl ?_
  refine T_iconst dX11_silence_65 (inr rfl) ?_
  refine TT_Si dX11_silence_66 (r_has c 1 1 (by omega)) kX11_151 (by decide) rfl (leb rfl) ?_
  rw [bt11]
  refine T_if_eq (tgt := 77) dX11_silence_69 rfl (fun b69 => ?_) (fun b69 => absurd b69 (by omega))
  refine T_iconst dX11_silence_77 (inr rfl) ?_
  refine TT_Vi dX11_silence_78 (r_goesBy c p q (by omega) (by omega) a 0 (by omega) (by omega)) kX11_217 (by decide) (by first | decide | omega) (by first | assumption | rfl) rfl (leb rfl) ?_
  first | refine T_inegN dX11_silence_81 (by omega) ?_ | refine T_ineg dX11_silence_81 ?_
  refine T_iload dX11_silence_82 rfl ?_
  refine T_iconst dX11_silence_84 (inr rfl) ?_
  refine T_iand dX11_silence_85 ?_
  rw [bn1]
  first | refine T_isubN dX11_silence_86 (by omega) ?_ | refine T_isub dX11_silence_86 ?_
  refine T_istore dX11_silence_87 (by decide) rfl ?_
  refine T_aloadn dX11_silence_89 rfl rfl ?_
  refine T_iloadn dX11_silence_90 rfl rfl ?_
  refine T_iload dX11_silence_91 rfl ?_
  refine T_iconst dX11_silence_93 (inr rfl) ?_
  refine TT_Si dX11_silence_94 (r_has c 1 0 (by omega)) kX11_151 (by decide) rfl (leb rfl) ?_
  rw [bt10]
  refine T_if_eq (tgt := 104) dX11_silence_97 rfl (fun b97 => absurd b97 (by omega)) (fun b97 => ?_)
  refine T_iconst dX11_silence_100 (inr rfl) ?_
  refine T_goto (tgt := 105) dX11_silence_101 rfl ?_
  refine T_iloadn dX11_silence_105 rfl rfl ?_
  refine T_iload dX11_silence_106 rfl ?_
  refine T_iconst dX11_silence_108 (inr rfl) ?_
  refine TT_Si dX11_silence_109 (r_has c 1 1 (by omega)) kX11_151 (by decide) rfl (leb rfl) ?_
  rw [bt11]
  refine T_if_eq (tgt := 120) dX11_silence_112 rfl (fun b112 => ?_) (fun b112 => absurd b112 (by omega))
  refine T_iconst dX11_silence_120 (inr rfl) ?_
  refine TT_Vi dX11_silence_121 (r_goesBy c p q (by omega) (by omega) 0 0 (by omega) (by omega)) kX11_217 (by decide) (by first | decide | omega) (by first | assumption | rfl) rfl (leb rfl) ?_
  first | refine T_inegN dX11_silence_124 (by omega) ?_ | refine T_ineg dX11_silence_124 ?_
  refine T_iconst dX11_silence_125 (inr rfl) ?_
  refine T_iload dX11_silence_126 rfl ?_
  refine T_iconst dX11_silence_128 (inr rfl) ?_
  refine T_iand dX11_silence_129 ?_
  rw [bn1]
  first | refine T_isubN dX11_silence_130 (by omega) ?_ | refine T_isub dX11_silence_130 ?_
  first | refine T_isubN dX11_silence_131 (by omega) ?_ | refine T_isub dX11_silence_131 ?_
  refine T_istore dX11_silence_132 (by decide) rfl ?_
  refine T_aloadn dX11_silence_134 rfl rfl ?_
  refine T_iloadn dX11_silence_135 rfl rfl ?_
  refine T_iload dX11_silence_136 rfl ?_
  refine T_iconst dX11_silence_138 (inr rfl) ?_
  refine TT_Si dX11_silence_139 (r_has c 1 0 (by omega)) kX11_151 (by decide) rfl (leb rfl) ?_
  rw [bt10]
  refine T_if_eq (tgt := 149) dX11_silence_142 rfl (fun b142 => absurd b142 (by omega)) (fun b142 => ?_)
  refine T_iloadn dX11_silence_145 rfl rfl ?_
  refine T_goto (tgt := 150) dX11_silence_146 rfl ?_
  refine T_iloadn dX11_silence_150 rfl rfl ?_
  refine T_iload dX11_silence_151 rfl ?_
  refine T_iconst dX11_silence_153 (inr rfl) ?_
  refine TT_Si dX11_silence_154 (r_has c 1 1 (by omega)) kX11_151 (by decide) rfl (leb rfl) ?_
  rw [bt11]
  refine T_if_eq (tgt := 165) dX11_silence_157 rfl (fun b157 => ?_) (fun b157 => absurd b157 (by omega))
  refine T_iconst dX11_silence_165 (inr rfl) ?_
  refine TT_Vi dX11_silence_166 (r_goesBy c p q (by omega) (by omega) a 0 (by omega) (by omega)) kX11_217 (by decide) (by first | decide | omega) (by first | assumption | rfl) rfl (leb rfl) ?_
  refine T_iload dX11_silence_169 rfl ?_
  refine T_iconst dX11_silence_171 (inr rfl) ?_
  refine T_ishr dX11_silence_172 (by omega) (by omega) ?_
  rw [bh1]
  first | refine T_isubN dX11_silence_173 (by omega) ?_ | refine T_isub dX11_silence_173 ?_
  refine T_istore dX11_silence_174 (by decide) rfl ?_
  refine T_aloadn dX11_silence_176 rfl rfl ?_
  refine T_iloadn dX11_silence_177 rfl rfl ?_
  refine T_iload dX11_silence_178 rfl ?_
  refine T_iconst dX11_silence_180 (inr rfl) ?_
  refine TT_Si dX11_silence_181 (r_has c 1 0 (by omega)) kX11_151 (by decide) rfl (leb rfl) ?_
  rw [bt10]
  refine T_if_eq (tgt := 191) dX11_silence_184 rfl (fun b184 => absurd b184 (by omega)) (fun b184 => ?_)
  refine T_iloadn dX11_silence_187 rfl rfl ?_
  refine T_goto (tgt := 192) dX11_silence_188 rfl ?_
  refine T_iloadn dX11_silence_192 rfl rfl ?_
  refine T_iload dX11_silence_193 rfl ?_
  refine T_iconst dX11_silence_195 (inr rfl) ?_
  refine TT_Si dX11_silence_196 (r_has c 1 1 (by omega)) kX11_151 (by decide) rfl (leb rfl) ?_
  rw [bt11]
  refine T_if_eq (tgt := 206) dX11_silence_199 rfl (fun b199 => ?_) (fun b199 => absurd b199 (by omega))
  refine T_iload dX11_silence_206 rfl ?_
  refine TT_Vi dX11_silence_208 (r_goesBy c p q (by omega) (by omega) a b (by omega) (by omega)) kX11_217 (by decide) (by first | decide | omega) (by first | assumption | rfl) rfl (leb rfl) ?_
  refine T_iconst dX11_silence_211 (inr rfl) ?_
  refine T_iload dX11_silence_212 rfl ?_
  refine T_iconst dX11_silence_214 (inr rfl) ?_
  refine T_ishr dX11_silence_215 (by omega) (by omega) ?_
  rw [bh1]
  first | refine T_isubN dX11_silence_216 (by omega) ?_ | refine T_isub dX11_silence_216 ?_
  first | refine T_isubN dX11_silence_217 (by omega) ?_ | refine T_isub dX11_silence_217 ?_
  refine T_istore dX11_silence_218 (by decide) rfl ?_
  refine T_iload dX11_silence_220 rfl ?_
  refine T_iload dX11_silence_222 rfl ?_
  refine T_iload dX11_silence_224 rfl ?_
  refine T_icmp_lt (tgt := 243) dX11_silence_226 rfl (fun b226 => ?_) (fun b226 => ?_)
  · refine T_iconst dX11_silence_243 (inr rfl) ?_
    refine T_ior dX11_silence_244 ?_
    refine T_istore dX11_silence_245 (by decide) rfl ?_
    refine T_iincN dX11_silence_247 rfl (by decide) rfl (by omega) ?_
    refine T_goto (tgt := 40) dX11_silence_250 rfl ?_
    rw [if_neg (by omega)] at h
    rw [bor_0 hS]
    refine T_keep [0, 1, 2, 3, 4, 5, 6] ?_
    exact h
  · refine T_iload dX11_silence_229 rfl ?_
    refine T_iload dX11_silence_231 rfl ?_
    refine T_icmp_lt (tgt := 243) dX11_silence_233 rfl (fun b233 => ?_) (fun b233 => ?_)
    · refine T_iconst dX11_silence_243 (inr rfl) ?_
      refine T_ior dX11_silence_244 ?_
      refine T_istore dX11_silence_245 (by decide) rfl ?_
      refine T_iincN dX11_silence_247 rfl (by decide) rfl (by omega) ?_
      refine T_goto (tgt := 40) dX11_silence_250 rfl ?_
      rw [if_neg (by omega)] at h
      rw [bor_0 hS]
      refine T_keep [0, 1, 2, 3, 4, 5, 6] ?_
      exact h
    · refine T_iconst dX11_silence_236 (inr rfl) ?_
      refine T_iload dX11_silence_237 rfl ?_
      refine T_ishl dX11_silence_239 (by omega) (by omega) ?_
      refine T_goto (tgt := 244) dX11_silence_240 rfl ?_
      refine T_ior dX11_silence_244 ?_
      refine T_istore dX11_silence_245 (by decide) rfl ?_
      refine T_iincN dX11_silence_247 rfl (by decide) rfl (by omega) ?_
      refine T_goto (tgt := 40) dX11_silence_250 rfl ?_
      rw [if_pos (by omega)] at h
      refine T_keep [0, 1, 2, 3, 4, 5, 6] ?_
      exact h
set_option maxHeartbeats 4000000 in
set_option maxRecDepth 100000 in
theorem yl_sil2 (c : HC) {n : Nat} (hg : RGV c) (hv : RSV c n) (p q : Nat) (hp : p < n) (hq : q < n) (a b S : Int) (ha : 0 ≤ a ∧ a ≤ 41) (hb : 0 ≤ b ∧ b ≤ 41) (hS : InR S) (Q : Option PV → HC → Prop)
    (h : TT mX11_silence 3 40 [(0, vr 122), (1, vi (p : Int)), (2, vi (q : Int)), (3, vi a), (4, vi b), (5, vi (if -wayF (c 122 1) (c 127) (p : Int) a (q : Int) b - 1 ≤ -wayF (c 122 1) (c 127) (p : Int) 0 (q : Int) b - 0 ∧ wayF (c 122 1) (c 127) (p : Int) 0 (q : Int) 0 - 0 ≤ wayF (c 122 1) (c 127) (p : Int) 0 (q : Int) b - 1 then bor S (wr (1 * 2 ^ (2 : Int).toNat)) else S)), (6, vi 3)] [] c Q) : TT mX11_silence 3 40 [(0, vr 122), (1, vi (p : Int)), (2, vi (q : Int)), (3, vi a), (4, vi b), (5, vi S), (6, vi 2)] [] c Q := by
  have hn10 := hv.2.1
  have hwp := (hv.2.2 p hp).2.2.1
  have hwq := (hv.2.2 q hq).2.2.1
  have hm := hg.2.1
  have w1 := wayF_sm (mud := c 122 1) (wt := c 127) (p := (p : Int)) (q := (q : Int)) (a := 0) (b := b) hm (by omega) (by omega) (by rw [Int.toNat_natCast]; exact hwp) (by rw [Int.toNat_natCast]; exact hwq)
  have w2 := wayF_sm (mud := c 122 1) (wt := c 127) (p := (p : Int)) (q := (q : Int)) (a := a) (b := b) hm (by omega) (by omega) (by rw [Int.toNat_natCast]; exact hwp) (by rw [Int.toNat_natCast]; exact hwq)
  have w3 := wayF_sm (mud := c 122 1) (wt := c 127) (p := (p : Int)) (q := (q : Int)) (a := 0) (b := 0) hm (by omega) (by omega) (by rw [Int.toNat_natCast]; exact hwp) (by rw [Int.toNat_natCast]; exact hwq)
  refine T_iload dX11_silence_40 rfl ?_
  refine T_iconst dX11_silence_42 (inr rfl) ?_
  refine T_icmp_ge (tgt := 253) dX11_silence_43 rfl (fun b43 => absurd b43 (by omega)) (fun b43 => ?_)
  refine T_aloadn dX11_silence_46 rfl rfl ?_
  refine T_iloadn dX11_silence_47 rfl rfl ?_
  refine T_iload dX11_silence_48 rfl ?_
  refine T_iconst dX11_silence_50 (inr rfl) ?_
  refine TT_Si dX11_silence_51 (r_has c 2 0 (by omega)) kX11_151 (by decide) rfl (leb rfl) ?_
  rw [bt20]
  refine T_if_eq (tgt := 61) dX11_silence_54 rfl (fun b54 => ?_) (fun b54 => absurd b54 (by omega))
  refine T_iconst dX11_silence_61 (inr rfl) ?_
  refine T_iloadn dX11_silence_62 rfl rfl ?_
  refine T_iload dX11_silence_63 rfl ?_
  refine T_iconst dX11_silence_65 (inr rfl) ?_
  refine TT_Si dX11_silence_66 (r_has c 2 1 (by omega)) kX11_151 (by decide) rfl (leb rfl) ?_
  rw [bt21]
  refine T_if_eq (tgt := 77) dX11_silence_69 rfl (fun b69 => absurd b69 (by omega)) (fun b69 => ?_)
  refine T_iload dX11_silence_72 rfl ?_
  refine T_goto (tgt := 78) dX11_silence_74 rfl ?_
  refine TT_Vi dX11_silence_78 (r_goesBy c p q (by omega) (by omega) 0 b (by omega) (by omega)) kX11_217 (by decide) (by first | decide | omega) (by first | assumption | rfl) rfl (leb rfl) ?_
  first | refine T_inegN dX11_silence_81 (by omega) ?_ | refine T_ineg dX11_silence_81 ?_
  refine T_iload dX11_silence_82 rfl ?_
  refine T_iconst dX11_silence_84 (inr rfl) ?_
  refine T_iand dX11_silence_85 ?_
  rw [bn2]
  first | refine T_isubN dX11_silence_86 (by omega) ?_ | refine T_isub dX11_silence_86 ?_
  refine T_istore dX11_silence_87 (by decide) rfl ?_
  refine T_aloadn dX11_silence_89 rfl rfl ?_
  refine T_iloadn dX11_silence_90 rfl rfl ?_
  refine T_iload dX11_silence_91 rfl ?_
  refine T_iconst dX11_silence_93 (inr rfl) ?_
  refine TT_Si dX11_silence_94 (r_has c 2 0 (by omega)) kX11_151 (by decide) rfl (leb rfl) ?_
  rw [bt20]
  refine T_if_eq (tgt := 104) dX11_silence_97 rfl (fun b97 => ?_) (fun b97 => absurd b97 (by omega))
  refine T_iloadn dX11_silence_104 rfl rfl ?_
  refine T_iloadn dX11_silence_105 rfl rfl ?_
  refine T_iload dX11_silence_106 rfl ?_
  refine T_iconst dX11_silence_108 (inr rfl) ?_
  refine TT_Si dX11_silence_109 (r_has c 2 1 (by omega)) kX11_151 (by decide) rfl (leb rfl) ?_
  rw [bt21]
  refine T_if_eq (tgt := 120) dX11_silence_112 rfl (fun b112 => absurd b112 (by omega)) (fun b112 => ?_)
  refine T_iload dX11_silence_115 rfl ?_
  refine T_goto (tgt := 121) dX11_silence_117 rfl ?_
  refine TT_Vi dX11_silence_121 (r_goesBy c p q (by omega) (by omega) a b (by omega) (by omega)) kX11_217 (by decide) (by first | decide | omega) (by first | assumption | rfl) rfl (leb rfl) ?_
  first | refine T_inegN dX11_silence_124 (by omega) ?_ | refine T_ineg dX11_silence_124 ?_
  refine T_iconst dX11_silence_125 (inr rfl) ?_
  refine T_iload dX11_silence_126 rfl ?_
  refine T_iconst dX11_silence_128 (inr rfl) ?_
  refine T_iand dX11_silence_129 ?_
  rw [bn2]
  first | refine T_isubN dX11_silence_130 (by omega) ?_ | refine T_isub dX11_silence_130 ?_
  first | refine T_isubN dX11_silence_131 (by omega) ?_ | refine T_isub dX11_silence_131 ?_
  refine T_istore dX11_silence_132 (by decide) rfl ?_
  refine T_aloadn dX11_silence_134 rfl rfl ?_
  refine T_iloadn dX11_silence_135 rfl rfl ?_
  refine T_iload dX11_silence_136 rfl ?_
  refine T_iconst dX11_silence_138 (inr rfl) ?_
  refine TT_Si dX11_silence_139 (r_has c 2 0 (by omega)) kX11_151 (by decide) rfl (leb rfl) ?_
  rw [bt20]
  refine T_if_eq (tgt := 149) dX11_silence_142 rfl (fun b142 => ?_) (fun b142 => absurd b142 (by omega))
  refine T_iconst dX11_silence_149 (inr rfl) ?_
  refine T_iloadn dX11_silence_150 rfl rfl ?_
  refine T_iload dX11_silence_151 rfl ?_
  refine T_iconst dX11_silence_153 (inr rfl) ?_
  refine TT_Si dX11_silence_154 (r_has c 2 1 (by omega)) kX11_151 (by decide) rfl (leb rfl) ?_
  rw [bt21]
  refine T_if_eq (tgt := 165) dX11_silence_157 rfl (fun b157 => absurd b157 (by omega)) (fun b157 => ?_)
  refine T_iload dX11_silence_160 rfl ?_
  refine T_goto (tgt := 166) dX11_silence_162 rfl ?_
  refine TT_Vi dX11_silence_166 (r_goesBy c p q (by omega) (by omega) 0 b (by omega) (by omega)) kX11_217 (by decide) (by first | decide | omega) (by first | assumption | rfl) rfl (leb rfl) ?_
  refine T_iload dX11_silence_169 rfl ?_
  refine T_iconst dX11_silence_171 (inr rfl) ?_
  refine T_ishr dX11_silence_172 (by omega) (by omega) ?_
  rw [bh2]
  first | refine T_isubN dX11_silence_173 (by omega) ?_ | refine T_isub dX11_silence_173 ?_
  refine T_istore dX11_silence_174 (by decide) rfl ?_
  refine T_aloadn dX11_silence_176 rfl rfl ?_
  refine T_iloadn dX11_silence_177 rfl rfl ?_
  refine T_iload dX11_silence_178 rfl ?_
  refine T_iconst dX11_silence_180 (inr rfl) ?_
  refine TT_Si dX11_silence_181 (r_has c 2 0 (by omega)) kX11_151 (by decide) rfl (leb rfl) ?_
  rw [bt20]
  refine T_if_eq (tgt := 191) dX11_silence_184 rfl (fun b184 => ?_) (fun b184 => absurd b184 (by omega))
  refine T_iconst dX11_silence_191 (inr rfl) ?_
  refine T_iloadn dX11_silence_192 rfl rfl ?_
  refine T_iload dX11_silence_193 rfl ?_
  refine T_iconst dX11_silence_195 (inr rfl) ?_
  refine TT_Si dX11_silence_196 (r_has c 2 1 (by omega)) kX11_151 (by decide) rfl (leb rfl) ?_
  rw [bt21]
  refine T_if_eq (tgt := 206) dX11_silence_199 rfl (fun b199 => absurd b199 (by omega)) (fun b199 => ?_)
  refine T_iconst dX11_silence_202 (inr rfl) ?_
  refine T_goto (tgt := 208) dX11_silence_203 rfl ?_
  refine TT_Vi dX11_silence_208 (r_goesBy c p q (by omega) (by omega) 0 0 (by omega) (by omega)) kX11_217 (by decide) (by first | decide | omega) (by first | assumption | rfl) rfl (leb rfl) ?_
  refine T_iconst dX11_silence_211 (inr rfl) ?_
  refine T_iload dX11_silence_212 rfl ?_
  refine T_iconst dX11_silence_214 (inr rfl) ?_
  refine T_ishr dX11_silence_215 (by omega) (by omega) ?_
  rw [bh2]
  first | refine T_isubN dX11_silence_216 (by omega) ?_ | refine T_isub dX11_silence_216 ?_
  first | refine T_isubN dX11_silence_217 (by omega) ?_ | refine T_isub dX11_silence_217 ?_
  refine T_istore dX11_silence_218 (by decide) rfl ?_
  refine T_iload dX11_silence_220 rfl ?_
  refine T_iload dX11_silence_222 rfl ?_
  refine T_iload dX11_silence_224 rfl ?_
  refine T_icmp_lt (tgt := 243) dX11_silence_226 rfl (fun b226 => ?_) (fun b226 => ?_)
  · refine T_iconst dX11_silence_243 (inr rfl) ?_
    refine T_ior dX11_silence_244 ?_
    refine T_istore dX11_silence_245 (by decide) rfl ?_
    refine T_iincN dX11_silence_247 rfl (by decide) rfl (by omega) ?_
    refine T_goto (tgt := 40) dX11_silence_250 rfl ?_
    rw [if_neg (by omega)] at h
    rw [bor_0 hS]
    refine T_keep [0, 1, 2, 3, 4, 5, 6] ?_
    exact h
  · refine T_iload dX11_silence_229 rfl ?_
    refine T_iload dX11_silence_231 rfl ?_
    refine T_icmp_lt (tgt := 243) dX11_silence_233 rfl (fun b233 => ?_) (fun b233 => ?_)
    · refine T_iconst dX11_silence_243 (inr rfl) ?_
      refine T_ior dX11_silence_244 ?_
      refine T_istore dX11_silence_245 (by decide) rfl ?_
      refine T_iincN dX11_silence_247 rfl (by decide) rfl (by omega) ?_
      refine T_goto (tgt := 40) dX11_silence_250 rfl ?_
      rw [if_neg (by omega)] at h
      rw [bor_0 hS]
      refine T_keep [0, 1, 2, 3, 4, 5, 6] ?_
      exact h
    · refine T_iconst dX11_silence_236 (inr rfl) ?_
      refine T_iload dX11_silence_237 rfl ?_
      refine T_ishl dX11_silence_239 (by omega) (by omega) ?_
      refine T_goto (tgt := 244) dX11_silence_240 rfl ?_
      refine T_ior dX11_silence_244 ?_
      refine T_istore dX11_silence_245 (by decide) rfl ?_
      refine T_iincN dX11_silence_247 rfl (by decide) rfl (by omega) ?_
      refine T_goto (tgt := 40) dX11_silence_250 rfl ?_
      rw [if_pos (by omega)] at h
      refine T_keep [0, 1, 2, 3, 4, 5, 6] ?_
      exact h
set_option maxHeartbeats 4000000 in
set_option maxRecDepth 100000 in
theorem yl_sil3 (c : HC) {n : Nat} (hg : RGV c) (hv : RSV c n) (p q : Nat) (hp : p < n) (hq : q < n) (a b S : Int) (ha : 0 ≤ a ∧ a ≤ 41) (hb : 0 ≤ b ∧ b ≤ 41) (hS : InR S) (Q : Option PV → HC → Prop)
    (h : TT mX11_silence 3 40 [(0, vr 122), (1, vi (p : Int)), (2, vi (q : Int)), (3, vi a), (4, vi b), (5, vi (if -wayF (c 122 1) (c 127) (p : Int) 0 (q : Int) b - 0 ≤ -wayF (c 122 1) (c 127) (p : Int) a (q : Int) b - 1 ∧ wayF (c 122 1) (c 127) (p : Int) a (q : Int) 0 - 0 ≤ wayF (c 122 1) (c 127) (p : Int) a (q : Int) b - 1 then bor S (wr (1 * 2 ^ (3 : Int).toNat)) else S)), (6, vi 4)] [] c Q) : TT mX11_silence 3 40 [(0, vr 122), (1, vi (p : Int)), (2, vi (q : Int)), (3, vi a), (4, vi b), (5, vi S), (6, vi 3)] [] c Q := by
  have hn10 := hv.2.1
  have hwp := (hv.2.2 p hp).2.2.1
  have hwq := (hv.2.2 q hq).2.2.1
  have hm := hg.2.1
  have w1 := wayF_sm (mud := c 122 1) (wt := c 127) (p := (p : Int)) (q := (q : Int)) (a := a) (b := b) hm (by omega) (by omega) (by rw [Int.toNat_natCast]; exact hwp) (by rw [Int.toNat_natCast]; exact hwq)
  have w2 := wayF_sm (mud := c 122 1) (wt := c 127) (p := (p : Int)) (q := (q : Int)) (a := 0) (b := b) hm (by omega) (by omega) (by rw [Int.toNat_natCast]; exact hwp) (by rw [Int.toNat_natCast]; exact hwq)
  have w3 := wayF_sm (mud := c 122 1) (wt := c 127) (p := (p : Int)) (q := (q : Int)) (a := a) (b := 0) hm (by omega) (by omega) (by rw [Int.toNat_natCast]; exact hwp) (by rw [Int.toNat_natCast]; exact hwq)
  refine T_iload dX11_silence_40 rfl ?_
  refine T_iconst dX11_silence_42 (inr rfl) ?_
  refine T_icmp_ge (tgt := 253) dX11_silence_43 rfl (fun b43 => absurd b43 (by omega)) (fun b43 => ?_)
  refine T_aloadn dX11_silence_46 rfl rfl ?_
  refine T_iloadn dX11_silence_47 rfl rfl ?_
  refine T_iload dX11_silence_48 rfl ?_
  refine T_iconst dX11_silence_50 (inr rfl) ?_
  refine TT_Si dX11_silence_51 (r_has c 3 0 (by omega)) kX11_151 (by decide) rfl (leb rfl) ?_
  rw [bt30]
  refine T_if_eq (tgt := 61) dX11_silence_54 rfl (fun b54 => absurd b54 (by omega)) (fun b54 => ?_)
  refine T_iloadn dX11_silence_57 rfl rfl ?_
  refine T_goto (tgt := 62) dX11_silence_58 rfl ?_
  refine T_iloadn dX11_silence_62 rfl rfl ?_
  refine T_iload dX11_silence_63 rfl ?_
  refine T_iconst dX11_silence_65 (inr rfl) ?_
  refine TT_Si dX11_silence_66 (r_has c 3 1 (by omega)) kX11_151 (by decide) rfl (leb rfl) ?_
  rw [bt31]
  refine T_if_eq (tgt := 77) dX11_silence_69 rfl (fun b69 => absurd b69 (by omega)) (fun b69 => ?_)
  refine T_iload dX11_silence_72 rfl ?_
  refine T_goto (tgt := 78) dX11_silence_74 rfl ?_
  refine TT_Vi dX11_silence_78 (r_goesBy c p q (by omega) (by omega) a b (by omega) (by omega)) kX11_217 (by decide) (by first | decide | omega) (by first | assumption | rfl) rfl (leb rfl) ?_
  first | refine T_inegN dX11_silence_81 (by omega) ?_ | refine T_ineg dX11_silence_81 ?_
  refine T_iload dX11_silence_82 rfl ?_
  refine T_iconst dX11_silence_84 (inr rfl) ?_
  refine T_iand dX11_silence_85 ?_
  rw [bn3]
  first | refine T_isubN dX11_silence_86 (by omega) ?_ | refine T_isub dX11_silence_86 ?_
  refine T_istore dX11_silence_87 (by decide) rfl ?_
  refine T_aloadn dX11_silence_89 rfl rfl ?_
  refine T_iloadn dX11_silence_90 rfl rfl ?_
  refine T_iload dX11_silence_91 rfl ?_
  refine T_iconst dX11_silence_93 (inr rfl) ?_
  refine TT_Si dX11_silence_94 (r_has c 3 0 (by omega)) kX11_151 (by decide) rfl (leb rfl) ?_
  rw [bt30]
  refine T_if_eq (tgt := 104) dX11_silence_97 rfl (fun b97 => absurd b97 (by omega)) (fun b97 => ?_)
  refine T_iconst dX11_silence_100 (inr rfl) ?_
  refine T_goto (tgt := 105) dX11_silence_101 rfl ?_
  refine T_iloadn dX11_silence_105 rfl rfl ?_
  refine T_iload dX11_silence_106 rfl ?_
  refine T_iconst dX11_silence_108 (inr rfl) ?_
  refine TT_Si dX11_silence_109 (r_has c 3 1 (by omega)) kX11_151 (by decide) rfl (leb rfl) ?_
  rw [bt31]
  refine T_if_eq (tgt := 120) dX11_silence_112 rfl (fun b112 => absurd b112 (by omega)) (fun b112 => ?_)
  refine T_iload dX11_silence_115 rfl ?_
  refine T_goto (tgt := 121) dX11_silence_117 rfl ?_
  refine TT_Vi dX11_silence_121 (r_goesBy c p q (by omega) (by omega) 0 b (by omega) (by omega)) kX11_217 (by decide) (by first | decide | omega) (by first | assumption | rfl) rfl (leb rfl) ?_
  first | refine T_inegN dX11_silence_124 (by omega) ?_ | refine T_ineg dX11_silence_124 ?_
  refine T_iconst dX11_silence_125 (inr rfl) ?_
  refine T_iload dX11_silence_126 rfl ?_
  refine T_iconst dX11_silence_128 (inr rfl) ?_
  refine T_iand dX11_silence_129 ?_
  rw [bn3]
  first | refine T_isubN dX11_silence_130 (by omega) ?_ | refine T_isub dX11_silence_130 ?_
  first | refine T_isubN dX11_silence_131 (by omega) ?_ | refine T_isub dX11_silence_131 ?_
  refine T_istore dX11_silence_132 (by decide) rfl ?_
  refine T_aloadn dX11_silence_134 rfl rfl ?_
  refine T_iloadn dX11_silence_135 rfl rfl ?_
  refine T_iload dX11_silence_136 rfl ?_
  refine T_iconst dX11_silence_138 (inr rfl) ?_
  refine TT_Si dX11_silence_139 (r_has c 3 0 (by omega)) kX11_151 (by decide) rfl (leb rfl) ?_
  rw [bt30]
  refine T_if_eq (tgt := 149) dX11_silence_142 rfl (fun b142 => absurd b142 (by omega)) (fun b142 => ?_)
  refine T_iloadn dX11_silence_145 rfl rfl ?_
  refine T_goto (tgt := 150) dX11_silence_146 rfl ?_
  refine T_iloadn dX11_silence_150 rfl rfl ?_
  refine T_iload dX11_silence_151 rfl ?_
  refine T_iconst dX11_silence_153 (inr rfl) ?_
  refine TT_Si dX11_silence_154 (r_has c 3 1 (by omega)) kX11_151 (by decide) rfl (leb rfl) ?_
  rw [bt31]
  refine T_if_eq (tgt := 165) dX11_silence_157 rfl (fun b157 => absurd b157 (by omega)) (fun b157 => ?_)
  refine T_iload dX11_silence_160 rfl ?_
  refine T_goto (tgt := 166) dX11_silence_162 rfl ?_
  refine TT_Vi dX11_silence_166 (r_goesBy c p q (by omega) (by omega) a b (by omega) (by omega)) kX11_217 (by decide) (by first | decide | omega) (by first | assumption | rfl) rfl (leb rfl) ?_
  refine T_iload dX11_silence_169 rfl ?_
  refine T_iconst dX11_silence_171 (inr rfl) ?_
  refine T_ishr dX11_silence_172 (by omega) (by omega) ?_
  rw [bh3]
  first | refine T_isubN dX11_silence_173 (by omega) ?_ | refine T_isub dX11_silence_173 ?_
  refine T_istore dX11_silence_174 (by decide) rfl ?_
  refine T_aloadn dX11_silence_176 rfl rfl ?_
  refine T_iloadn dX11_silence_177 rfl rfl ?_
  refine T_iload dX11_silence_178 rfl ?_
  refine T_iconst dX11_silence_180 (inr rfl) ?_
  refine TT_Si dX11_silence_181 (r_has c 3 0 (by omega)) kX11_151 (by decide) rfl (leb rfl) ?_
  rw [bt30]
  refine T_if_eq (tgt := 191) dX11_silence_184 rfl (fun b184 => absurd b184 (by omega)) (fun b184 => ?_)
  refine T_iloadn dX11_silence_187 rfl rfl ?_
  refine T_goto (tgt := 192) dX11_silence_188 rfl ?_
  refine T_iloadn dX11_silence_192 rfl rfl ?_
  refine T_iload dX11_silence_193 rfl ?_
  refine T_iconst dX11_silence_195 (inr rfl) ?_
  refine TT_Si dX11_silence_196 (r_has c 3 1 (by omega)) kX11_151 (by decide) rfl (leb rfl) ?_
  rw [bt31]
  refine T_if_eq (tgt := 206) dX11_silence_199 rfl (fun b199 => absurd b199 (by omega)) (fun b199 => ?_)
  refine T_iconst dX11_silence_202 (inr rfl) ?_
  refine T_goto (tgt := 208) dX11_silence_203 rfl ?_
  refine TT_Vi dX11_silence_208 (r_goesBy c p q (by omega) (by omega) a 0 (by omega) (by omega)) kX11_217 (by decide) (by first | decide | omega) (by first | assumption | rfl) rfl (leb rfl) ?_
  refine T_iconst dX11_silence_211 (inr rfl) ?_
  refine T_iload dX11_silence_212 rfl ?_
  refine T_iconst dX11_silence_214 (inr rfl) ?_
  refine T_ishr dX11_silence_215 (by omega) (by omega) ?_
  rw [bh3]
  first | refine T_isubN dX11_silence_216 (by omega) ?_ | refine T_isub dX11_silence_216 ?_
  first | refine T_isubN dX11_silence_217 (by omega) ?_ | refine T_isub dX11_silence_217 ?_
  refine T_istore dX11_silence_218 (by decide) rfl ?_
  refine T_iload dX11_silence_220 rfl ?_
  refine T_iload dX11_silence_222 rfl ?_
  refine T_iload dX11_silence_224 rfl ?_
  refine T_icmp_lt (tgt := 243) dX11_silence_226 rfl (fun b226 => ?_) (fun b226 => ?_)
  · refine T_iconst dX11_silence_243 (inr rfl) ?_
    refine T_ior dX11_silence_244 ?_
    refine T_istore dX11_silence_245 (by decide) rfl ?_
    refine T_iincN dX11_silence_247 rfl (by decide) rfl (by omega) ?_
    refine T_goto (tgt := 40) dX11_silence_250 rfl ?_
    rw [if_neg (by omega)] at h
    rw [bor_0 hS]
    refine T_keep [0, 1, 2, 3, 4, 5, 6] ?_
    exact h
  · refine T_iload dX11_silence_229 rfl ?_
    refine T_iload dX11_silence_231 rfl ?_
    refine T_icmp_lt (tgt := 243) dX11_silence_233 rfl (fun b233 => ?_) (fun b233 => ?_)
    · refine T_iconst dX11_silence_243 (inr rfl) ?_
      refine T_ior dX11_silence_244 ?_
      refine T_istore dX11_silence_245 (by decide) rfl ?_
      refine T_iincN dX11_silence_247 rfl (by decide) rfl (by omega) ?_
      refine T_goto (tgt := 40) dX11_silence_250 rfl ?_
      rw [if_neg (by omega)] at h
      rw [bor_0 hS]
      refine T_keep [0, 1, 2, 3, 4, 5, 6] ?_
      exact h
    · refine T_iconst dX11_silence_236 (inr rfl) ?_
      refine T_iload dX11_silence_237 rfl ?_
      refine T_ishl dX11_silence_239 (by omega) (by omega) ?_
      refine T_goto (tgt := 244) dX11_silence_240 rfl ?_
      refine T_ior dX11_silence_244 ?_
      refine T_istore dX11_silence_245 (by decide) rfl ?_
      refine T_iincN dX11_silence_247 rfl (by decide) rfl (by omega) ?_
      refine T_goto (tgt := 40) dX11_silence_250 rfl ?_
      rw [if_pos (by omega)] at h
      refine T_keep [0, 1, 2, 3, 4, 5, 6] ?_
      exact h
set_option maxHeartbeats 4000000 in
set_option maxRecDepth 100000 in
theorem yl_sil4 (c : HC) (p q : Nat) (a b S : Int) : TT mX11_silence 3 40 [(0, vr 122), (1, vi (p : Int)), (2, vi (q : Int)), (3, vi a), (4, vi b), (5, vi S), (6, vi 4)] [] c (fun v c1 => v = some (vi S) ∧ c1 = c) := by
  refine T_iload dX11_silence_40 rfl ?_
  refine T_iconst dX11_silence_42 (inr rfl) ?_
  refine T_icmp_ge (tgt := 253) dX11_silence_43 rfl (fun b43 => ?_) (fun b43 => absurd b43 (by omega))
  refine T_iload dX11_silence_253 rfl ?_
  refine TT_ri dX11_silence_255 trivial ?_
  exact ro_q rfl
set_option maxHeartbeats 4000000 in
set_option maxRecDepth 100000 in
theorem yl_sil (c : HC) {n : Nat} (hg : RGV c) (hv : RSV c n) (p q : Nat) (hp : p < n) (hq : q < n) (a b : Int) (ha : 0 ≤ a ∧ a ≤ 41) (hb : 0 ≤ b ∧ b ≤ 41) : TT mX11_silence 3 40 [(0, vr 122), (1, vi (p : Int)), (2, vi (q : Int)), (3, vi a), (4, vi b), (5, vi 0), (6, vi 0)] [] c (fun v c1 => v = some (vi (silU (gainF (c 122 1) (c 127) a b (p : Int) (q : Int)) 4)) ∧ c1 = c) := by
  have hI : ∀ k, InR (silU (gainF (c 122 1) (c 127) a b (p : Int) (q : Int)) k) := fun k => by
    induction k with
    | zero => exact InR0
    | succ k ih =>
      unfold silU
      split
      · exact bor_in _ _
      · exact ih
  have s0 : silU (gainF (c 122 1) (c 127) a b (p : Int) (q : Int)) 1 = if -wayF (c 122 1) (c 127) (p : Int) a (q : Int) 0 - 1 ≤ -wayF (c 122 1) (c 127) (p : Int) 0 (q : Int) 0 - 0 ∧ wayF (c 122 1) (c 127) (p : Int) 0 (q : Int) b - 1 ≤ wayF (c 122 1) (c 127) (p : Int) 0 (q : Int) 0 - 0 then bor (silU (gainF (c 122 1) (c 127) a b (p : Int) (q : Int)) 0) (wr (1 * 2 ^ (0 : Int).toNat)) else silU (gainF (c 122 1) (c 127) a b (p : Int) (q : Int)) 0 := by
    rw [silU.eq_2]
    rw [show (((0 : Nat)) : Int) = 0 from rfl, bx01, bx02, gn01, gn00, gn12, gn10]
  have s1 : silU (gainF (c 122 1) (c 127) a b (p : Int) (q : Int)) 2 = if -wayF (c 122 1) (c 127) (p : Int) 0 (q : Int) 0 - 0 ≤ -wayF (c 122 1) (c 127) (p : Int) a (q : Int) 0 - 1 ∧ wayF (c 122 1) (c 127) (p : Int) a (q : Int) b - 1 ≤ wayF (c 122 1) (c 127) (p : Int) a (q : Int) 0 - 0 then bor (silU (gainF (c 122 1) (c 127) a b (p : Int) (q : Int)) 1) (wr (1 * 2 ^ (1 : Int).toNat)) else silU (gainF (c 122 1) (c 127) a b (p : Int) (q : Int)) 1 := by
    rw [silU.eq_2]
    rw [show (((1 : Nat)) : Int) = 1 from rfl, bx11, bx12, gn00, gn01, gn13, gn11]
  have s2 : silU (gainF (c 122 1) (c 127) a b (p : Int) (q : Int)) 3 = if -wayF (c 122 1) (c 127) (p : Int) a (q : Int) b - 1 ≤ -wayF (c 122 1) (c 127) (p : Int) 0 (q : Int) b - 0 ∧ wayF (c 122 1) (c 127) (p : Int) 0 (q : Int) 0 - 0 ≤ wayF (c 122 1) (c 127) (p : Int) 0 (q : Int) b - 1 then bor (silU (gainF (c 122 1) (c 127) a b (p : Int) (q : Int)) 2) (wr (1 * 2 ^ (2 : Int).toNat)) else silU (gainF (c 122 1) (c 127) a b (p : Int) (q : Int)) 2 := by
    rw [silU.eq_2]
    rw [show (((2 : Nat)) : Int) = 2 from rfl, bx21, bx22, gn03, gn02, gn10, gn12]
  have s3 : silU (gainF (c 122 1) (c 127) a b (p : Int) (q : Int)) 4 = if -wayF (c 122 1) (c 127) (p : Int) 0 (q : Int) b - 0 ≤ -wayF (c 122 1) (c 127) (p : Int) a (q : Int) b - 1 ∧ wayF (c 122 1) (c 127) (p : Int) a (q : Int) 0 - 0 ≤ wayF (c 122 1) (c 127) (p : Int) a (q : Int) b - 1 then bor (silU (gainF (c 122 1) (c 127) a b (p : Int) (q : Int)) 3) (wr (1 * 2 ^ (3 : Int).toNat)) else silU (gainF (c 122 1) (c 127) a b (p : Int) (q : Int)) 3 := by
    rw [silU.eq_2]
    rw [show (((3 : Nat)) : Int) = 3 from rfl, bx31, bx32, gn02, gn03, gn11, gn13]
  refine yl_sil0 c hg hv p q hp hq a b 0 ha hb InR0 _ ?_
  have e0 : (if -wayF (c 122 1) (c 127) (p : Int) a (q : Int) 0 - 1 ≤ -wayF (c 122 1) (c 127) (p : Int) 0 (q : Int) 0 - 0 ∧ wayF (c 122 1) (c 127) (p : Int) 0 (q : Int) b - 1 ≤ wayF (c 122 1) (c 127) (p : Int) 0 (q : Int) 0 - 0 then bor 0 (wr (1 * 2 ^ (0 : Int).toNat)) else 0) = silU (gainF (c 122 1) (c 127) a b (p : Int) (q : Int)) 1 := s0.symm
  rw [e0]
  refine yl_sil1 c hg hv p q hp hq a b _ ha hb (hI 1) _ ?_
  rw [← s1]
  refine yl_sil2 c hg hv p q hp hq a b _ ha hb (hI 2) _ ?_
  rw [← s2]
  refine yl_sil3 c hg hv p q hp hq a b _ ha hb (hI 3) _ ?_
  rw [← s3]
  exact yl_sil4 c p q a b _
theorem isOf_nz {n : Nat} {sd : Nat → Int} {s p : Int} (h : isOfF n sd s p ≠ 0) : ∃ r : Nat, p = (r : Int) ∧ r < n ∧ sd r = s := by
  rcases isOf_01 n sd s p with k | ⟨_, k1, k2, k3⟩
  · exact absurd k h
  · exact ⟨p.toNat, by omega, by omega, k3⟩
set_option maxHeartbeats 4000000 in
set_option maxRecDepth 100000 in
theorem y_silence (c : HC) {n : Nat} (hg : RGV c) (hv : RSV c n) (hb : ∀ j, j < n → 0 ≤ c 130 (2 + j)) (p q : Int) : RO mX11_silence 3 c [vr 122, vi p, vi q] (silF (opF n (c 125) p q) (gainF (c 122 1) (c 127) (lg0 (c 141) (c 130 (2 + p.toNat))) (lg0 (c 141) (c 130 (2 + q.toNat))) p q)) := by
  have hn10 := hv.2.1
  refine CC.of (by decide +kernel) (leb rfl) (fun hok => ?_)
  unfold silF opF UNK
  refine T_aloadn dX11_silence_0 rfl rfl ?_
  refine T_iloadn dX11_silence_1 rfl rfl ?_
  refine T_iconst dX11_silence_2 (inr rfl) ?_
  refine TT_Vi dX11_silence_3 (r_isOf c hv p 0) kX11_231 (by decide) (by first | decide | omega) (by first | assumption | rfl) rfl (leb rfl) ?_
  refine T_if_eq (tgt := 18) dX11_silence_6 rfl (fun b6 => ?_) (fun b6 => ?_)
  · refine T_ldc dX11_silence_18 cX11_200 (inr rfl) ?_
    refine TT_ri dX11_silence_20 trivial ?_
    exact ro_q (by rw [if_pos b6, if_pos rfl])
  · refine T_aloadn dX11_silence_9 rfl rfl ?_
    refine T_iloadn dX11_silence_10 rfl rfl ?_
    refine T_iconst dX11_silence_11 (inr rfl) ?_
    refine TT_Vi dX11_silence_12 (r_isOf c hv q 1) kX11_231 (by decide) (by first | decide | omega) (by first | assumption | rfl) rfl (leb rfl) ?_
    refine T_if_ne (tgt := 21) dX11_silence_15 rfl (fun b15 => ?_) (fun b15 => ?_)
    · rw [if_neg b6, if_neg b15, if_neg (by decide)]
      obtain ⟨pp, rfl, hpp, _⟩ := isOf_nz b6
      obtain ⟨qq, rfl, hqq, _⟩ := isOf_nz b15
      have l1 := lg0_bd (c 141) (hb pp hpp)
      have l2 := lg0_bd (c 141) (hb qq hqq)
      refine T_aloadn dX11_silence_21 rfl rfl ?_
      refine T_iloadn dX11_silence_22 rfl rfl ?_
      refine TT_Vi dX11_silence_23 (r_longestNow c pp (by omega) (hb pp hpp)) kX11_284 (by decide) (by first | decide | omega) (by first | assumption | rfl) rfl (leb rfl) ?_
      refine T_istoren dX11_silence_26 rfl (by decide) rfl ?_
      refine T_aloadn dX11_silence_27 rfl rfl ?_
      refine T_iloadn dX11_silence_28 rfl rfl ?_
      refine TT_Vi dX11_silence_29 (r_longestNow c qq (by omega) (hb qq hqq)) kX11_284 (by decide) (by first | decide | omega) (by first | assumption | rfl) rfl (leb rfl) ?_
      refine T_istore dX11_silence_32 (by decide) rfl ?_
      refine T_iconst dX11_silence_34 (inr rfl) ?_
      refine T_istore dX11_silence_35 (by decide) rfl ?_
      refine T_iconst dX11_silence_37 (inr rfl) ?_
      refine T_istore dX11_silence_38 (by decide) rfl ?_
      exact yl_sil c hg hv pp qq hpp hqq _ _ ⟨l1.1, l1.2.1⟩ ⟨l2.1, l2.2.1⟩
    · refine T_ldc dX11_silence_18 cX11_200 (inr rfl) ?_
      refine TT_ri dX11_silence_20 trivial ?_
      exact ro_q (by rw [if_neg b6, if_pos b15, if_pos rfl])
