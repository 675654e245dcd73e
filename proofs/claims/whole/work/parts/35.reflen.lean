/-! the reference: a word's length -/
abbrev lenR (c : HC) (w : Int) : Int := lenF (c 122 0) (c 122 2) (c 122 4) (c 123) (c 124) (c 129) w
def lenQ (c : HC) (many : Nat) (left bh sum : Int) : Int := if (many : Int) ≤ c 122 0 then lenL (c 122 2) (c 123) (c 129) ((c 122 0).toNat - many) left bh sum else -1
theorem lenQ_0 {c : HC} {many : Nat} {bh sum : Int} : lenQ c many 0 bh sum = if (many : Int) ≤ c 122 0 then sum else -1 := by
  unfold lenQ
  split
  · cases (c 122 0).toNat - many with
    | zero => unfold lenL; rw [if_pos rfl]
    | succ j => unfold lenL; rw [if_pos (Int.le_refl _), if_pos rfl]
  · rfl
theorem lenQ_i {c : HC} {left bh sum : Int} (h : 0 ≤ c 122 0) : lenQ c 0 left bh sum = lenL (c 122 2) (c 123) (c 129) (c 122 0).toNat left bh sum := by
  unfold lenQ
  rw [if_pos (show ((0 : Nat) : Int) ≤ c 122 0 by omega), Nat.sub_zero]
theorem ten10 {w : Int} (h : w ≤ 2147483647) : w / 10 < 10 ^ 10 := by
  rw [show (10 : Int) ^ 10 = 10000000000 by decide]
  omega
theorem lenQ_s {c : HC} {many : Nat} {left bh sum : Int} (hl : 0 < left) : lenQ c many left bh sum = if left % 10 - 1 < 0 ∨ c 122 2 ≤ left % 10 - 1 ∨ (bh ≠ -1 ∧ bitI (c 129 (left % 10 - 1).toNat) bh = 1) then -1 else lenQ c (many + 1) (left / 10) (left % 10 - 1) (sum + c 123 (left % 10 - 1).toNat) := by
  unfold lenQ
  by_cases hm : (many : Int) ≤ c 122 0
  · rw [if_pos hm]
    by_cases hm2 : ((many + 1 : Nat) : Int) ≤ c 122 0
    · rw [if_pos hm2]
      obtain ⟨j, hj⟩ : ∃ j, (c 122 0).toNat - many = j + 1 := ⟨(c 122 0).toNat - many - 1, by omega⟩
      rw [hj, show (c 122 0).toNat - (many + 1) = j by omega, lenL.eq_2, if_neg (by omega)]
    · rw [if_neg hm2, show (c 122 0).toNat - many = 0 by omega]
      unfold lenL
      rw [if_neg (by omega)]
      split <;> rfl
  · rw [if_neg hm, if_neg (show ¬ (((many + 1 : Nat) : Int) ≤ c 122 0) by omega)]
    split <;> rfl
set_option maxHeartbeats 4000000 in
set_option maxRecDepth 100000 in
theorem rl_len (c : HC) (hg : RGV c) (w e : Int) : ∀ (k many : Nat) (left bh sum : Int), many + k = 10 → (0 ≤ left ∧ left < 10 ^ k) → (-1 ≤ bh ∧ bh < 6) → (0 ≤ sum ∧ sum ≤ 9 * many + 5) → TT mX11_lengthOf 1 50 [(0, vr 122), (1, vi w), (2, vi e), (3, vi left), (4, vi sum), (5, vi (many : Int)), (6, vi bh)] [] c (fun v c1 => v = some (vi (lenQ c many left bh sum)) ∧ c1 = c) := by
  obtain ⟨v1, v2, v3, v4, v5, v6⟩ := id hg
  intro k
  induction k with
  | zero =>
    intro many left bh sum hk hl hb hs
    have e0 : left = 0 := by have := hl.2; rw [show (10 : Int) ^ 0 = 1 from rfl] at this; omega
    subst e0
    rw [lenQ_0]
    refine T_iloadn dX11_lengthOf_50 rfl rfl ?_
    refine T_if_le (tgt := 128) dX11_lengthOf_51 rfl (fun b51 => ?_) (fun b51 => absurd (Int.le_refl 0) b51)
    refine T_iload dX11_lengthOf_128 rfl ?_
    refine T_aloadn dX11_lengthOf_130 rfl rfl ?_
    first | refine T_getv dX11_lengthOf_131 fX11_170 (by first | assumption | rfl) (by first | decide | omega) rfl (by assumption) ?_ | refine T_geti dX11_lengthOf_131 fX11_170 (by first | assumption | rfl) (by first | decide | omega) rfl ?_
    refine T_icmp_gt (tgt := 142) dX11_lengthOf_134 rfl (fun b134 => ?_) (fun b134 => ?_)
    · refine T_iconst dX11_lengthOf_142 (inr rfl) ?_
      refine TT_ri dX11_lengthOf_143 trivial ?_
      exact ro_q (by rw [if_neg (by omega)])
    · refine T_iload dX11_lengthOf_137 rfl ?_
      refine T_goto (tgt := 143) dX11_lengthOf_139 rfl ?_
      refine TT_ri dX11_lengthOf_143 trivial ?_
      exact ro_q (by rw [if_pos (by omega)])
  | succ k ih =>
    intro many left bh sum hk hl hb hs
    have h10 : (10 : Int) ^ (k + 1) = 10 ^ k * 10 := Int.pow_succ 10 k
    have hl2 := hl.2
    rw [h10] at hl2
    refine T_iloadn dX11_lengthOf_50 rfl rfl ?_
    refine T_if_le (tgt := 128) dX11_lengthOf_51 rfl (fun b51 => ?_) (fun b51 => ?_)
    · refine T_iload dX11_lengthOf_128 rfl ?_
      refine T_aloadn dX11_lengthOf_130 rfl rfl ?_
      first | refine T_getv dX11_lengthOf_131 fX11_170 (by first | assumption | rfl) (by first | decide | omega) rfl (by assumption) ?_ | refine T_geti dX11_lengthOf_131 fX11_170 (by first | assumption | rfl) (by first | decide | omega) rfl ?_
      refine T_icmp_gt (tgt := 142) dX11_lengthOf_134 rfl (fun b134 => ?_) (fun b134 => ?_)
      · refine T_iconst dX11_lengthOf_142 (inr rfl) ?_
        refine TT_ri dX11_lengthOf_143 trivial ?_
        have e0 : left = 0 := by omega
        subst e0
        rw [lenQ_0]
        exact ro_q (by rw [if_neg (by omega)])
      · refine T_iload dX11_lengthOf_137 rfl ?_
        refine T_goto (tgt := 143) dX11_lengthOf_139 rfl ?_
        refine TT_ri dX11_lengthOf_143 trivial ?_
        have e0 : left = 0 := by omega
        subst e0
        rw [lenQ_0]
        exact ro_q (by rw [if_pos (by omega)])
    · refine T_iloadn dX11_lengthOf_54 rfl rfl ?_
      refine T_bipush dX11_lengthOf_55 (bp8 rfl) (inr rfl) ?_
      first | refine T_iremN dX11_lengthOf_57 (by omega) (by omega) ?_ | refine T_irem dX11_lengthOf_57 (by omega) ?_
      refine T_iconst dX11_lengthOf_58 (inr rfl) ?_
      first | refine T_isubN dX11_lengthOf_59 (by omega) ?_ | refine T_isub dX11_lengthOf_59 ?_
      refine T_istore dX11_lengthOf_60 (by decide) rfl ?_
      refine T_iload dX11_lengthOf_62 rfl ?_
      refine T_i2l dX11_lengthOf_64 ?_
      refine T_lconst (z := 0) dX11_lengthOf_65 rfl (inl rfl) ?_
      refine T_aloadn dX11_lengthOf_66 rfl rfl ?_
      first | refine T_getv dX11_lengthOf_67 fX11_176 (by first | assumption | rfl) (by first | decide | omega) rfl (by assumption) ?_ | refine T_geti dX11_lengthOf_67 fX11_176 (by first | assumption | rfl) (by first | decide | omega) rfl ?_
      refine T_iconst dX11_lengthOf_70 (inr rfl) ?_
      first | refine T_isubN dX11_lengthOf_71 (by omega) ?_ | refine T_isub dX11_lengthOf_71 ?_
      refine T_i2l dX11_lengthOf_72 ?_
      refine TT_Si dX11_lengthOf_73 (r_in c (left % 10 - 1) 0 (c 122 2 - 1)) kX11_96 (by decide) rfl (leb rfl) ?_
      refine T_if_eq (tgt := 99) dX11_lengthOf_76 rfl (fun b76 => ?_) (fun b76 => ?_)
      · refine T_iconst dX11_lengthOf_99 (inr rfl) ?_
        refine TT_ri dX11_lengthOf_100 trivial ?_
        have hi := inF_f b76
        rw [lenQ_s (by omega), if_pos (by omega)]
        exact ro_q rfl
      · have hi := inF_t b76
        refine T_iload dX11_lengthOf_79 rfl ?_
        refine T_if_lt (tgt := 101) dX11_lengthOf_81 rfl (fun b81 => ?_) (fun b81 => ?_)
        · have hst := v5 (left % 10 - 1).toNat (by omega)
          refine T_iload dX11_lengthOf_101 rfl ?_
          refine T_aloadn dX11_lengthOf_103 rfl rfl ?_
          refine T_getfin dX11_lengthOf_104 fX11_7 (by first | assumption | rfl) (by first | decide | omega) rfl (by first | assumption | rfl) ?_
          refine T_iload dX11_lengthOf_107 rfl ?_
          refine T_iald (j := (left % 10 - 1).toNat) dX11_lengthOf_109 (by first | assumption | rfl) (by first | decide | omega) (by omega) (by omega) ?_
          first | refine T_iaddN dX11_lengthOf_110 (by omega) ?_ | refine T_iadd dX11_lengthOf_110 ?_
          refine T_istore dX11_lengthOf_111 (by decide) rfl ?_
          refine T_iload dX11_lengthOf_113 rfl ?_
          refine T_istore dX11_lengthOf_115 (by decide) rfl ?_
          refine T_iincN dX11_lengthOf_117 rfl (by decide) rfl (by omega) ?_
          refine T_iloadn dX11_lengthOf_120 rfl rfl ?_
          refine T_bipush dX11_lengthOf_121 (bp8 rfl) (inr rfl) ?_
          first | refine T_idivN dX11_lengthOf_123 (by omega) (by omega) ?_ | refine T_idiv dX11_lengthOf_123 (by omega) ?_
          refine T_istoren dX11_lengthOf_124 rfl (by decide) rfl ?_
          refine T_goto (tgt := 50) dX11_lengthOf_125 rfl ?_
          rw [lenQ_s (by omega), if_neg (by
            intro z
            rcases z with z | z | z
            · omega
            · omega
            · omega)]
          refine T_keep [0, 1, 2, 3, 4, 5, 6] ?_
          exact ih (many + 1) (left / 10) (left % 10 - 1) _ (by omega) ⟨by omega, by omega⟩ (by omega) (by omega)
        · refine T_aloadn dX11_lengthOf_84 rfl rfl ?_
          refine T_getfin dX11_lengthOf_85 fX11_28 (by first | assumption | rfl) (by first | decide | omega) rfl (by first | assumption | rfl) ?_
          refine T_iload dX11_lengthOf_88 rfl ?_
          refine T_iald (j := (left % 10 - 1).toNat) dX11_lengthOf_90 (by first | assumption | rfl) (by first | decide | omega) (by omega) (by omega) ?_
          refine T_iload dX11_lengthOf_91 rfl ?_
          refine TT_Si dX11_lengthOf_93 (r_has c (c 129 (left % 10 - 1).toNat) bh (by omega)) kX11_151 (by decide) rfl (leb rfl) ?_
          refine T_if_eq (tgt := 101) dX11_lengthOf_96 rfl (fun b96 => ?_) (fun b96 => ?_)
          · have hst := v5 (left % 10 - 1).toNat (by omega)
            refine T_iload dX11_lengthOf_101 rfl ?_
            refine T_aloadn dX11_lengthOf_103 rfl rfl ?_
            refine T_getfin dX11_lengthOf_104 fX11_7 (by first | assumption | rfl) (by first | decide | omega) rfl (by first | assumption | rfl) ?_
            refine T_iload dX11_lengthOf_107 rfl ?_
            refine T_iald (j := (left % 10 - 1).toNat) dX11_lengthOf_109 (by first | assumption | rfl) (by first | decide | omega) (by omega) (by omega) ?_
            first | refine T_iaddN dX11_lengthOf_110 (by omega) ?_ | refine T_iadd dX11_lengthOf_110 ?_
            refine T_istore dX11_lengthOf_111 (by decide) rfl ?_
            refine T_iload dX11_lengthOf_113 rfl ?_
            refine T_istore dX11_lengthOf_115 (by decide) rfl ?_
            refine T_iincN dX11_lengthOf_117 rfl (by decide) rfl (by omega) ?_
            refine T_iloadn dX11_lengthOf_120 rfl rfl ?_
            refine T_bipush dX11_lengthOf_121 (bp8 rfl) (inr rfl) ?_
            first | refine T_idivN dX11_lengthOf_123 (by omega) (by omega) ?_ | refine T_idiv dX11_lengthOf_123 (by omega) ?_
            refine T_istoren dX11_lengthOf_124 rfl (by decide) rfl ?_
            refine T_goto (tgt := 50) dX11_lengthOf_125 rfl ?_
            rw [lenQ_s (by omega), if_neg (by
              intro z
              rcases z with z | z | z
              · omega
              · omega
              · rw [b96] at z; exact absurd z.2 (by decide))]
            refine T_keep [0, 1, 2, 3, 4, 5, 6] ?_
            exact ih (many + 1) (left / 10) (left % 10 - 1) _ (by omega) ⟨by omega, by omega⟩ (by omega) (by omega)
          · refine T_iconst dX11_lengthOf_99 (inr rfl) ?_
            refine TT_ri dX11_lengthOf_100 trivial ?_
            rw [lenQ_s (by omega), if_pos (Or.inr (Or.inr ⟨by omega, bit1 b96⟩))]
            exact ro_q rfl
set_option maxHeartbeats 4000000 in
set_option maxRecDepth 100000 in
theorem r_lengthOf (c : HC) (hg : RGV c) (w : Int) : RO mX11_lengthOf 1 c [vr 122, vi w] (lenR c w) := by
  obtain ⟨v1, v2, v3, v4, v5, v6⟩ := id hg
  refine CC.of (by decide +kernel) (leb rfl) (fun hok => ?_)
  have hw9 : InR w := hok (vi w) (by simp)
  unfold InR at hw9
  unfold lenR lenF
  by_cases hw : 10 ≤ w
  · rw [show lenL (c 122 2) (c 123) (c 129) (c 122 0).toNat (w / 10) (-1) (if w % 10 = 0 then 0 else c 124 (w % 10 - 1).toNat) = lenQ c 0 (w / 10) (-1) (if w % 10 = 0 then 0 else c 124 (w % 10 - 1).toNat) from (lenQ_i (by omega)).symm]
    refine T_iloadn dX11_lengthOf_0 rfl rfl ?_
    refine T_bipush dX11_lengthOf_1 (bp8 rfl) (inr rfl) ?_
    first | refine T_iremN dX11_lengthOf_3 (by omega) (by omega) ?_ | refine T_irem dX11_lengthOf_3 (by omega) ?_
    refine T_istoren dX11_lengthOf_4 rfl (by decide) rfl ?_
    refine T_iloadn dX11_lengthOf_5 rfl rfl ?_
    refine T_bipush dX11_lengthOf_6 (bp8 rfl) (inr rfl) ?_
    first | refine T_idivN dX11_lengthOf_8 (by omega) (by omega) ?_ | refine T_idiv dX11_lengthOf_8 (by omega) ?_
    refine T_istoren dX11_lengthOf_9 rfl (by decide) rfl ?_
    refine T_iloadn dX11_lengthOf_10 rfl rfl ?_
    refine T_bipush dX11_lengthOf_11 (bp8 rfl) (inr rfl) ?_
    refine T_icmp_lt (tgt := 24) dX11_lengthOf_13 rfl (fun b13 => absurd b13 (by omega)) (fun b13 => ?_)
    refine T_iloadn dX11_lengthOf_16 rfl rfl ?_
    refine T_aloadn dX11_lengthOf_17 rfl rfl ?_
    first | refine T_getv dX11_lengthOf_18 fX11_179 (by first | assumption | rfl) (by first | decide | omega) rfl (by assumption) ?_ | refine T_geti dX11_lengthOf_18 fX11_179 (by first | assumption | rfl) (by first | decide | omega) rfl ?_
    refine T_icmp_le (tgt := 26) dX11_lengthOf_21 rfl (fun b21 => ?_) (fun b21 => ?_)
    · refine T_iloadn dX11_lengthOf_26 rfl rfl ?_
      refine T_if_ne (tgt := 34) dX11_lengthOf_27 rfl (fun b27 => ?_) (fun b27 => ?_)
      · have hen := v6 (w % 10 - 1).toNat (by omega)
        refine T_aloadn dX11_lengthOf_34 rfl rfl ?_
        refine T_getfin dX11_lengthOf_35 fX11_13 (by first | assumption | rfl) (by first | decide | omega) rfl (by first | assumption | rfl) ?_
        refine T_iloadn dX11_lengthOf_38 rfl rfl ?_
        refine T_iconst dX11_lengthOf_39 (inr rfl) ?_
        first | refine T_isubN dX11_lengthOf_40 (by omega) ?_ | refine T_isub dX11_lengthOf_40 ?_
        refine T_iald (j := (w % 10 - 1).toNat) dX11_lengthOf_41 (by first | assumption | rfl) (by first | decide | omega) (by omega) (by omega) ?_
        refine T_istore dX11_lengthOf_42 (by decide) rfl ?_
        refine T_iconst dX11_lengthOf_44 (inr rfl) ?_
        refine T_istore dX11_lengthOf_45 (by decide) rfl ?_
        refine T_iconst dX11_lengthOf_47 (inr rfl) ?_
        refine T_istore dX11_lengthOf_48 (by decide) rfl ?_
        rw [if_neg (by omega), if_neg (by omega)]
        rw [if_neg b27]
        exact rl_len c hg w _ 10 0 (w / 10) (-1) _ (by omega) ⟨by omega, ten10 hw9.2⟩ (by omega) (by omega)
      · refine T_iconst dX11_lengthOf_30 (inr rfl) ?_
        refine T_goto (tgt := 42) dX11_lengthOf_31 rfl ?_
        refine T_istore dX11_lengthOf_42 (by decide) rfl ?_
        refine T_iconst dX11_lengthOf_44 (inr rfl) ?_
        refine T_istore dX11_lengthOf_45 (by decide) rfl ?_
        refine T_iconst dX11_lengthOf_47 (inr rfl) ?_
        refine T_istore dX11_lengthOf_48 (by decide) rfl ?_
        rw [if_neg (by omega), if_neg (by omega)]
        rw [if_pos b27]
        exact rl_len c hg w _ 10 0 (w / 10) (-1) _ (by omega) ⟨by omega, ten10 hw9.2⟩ (by omega) (by omega)
    · refine T_iconst dX11_lengthOf_24 (inr rfl) ?_
      refine TT_ri dX11_lengthOf_25 trivial ?_
      exact ro_q (by rw [if_pos (by omega)])
  · rw [show (if w < 0 ∨ c 122 4 < w % 10 then (-1 : Int) else if w / 10 = 0 then -1 else lenL (c 122 2) (c 123) (c 129) (c 122 0).toNat (w / 10) (-1) (if w % 10 = 0 then 0 else c 124 (w % 10 - 1).toNat)) = -1 by
      by_cases h1 : w < 0 ∨ c 122 4 < w % 10
      · rw [if_pos h1]
      · rw [if_neg h1, if_pos (by omega)]]
    refine T_iloadn dX11_lengthOf_0 rfl rfl ?_
    refine T_bipush dX11_lengthOf_1 (bp8 rfl) (inr rfl) ?_
    first | refine T_iremN dX11_lengthOf_3 (by omega) (by omega) ?_ | refine T_irem dX11_lengthOf_3 (by omega) ?_
    refine T_istoren dX11_lengthOf_4 rfl (by decide) rfl ?_
    refine T_iloadn dX11_lengthOf_5 rfl rfl ?_
    refine T_bipush dX11_lengthOf_6 (bp8 rfl) (inr rfl) ?_
    first | refine T_idivN dX11_lengthOf_8 (by omega) (by omega) ?_ | refine T_idiv dX11_lengthOf_8 (by omega) ?_
    refine T_istoren dX11_lengthOf_9 rfl (by decide) rfl ?_
    refine T_iloadn dX11_lengthOf_10 rfl rfl ?_
    refine T_bipush dX11_lengthOf_11 (bp8 rfl) (inr rfl) ?_
    refine T_icmp_lt (tgt := 24) dX11_lengthOf_13 rfl (fun b13 => ?_) (fun b13 => absurd b13 (by omega))
    refine T_iconst dX11_lengthOf_24 (inr rfl) ?_
    refine TT_ri dX11_lengthOf_25 trivial ?_
    exact ro_q rfl
