/-! Grammar: what it reads -/
theorem gK {g : Nat} (h : g = 89 ∨ g = 102) : 0 < g ∧ SH[g]? = some (0, 3) ∧ SH[g + 1]? = some (1, 6) ∧ SH[g + 2]? = some (1, 4) ∧ SH[g + 3]? = some (1, 6) ∧ SH[g + 4]? = some (1, 42) ∧ SH[g + 5]? = some (1, 42) ∧ SH[g + 6]? = some (1, 42) ∧ FIN g 0 = some (g + 1) ∧ FIN g 1 = some (g + 2) ∧ FIN g 2 = some (g + 3) ∧ FIN g 3 = some (g + 4) ∧ FIN g 4 = some (g + 5) ∧ FIN g 5 = some (g + 6) := by
  rcases h with rfl | rfl
  · exact ⟨by decide, rfl, rfl, rfl, rfl, rfl, rfl, rfl, rfl, rfl, rfl, rfl, rfl, rfl⟩
  · exact ⟨by decide, rfl, rfl, rfl, rfl, rfl, rfl, rfl, rfl, rfl, rfl, rfl, rfl, rfl⟩
def bitI (x t : Int) : Int := if band (x / 2 ^ t.toNat) 1 = 1 then 1 else 0
theorem bitI_01 (x t : Int) : bitI x t = 0 ∨ bitI x t = 1 := by
  unfold bitI
  split
  · exact Or.inr rfl
  · exact Or.inl rfl
def lenL (ns : Int) (sy br : Nat → Int) : Nat → Int → Int → Int → Int
  | 0, rest, _, syl => if rest = 0 then syl else -1
  | n + 1, rest, bh, syl => if rest ≤ 0 then (if rest = 0 then syl else -1) else if rest % 10 - 1 < 0 ∨ ns ≤ rest % 10 - 1 ∨ (bh ≠ -1 ∧ bitI (br (rest % 10 - 1).toNat) bh = 1) then -1 else lenL ns sy br n (rest / 10) (rest % 10 - 1) (syl + sy (rest % 10 - 1).toNat)
def lenF (ms ns ne : Int) (sy ey br : Nat → Int) (w : Int) : Int :=
  if w < 0 ∨ ne < w % 10 then -1 else if w / 10 = 0 then -1 else lenL ns sy br ms.toNat (w / 10) (-1) (if w % 10 = 0 then 0 else ey (w % 10 - 1).toNat)
/-- a grammar as it may be -/
def GV (c : HC) (g : Nat) : Prop := (0 ≤ c g 6 ∧ c g 6 ≤ 4) ∧ (0 ≤ c g 7 ∧ c g 7 ≤ 9) ∧ (0 ≤ c g 8 ∧ c g 8 ≤ 6) ∧ (0 ≤ c g 9 ∧ c g 9 ≤ 4) ∧ (∀ i : Nat, (i : Int) < c g 8 → 1 ≤ c (g + 1) i ∧ c (g + 1) i ≤ 9) ∧ (∀ i : Nat, (i : Int) < c g 9 → 1 ≤ c (g + 2) i ∧ c (g + 2) i ≤ 5)
set_option maxHeartbeats 4000000 in
set_option maxRecDepth 100000 in
theorem c_isBarred (c : HC) {g : Nat} (hg : g = 89 ∨ g = 102) (s t : Int) (hs : 0 ≤ s) (hs2 : s < 6) (ht : 0 ≤ t) (ht2 : t < 32) : RO mX3_isBarred 0 c [vr g, vi s, vi t] (bitI (c (g + 3) s.toNat) t) := by
  obtain ⟨g0, gs, gs1, gs2, gs3, gs4, gs5, gs6, gf0, gf1, gf2, gf3, gf4, gf5⟩ := gK hg
  refine CC.of (by decide +kernel) (leb rfl) (fun hok => ?_)
  unfold bitI
  refine T_aloadn dX3_isBarred_0 rfl rfl ?_
  refine T_getfin dX3_isBarred_1 fX3_18 (by first | assumption | rfl) (by first | decide | omega) rfl (by first | assumption | rfl) ?_
  refine T_iloadn dX3_isBarred_4 rfl rfl ?_
  refine T_iald (j := s.toNat) dX3_isBarred_5 (by first | assumption | rfl) (by first | decide | omega) (by omega) (by omega) ?_
  refine T_iloadn dX3_isBarred_6 rfl rfl ?_
  refine T_ishr dX3_isBarred_7 (by omega) (by omega) ?_
  refine T_iconst dX3_isBarred_8 (inr rfl) ?_
  refine T_iand dX3_isBarred_9 ?_
  refine T_iconst dX3_isBarred_10 (inr rfl) ?_
  refine T_icmp_ne (tgt := 18) dX3_isBarred_11 rfl (fun b11 => ?_) (fun b11 => ?_)
  · refine T_iconst dX3_isBarred_18 (inr rfl) ?_
    refine TT_ri dX3_isBarred_19 (by first | exact Or.inl rfl | exact Or.inr rfl | assumption) ?_
    exact ro_q (by simp [b11])
  · refine T_iconst dX3_isBarred_14 (inr rfl) ?_
    refine T_goto (tgt := 19) dX3_isBarred_15 rfl ?_
    refine TT_ri dX3_isBarred_19 (by first | exact Or.inl rfl | exact Or.inr rfl | assumption) ?_
    exact ro_q (by simp [b11])
set_option maxHeartbeats 4000000 in
set_option maxRecDepth 100000 in
theorem l_lengthOf (c : HC) {g : Nat} (hg : g = 89 ∨ g = 102) (hv : GV c g) (w : Int) : ∀ (n : Nat) (k rest bh syl : Int), k + n = c g 6 → 0 ≤ k → 0 ≤ rest → rest ≤ 2147483647 → 0 ≤ syl → syl + 9 * n ≤ 1000 → -1 ≤ bh → bh < 6 →
    TT mX3_lengthOf 1 57 [(0, vr g), (1, vi w), (2, vi syl), (3, vi rest), (4, vi bh), (5, vi k)] [] c (fun v c1 => v = some (vi (lenL (c g 8) (c (g + 1)) (c (g + 3)) n rest bh syl)) ∧ c1 = c) := by
  obtain ⟨g0, gs, gs1, gs2, gs3, gs4, gs5, gs6, gf0, gf1, gf2, gf3, gf4, gf5⟩ := gK hg
  obtain ⟨v6, v7, v8, v9, hsy, hey⟩ := hv
  intro n
  induction n with
  | zero =>
    intro k rest bh syl h1 h2 h3 h4 h5 h6 h7 h8
    unfold lenL
    refine T_iload dX3_lengthOf_57 rfl ?_
    refine T_aloadn dX3_lengthOf_59 rfl rfl ?_
    first | refine T_getv dX3_lengthOf_60 fX3_30 (by first | assumption | rfl) (by first | decide | omega) rfl (by assumption) ?_ | refine T_geti dX3_lengthOf_60 fX3_30 (by first | assumption | rfl) (by first | decide | omega) rfl ?_
    refine T_icmp_ge (tgt := 136) dX3_lengthOf_63 rfl (fun b63 => ?_) (fun b63 => absurd b63 (by omega))
    refine T_iloadn dX3_lengthOf_136 rfl rfl ?_
    refine T_if_ne (tgt := 144) dX3_lengthOf_137 rfl (fun b137 => ?_) (fun b137 => ?_)
    · refine T_iconst dX3_lengthOf_144 (inr rfl) ?_
      refine TT_ri dX3_lengthOf_145 trivial ?_
      exact ro_q (by simp [b137])
    · refine T_iloadn dX3_lengthOf_140 rfl rfl ?_
      refine T_goto (tgt := 145) dX3_lengthOf_141 rfl ?_
      refine TT_ri dX3_lengthOf_145 trivial ?_
      exact ro_q (by simp [b137])
  | succ n ih =>
    intro k rest bh syl h1 h2 h3 h4 h5 h6 h7 h8
    refine T_iload dX3_lengthOf_57 rfl ?_
    refine T_aloadn dX3_lengthOf_59 rfl rfl ?_
    first | refine T_getv dX3_lengthOf_60 fX3_30 (by first | assumption | rfl) (by first | decide | omega) rfl (by assumption) ?_ | refine T_geti dX3_lengthOf_60 fX3_30 (by first | assumption | rfl) (by first | decide | omega) rfl ?_
    refine T_icmp_ge (tgt := 136) dX3_lengthOf_63 rfl (fun b63 => absurd b63 (by omega)) (fun b63 => ?_)
    refine T_iloadn dX3_lengthOf_66 rfl rfl ?_
    refine T_if_le (tgt := 136) dX3_lengthOf_67 rfl (fun b67 => ?_) (fun b67 => ?_)
    · refine T_iloadn dX3_lengthOf_136 rfl rfl ?_
      refine T_if_ne (tgt := 144) dX3_lengthOf_137 rfl (fun b137 => ?_) (fun b137 => ?_)
      · refine T_iconst dX3_lengthOf_144 (inr rfl) ?_
        refine TT_ri dX3_lengthOf_145 trivial ?_
        unfold lenL
        first
          | exact ro_q (by rw [if_pos b67]; simp [b137])
          | exact ro_q (by rw [if_neg b67, if_pos (by first | exact Or.inl b80 | exact Or.inr (Or.inl b89) | exact Or.inr (Or.inr ⟨b95, (bitI_01 _ _).resolve_left b106⟩))])
      · refine T_iloadn dX3_lengthOf_140 rfl rfl ?_
        refine T_goto (tgt := 145) dX3_lengthOf_141 rfl ?_
        refine TT_ri dX3_lengthOf_145 trivial ?_
        unfold lenL
        first
          | exact ro_q (by rw [if_pos b67]; simp [b137])
          | exact ro_q (by rw [if_neg b67, if_pos (by first | exact Or.inl b80 | exact Or.inr (Or.inl b89) | exact Or.inr (Or.inr ⟨b95, (bitI_01 _ _).resolve_left b106⟩))])
    · refine T_iloadn dX3_lengthOf_70 rfl rfl ?_
      refine T_bipush dX3_lengthOf_71 (bp8 rfl) (inr rfl) ?_
      first | refine T_iremN dX3_lengthOf_73 (by omega) (by omega) ?_ | refine T_irem dX3_lengthOf_73 (by omega) ?_
      refine T_iconst dX3_lengthOf_74 (inr rfl) ?_
      first | refine T_isubN dX3_lengthOf_75 (by omega) ?_ | refine T_isub dX3_lengthOf_75 ?_
      refine T_istore dX3_lengthOf_76 (by decide) rfl ?_
      refine T_iload dX3_lengthOf_78 rfl ?_
      refine T_if_lt (tgt := 109) dX3_lengthOf_80 rfl (fun b80 => ?_) (fun b80 => ?_)
      · refine T_iconst dX3_lengthOf_109 (inr rfl) ?_
        refine TT_ri dX3_lengthOf_110 trivial ?_
        unfold lenL
        first
          | exact ro_q (by rw [if_pos b67]; simp [b137])
          | exact ro_q (by rw [if_neg b67, if_pos (by first | exact Or.inl b80 | exact Or.inr (Or.inl b89) | exact Or.inr (Or.inr ⟨b95, (bitI_01 _ _).resolve_left b106⟩))])
      · refine T_iload dX3_lengthOf_83 rfl ?_
        refine T_aloadn dX3_lengthOf_85 rfl rfl ?_
        first | refine T_getv dX3_lengthOf_86 fX3_37 (by first | assumption | rfl) (by first | decide | omega) rfl (by assumption) ?_ | refine T_geti dX3_lengthOf_86 fX3_37 (by first | assumption | rfl) (by first | decide | omega) rfl ?_
        refine T_icmp_ge (tgt := 109) dX3_lengthOf_89 rfl (fun b89 => ?_) (fun b89 => ?_)
        · refine T_iconst dX3_lengthOf_109 (inr rfl) ?_
          refine TT_ri dX3_lengthOf_110 trivial ?_
          unfold lenL
          first
            | exact ro_q (by rw [if_pos b67]; simp [b137])
            | exact ro_q (by rw [if_neg b67, if_pos (by first | exact Or.inl b80 | exact Or.inr (Or.inl b89) | exact Or.inr (Or.inr ⟨b95, (bitI_01 _ _).resolve_left b106⟩))])
        · refine T_iload dX3_lengthOf_92 rfl ?_
          refine T_iconst dX3_lengthOf_94 (inr rfl) ?_
          refine T_icmp_eq (tgt := 111) dX3_lengthOf_95 rfl (fun b95 => ?_) (fun b95 => ?_)
          · refine T_iloadn dX3_lengthOf_111 rfl rfl ?_
            refine T_aloadn dX3_lengthOf_112 rfl rfl ?_
            refine T_getfin dX3_lengthOf_113 fX3_11 (by first | assumption | rfl) (by first | decide | omega) rfl (by first | assumption | rfl) ?_
            refine T_iload dX3_lengthOf_116 rfl ?_
            refine T_iald (j := (rest % 10 - 1).toNat) dX3_lengthOf_118 (by first | assumption | rfl) (by first | decide | omega) (by omega) (by omega) ?_
            have h9 := hsy (rest % 10 - 1).toNat (by omega)
            first | refine T_iaddN dX3_lengthOf_119 (by omega) ?_ | refine T_iadd dX3_lengthOf_119 ?_
            refine T_istoren dX3_lengthOf_120 rfl (by decide) rfl ?_
            refine T_iload dX3_lengthOf_121 rfl ?_
            refine T_istore dX3_lengthOf_123 (by decide) rfl ?_
            refine T_iloadn dX3_lengthOf_125 rfl rfl ?_
            refine T_bipush dX3_lengthOf_126 (bp8 rfl) (inr rfl) ?_
            first | refine T_idivN dX3_lengthOf_128 (by omega) (by omega) ?_ | refine T_idiv dX3_lengthOf_128 (by omega) ?_
            refine T_istoren dX3_lengthOf_129 rfl (by decide) rfl ?_
            refine T_iincN dX3_lengthOf_130 rfl (by decide) rfl (by omega) ?_
            refine T_goto (tgt := 57) dX3_lengthOf_133 rfl ?_
            rw [show lenL (c g 8) (c (g + 1)) (c (g + 3)) (n + 1) rest bh syl = lenL (c g 8) (c (g + 1)) (c (g + 3)) n (rest / 10) (rest % 10 - 1) (syl + c (g + 1) (rest % 10 - 1).toNat) by
              rw [lenL.eq_2, if_neg b67, if_neg (fun q => by first | (rcases q with q | q | q <;> first | omega | exact q.1 b95 | (have := q.2; omega)))]]
            refine T_keep [0, 1, 2, 3, 4, 5] ?_
            exact ih (k + 1) _ _ _ (by omega) (by omega) (by omega) (by omega) (by omega) (by omega) (by omega) (by omega)
          · refine T_aloadn dX3_lengthOf_98 rfl rfl ?_
            refine T_iload dX3_lengthOf_99 rfl ?_
            refine T_iload dX3_lengthOf_101 rfl ?_
            refine TT_Vi dX3_lengthOf_103 (c_isBarred c hg _ _ (by omega) (by omega) (by omega) (by omega)) kX3_60 (by decide) (by first | decide | omega) (by first | assumption | rfl) rfl (leb rfl) ?_
            refine T_if_eq (tgt := 111) dX3_lengthOf_106 rfl (fun b106 => ?_) (fun b106 => ?_)
            · refine T_iloadn dX3_lengthOf_111 rfl rfl ?_
              refine T_aloadn dX3_lengthOf_112 rfl rfl ?_
              refine T_getfin dX3_lengthOf_113 fX3_11 (by first | assumption | rfl) (by first | decide | omega) rfl (by first | assumption | rfl) ?_
              refine T_iload dX3_lengthOf_116 rfl ?_
              refine T_iald (j := (rest % 10 - 1).toNat) dX3_lengthOf_118 (by first | assumption | rfl) (by first | decide | omega) (by omega) (by omega) ?_
              have h9 := hsy (rest % 10 - 1).toNat (by omega)
              first | refine T_iaddN dX3_lengthOf_119 (by omega) ?_ | refine T_iadd dX3_lengthOf_119 ?_
              refine T_istoren dX3_lengthOf_120 rfl (by decide) rfl ?_
              refine T_iload dX3_lengthOf_121 rfl ?_
              refine T_istore dX3_lengthOf_123 (by decide) rfl ?_
              refine T_iloadn dX3_lengthOf_125 rfl rfl ?_
              refine T_bipush dX3_lengthOf_126 (bp8 rfl) (inr rfl) ?_
              first | refine T_idivN dX3_lengthOf_128 (by omega) (by omega) ?_ | refine T_idiv dX3_lengthOf_128 (by omega) ?_
              refine T_istoren dX3_lengthOf_129 rfl (by decide) rfl ?_
              refine T_iincN dX3_lengthOf_130 rfl (by decide) rfl (by omega) ?_
              refine T_goto (tgt := 57) dX3_lengthOf_133 rfl ?_
              rw [show lenL (c g 8) (c (g + 1)) (c (g + 3)) (n + 1) rest bh syl = lenL (c g 8) (c (g + 1)) (c (g + 3)) n (rest / 10) (rest % 10 - 1) (syl + c (g + 1) (rest % 10 - 1).toNat) by
                rw [lenL.eq_2, if_neg b67, if_neg (fun q => by first | (rcases q with q | q | q <;> first | omega | exact q.1 b95 | (have := q.2; omega)))]]
              refine T_keep [0, 1, 2, 3, 4, 5] ?_
              exact ih (k + 1) _ _ _ (by omega) (by omega) (by omega) (by omega) (by omega) (by omega) (by omega) (by omega)
            · refine T_iconst dX3_lengthOf_109 (inr rfl) ?_
              refine TT_ri dX3_lengthOf_110 trivial ?_
              unfold lenL
              first
                | exact ro_q (by rw [if_pos b67]; simp [b137])
                | exact ro_q (by rw [if_neg b67, if_pos (by first | exact Or.inl b80 | exact Or.inr (Or.inl b89) | exact Or.inr (Or.inr ⟨b95, (bitI_01 _ _).resolve_left b106⟩))])
set_option maxHeartbeats 4000000 in
set_option maxRecDepth 100000 in
theorem c_lengthOf (c : HC) {g : Nat} (hg : g = 89 ∨ g = 102) (hv : GV c g) (w : Int) : RO mX3_lengthOf 1 c [vr g, vi w] (lenF (c g 6) (c g 8) (c g 9) (c (g + 1)) (c (g + 2)) (c (g + 3)) w) := by
  obtain ⟨g0, gs, gs1, gs2, gs3, gs4, gs5, gs6, gf0, gf1, gf2, gf3, gf4, gf5⟩ := gK hg
  refine CC.of (by decide +kernel) (leb rfl) (fun hok => ?_)
  obtain ⟨v6, v7, v8, v9, hsy, hey⟩ := id hv
  have hw : InR w := hok (vi w) (by simp)
  unfold InR at hw
  unfold lenF
  refine T_iloadn dX3_lengthOf_0 rfl rfl ?_
  refine T_if_lt (tgt := 15) dX3_lengthOf_1 rfl (fun b1 => ?_) (fun b1 => ?_)
  · refine T_iconst dX3_lengthOf_15 (inr rfl) ?_
    refine TT_ri dX3_lengthOf_16 trivial ?_
    exact ro_q (by rw [if_pos (by first | exact Or.inl b1 | exact Or.inr (by omega))])
  · refine T_iloadn dX3_lengthOf_4 rfl rfl ?_
    refine T_bipush dX3_lengthOf_5 (bp8 rfl) (inr rfl) ?_
    first | refine T_iremN dX3_lengthOf_7 (by omega) (by omega) ?_ | refine T_irem dX3_lengthOf_7 (by omega) ?_
    refine T_aloadn dX3_lengthOf_8 rfl rfl ?_
    first | refine T_getv dX3_lengthOf_9 fX3_40 (by first | assumption | rfl) (by first | decide | omega) rfl (by assumption) ?_ | refine T_geti dX3_lengthOf_9 fX3_40 (by first | assumption | rfl) (by first | decide | omega) rfl ?_
    refine T_icmp_le (tgt := 17) dX3_lengthOf_12 rfl (fun b12 => ?_) (fun b12 => ?_)
    · refine T_iloadn dX3_lengthOf_17 rfl rfl ?_
      refine T_bipush dX3_lengthOf_18 (bp8 rfl) (inr rfl) ?_
      first | refine T_iremN dX3_lengthOf_20 (by omega) (by omega) ?_ | refine T_irem dX3_lengthOf_20 (by omega) ?_
      refine T_if_ne (tgt := 28) dX3_lengthOf_21 rfl (fun b21 => ?_) (fun b21 => ?_)
      · refine T_aloadn dX3_lengthOf_28 rfl rfl ?_
        refine T_getfin dX3_lengthOf_29 fX3_15 (by first | assumption | rfl) (by first | decide | omega) rfl (by first | assumption | rfl) ?_
        refine T_iloadn dX3_lengthOf_32 rfl rfl ?_
        refine T_bipush dX3_lengthOf_33 (bp8 rfl) (inr rfl) ?_
        first | refine T_iremN dX3_lengthOf_35 (by omega) (by omega) ?_ | refine T_irem dX3_lengthOf_35 (by omega) ?_
        refine T_iconst dX3_lengthOf_36 (inr rfl) ?_
        first | refine T_isubN dX3_lengthOf_37 (by omega) ?_ | refine T_isub dX3_lengthOf_37 ?_
        refine T_iald (j := (w % 10 - 1).toNat) dX3_lengthOf_38 (by first | assumption | rfl) (by first | decide | omega) (by omega) (by omega) ?_
        try have h9 := hey (w % 10 - 1).toNat (by omega)
        refine T_istoren dX3_lengthOf_39 rfl (by decide) rfl ?_
        refine T_iloadn dX3_lengthOf_40 rfl rfl ?_
        refine T_bipush dX3_lengthOf_41 (bp8 rfl) (inr rfl) ?_
        first | refine T_idivN dX3_lengthOf_43 (by omega) (by omega) ?_ | refine T_idiv dX3_lengthOf_43 (by omega) ?_
        refine T_istoren dX3_lengthOf_44 rfl (by decide) rfl ?_
        refine T_iloadn dX3_lengthOf_45 rfl rfl ?_
        refine T_if_ne (tgt := 51) dX3_lengthOf_46 rfl (fun b46 => ?_) (fun b46 => ?_)
        · refine T_iconst dX3_lengthOf_51 (inr rfl) ?_
          refine T_istore dX3_lengthOf_52 (by decide) rfl ?_
          refine T_iconst dX3_lengthOf_54 (inr rfl) ?_
          refine T_istore dX3_lengthOf_55 (by decide) rfl ?_
          rw [if_neg (by omega), if_neg b46]
          first | rw [if_neg b21] | rw [if_pos b21]
          exact l_lengthOf c hg hv w (c g 6).toNat 0 _ _ _ (by omega) (by omega) (by omega) (by omega) (by omega) (by omega) (by omega) (by omega)
        · refine T_iconst dX3_lengthOf_49 (inr rfl) ?_
          refine TT_ri dX3_lengthOf_50 trivial ?_
          exact ro_q (by rw [if_neg (by omega), if_pos b46])
      · refine T_iconst dX3_lengthOf_24 (inr rfl) ?_
        refine T_goto (tgt := 39) dX3_lengthOf_25 rfl ?_
        try have h9 := hey (w % 10 - 1).toNat (by omega)
        refine T_istoren dX3_lengthOf_39 rfl (by decide) rfl ?_
        refine T_iloadn dX3_lengthOf_40 rfl rfl ?_
        refine T_bipush dX3_lengthOf_41 (bp8 rfl) (inr rfl) ?_
        first | refine T_idivN dX3_lengthOf_43 (by omega) (by omega) ?_ | refine T_idiv dX3_lengthOf_43 (by omega) ?_
        refine T_istoren dX3_lengthOf_44 rfl (by decide) rfl ?_
        refine T_iloadn dX3_lengthOf_45 rfl rfl ?_
        refine T_if_ne (tgt := 51) dX3_lengthOf_46 rfl (fun b46 => ?_) (fun b46 => ?_)
        · refine T_iconst dX3_lengthOf_51 (inr rfl) ?_
          refine T_istore dX3_lengthOf_52 (by decide) rfl ?_
          refine T_iconst dX3_lengthOf_54 (inr rfl) ?_
          refine T_istore dX3_lengthOf_55 (by decide) rfl ?_
          rw [if_neg (by omega), if_neg b46]
          first | rw [if_neg b21] | rw [if_pos b21]
          exact l_lengthOf c hg hv w (c g 6).toNat 0 _ _ _ (by omega) (by omega) (by omega) (by omega) (by omega) (by omega) (by omega) (by omega)
        · refine T_iconst dX3_lengthOf_49 (inr rfl) ?_
          refine TT_ri dX3_lengthOf_50 trivial ?_
          exact ro_q (by rw [if_neg (by omega), if_pos b46])
    · refine T_iconst dX3_lengthOf_15 (inr rfl) ?_
      refine TT_ri dX3_lengthOf_16 trivial ?_
      exact ro_q (by rw [if_pos (by first | exact Or.inl b1 | exact Or.inr (by omega))])
def sylF (ms ns ne : Int) (sy ey br : Nat → Int) (w : Int) : Int := if w = -1 then 0 else lenF ms ns ne sy ey br w
set_option maxHeartbeats 4000000 in
set_option maxRecDepth 100000 in
theorem c_syllablesOf (c : HC) {g : Nat} (hg : g = 89 ∨ g = 102) (hv : GV c g) (w : Int) : RO mX3_syllablesOf 2 c [vr g, vi w] (sylF (c g 6) (c g 8) (c g 9) (c (g + 1)) (c (g + 2)) (c (g + 3)) w) := by
  obtain ⟨g0, gs, gs1, gs2, gs3, gs4, gs5, gs6, gf0, gf1, gf2, gf3, gf4, gf5⟩ := gK hg
  refine CC.of (by decide +kernel) (leb rfl) (fun hok => ?_)
  unfold sylF
  refine T_iloadn dX3_syllablesOf_0 rfl rfl ?_
  refine T_iconst dX3_syllablesOf_1 (inr rfl) ?_
  refine T_icmp_ne (tgt := 9) dX3_syllablesOf_2 rfl (fun b2 => ?_) (fun b2 => ?_)
  · refine T_aloadn dX3_syllablesOf_9 rfl rfl ?_
    refine T_iloadn dX3_syllablesOf_10 rfl rfl ?_
    refine TT_Vi dX3_syllablesOf_11 (c_lengthOf c hg hv w) kX3_64 (by decide) (by first | decide | omega) (by first | assumption | rfl) rfl (leb rfl) ?_
    refine TT_ri dX3_syllablesOf_14 trivial ?_
    exact ro_q (by simp [b2])
  · refine T_iconst dX3_syllablesOf_5 (inr rfl) ?_
    refine T_goto (tgt := 14) dX3_syllablesOf_6 rfl ?_
    refine TT_ri dX3_syllablesOf_14 trivial ?_
    exact ro_q (by simp [b2])
def lwF (lb : Nat → Int) (b : Int) : Int := if 0 ≤ b then lb (imin b 41).toNat else 0
set_option maxHeartbeats 4000000 in
set_option maxRecDepth 100000 in
theorem c_longestWithin (c : HC) {g : Nat} (hg : g = 89 ∨ g = 102) (b : Int) : RO mX3_longestWithin 1 c [vr g, vi b] (lwF (c (g + 6)) b) := by
  obtain ⟨g0, gs, gs1, gs2, gs3, gs4, gs5, gs6, gf0, gf1, gf2, gf3, gf4, gf5⟩ := gK hg
  refine CC.of (by decide +kernel) (leb rfl) (fun hok => ?_)
  unfold lwF
  refine T_iloadn dX3_longestWithin_0 rfl rfl ?_
  refine T_if_ge (tgt := 8) dX3_longestWithin_1 rfl (fun b1 => ?_) (fun b1 => ?_)
  · refine T_aloadn dX3_longestWithin_8 rfl rfl ?_
    refine T_getfin dX3_longestWithin_9 fX3_27 (by first | assumption | rfl) (by first | decide | omega) rfl (by first | assumption | rfl) ?_
    refine T_iloadn dX3_longestWithin_12 rfl rfl ?_
    refine T_bipush dX3_longestWithin_13 (bp8 rfl) (inr rfl) ?_
    refine T_mmin dX3_longestWithin_15 kX3_68M (by decide) (leb rfl) ?_
    have h9 : 0 ≤ imin b 41 ∧ imin b 41 ≤ 41 := by unfold imin; split <;> omega
    refine T_iald (j := (imin b 41).toNat) dX3_longestWithin_18 (by first | assumption | rfl) (by first | decide | omega) (by omega) (by omega) ?_
    refine TT_ri dX3_longestWithin_19 trivial ?_
    exact ro_q (by simp [b1])
  · refine T_iconst dX3_longestWithin_4 (inr rfl) ?_
    refine T_goto (tgt := 19) dX3_longestWithin_5 rfl ?_
    refine TT_ri dX3_longestWithin_19 trivial ?_
    exact ro_q (by simp [b1])
/-- the lengths that there are, a set of bits: bit l, 1 .. n, if wo l is above 0; bit 0 -/
def lwS (wo : Nat → Int) : Nat → Int
  | 0 => 1
  | n + 1 => if wo (n + 1) ≤ 0 then lwS wo n else lbor (lwS wo n) (lbshl 1 ((n + 1 : Nat) : Int))
set_option maxHeartbeats 4000000 in
set_option maxRecDepth 100000 in
theorem l_lengthsWithin (c : HC) {g : Nat} (hg : g = 89 ∨ g = 102) (b : Int) (hb : b ≤ 1000) : ∀ (k l : Nat), l ≤ 41 → l + k = 41 → (l : Int) ≤ b ∨ l = 0 →
    TT mX3_lengthsWithin 0 5 [(0, vr g), (1, vi b), (2, vl (lwS (c (g + 4)) l)), (4, vi ((l : Int) + 1))] [] c (fun v c1 => v = some (vl (lwS (c (g + 4)) (imin b 41).toNat)) ∧ c1 = c) := by
  obtain ⟨g0, gs, gs1, gs2, gs3, gs4, gs5, gs6, gf0, gf1, gf2, gf3, gf4, gf5⟩ := gK hg
  intro k
  induction k with
  | zero =>
    intro l h1 h2 h3
    have e : l = 41 := by omega
    subst e
    refine T_iload dX3_lengthsWithin_5 rfl ?_
    refine T_iloadn dX3_lengthsWithin_7 rfl rfl ?_
    refine T_icmp_gt (tgt := 41) dX3_lengthsWithin_8 rfl (fun b8 => ?_) (fun b8 => ?_)
    · refine T_lloadn dX3_lengthsWithin_41 rfl rfl ?_
      refine TT_rl dX3_lengthsWithin_42 trivial ?_
      exact rl_q (by congr 1; unfold imin; split <;> omega)
    · refine T_iload dX3_lengthsWithin_11 rfl ?_
      refine T_bipush dX3_lengthsWithin_13 (bp8 rfl) (inr rfl) ?_
      refine T_icmp_gt (tgt := 41) dX3_lengthsWithin_15 rfl (fun b15 => ?_) (fun b15 => absurd b15 (by omega))
      refine T_lloadn dX3_lengthsWithin_41 rfl rfl ?_
      refine TT_rl dX3_lengthsWithin_42 trivial ?_
      exact rl_q (by congr 1; unfold imin; split <;> omega)
  | succ k ih =>
    intro l h1 h2 h3
    have e1 := ih (l + 1) (by omega) (by omega)
    have e2 : ((l + 1 : Nat) : Int) = (l : Int) + 1 := by omega
    rw [e2] at e1
    refine T_iload dX3_lengthsWithin_5 rfl ?_
    refine T_iloadn dX3_lengthsWithin_7 rfl rfl ?_
    refine T_icmp_gt (tgt := 41) dX3_lengthsWithin_8 rfl (fun b8 => ?_) (fun b8 => ?_)
    · refine T_lloadn dX3_lengthsWithin_41 rfl rfl ?_
      refine TT_rl dX3_lengthsWithin_42 trivial ?_
      exact rl_q (by congr 1; unfold imin; split <;> omega)
    · refine T_iload dX3_lengthsWithin_11 rfl ?_
      refine T_bipush dX3_lengthsWithin_13 (bp8 rfl) (inr rfl) ?_
      refine T_icmp_gt (tgt := 41) dX3_lengthsWithin_15 rfl (fun b15 => ?_) (fun b15 => ?_)
      · refine T_lloadn dX3_lengthsWithin_41 rfl rfl ?_
        refine TT_rl dX3_lengthsWithin_42 trivial ?_
        exact rl_q (by congr 1; unfold imin; split <;> omega)
      · refine T_aloadn dX3_lengthsWithin_18 rfl rfl ?_
        refine T_getfin dX3_lengthsWithin_19 fX3_21 (by first | assumption | rfl) (by first | decide | omega) rfl (by first | assumption | rfl) ?_
        refine T_iload dX3_lengthsWithin_22 rfl ?_
        refine T_iald (j := (l + 1)) dX3_lengthsWithin_24 (by first | assumption | rfl) (by first | decide | omega) (by omega) (by omega) ?_
        refine T_if_le (tgt := 35) dX3_lengthsWithin_25 rfl (fun b25 => ?_) (fun b25 => ?_)
        · refine T_iincN dX3_lengthsWithin_35 rfl (by decide) rfl (by omega) ?_
          refine T_goto (tgt := 5) dX3_lengthsWithin_38 rfl ?_
          rw [show (l : Int) + 1 + 1 = ((l : Int) + 1) + 1 from rfl]
          have e3 := e1 (Or.inl (by omega))
          rw [lwS.eq_2] at e3
          first | rw [if_pos b25] at e3 | rw [if_neg b25, e2] at e3
          exact e3
        · refine T_lloadn dX3_lengthsWithin_28 rfl rfl ?_
          refine T_lconst (z := 1) dX3_lengthsWithin_29 rfl (inl rfl) ?_
          refine T_iload dX3_lengthsWithin_30 rfl ?_
          refine T_lshl dX3_lengthsWithin_32 ?_
          refine T_lor dX3_lengthsWithin_33 ?_
          refine T_lstoren dX3_lengthsWithin_34 rfl (by decide) rfl ?_
          refine T_iincN dX3_lengthsWithin_35 rfl (by decide) rfl (by omega) ?_
          refine T_goto (tgt := 5) dX3_lengthsWithin_38 rfl ?_
          rw [show (l : Int) + 1 + 1 = ((l : Int) + 1) + 1 from rfl]
          have e3 := e1 (Or.inl (by omega))
          rw [lwS.eq_2] at e3
          first | rw [if_pos b25] at e3 | rw [if_neg b25, e2] at e3
          exact e3
set_option maxHeartbeats 4000000 in
set_option maxRecDepth 100000 in
theorem c_lengthsWithin (c : HC) {g : Nat} (hg : g = 89 ∨ g = 102) (b : Int) (hb : b ≤ 1000) (hb0 : 0 ≤ b) : RL_ mX3_lengthsWithin 0 c [vr g, vi b] (lwS (c (g + 4)) (imin b 41).toNat) := by
  obtain ⟨g0, gs, gs1, gs2, gs3, gs4, gs5, gs6, gf0, gf1, gf2, gf3, gf4, gf5⟩ := gK hg
  refine CC.of (by decide +kernel) (leb rfl) (fun hok => ?_)
  refine T_lconst (z := 1) dX3_lengthsWithin_0 rfl (inl rfl) ?_
  refine T_lstoren dX3_lengthsWithin_1 rfl (by decide) rfl ?_
  refine T_iconst dX3_lengthsWithin_2 (inr rfl) ?_
  refine T_istore dX3_lengthsWithin_3 (by decide) rfl ?_
  exact l_lengthsWithin c hg b hb 41 0 (by omega) (by omega) (Or.inr rfl)
def pullF (mud by_ w : Int) : Int := if 0 < by_ then imax 0 (wr ((wr (by_ * wr (10 + w.tdiv 10))).tdiv 10 - mud)) else 0
set_option maxHeartbeats 4000000 in
set_option maxRecDepth 100000 in
theorem c_pullOf (c : HC) {g : Nat} (hg : g = 89 ∨ g = 102) (a w : Int) : RO mX3_pullOf 1 c [vr g, vi a, vi w] (pullF (c g 7) a w) := by
  obtain ⟨g0, gs, gs1, gs2, gs3, gs4, gs5, gs6, gf0, gf1, gf2, gf3, gf4, gf5⟩ := gK hg
  refine CC.of (by decide +kernel) (leb rfl) (fun hok => ?_)
  unfold pullF
  refine T_iloadn dX3_pullOf_0 rfl rfl ?_
  refine T_if_gt (tgt := 6) dX3_pullOf_1 rfl (fun b1 => ?_) (fun b1 => ?_)
  · refine T_iconst dX3_pullOf_6 (inr rfl) ?_
    refine T_iloadn dX3_pullOf_7 rfl rfl ?_
    refine T_bipush dX3_pullOf_8 (bp8 rfl) (inr rfl) ?_
    refine T_iloadn dX3_pullOf_10 rfl rfl ?_
    refine T_bipush dX3_pullOf_11 (bp8 rfl) (inr rfl) ?_
    refine T_idiv dX3_pullOf_13 (by omega) ?_
    refine T_iadd dX3_pullOf_14 ?_
    refine T_imul dX3_pullOf_15 ?_
    refine T_bipush dX3_pullOf_16 (bp8 rfl) (inr rfl) ?_
    refine T_idiv dX3_pullOf_18 (by omega) ?_
    refine T_aloadn dX3_pullOf_19 rfl rfl ?_
    first | refine T_getv dX3_pullOf_20 fX3_34 (by first | assumption | rfl) (by first | decide | omega) rfl (by assumption) ?_ | refine T_geti dX3_pullOf_20 fX3_34 (by first | assumption | rfl) (by first | decide | omega) rfl ?_
    refine T_isub dX3_pullOf_23 ?_
    refine T_mmax dX3_pullOf_24 kX3_74M (by decide) (leb rfl) ?_
    refine TT_ri dX3_pullOf_27 trivial ?_
    exact ro_q (by simp [b1])
  · refine T_iconst dX3_pullOf_4 (inr rfl) ?_
    refine TT_ri dX3_pullOf_5 trivial ?_
    exact ro_q (by simp [b1])
