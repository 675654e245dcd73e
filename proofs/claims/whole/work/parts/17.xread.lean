/-! Past; the class's calls that are short -/
theorem c_copy (c : HC) {s t : Nat} (hs : stA s) (ht : stA t) (hst : s ≠ t) : VO mX8_copyFrom 1 c [vr s, vr t] (putR c s (stR c t)) := by
  have h := c_copyFrom c hs ht hst (stR c s)
  rw [putR_self] at h
  exact h
theorem ringF : ∀ j, j < 20 → FIN 8 j = some (9 + 3 * j) := by decide +kernel
def UNK : Int := -1000000001
def OUT : Int := -1000000002
def NOTN : Int := -1000000003
def FUL : Int := -1000000004
def forgF (c : HC) : HC := up2 (up2 c 7 1 0) 7 2 0
set_option maxHeartbeats 4000000 in
set_option maxRecDepth 100000 in
theorem c_forget (c : HC) : VO mX5_forget 0 c [vr 7] (forgF c) := by
  refine CC.of (by decide +kernel) (leb rfl) (fun hok => ?_)
  refine T_aloadn dX5_forget_0 rfl rfl ?_
  refine T_iconst dX5_forget_1 (inr rfl) ?_
  refine T_puti dX5_forget_2 fX5_16 (by first | assumption | rfl) (by first | decide | omega) rfl rfl ?_
  refine T_aloadn dX5_forget_5 rfl rfl ?_
  refine T_iconst dX5_forget_6 (inr rfl) ?_
  refine T_puti dX5_forget_7 fX5_20 (by first | assumption | rfl) (by first | decide | omega) rfl rfl ?_
  refine TT_rv dX5_forget_10 trivial ?_
  exact ⟨rfl, rfl⟩
def pushF (c : HC) (fi cn : Nat) : HC := if cn < 20 then up2 (putR c (9 + 3 * ((fi + cn) % 20)) (stR c 4)) 7 2 ((cn : Int) + 1) else up2 (putR c (9 + 3 * ((fi + cn) % 20)) (stR c 4)) 7 1 (((fi : Int) + 1) % 20)
def popF (c : HC) (fi cn : Nat) : HC := putR (up2 c 7 2 ((cn : Int) - 1)) 4 (stR c (9 + 3 * ((fi + (cn - 1)) % 20)))
set_option maxHeartbeats 4000000 in
set_option maxRecDepth 100000 in
theorem c_push (c : HC) (fi cn : Nat) (h1 : c 7 1 = (fi : Int)) (h2 : c 7 2 = (cn : Int)) (hfi : fi < 20) (hcn : cn ≤ 20) : VO mX5_push 2 c [vr 7, vr 4] (pushF c fi cn) := by
  refine CC.of (by decide +kernel) (leb rfl) (fun hok => ?_)
  have hst : stA (9 + 3 * ((fi + cn) % 20)) := Or.inr (Or.inl ⟨_, by omega, rfl⟩)
  have hcp := c_copy c hst (Or.inl rfl : stA 4) (by omega)
  have hk := stK hst
  unfold pushF
  refine T_aloadn dX5_push_0 rfl rfl ?_
  refine T_getfin dX5_push_1 fX5_11 (by first | assumption | rfl) (by first | decide | omega) rfl (by first | assumption | rfl) ?_
  refine T_aloadn dX5_push_4 rfl rfl ?_
  first | refine T_getv dX5_push_5 fX5_16 (by first | assumption | rfl) (by first | decide | omega) rfl (by assumption) ?_ | refine T_geti dX5_push_5 fX5_16 (by first | assumption | rfl) (by first | decide | omega) rfl ?_
  refine T_aloadn dX5_push_8 rfl rfl ?_
  first | refine T_getv dX5_push_9 fX5_20 (by first | assumption | rfl) (by first | decide | omega) rfl (by assumption) ?_ | refine T_geti dX5_push_9 fX5_20 (by first | assumption | rfl) (by first | decide | omega) rfl ?_
  first | refine T_iaddN dX5_push_12 (by omega) ?_ | refine T_iadd dX5_push_12 ?_
  refine T_bipush dX5_push_13 (bp8 rfl) (inr rfl) ?_
  first | refine T_iremN dX5_push_15 (by omega) (by omega) ?_ | refine T_irem dX5_push_15 (by omega) ?_
  refine T_aaldfin (j := ((fi + cn) % 20)) dX5_push_16 (by first | assumption | rfl) (by decide) rfl (by first | decide | omega) (by omega) (by omega) (ringF _ (by omega)) ?_
  refine T_aloadn dX5_push_17 rfl rfl ?_
  refine TT_Vv dX5_push_18 (hcp) kX5_23 (by decide) (by first | decide | omega) hk.2.1 rfl (leb rfl) ?_
  refine T_aloadn dX5_push_21 rfl rfl ?_
  refine T_getv dX5_push_22 fX5_20 (by first | assumption | rfl) (by first | decide | omega) rfl ((pro (by omega)).trans h2) ?_
  refine T_bipush dX5_push_25 (bp8 rfl) (inr rfl) ?_
  refine T_icmp_ge (tgt := 43) dX5_push_27 rfl (fun b27 => ?_) (fun b27 => ?_)
  · refine T_aloadn dX5_push_43 rfl rfl ?_
    refine T_aloadn dX5_push_44 rfl rfl ?_
    refine T_getv dX5_push_45 fX5_16 (by first | assumption | rfl) (by first | decide | omega) rfl ((pro (by omega)).trans h1) ?_
    refine T_iconst dX5_push_48 (inr rfl) ?_
    first | refine T_iaddN dX5_push_49 (by omega) ?_ | refine T_iadd dX5_push_49 ?_
    refine T_bipush dX5_push_50 (bp8 rfl) (inr rfl) ?_
    first | refine T_iremN dX5_push_52 (by omega) (by omega) ?_ | refine T_irem dX5_push_52 (by omega) ?_
    refine T_puti dX5_push_53 fX5_16 (by first | assumption | rfl) (by first | decide | omega) rfl rfl ?_
    refine TT_rv dX5_push_56 trivial ?_
    exact ⟨rfl, by first | (rw [if_pos]; omega) | (rw [if_neg]; omega)⟩
  · refine T_aloadn dX5_push_30 rfl rfl ?_
    refine T_dup dX5_push_31 rfl ?_
    refine T_getv dX5_push_32 fX5_20 (by first | assumption | rfl) (by first | decide | omega) rfl ((pro (by omega)).trans h2) ?_
    refine T_iconst dX5_push_35 (inr rfl) ?_
    first | refine T_iaddN dX5_push_36 (by omega) ?_ | refine T_iadd dX5_push_36 ?_
    refine T_puti dX5_push_37 fX5_20 (by first | assumption | rfl) (by first | decide | omega) rfl rfl ?_
    refine T_goto (tgt := 56) dX5_push_40 rfl ?_
    refine TT_rv dX5_push_56 trivial ?_
    exact ⟨rfl, by first | (rw [if_pos]; omega) | (rw [if_neg]; omega)⟩
set_option maxHeartbeats 4000000 in
set_option maxRecDepth 100000 in
theorem c_popInto (c : HC) (fi cn : Nat) (h1 : c 7 1 = (fi : Int)) (h2 : c 7 2 = (cn : Int)) (hfi : fi < 20) (hcn : cn ≤ 20) (hc0 : 0 < cn) : VO mX5_popInto 2 c [vr 7, vr 4] (popF c fi cn) := by
  refine CC.of (by decide +kernel) (leb rfl) (fun hok => ?_)
  have hst : stA (9 + 3 * ((fi + (cn - 1)) % 20)) := Or.inr (Or.inl ⟨_, by omega, rfl⟩)
  have hcp := c_copy (up2 c 7 2 ((cn : Int) - 1)) (Or.inl rfl : stA 4) hst (by omega)
  have he : stR (up2 c 7 2 ((cn : Int) - 1)) (9 + 3 * ((fi + (cn - 1)) % 20)) = stR c (9 + 3 * ((fi + (cn - 1)) % 20)) := by
    funext k
    unfold stR
    rw [up2_a _ _ (by omega), up2_a _ _ (by omega), up2_a _ _ (by omega), up2_a _ _ (by omega), up2_a _ _ (by omega)]
  rw [he] at hcp
  unfold popF
  refine T_aloadn dX5_popInto_0 rfl rfl ?_
  first | refine T_getv dX5_popInto_1 fX5_20 (by first | assumption | rfl) (by first | decide | omega) rfl (by assumption) ?_ | refine T_geti dX5_popInto_1 fX5_20 (by first | assumption | rfl) (by first | decide | omega) rfl ?_
  refine T_if_le (tgt := 38) dX5_popInto_4 rfl (fun b4 => absurd b4 (by omega)) (fun b4 => ?_)
  refine T_aloadn dX5_popInto_7 rfl rfl ?_
  refine T_dup dX5_popInto_8 rfl ?_
  first | refine T_getv dX5_popInto_9 fX5_20 (by first | assumption | rfl) (by first | decide | omega) rfl (by assumption) ?_ | refine T_geti dX5_popInto_9 fX5_20 (by first | assumption | rfl) (by first | decide | omega) rfl ?_
  refine T_iconst dX5_popInto_12 (inr rfl) ?_
  first | refine T_isubN dX5_popInto_13 (by omega) ?_ | refine T_isub dX5_popInto_13 ?_
  refine T_puti dX5_popInto_14 fX5_20 (by first | assumption | rfl) (by first | decide | omega) rfl rfl ?_
  refine T_aloadn dX5_popInto_17 rfl rfl ?_
  refine T_aloadn dX5_popInto_18 rfl rfl ?_
  refine T_getfin dX5_popInto_19 fX5_11 (by first | assumption | rfl) (by first | decide | omega) rfl (by first | assumption | rfl) ?_
  refine T_aloadn dX5_popInto_22 rfl rfl ?_
  refine T_getv dX5_popInto_23 fX5_16 (by first | assumption | rfl) (by first | decide | omega) rfl ((up2_k _ _ (by decide)).trans h1) ?_
  refine T_aloadn dX5_popInto_26 rfl rfl ?_
  refine T_getv dX5_popInto_27 fX5_20 (by first | assumption | rfl) (by first | decide | omega) rfl (up2_s _ _ _ _) ?_
  first | refine T_iaddN dX5_popInto_30 (by omega) ?_ | refine T_iadd dX5_popInto_30 ?_
  refine T_bipush dX5_popInto_31 (bp8 rfl) (inr rfl) ?_
  first | refine T_iremN dX5_popInto_33 (by omega) (by omega) ?_ | refine T_irem dX5_popInto_33 (by omega) ?_
  refine T_aaldfin (j := ((fi + (cn - 1)) % 20)) dX5_popInto_34 (by first | assumption | rfl) (by decide) rfl (by first | decide | omega) (by omega) (by omega) (ringF _ (by omega)) ?_
  refine TT_Vv dX5_popInto_35 (hcp) kX5_23 (by decide) (by first | decide | omega) (by first | assumption | rfl) rfl (leb rfl) ?_
  refine TT_rv dX5_popInto_38 trivial ?_
  exact ⟨rfl, rfl⟩
def toldC (c : HC) (f : Nat) (w : Int) : Int := if w = 0 then c (f + 1) 6 else if w = 1 then c (f + 1) 7 else if w = 2 then c (f + 1) 8 else if w = 3 then c (f + 1) 9 else if w = 4 then c (f + 8) 4 else if w = 5 then c 2 1 else if w = 6 then c 4 3 else if w = 7 then c 4 4 else if w = 8 then c 4 2 else if w = 9 then c 1 12 else if w = 10 then c 1 13 else if w = 11 then c 7 2 else OUT
set_option maxHeartbeats 4000000 in
set_option maxRecDepth 100000 in
theorem x_told (c : HC) {f : Nat} (hf : f = 88 ∨ f = 101) (hh : c 1 10 = (f : Int)) (w : Int) : RO mX10_told 0 c [vr 1, vi w] (toldC c f w) := by
  obtain ⟨f0, fs, ff0, ff1, hg, hf2⟩ := fK hf
  obtain ⟨g0, gs, gs1, gs2, gs3, gs4, gs5, gs6, gf0, gf1, gf2, gf3, gf4, gf5⟩ := gK hg
  obtain ⟨s0, ss, ss1, ss2, ss3, ss4, sf0, sf1, sf2, sf3⟩ := sK hf2
  refine CC.of (by decide +kernel) (leb rfl) (fun hok => ?_)
  refine T_iloadn dX10_told_0 rfl rfl ?_
  by_cases e1_0 : w = 0
  · refine T_tsIn (tgt := 64) dX10_told_1 (by omega) (by omega) (by rw [e1_0]; rfl) rfl ?_
    refine T_aloadn dX10_told_64 rfl rfl ?_
    refine T_getr dX10_told_65 fX10_70 (by first | assumption | rfl) (by first | decide | omega) rfl (by first | assumption | rfl) ?_
    refine T_getfin dX10_told_68 fX10_95 (by first | assumption | rfl) (by first | decide | omega) rfl (by first | assumption | rfl) ?_
    first | refine T_getv dX10_told_71 fX10_133 (by first | assumption | rfl) (by first | decide | omega) rfl (by assumption) ?_ | refine T_geti dX10_told_71 fX10_133 (by first | assumption | rfl) (by first | decide | omega) rfl ?_
    refine TT_ri dX10_told_74 trivial ?_
    exact ro_q (by simp [toldC, OUT, *])
  · skip
    by_cases e1_1 : w = 1
    · refine T_tsIn (tgt := 75) dX10_told_1 (by omega) (by omega) (by rw [e1_1]; rfl) rfl ?_
      refine T_aloadn dX10_told_75 rfl rfl ?_
      refine T_getr dX10_told_76 fX10_70 (by first | assumption | rfl) (by first | decide | omega) rfl (by first | assumption | rfl) ?_
      refine T_getfin dX10_told_79 fX10_95 (by first | assumption | rfl) (by first | decide | omega) rfl (by first | assumption | rfl) ?_
      first | refine T_getv dX10_told_82 fX10_136 (by first | assumption | rfl) (by first | decide | omega) rfl (by assumption) ?_ | refine T_geti dX10_told_82 fX10_136 (by first | assumption | rfl) (by first | decide | omega) rfl ?_
      refine TT_ri dX10_told_85 trivial ?_
      exact ro_q (by simp [toldC, OUT, *])
    · skip
      by_cases e1_2 : w = 2
      · refine T_tsIn (tgt := 86) dX10_told_1 (by omega) (by omega) (by rw [e1_2]; rfl) rfl ?_
        refine T_aloadn dX10_told_86 rfl rfl ?_
        refine T_getr dX10_told_87 fX10_70 (by first | assumption | rfl) (by first | decide | omega) rfl (by first | assumption | rfl) ?_
        refine T_getfin dX10_told_90 fX10_95 (by first | assumption | rfl) (by first | decide | omega) rfl (by first | assumption | rfl) ?_
        first | refine T_getv dX10_told_93 fX10_139 (by first | assumption | rfl) (by first | decide | omega) rfl (by assumption) ?_ | refine T_geti dX10_told_93 fX10_139 (by first | assumption | rfl) (by first | decide | omega) rfl ?_
        refine TT_ri dX10_told_96 trivial ?_
        exact ro_q (by simp [toldC, OUT, *])
      · skip
        by_cases e1_3 : w = 3
        · refine T_tsIn (tgt := 97) dX10_told_1 (by omega) (by omega) (by rw [e1_3]; rfl) rfl ?_
          refine T_aloadn dX10_told_97 rfl rfl ?_
          refine T_getr dX10_told_98 fX10_70 (by first | assumption | rfl) (by first | decide | omega) rfl (by first | assumption | rfl) ?_
          refine T_getfin dX10_told_101 fX10_95 (by first | assumption | rfl) (by first | decide | omega) rfl (by first | assumption | rfl) ?_
          first | refine T_getv dX10_told_104 fX10_142 (by first | assumption | rfl) (by first | decide | omega) rfl (by assumption) ?_ | refine T_geti dX10_told_104 fX10_142 (by first | assumption | rfl) (by first | decide | omega) rfl ?_
          refine TT_ri dX10_told_107 trivial ?_
          exact ro_q (by simp [toldC, OUT, *])
        · skip
          by_cases e1_4 : w = 4
          · refine T_tsIn (tgt := 108) dX10_told_1 (by omega) (by omega) (by rw [e1_4]; rfl) rfl ?_
            refine T_aloadn dX10_told_108 rfl rfl ?_
            refine T_getr dX10_told_109 fX10_70 (by first | assumption | rfl) (by first | decide | omega) rfl (by first | assumption | rfl) ?_
            refine T_getfin dX10_told_112 fX10_104 (by first | assumption | rfl) (by first | decide | omega) rfl (by first | assumption | rfl) ?_
            first | refine T_getv dX10_told_115 fX10_125 (by first | assumption | rfl) (by first | decide | omega) rfl (by assumption) ?_ | refine T_geti dX10_told_115 fX10_125 (by first | assumption | rfl) (by first | decide | omega) rfl ?_
            refine TT_ri dX10_told_118 trivial ?_
            exact ro_q (by simp [toldC, OUT, *])
          · skip
            by_cases e1_5 : w = 5
            · refine T_tsIn (tgt := 119) dX10_told_1 (by omega) (by omega) (by rw [e1_5]; rfl) rfl ?_
              refine T_aloadn dX10_told_119 rfl rfl ?_
              refine T_getfin dX10_told_120 fX10_10 (by first | assumption | rfl) (by first | decide | omega) rfl (by first | assumption | rfl) ?_
              first | refine T_getv dX10_told_123 fX10_79 (by first | assumption | rfl) (by first | decide | omega) rfl (by assumption) ?_ | refine T_geti dX10_told_123 fX10_79 (by first | assumption | rfl) (by first | decide | omega) rfl ?_
              refine TT_ri dX10_told_126 trivial ?_
              exact ro_q (by simp [toldC, OUT, *])
            · skip
              by_cases e1_6 : w = 6
              · refine T_tsIn (tgt := 127) dX10_told_1 (by omega) (by omega) (by rw [e1_6]; rfl) rfl ?_
                refine T_aloadn dX10_told_127 rfl rfl ?_
                refine T_getfin dX10_told_128 fX10_19 (by first | assumption | rfl) (by first | decide | omega) rfl (by first | assumption | rfl) ?_
                first | refine T_getv dX10_told_131 fX10_145 (by first | assumption | rfl) (by first | decide | omega) rfl (by assumption) ?_ | refine T_geti dX10_told_131 fX10_145 (by first | assumption | rfl) (by first | decide | omega) rfl ?_
                refine TT_ri dX10_told_134 trivial ?_
                exact ro_q (by simp [toldC, OUT, *])
              · skip
                by_cases e1_7 : w = 7
                · refine T_tsIn (tgt := 135) dX10_told_1 (by omega) (by omega) (by rw [e1_7]; rfl) rfl ?_
                  refine T_aloadn dX10_told_135 rfl rfl ?_
                  refine T_getfin dX10_told_136 fX10_19 (by first | assumption | rfl) (by first | decide | omega) rfl (by first | assumption | rfl) ?_
                  first | refine T_getv dX10_told_139 fX10_148 (by first | assumption | rfl) (by first | decide | omega) rfl (by assumption) ?_ | refine T_geti dX10_told_139 fX10_148 (by first | assumption | rfl) (by first | decide | omega) rfl ?_
                  refine TT_ri dX10_told_142 trivial ?_
                  exact ro_q (by simp [toldC, OUT, *])
                · skip
                  by_cases e1_8 : w = 8
                  · refine T_tsIn (tgt := 143) dX10_told_1 (by omega) (by omega) (by rw [e1_8]; rfl) rfl ?_
                    refine T_aloadn dX10_told_143 rfl rfl ?_
                    refine T_getfin dX10_told_144 fX10_19 (by first | assumption | rfl) (by first | decide | omega) rfl (by first | assumption | rfl) ?_
                    first | refine T_getv dX10_told_147 fX10_151 (by first | assumption | rfl) (by first | decide | omega) rfl (by assumption) ?_ | refine T_geti dX10_told_147 fX10_151 (by first | assumption | rfl) (by first | decide | omega) rfl ?_
                    refine TT_ri dX10_told_150 trivial ?_
                    exact ro_q (by simp [toldC, OUT, *])
                  · skip
                    by_cases e1_9 : w = 9
                    · refine T_tsIn (tgt := 151) dX10_told_1 (by omega) (by omega) (by rw [e1_9]; rfl) rfl ?_
                      refine T_aloadn dX10_told_151 rfl rfl ?_
                      first | refine T_getv dX10_told_152 fX10_112 (by first | assumption | rfl) (by first | decide | omega) rfl (by assumption) ?_ | refine T_geti dX10_told_152 fX10_112 (by first | assumption | rfl) (by first | decide | omega) rfl ?_
                      refine TT_ri dX10_told_155 trivial ?_
                      exact ro_q (by simp [toldC, OUT, *])
                    · skip
                      by_cases e1_10 : w = 10
                      · refine T_tsIn (tgt := 156) dX10_told_1 (by omega) (by omega) (by rw [e1_10]; rfl) rfl ?_
                        refine T_aloadn dX10_told_156 rfl rfl ?_
                        first | refine T_getv dX10_told_157 fX10_115 (by first | assumption | rfl) (by first | decide | omega) rfl (by assumption) ?_ | refine T_geti dX10_told_157 fX10_115 (by first | assumption | rfl) (by first | decide | omega) rfl ?_
                        refine TT_ri dX10_told_160 trivial ?_
                        exact ro_q (by simp [toldC, OUT, *])
                      · skip
                        by_cases e1_11 : w = 11
                        · refine T_tsIn (tgt := 161) dX10_told_1 (by omega) (by omega) (by rw [e1_11]; rfl) rfl ?_
                          refine T_aloadn dX10_told_161 rfl rfl ?_
                          refine T_getfin dX10_told_162 fX10_26 (by first | assumption | rfl) (by first | decide | omega) rfl (by first | assumption | rfl) ?_
                          first | refine T_getv dX10_told_165 fX10_154 (by first | assumption | rfl) (by first | decide | omega) rfl (by assumption) ?_ | refine T_geti dX10_told_165 fX10_154 (by first | assumption | rfl) (by first | decide | omega) rfl ?_
                          refine TT_ri dX10_told_168 trivial ?_
                          exact ro_q (by simp [toldC, OUT, *])
                        · skip
                          refine T_tsOut (tgt := 169) dX10_told_1 (by omega) rfl ?_
                          refine T_ldc dX10_told_169 cX10_78 (inr rfl) ?_
                          refine TT_ri dX10_told_171 trivial ?_
                          exact ro_q (by simp [toldC, OUT, *])
set_option maxHeartbeats 4000000 in
set_option maxRecDepth 100000 in
theorem x_fault (c : HC) : RO mX10_fault 0 c [vr 1] (c 2 5) := by
  refine CC.of (by decide +kernel) (leb rfl) (fun hok => ?_)
  refine T_aloadn dX10_fault_0 rfl rfl ?_
  refine T_getfin dX10_fault_1 fX10_10 (by first | assumption | rfl) (by first | decide | omega) rfl (by first | assumption | rfl) ?_
  first | refine T_getv dX10_fault_4 fX10_130 (by first | assumption | rfl) (by first | decide | omega) rfl (by assumption) ?_ | refine T_geti dX10_fault_4 fX10_130 (by first | assumption | rfl) (by first | decide | omega) rfl ?_
  refine TT_ri dX10_fault_7 trivial ?_
  exact ro_q rfl
def atF (n : Int) (r : Nat → Int) (bad s : Int) : Int := if s < 0 ∨ n ≤ s then bad else r s.toNat
set_option maxHeartbeats 4000000 in
set_option maxRecDepth 100000 in
theorem x_stem (c : HC) {f : Nat} (hf : f = 88 ∨ f = 101) (hh : c 1 10 = (f : Int)) (hv : GV c (f + 1)) (s : Int) : RO mX10_stem 0 c [vr 1, vi s] (atF (c (f + 1) 8) (c (f + 1 + 1)) UNK s) := by
  obtain ⟨f0, fs, ff0, ff1, hg, hf2⟩ := fK hf
  obtain ⟨g0, gs, gs1, gs2, gs3, gs4, gs5, gs6, gf0, gf1, gf2, gf3, gf4, gf5⟩ := gK hg
  obtain ⟨s0, ss, ss1, ss2, ss3, ss4, sf0, sf1, sf2, sf3⟩ := sK hf2
  have h8 := hv.2.2.1
  refine CC.of (by decide +kernel) (leb rfl) (fun hok => ?_)
  unfold atF UNK
  refine T_iloadn dX10_stem_0 rfl rfl ?_
  refine T_if_lt (tgt := 18) dX10_stem_1 rfl (fun b1 => ?_) (fun b1 => ?_)
  · refine T_ldc dX10_stem_18 cX10_155 (inr rfl) ?_
    refine TT_ri dX10_stem_20 trivial ?_
    exact ro_q (by first | (rw [if_pos]; omega) | (rw [if_neg]; omega))
  · refine T_iloadn dX10_stem_4 rfl rfl ?_
    refine T_aloadn dX10_stem_5 rfl rfl ?_
    refine T_getr dX10_stem_6 fX10_70 (by first | assumption | rfl) (by first | decide | omega) rfl (by first | assumption | rfl) ?_
    refine T_getfin dX10_stem_9 fX10_95 (by first | assumption | rfl) (by first | decide | omega) rfl (by first | assumption | rfl) ?_
    first | refine T_getv dX10_stem_12 fX10_139 (by first | assumption | rfl) (by first | decide | omega) rfl (by assumption) ?_ | refine T_geti dX10_stem_12 fX10_139 (by first | assumption | rfl) (by first | decide | omega) rfl ?_
    refine T_icmp_lt (tgt := 21) dX10_stem_15 rfl (fun b15 => ?_) (fun b15 => ?_)
    · refine T_aloadn dX10_stem_21 rfl rfl ?_
      refine T_getr dX10_stem_22 fX10_70 (by first | assumption | rfl) (by first | decide | omega) rfl (by first | assumption | rfl) ?_
      refine T_getfin dX10_stem_25 fX10_95 (by first | assumption | rfl) (by first | decide | omega) rfl (by first | assumption | rfl) ?_
      refine T_getfin dX10_stem_28 fX10_156 (by first | assumption | rfl) (by first | decide | omega) rfl (by first | assumption | rfl) ?_
      refine T_iloadn dX10_stem_31 rfl rfl ?_
      refine T_iald (j := s.toNat) dX10_stem_32 (by first | assumption | rfl) (by first | decide | omega) (by omega) (by omega) ?_
      refine TT_ri dX10_stem_33 trivial ?_
      exact ro_q (by first | (rw [if_pos]; omega) | (rw [if_neg]; omega))
    · refine T_ldc dX10_stem_18 cX10_155 (inr rfl) ?_
      refine TT_ri dX10_stem_20 trivial ?_
      exact ro_q (by first | (rw [if_pos]; omega) | (rw [if_neg]; omega))
set_option maxHeartbeats 4000000 in
set_option maxRecDepth 100000 in
theorem x_ending (c : HC) {f : Nat} (hf : f = 88 ∨ f = 101) (hh : c 1 10 = (f : Int)) (hv : GV c (f + 1)) (s : Int) : RO mX10_ending 0 c [vr 1, vi s] (atF (c (f + 1) 9) (c (f + 1 + 2)) UNK s) := by
  obtain ⟨f0, fs, ff0, ff1, hg, hf2⟩ := fK hf
  obtain ⟨g0, gs, gs1, gs2, gs3, gs4, gs5, gs6, gf0, gf1, gf2, gf3, gf4, gf5⟩ := gK hg
  obtain ⟨s0, ss, ss1, ss2, ss3, ss4, sf0, sf1, sf2, sf3⟩ := sK hf2
  have h8 := hv.2.2.2.1
  refine CC.of (by decide +kernel) (leb rfl) (fun hok => ?_)
  unfold atF UNK
  refine T_iloadn dX10_ending_0 rfl rfl ?_
  refine T_if_lt (tgt := 18) dX10_ending_1 rfl (fun b1 => ?_) (fun b1 => ?_)
  · refine T_ldc dX10_ending_18 cX10_155 (inr rfl) ?_
    refine TT_ri dX10_ending_20 trivial ?_
    exact ro_q (by first | (rw [if_pos]; omega) | (rw [if_neg]; omega))
  · refine T_iloadn dX10_ending_4 rfl rfl ?_
    refine T_aloadn dX10_ending_5 rfl rfl ?_
    refine T_getr dX10_ending_6 fX10_70 (by first | assumption | rfl) (by first | decide | omega) rfl (by first | assumption | rfl) ?_
    refine T_getfin dX10_ending_9 fX10_95 (by first | assumption | rfl) (by first | decide | omega) rfl (by first | assumption | rfl) ?_
    first | refine T_getv dX10_ending_12 fX10_142 (by first | assumption | rfl) (by first | decide | omega) rfl (by assumption) ?_ | refine T_geti dX10_ending_12 fX10_142 (by first | assumption | rfl) (by first | decide | omega) rfl ?_
    refine T_icmp_lt (tgt := 21) dX10_ending_15 rfl (fun b15 => ?_) (fun b15 => ?_)
    · refine T_aloadn dX10_ending_21 rfl rfl ?_
      refine T_getr dX10_ending_22 fX10_70 (by first | assumption | rfl) (by first | decide | omega) rfl (by first | assumption | rfl) ?_
      refine T_getfin dX10_ending_25 fX10_95 (by first | assumption | rfl) (by first | decide | omega) rfl (by first | assumption | rfl) ?_
      refine T_getfin dX10_ending_28 fX10_159 (by first | assumption | rfl) (by first | decide | omega) rfl (by first | assumption | rfl) ?_
      refine T_iloadn dX10_ending_31 rfl rfl ?_
      refine T_iald (j := s.toNat) dX10_ending_32 (by first | assumption | rfl) (by first | decide | omega) (by omega) (by omega) ?_
      refine TT_ri dX10_ending_33 trivial ?_
      exact ro_q (by first | (rw [if_pos]; omega) | (rw [if_neg]; omega))
    · refine T_ldc dX10_ending_18 cX10_155 (inr rfl) ?_
      refine TT_ri dX10_ending_20 trivial ?_
      exact ro_q (by first | (rw [if_pos]; omega) | (rw [if_neg]; omega))
def spkF (n : Int) (sd bt nb wt cg : Nat → Int) (p w : Int) : Int := if p < 0 ∨ n ≤ p then UNK else if w = 0 then sd p.toNat else if w = 1 then bt p.toNat else if w = 2 then nb p.toNat else if w = 3 then wt p.toNat else if w = 4 then cg p.toNat else OUT
set_option maxHeartbeats 4000000 in
set_option maxRecDepth 100000 in
theorem x_speaker (c : HC) {f : Nat} (hf : f = 88 ∨ f = 101) (hh : c 1 10 = (f : Int)) {n : Nat} (hv : SV c (f + 8) n) (p w : Int) : RO mX10_speaker 0 c [vr 1, vi p, vi w] (spkF n (c (f + 8 + 1)) (c (f + 8 + 2)) (c 5) (c (f + 8 + 3)) (c (f + 8 + 4)) p w) := by
  obtain ⟨f0, fs, ff0, ff1, hg, hf2⟩ := fK hf
  obtain ⟨g0, gs, gs1, gs2, gs3, gs4, gs5, gs6, gf0, gf1, gf2, gf3, gf4, gf5⟩ := gK hg
  obtain ⟨s0, ss, ss1, ss2, ss3, ss4, sf0, sf1, sf2, sf3⟩ := sK hf2
  obtain ⟨hn, hn10, -⟩ := hv
  refine CC.of (by decide +kernel) (leb rfl) (fun hok => ?_)
  unfold spkF UNK OUT
  refine T_iloadn dX10_speaker_0 rfl rfl ?_
  refine T_if_lt (tgt := 18) dX10_speaker_1 rfl (fun b1 => ?_) (fun b1 => ?_)
  · refine T_ldc dX10_speaker_18 cX10_155 (inr rfl) ?_
    refine TT_ri dX10_speaker_20 trivial ?_
    exact ro_q (by rw [if_pos]; omega)
  · refine T_iloadn dX10_speaker_4 rfl rfl ?_
    refine T_aloadn dX10_speaker_5 rfl rfl ?_
    refine T_getr dX10_speaker_6 fX10_70 (by first | assumption | rfl) (by first | decide | omega) rfl (by first | assumption | rfl) ?_
    refine T_getfin dX10_speaker_9 fX10_104 (by first | assumption | rfl) (by first | decide | omega) rfl (by first | assumption | rfl) ?_
    first | refine T_getv dX10_speaker_12 fX10_125 (by first | assumption | rfl) (by first | decide | omega) rfl (by assumption) ?_ | refine T_geti dX10_speaker_12 fX10_125 (by first | assumption | rfl) (by first | decide | omega) rfl ?_
    refine T_icmp_lt (tgt := 21) dX10_speaker_15 rfl (fun b15 => ?_) (fun b15 => ?_)
    · refine T_iloadn dX10_speaker_21 rfl rfl ?_
      by_cases e22_0 : w = 0
      · refine T_tsIn (tgt := 56) dX10_speaker_22 (by omega) (by omega) (by rw [e22_0]; rfl) rfl ?_
        refine T_aloadn dX10_speaker_56 rfl rfl ?_
        refine T_getr dX10_speaker_57 fX10_70 (by first | assumption | rfl) (by first | decide | omega) rfl (by first | assumption | rfl) ?_
        refine T_getfin dX10_speaker_60 fX10_104 (by first | assumption | rfl) (by first | decide | omega) rfl (by first | assumption | rfl) ?_
        refine T_getfin dX10_speaker_63 fX10_162 (by first | assumption | rfl) (by first | decide | omega) rfl (by first | assumption | rfl) ?_
        refine T_iloadn dX10_speaker_66 rfl rfl ?_
        refine T_iald (j := p.toNat) dX10_speaker_67 (by first | assumption | rfl) (by first | decide | omega) (by omega) (by omega) ?_
        refine TT_ri dX10_speaker_68 trivial ?_
        exact ro_q (by rw [if_neg (by omega)]; simp [*])
      · skip
        by_cases e22_1 : w = 1
        · refine T_tsIn (tgt := 69) dX10_speaker_22 (by omega) (by omega) (by rw [e22_1]; rfl) rfl ?_
          refine T_aloadn dX10_speaker_69 rfl rfl ?_
          refine T_getr dX10_speaker_70 fX10_70 (by first | assumption | rfl) (by first | decide | omega) rfl (by first | assumption | rfl) ?_
          refine T_getfin dX10_speaker_73 fX10_104 (by first | assumption | rfl) (by first | decide | omega) rfl (by first | assumption | rfl) ?_
          refine T_getfin dX10_speaker_76 fX10_165 (by first | assumption | rfl) (by first | decide | omega) rfl (by first | assumption | rfl) ?_
          refine T_iloadn dX10_speaker_79 rfl rfl ?_
          refine T_iald (j := p.toNat) dX10_speaker_80 (by first | assumption | rfl) (by first | decide | omega) (by omega) (by omega) ?_
          refine TT_ri dX10_speaker_81 trivial ?_
          exact ro_q (by rw [if_neg (by omega)]; simp [*])
        · skip
          by_cases e22_2 : w = 2
          · refine T_tsIn (tgt := 82) dX10_speaker_22 (by omega) (by omega) (by rw [e22_2]; rfl) rfl ?_
            refine T_aloadn dX10_speaker_82 rfl rfl ?_
            refine T_getfin dX10_speaker_83 fX10_19 (by first | assumption | rfl) (by first | decide | omega) rfl (by first | assumption | rfl) ?_
            refine T_getfin dX10_speaker_86 fX10_168 (by first | assumption | rfl) (by first | decide | omega) rfl (by first | assumption | rfl) ?_
            refine T_iloadn dX10_speaker_89 rfl rfl ?_
            refine T_iald (j := p.toNat) dX10_speaker_90 (by first | assumption | rfl) (by first | decide | omega) (by omega) (by omega) ?_
            refine TT_ri dX10_speaker_91 trivial ?_
            exact ro_q (by rw [if_neg (by omega)]; simp [*])
          · skip
            by_cases e22_3 : w = 3
            · refine T_tsIn (tgt := 92) dX10_speaker_22 (by omega) (by omega) (by rw [e22_3]; rfl) rfl ?_
              refine T_aloadn dX10_speaker_92 rfl rfl ?_
              refine T_getr dX10_speaker_93 fX10_70 (by first | assumption | rfl) (by first | decide | omega) rfl (by first | assumption | rfl) ?_
              refine T_getfin dX10_speaker_96 fX10_104 (by first | assumption | rfl) (by first | decide | omega) rfl (by first | assumption | rfl) ?_
              refine T_getfin dX10_speaker_99 fX10_169 (by first | assumption | rfl) (by first | decide | omega) rfl (by first | assumption | rfl) ?_
              refine T_iloadn dX10_speaker_102 rfl rfl ?_
              refine T_iald (j := p.toNat) dX10_speaker_103 (by first | assumption | rfl) (by first | decide | omega) (by omega) (by omega) ?_
              refine TT_ri dX10_speaker_104 trivial ?_
              exact ro_q (by rw [if_neg (by omega)]; simp [*])
            · skip
              by_cases e22_4 : w = 4
              · refine T_tsIn (tgt := 105) dX10_speaker_22 (by omega) (by omega) (by rw [e22_4]; rfl) rfl ?_
                refine T_aloadn dX10_speaker_105 rfl rfl ?_
                refine T_getr dX10_speaker_106 fX10_70 (by first | assumption | rfl) (by first | decide | omega) rfl (by first | assumption | rfl) ?_
                refine T_getfin dX10_speaker_109 fX10_104 (by first | assumption | rfl) (by first | decide | omega) rfl (by first | assumption | rfl) ?_
                refine T_getfin dX10_speaker_112 fX10_172 (by first | assumption | rfl) (by first | decide | omega) rfl (by first | assumption | rfl) ?_
                refine T_iloadn dX10_speaker_115 rfl rfl ?_
                refine T_iald (j := p.toNat) dX10_speaker_116 (by first | assumption | rfl) (by first | decide | omega) (by omega) (by omega) ?_
                refine TT_ri dX10_speaker_117 trivial ?_
                exact ro_q (by rw [if_neg (by omega)]; simp [*])
              · skip
                refine T_tsOut (tgt := 118) dX10_speaker_22 (by omega) rfl ?_
                refine T_ldc dX10_speaker_118 cX10_78 (inr rfl) ?_
                refine TT_ri dX10_speaker_120 trivial ?_
                exact ro_q (by rw [if_neg (by omega)]; simp [*])
    · refine T_ldc dX10_speaker_18 cX10_155 (inr rfl) ?_
      refine TT_ri dX10_speaker_20 trivial ?_
      exact ro_q (by rw [if_pos]; omega)
set_option maxHeartbeats 4000000 in
set_option maxRecDepth 100000 in
theorem x_length (c : HC) {f : Nat} (hf : f = 88 ∨ f = 101) (hh : c 1 10 = (f : Int)) (hv : GV c (f + 1)) (w : Int) : RO mX10_length 2 c [vr 1, vi w] (lenG c (f + 1) w) := by
  obtain ⟨f0, fs, ff0, ff1, hg, hf2⟩ := fK hf
  obtain ⟨g0, gs, gs1, gs2, gs3, gs4, gs5, gs6, gf0, gf1, gf2, gf3, gf4, gf5⟩ := gK hg
  obtain ⟨s0, ss, ss1, ss2, ss3, ss4, sf0, sf1, sf2, sf3⟩ := sK hf2
  refine CC.of (by decide +kernel) (leb rfl) (fun hok => ?_)
  refine T_aloadn dX10_length_0 rfl rfl ?_
  refine T_getr dX10_length_1 fX10_70 (by first | assumption | rfl) (by first | decide | omega) rfl (by first | assumption | rfl) ?_
  refine T_getfin dX10_length_4 fX10_95 (by first | assumption | rfl) (by first | decide | omega) rfl (by first | assumption | rfl) ?_
  refine T_iloadn dX10_length_7 rfl rfl ?_
  refine TT_Vi dX10_length_8 (c_lengthOf c hg hv w) kX10_175 (by decide) (by first | decide | omega) (by first | assumption | rfl) rfl (leb rfl) ?_
  refine TT_ri dX10_length_11 trivial ?_
  exact ro_q rfl
set_option maxHeartbeats 4000000 in
set_option maxRecDepth 100000 in
theorem x_said (c : HC) (hw : 0 ≤ c 4 2 ∧ c 4 2 ≤ 40) (k : Int) : RO mX10_said 0 c [vr 1, vi k] (atF (c 4 2) (c 6) (-1) k) := by
  refine CC.of (by decide +kernel) (leb rfl) (fun hok => ?_)
  unfold atF
  refine T_iloadn dX10_said_0 rfl rfl ?_
  refine T_if_lt (tgt := 15) dX10_said_1 rfl (fun b1 => ?_) (fun b1 => ?_)
  · refine T_iconst dX10_said_15 (inr rfl) ?_
    refine TT_ri dX10_said_16 trivial ?_
    exact ro_q (by first | (rw [if_pos]; omega) | (rw [if_neg]; omega))
  · refine T_iloadn dX10_said_4 rfl rfl ?_
    refine T_aloadn dX10_said_5 rfl rfl ?_
    refine T_getfin dX10_said_6 fX10_19 (by first | assumption | rfl) (by first | decide | omega) rfl (by first | assumption | rfl) ?_
    first | refine T_getv dX10_said_9 fX10_151 (by first | assumption | rfl) (by first | decide | omega) rfl (by assumption) ?_ | refine T_geti dX10_said_9 fX10_151 (by first | assumption | rfl) (by first | decide | omega) rfl ?_
    refine T_icmp_lt (tgt := 17) dX10_said_12 rfl (fun b12 => ?_) (fun b12 => ?_)
    · refine T_aloadn dX10_said_17 rfl rfl ?_
      refine T_getfin dX10_said_18 fX10_19 (by first | assumption | rfl) (by first | decide | omega) rfl (by first | assumption | rfl) ?_
      refine T_getfin dX10_said_21 fX10_179 (by first | assumption | rfl) (by first | decide | omega) rfl (by first | assumption | rfl) ?_
      refine T_iloadn dX10_said_24 rfl rfl ?_
      refine T_iald (j := k.toNat) dX10_said_25 (by first | assumption | rfl) (by first | decide | omega) (by omega) (by omega) ?_
      refine TT_ri dX10_said_26 trivial ?_
      exact ro_q (by first | (rw [if_pos]; omega) | (rw [if_neg]; omega))
    · refine T_iconst dX10_said_15 (inr rfl) ?_
      refine TT_ri dX10_said_16 trivial ?_
      exact ro_q (by first | (rw [if_pos]; omega) | (rw [if_neg]; omega))
def lgF (lb lw : Nat → Int) (b w : Int) : Int := if (b < 0 ∨ 99 < b) ∨ (w < 0 ∨ 1 < w) then OUT else if lwF lb b = 0 then -1 else if w = 0 then lwF lb b else lw (lwF lb b).toNat
set_option maxHeartbeats 4000000 in
set_option maxRecDepth 100000 in
theorem x_longest (c : HC) {f : Nat} (hf : f = 88 ∨ f = 101) (hh : c 1 10 = (f : Int)) (hl : ∀ k, k < 42 → 0 ≤ c (f + 1 + 6) k ∧ c (f + 1 + 6) k ≤ 41) (b w : Int) : RO mX10_longest 2 c [vr 1, vi b, vi w] (lgF (c (f + 1 + 6)) (c (f + 1 + 5)) b w) := by
  obtain ⟨f0, fs, ff0, ff1, hg, hf2⟩ := fK hf
  obtain ⟨g0, gs, gs1, gs2, gs3, gs4, gs5, gs6, gf0, gf1, gf2, gf3, gf4, gf5⟩ := gK hg
  obtain ⟨s0, ss, ss1, ss2, ss3, ss4, sf0, sf1, sf2, sf3⟩ := sK hf2
  refine CC.of (by decide +kernel) (leb rfl) (fun hok => ?_)
  unfold lgF OUT
  have hlb : 0 ≤ b → 0 ≤ lwF (c (f + 1 + 6)) b ∧ lwF (c (f + 1 + 6)) b ≤ 41 := fun hb => by
    unfold lwF
    rw [if_pos hb]
    exact hl _ (by unfold imin; split <;> omega)
  refine T_iloadn dX10_longest_0 rfl rfl ?_
  refine T_if_lt (tgt := 19) dX10_longest_1 rfl (fun b1 => ?_) (fun b1 => ?_)
  · refine T_ldc dX10_longest_19 cX10_78 (inr rfl) ?_
    refine TT_ri dX10_longest_21 trivial ?_
    exact ro_q (by rw [if_pos]; omega)
  · refine T_iloadn dX10_longest_4 rfl rfl ?_
    refine T_bipush dX10_longest_5 (bp8 rfl) (inr rfl) ?_
    refine T_icmp_gt (tgt := 19) dX10_longest_7 rfl (fun b7 => ?_) (fun b7 => ?_)
    · refine T_ldc dX10_longest_19 cX10_78 (inr rfl) ?_
      refine TT_ri dX10_longest_21 trivial ?_
      exact ro_q (by rw [if_pos]; omega)
    · refine T_iloadn dX10_longest_10 rfl rfl ?_
      refine T_if_lt (tgt := 19) dX10_longest_11 rfl (fun b11 => ?_) (fun b11 => ?_)
      · refine T_ldc dX10_longest_19 cX10_78 (inr rfl) ?_
        refine TT_ri dX10_longest_21 trivial ?_
        exact ro_q (by rw [if_pos]; omega)
      · refine T_iloadn dX10_longest_14 rfl rfl ?_
        refine T_iconst dX10_longest_15 (inr rfl) ?_
        refine T_icmp_le (tgt := 22) dX10_longest_16 rfl (fun b16 => ?_) (fun b16 => ?_)
        · refine T_aloadn dX10_longest_22 rfl rfl ?_
          refine T_getr dX10_longest_23 fX10_70 (by first | assumption | rfl) (by first | decide | omega) rfl (by first | assumption | rfl) ?_
          refine T_getfin dX10_longest_26 fX10_95 (by first | assumption | rfl) (by first | decide | omega) rfl (by first | assumption | rfl) ?_
          refine T_iloadn dX10_longest_29 rfl rfl ?_
          refine TT_Vi dX10_longest_30 (c_longestWithin c hg _) kX10_215 (by decide) (by first | decide | omega) (by first | assumption | rfl) rfl (leb rfl) ?_
          have hl9 := hlb (by omega)
          refine T_istoren dX10_longest_33 rfl (by decide) rfl ?_
          refine T_iloadn dX10_longest_34 rfl rfl ?_
          refine T_if_ne (tgt := 40) dX10_longest_35 rfl (fun b35 => ?_) (fun b35 => ?_)
          · refine T_iloadn dX10_longest_40 rfl rfl ?_
            refine T_if_ne (tgt := 48) dX10_longest_41 rfl (fun b41 => ?_) (fun b41 => ?_)
            · refine T_aloadn dX10_longest_48 rfl rfl ?_
              refine T_getr dX10_longest_49 fX10_70 (by first | assumption | rfl) (by first | decide | omega) rfl (by first | assumption | rfl) ?_
              refine T_getfin dX10_longest_52 fX10_95 (by first | assumption | rfl) (by first | decide | omega) rfl (by first | assumption | rfl) ?_
              refine T_getfin dX10_longest_55 fX10_218 (by first | assumption | rfl) (by first | decide | omega) rfl (by first | assumption | rfl) ?_
              refine T_iloadn dX10_longest_58 rfl rfl ?_
              refine T_iald (j := (lwF (c (f + 1 + 6)) b).toNat) dX10_longest_59 (by first | assumption | rfl) (by first | decide | omega) (by omega) (by omega) ?_
              refine TT_ri dX10_longest_60 trivial ?_
              exact ro_q (by rw [if_neg (by omega)]; simp [*])
            · refine T_iloadn dX10_longest_44 rfl rfl ?_
              refine T_goto (tgt := 60) dX10_longest_45 rfl ?_
              refine TT_ri dX10_longest_60 trivial ?_
              exact ro_q (by rw [if_neg (by omega)]; simp [*])
          · refine T_iconst dX10_longest_38 (inr rfl) ?_
            refine TT_ri dX10_longest_39 trivial ?_
            exact ro_q (by rw [if_neg (by omega)]; simp [*])
        · refine T_ldc dX10_longest_19 cX10_78 (inr rfl) ?_
          refine TT_ri dX10_longest_21 trivial ?_
          exact ro_q (by rw [if_pos]; omega)
def hmF (wo : Nat → Int) (l : Int) : Int := if l < 0 ∨ 99 < l then OUT else if 41 < l then 0 else wo l.toNat
set_option maxHeartbeats 4000000 in
set_option maxRecDepth 100000 in
theorem x_howMany (c : HC) {f : Nat} (hf : f = 88 ∨ f = 101) (hh : c 1 10 = (f : Int)) (l : Int) : RO mX10_howMany 0 c [vr 1, vi l] (hmF (c (f + 1 + 4)) l) := by
  obtain ⟨f0, fs, ff0, ff1, hg, hf2⟩ := fK hf
  obtain ⟨g0, gs, gs1, gs2, gs3, gs4, gs5, gs6, gf0, gf1, gf2, gf3, gf4, gf5⟩ := gK hg
  obtain ⟨s0, ss, ss1, ss2, ss3, ss4, sf0, sf1, sf2, sf3⟩ := sK hf2
  refine CC.of (by decide +kernel) (leb rfl) (fun hok => ?_)
  unfold hmF OUT
  refine T_iloadn dX10_howMany_0 rfl rfl ?_
  refine T_if_lt (tgt := 10) dX10_howMany_1 rfl (fun b1 => ?_) (fun b1 => ?_)
  · refine T_ldc dX10_howMany_10 cX10_78 (inr rfl) ?_
    refine TT_ri dX10_howMany_12 trivial ?_
    exact ro_q (by first | (rw [if_pos (by omega)]) | (rw [if_neg (by omega), if_pos (by omega)]) | (rw [if_neg (by omega), if_neg (by omega)]))
  · refine T_iloadn dX10_howMany_4 rfl rfl ?_
    refine T_bipush dX10_howMany_5 (bp8 rfl) (inr rfl) ?_
    refine T_icmp_le (tgt := 13) dX10_howMany_7 rfl (fun b7 => ?_) (fun b7 => ?_)
    · refine T_iloadn dX10_howMany_13 rfl rfl ?_
      refine T_bipush dX10_howMany_14 (bp8 rfl) (inr rfl) ?_
      refine T_icmp_le (tgt := 23) dX10_howMany_16 rfl (fun b16 => ?_) (fun b16 => ?_)
      · refine T_aloadn dX10_howMany_23 rfl rfl ?_
        refine T_getr dX10_howMany_24 fX10_70 (by first | assumption | rfl) (by first | decide | omega) rfl (by first | assumption | rfl) ?_
        refine T_getfin dX10_howMany_27 fX10_95 (by first | assumption | rfl) (by first | decide | omega) rfl (by first | assumption | rfl) ?_
        refine T_getfin dX10_howMany_30 fX10_221 (by first | assumption | rfl) (by first | decide | omega) rfl (by first | assumption | rfl) ?_
        refine T_iloadn dX10_howMany_33 rfl rfl ?_
        refine T_iald (j := l.toNat) dX10_howMany_34 (by first | assumption | rfl) (by first | decide | omega) (by omega) (by omega) ?_
        refine TT_ri dX10_howMany_35 trivial ?_
        exact ro_q (by first | (rw [if_pos (by omega)]) | (rw [if_neg (by omega), if_pos (by omega)]) | (rw [if_neg (by omega), if_neg (by omega)]))
      · refine T_iconst dX10_howMany_19 (inr rfl) ?_
        refine T_goto (tgt := 35) dX10_howMany_20 rfl ?_
        refine TT_ri dX10_howMany_35 trivial ?_
        exact ro_q (by first | (rw [if_pos (by omega)]) | (rw [if_neg (by omega), if_pos (by omega)]) | (rw [if_neg (by omega), if_neg (by omega)]))
    · refine T_ldc dX10_howMany_10 cX10_78 (inr rfl) ?_
      refine TT_ri dX10_howMany_12 trivial ?_
      exact ro_q (by first | (rw [if_pos (by omega)]) | (rw [if_neg (by omega), if_pos (by omega)]) | (rw [if_neg (by omega), if_neg (by omega)]))
