/-! the reference: marks, seed -/
def toldR (c : HC) (w : Int) : Int := if w = 0 then c 122 0 else if w = 1 then c 122 1 else if w = 2 then c 122 2 else if w = 3 then c 122 4 else if w = 4 then c 122 6 else if w = 5 then c 122 15 else if w = 6 then c 130 0 else if w = 7 then c 130 1 else if w = 8 then c 130 12 else if w = 9 then c 122 37 else if w = 10 then c 122 39 else if w = 11 then c 122 34 else OUT
set_option maxHeartbeats 4000000 in
set_option maxRecDepth 100000 in
theorem y_told (c : HC) (w : Int) : RO mX11_told 0 c [vr 122, vi w] (toldR c w) := by
  refine CC.of (by decide +kernel) (leb rfl) (fun hok => ?_)
  unfold toldR OUT
  refine T_iloadn dX11_told_0 rfl rfl ?_
  by_cases e1_0 : w = 0
  · refine T_tsIn (tgt := 64) dX11_told_1 (by omega) (by omega) (by rw [e1_0]; rfl) rfl ?_
    refine T_aloadn dX11_told_64 rfl rfl ?_
    first | refine T_getv dX11_told_65 fX11_170 (by first | assumption | rfl) (by first | decide | omega) rfl (by assumption) ?_ | refine T_geti dX11_told_65 fX11_170 (by first | assumption | rfl) (by first | decide | omega) rfl ?_
    refine TT_ri dX11_told_68 trivial ?_
    exact ro_q (by rw [if_pos e1_0])
  · skip
    by_cases e1_1 : w = 1
    · refine T_tsIn (tgt := 69) dX11_told_1 (by omega) (by omega) (by rw [e1_1]; rfl) rfl ?_
      refine T_aloadn dX11_told_69 rfl rfl ?_
      first | refine T_getv dX11_told_70 fX11_173 (by first | assumption | rfl) (by first | decide | omega) rfl (by assumption) ?_ | refine T_geti dX11_told_70 fX11_173 (by first | assumption | rfl) (by first | decide | omega) rfl ?_
      refine TT_ri dX11_told_73 trivial ?_
      exact ro_q (by rw [if_neg e1_0]; rw [if_pos e1_1])
    · skip
      by_cases e1_2 : w = 2
      · refine T_tsIn (tgt := 74) dX11_told_1 (by omega) (by omega) (by rw [e1_2]; rfl) rfl ?_
        refine T_aloadn dX11_told_74 rfl rfl ?_
        first | refine T_getv dX11_told_75 fX11_176 (by first | assumption | rfl) (by first | decide | omega) rfl (by assumption) ?_ | refine T_geti dX11_told_75 fX11_176 (by first | assumption | rfl) (by first | decide | omega) rfl ?_
        refine TT_ri dX11_told_78 trivial ?_
        exact ro_q (by rw [if_neg e1_0]; rw [if_neg e1_1]; rw [if_pos e1_2])
      · skip
        by_cases e1_3 : w = 3
        · refine T_tsIn (tgt := 79) dX11_told_1 (by omega) (by omega) (by rw [e1_3]; rfl) rfl ?_
          refine T_aloadn dX11_told_79 rfl rfl ?_
          first | refine T_getv dX11_told_80 fX11_179 (by first | assumption | rfl) (by first | decide | omega) rfl (by assumption) ?_ | refine T_geti dX11_told_80 fX11_179 (by first | assumption | rfl) (by first | decide | omega) rfl ?_
          refine TT_ri dX11_told_83 trivial ?_
          exact ro_q (by rw [if_neg e1_0]; rw [if_neg e1_1]; rw [if_neg e1_2]; rw [if_pos e1_3])
        · skip
          by_cases e1_4 : w = 4
          · refine T_tsIn (tgt := 84) dX11_told_1 (by omega) (by omega) (by rw [e1_4]; rfl) rfl ?_
            refine T_aloadn dX11_told_84 rfl rfl ?_
            first | refine T_getv dX11_told_85 fX11_93 (by first | assumption | rfl) (by first | decide | omega) rfl (by assumption) ?_ | refine T_geti dX11_told_85 fX11_93 (by first | assumption | rfl) (by first | decide | omega) rfl ?_
            refine TT_ri dX11_told_88 trivial ?_
            exact ro_q (by rw [if_neg e1_0]; rw [if_neg e1_1]; rw [if_neg e1_2]; rw [if_neg e1_3]; rw [if_pos e1_4])
          · skip
            by_cases e1_5 : w = 5
            · refine T_tsIn (tgt := 89) dX11_told_1 (by omega) (by omega) (by rw [e1_5]; rfl) rfl ?_
              refine T_aloadn dX11_told_89 rfl rfl ?_
              first | refine T_getv dX11_told_90 fX11_107 (by first | assumption | rfl) (by first | decide | omega) rfl (by assumption) ?_ | refine T_geti dX11_told_90 fX11_107 (by first | assumption | rfl) (by first | decide | omega) rfl ?_
              refine TT_ri dX11_told_93 trivial ?_
              exact ro_q (by rw [if_neg e1_0]; rw [if_neg e1_1]; rw [if_neg e1_2]; rw [if_neg e1_3]; rw [if_neg e1_4]; rw [if_pos e1_5])
            · skip
              by_cases e1_6 : w = 6
              · refine T_tsIn (tgt := 94) dX11_told_1 (by omega) (by omega) (by rw [e1_6]; rfl) rfl ?_
                refine T_aloadn dX11_told_94 rfl rfl ?_
                refine T_getfin dX11_told_95 fX11_31 (by first | assumption | rfl) (by first | decide | omega) rfl (by first | assumption | rfl) ?_
                refine T_iconst dX11_told_98 (inr rfl) ?_
                refine T_iald (j := 0) dX11_told_99 (by first | assumption | rfl) (by first | decide | omega) (by omega) (by omega) ?_
                refine TT_ri dX11_told_100 trivial ?_
                exact ro_q (by rw [if_neg e1_0]; rw [if_neg e1_1]; rw [if_neg e1_2]; rw [if_neg e1_3]; rw [if_neg e1_4]; rw [if_neg e1_5]; rw [if_pos e1_6])
              · skip
                by_cases e1_7 : w = 7
                · refine T_tsIn (tgt := 101) dX11_told_1 (by omega) (by omega) (by rw [e1_7]; rfl) rfl ?_
                  refine T_aloadn dX11_told_101 rfl rfl ?_
                  refine T_getfin dX11_told_102 fX11_31 (by first | assumption | rfl) (by first | decide | omega) rfl (by first | assumption | rfl) ?_
                  refine T_iconst dX11_told_105 (inr rfl) ?_
                  refine T_iald (j := 1) dX11_told_106 (by first | assumption | rfl) (by first | decide | omega) (by omega) (by omega) ?_
                  refine TT_ri dX11_told_107 trivial ?_
                  exact ro_q (by rw [if_neg e1_0]; rw [if_neg e1_1]; rw [if_neg e1_2]; rw [if_neg e1_3]; rw [if_neg e1_4]; rw [if_neg e1_5]; rw [if_neg e1_6]; rw [if_pos e1_7])
                · skip
                  by_cases e1_8 : w = 8
                  · refine T_tsIn (tgt := 108) dX11_told_1 (by omega) (by omega) (by rw [e1_8]; rfl) rfl ?_
                    refine T_aloadn dX11_told_108 rfl rfl ?_
                    refine T_getfin dX11_told_109 fX11_31 (by first | assumption | rfl) (by first | decide | omega) rfl (by first | assumption | rfl) ?_
                    refine T_bipush dX11_told_112 (bp8 rfl) (inr rfl) ?_
                    refine T_iald (j := 12) dX11_told_114 (by first | assumption | rfl) (by first | decide | omega) (by omega) (by omega) ?_
                    refine TT_ri dX11_told_115 trivial ?_
                    exact ro_q (by rw [if_neg e1_0]; rw [if_neg e1_1]; rw [if_neg e1_2]; rw [if_neg e1_3]; rw [if_neg e1_4]; rw [if_neg e1_5]; rw [if_neg e1_6]; rw [if_neg e1_7]; rw [if_pos e1_8])
                  · skip
                    by_cases e1_9 : w = 9
                    · refine T_tsIn (tgt := 116) dX11_told_1 (by omega) (by omega) (by rw [e1_9]; rfl) rfl ?_
                      refine T_aloadn dX11_told_116 rfl rfl ?_
                      first | refine T_getv dX11_told_117 fX11_191 (by first | assumption | rfl) (by first | decide | omega) rfl (by assumption) ?_ | refine T_geti dX11_told_117 fX11_191 (by first | assumption | rfl) (by first | decide | omega) rfl ?_
                      refine TT_ri dX11_told_120 trivial ?_
                      exact ro_q (by rw [if_neg e1_0]; rw [if_neg e1_1]; rw [if_neg e1_2]; rw [if_neg e1_3]; rw [if_neg e1_4]; rw [if_neg e1_5]; rw [if_neg e1_6]; rw [if_neg e1_7]; rw [if_neg e1_8]; rw [if_pos e1_9])
                    · skip
                      by_cases e1_10 : w = 10
                      · refine T_tsIn (tgt := 121) dX11_told_1 (by omega) (by omega) (by rw [e1_10]; rfl) rfl ?_
                        refine T_aloadn dX11_told_121 rfl rfl ?_
                        first | refine T_getv dX11_told_122 fX11_194 (by first | assumption | rfl) (by first | decide | omega) rfl (by assumption) ?_ | refine T_geti dX11_told_122 fX11_194 (by first | assumption | rfl) (by first | decide | omega) rfl ?_
                        refine TT_ri dX11_told_125 trivial ?_
                        exact ro_q (by rw [if_neg e1_0]; rw [if_neg e1_1]; rw [if_neg e1_2]; rw [if_neg e1_3]; rw [if_neg e1_4]; rw [if_neg e1_5]; rw [if_neg e1_6]; rw [if_neg e1_7]; rw [if_neg e1_8]; rw [if_neg e1_9]; rw [if_pos e1_10])
                      · skip
                        by_cases e1_11 : w = 11
                        · refine T_tsIn (tgt := 126) dX11_told_1 (by omega) (by omega) (by rw [e1_11]; rfl) rfl ?_
                          refine T_aloadn dX11_told_126 rfl rfl ?_
                          first | refine T_getv dX11_told_127 fX11_197 (by first | assumption | rfl) (by first | decide | omega) rfl (by assumption) ?_ | refine T_geti dX11_told_127 fX11_197 (by first | assumption | rfl) (by first | decide | omega) rfl ?_
                          refine TT_ri dX11_told_130 trivial ?_
                          exact ro_q (by rw [if_neg e1_0]; rw [if_neg e1_1]; rw [if_neg e1_2]; rw [if_neg e1_3]; rw [if_neg e1_4]; rw [if_neg e1_5]; rw [if_neg e1_6]; rw [if_neg e1_7]; rw [if_neg e1_8]; rw [if_neg e1_9]; rw [if_neg e1_10]; rw [if_pos e1_11])
                        · skip
                          refine T_tsOut (tgt := 131) dX11_told_1 (by omega) rfl ?_
                          refine T_ldc dX11_told_131 cX11_106 (inr rfl) ?_
                          refine TT_ri dX11_told_133 trivial ?_
                          exact ro_q (by rw [if_neg e1_0]; rw [if_neg e1_1]; rw [if_neg e1_2]; rw [if_neg e1_3]; rw [if_neg e1_4]; rw [if_neg e1_5]; rw [if_neg e1_6]; rw [if_neg e1_7]; rw [if_neg e1_8]; rw [if_neg e1_9]; rw [if_neg e1_10]; rw [if_neg e1_11])
set_option maxHeartbeats 4000000 in
set_option maxRecDepth 100000 in
theorem y_seed (c : HC) (v : Int) : RW mX11_seed 0 c [vr 122, vi v] (if v < 0 then OUT else c 122 13) (if v < 0 then c else up2 c 122 13 v) := by
  refine CC.of (by decide +kernel) (leb rfl) (fun hok => ?_)
  unfold OUT
  refine T_iloadn dX11_seed_0 rfl rfl ?_
  refine T_if_ge (tgt := 7) dX11_seed_1 rfl (fun b1 => ?_) (fun b1 => ?_)
  · refine T_aloadn dX11_seed_7 rfl rfl ?_
    first | refine T_getv dX11_seed_8 fX11_245 (by first | assumption | rfl) (by first | decide | omega) rfl (by assumption) ?_ | refine T_geti dX11_seed_8 fX11_245 (by first | assumption | rfl) (by first | decide | omega) rfl ?_
    refine T_istoren dX11_seed_11 rfl (by decide) rfl ?_
    refine T_aloadn dX11_seed_12 rfl rfl ?_
    refine T_iloadn dX11_seed_13 rfl rfl ?_
    refine T_puti dX11_seed_14 fX11_245 (by first | assumption | rfl) (by first | decide | omega) rfl rfl ?_
    refine T_iloadn dX11_seed_17 rfl rfl ?_
    refine TT_ri dX11_seed_18 trivial ?_
    exact ⟨by rw [if_neg (by omega)], by rw [if_neg (by omega)]⟩
  · refine T_ldc dX11_seed_4 cX11_106 (inr rfl) ?_
    refine TT_ri dX11_seed_6 trivial ?_
    exact ⟨by rw [if_pos (by omega)], by rw [if_pos (by omega)]⟩
set_option maxHeartbeats 4000000 in
set_option maxRecDepth 100000 in
theorem y_tear (c : HC) (m k : Nat) (hm : c 122 37 = (m : Int)) (hk : c 122 39 = (k : Int)) (h8 : m ≤ 8) (h15 : k ≤ 15) : RW mX11_tear 0 c [vr 122] ((m : Int) + k) (up2 (up2 c 122 37 0) 122 39 0) := by
  refine CC.of (by decide +kernel) (leb rfl) (fun hok => ?_)
  refine T_aloadn dX11_tear_0 rfl rfl ?_
  refine T_getv dX11_tear_1 fX11_191 (by first | assumption | rfl) (by first | decide | omega) rfl hm ?_
  refine T_aloadn dX11_tear_4 rfl rfl ?_
  refine T_getv dX11_tear_5 fX11_194 (by first | assumption | rfl) (by first | decide | omega) rfl hk ?_
  first | refine T_iaddN dX11_tear_8 (by omega) ?_ | refine T_iadd dX11_tear_8 ?_
  refine T_istoren dX11_tear_9 rfl (by decide) rfl ?_
  refine T_aloadn dX11_tear_10 rfl rfl ?_
  refine T_iconst dX11_tear_11 (inr rfl) ?_
  refine T_puti dX11_tear_12 fX11_191 (by first | assumption | rfl) (by first | decide | omega) rfl rfl ?_
  refine T_aloadn dX11_tear_15 rfl rfl ?_
  refine T_iconst dX11_tear_16 (inr rfl) ?_
  refine T_puti dX11_tear_17 fX11_194 (by first | assumption | rfl) (by first | decide | omega) rfl rfl ?_
  refine T_iloadn dX11_tear_20 rfl rfl ?_
  refine TT_ri dX11_tear_21 trivial ?_
  exact ⟨rfl, rfl⟩
def mkR (c : HC) (m : Nat) (d : Int) : HC := if d < -99 ∨ 99 < d then c else if 8 ≤ m then c else up2 (up2 c 144 m d) 122 37 ((m : Int) + 1)
set_option maxHeartbeats 4000000 in
set_option maxRecDepth 100000 in
theorem y_mark (c : HC) (m : Nat) (hm : c 122 37 = (m : Int)) (h8 : m ≤ 8) (d : Int) : RW mX11_mark 1 c [vr 122, vi d] (mkF m d) (mkR c m d) := by
  refine CC.of (by decide +kernel) (leb rfl) (fun hok => ?_)
  unfold mkF mkR OUT FUL
  refine T_iloadn dX11_mark_0 rfl rfl ?_
  refine T_i2l dX11_mark_1 ?_
  refine T_ldc2 dX11_mark_2 clX11_294 (inl rfl) ?_
  refine T_ldc2 dX11_mark_5 clX11_206 (inl rfl) ?_
  refine TT_Si dX11_mark_8 (r_in c d (-99) 99) kX11_96 (by decide) rfl (leb rfl) ?_
  refine T_if_ne (tgt := 17) dX11_mark_11 rfl (fun b11 => ?_) (fun b11 => ?_)
  · have hi := inF_t b11
    refine T_aloadn dX11_mark_17 rfl rfl ?_
    refine T_getv dX11_mark_18 fX11_191 (by first | assumption | rfl) (by first | decide | omega) rfl hm ?_
    refine T_bipush dX11_mark_21 (bp8 rfl) (inr rfl) ?_
    refine T_icmp_ne (tgt := 29) dX11_mark_23 rfl (fun b23 => ?_) (fun b23 => ?_)
    · refine T_aloadn dX11_mark_29 rfl rfl ?_
      refine T_getfin dX11_mark_30 fX11_77 (by first | assumption | rfl) (by first | decide | omega) rfl (by first | assumption | rfl) ?_
      refine T_aloadn dX11_mark_33 rfl rfl ?_
      refine T_getv dX11_mark_34 fX11_191 (by first | assumption | rfl) (by first | decide | omega) rfl hm ?_
      refine T_iloadn dX11_mark_37 rfl rfl ?_
      refine T_iast (j := m) dX11_mark_38 (by first | assumption | rfl) (by first | decide | omega) (by omega) (by omega) ?_
      refine T_aloadn dX11_mark_39 rfl rfl ?_
      refine T_dup dX11_mark_40 rfl ?_
      refine T_getv dX11_mark_41 fX11_191 (by first | assumption | rfl) (by first | decide | omega) rfl ((up2_a _ _ (by decide)).trans hm) ?_
      refine T_iconst dX11_mark_44 (inr rfl) ?_
      first | refine T_iaddN dX11_mark_45 (by omega) ?_ | refine T_iadd dX11_mark_45 ?_
      refine T_puti dX11_mark_46 fX11_191 (by first | assumption | rfl) (by first | decide | omega) rfl rfl ?_
      refine T_aloadn dX11_mark_49 rfl rfl ?_
      refine T_getv dX11_mark_50 fX11_191 (by first | assumption | rfl) (by first | decide | omega) rfl (up2_s _ _ _ _) ?_
      refine TT_ri dX11_mark_53 trivial ?_
      exact ⟨by rw [if_neg (by omega), if_neg (by omega)], by rw [if_neg (by omega), if_neg (by omega)]⟩
    · refine T_ldc dX11_mark_26 cX11_110 (inr rfl) ?_
      refine TT_ri dX11_mark_28 trivial ?_
      exact ⟨by rw [if_neg (by omega), if_pos (by omega)], by rw [if_neg (by omega), if_pos (by omega)]⟩
  · refine T_ldc dX11_mark_14 cX11_106 (inr rfl) ?_
    refine TT_ri dX11_mark_16 trivial ?_
    have hi := inF_f b11
    exact ⟨by rw [if_pos (by omega)], by rw [if_pos (by omega)]⟩
