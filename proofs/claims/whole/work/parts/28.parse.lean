/-! Text: a whole text, read -/
def clF (t : Nat → Int) (n : Nat) (D : HC) (s : TS) : HC × TS := if D 0 0 = 0 ∧ t s.1 ≠ 103 then (D, flS s 1 (s.1 : Int)) else if t s.1 = 103 then cG t n D s else if t s.1 = 115 then cS t n D s else if t s.1 = 101 then cE t n D s else if t s.1 = 112 then cP t n D s else if t s.1 = 110 then cN t n D s else (D, flS s 1 (s.1 : Int))
set_option maxHeartbeats 4000000 in
set_option maxRecDepth 100000 in
theorem c_readClause (c D : HC) {f : Nat} (hf : f = 88 ∨ f = 101) (hD : DV D) (hR : RD f c D) {n : Nat} (hn : c 2 1 = (n : Int)) (hn2 : n ≤ 250) (s : TS) (ha : s.1 ≤ 255) (w : Int) (hw : c 3 s.1 = w) : CC mX9_readClause 3 (txs c s) [vr 2, vr f, vi w] (fun v h => v = none ∧ CLP f c (clF (c 3) n D s) h) := by
  obtain ⟨f0, fs, ff0, ff1, hg, hf2⟩ := fK hf
  obtain ⟨g0, gs, gs1, gs2, gs3, gs4, gs5, gs6, gf0, gf1, gf2, gf3, gf4, gf5⟩ := gK hg
  obtain ⟨s0, ss, ss1, ss2, ss3, ss4, sf0, sf1, sf2, sf3⟩ := sK hf2
  have r0 := hR.1.1
  have kF : (D 0 0 = 0 ∧ w ≠ 103) → clF (c 3) n D s = (D, flS s 1 (s.1 : Int)) := fun h => by unfold clF; rw [hw, if_pos h]
  have kG : w = 103 → clF (c 3) n D s = cG (c 3) n D s := fun h => by unfold clF; rw [hw, if_neg (fun q => q.2 h), if_pos h]
  have kS : ¬ (D 0 0 = 0 ∧ w ≠ 103) → w = 115 → clF (c 3) n D s = cS (c 3) n D s := fun h1 h => by unfold clF; rw [hw, if_neg h1, if_neg (by omega), if_pos h]
  have kE : ¬ (D 0 0 = 0 ∧ w ≠ 103) → w = 101 → clF (c 3) n D s = cE (c 3) n D s := fun h1 h => by unfold clF; rw [hw, if_neg h1, if_neg (by omega), if_neg (by omega), if_pos h]
  have kP : ¬ (D 0 0 = 0 ∧ w ≠ 103) → w = 112 → clF (c 3) n D s = cP (c 3) n D s := fun h1 h => by unfold clF; rw [hw, if_neg h1, if_neg (by omega), if_neg (by omega), if_neg (by omega), if_pos h]
  have kN : ¬ (D 0 0 = 0 ∧ w ≠ 103) → w = 110 → clF (c 3) n D s = cN (c 3) n D s := fun h1 h => by unfold clF; rw [hw, if_neg h1, if_neg (by omega), if_neg (by omega), if_neg (by omega), if_neg (by omega), if_pos h]
  have kO : ¬ (D 0 0 = 0 ∧ w ≠ 103) → (w ≠ 103 ∧ w ≠ 115 ∧ w ≠ 101 ∧ w ≠ 112 ∧ w ≠ 110) → clF (c 3) n D s = (D, flS s 1 (s.1 : Int)) := fun h1 h => by unfold clF; rw [hw, if_neg h1, if_neg (by omega), if_neg (by omega), if_neg (by omega), if_neg (by omega), if_neg (by omega)]
  have hfl := s_fail (c := c) s 1 (s.1 : Int) (by decide)
  refine CC.of (by decide +kernel) (leb rfl) (fun hok => ?_)
  refine T_aloadn dX9_readClause_0 rfl rfl ?_
  refine T_getfin dX9_readClause_1 fX9_40 (by first | assumption | rfl) (by first | decide | omega) rfl (by first | assumption | rfl) ?_
  refine T_getv dX9_readClause_4 fX9_44 (by first | assumption | rfl) (by first | decide | omega) rfl ((s_at (by omega)).trans r0) ?_
  refine T_if_ne (tgt := 26) dX9_readClause_7 rfl (fun b7 => ?_) (fun b7 => ?_)
  · have hnc : ¬ (D 0 0 = 0 ∧ w ≠ 103) := by omega
    refine T_iloadn dX9_readClause_26 rfl rfl ?_
    by_cases e27_0 : w = 101
    · refine T_tsIn (tgt := 122) dX9_readClause_27 (by omega) (by omega) (by rw [e27_0]; rfl) rfl ?_
      refine T_aloadn dX9_readClause_122 rfl rfl ?_
      refine T_aloadn dX9_readClause_123 rfl rfl ?_
      refine T_getfin dX9_readClause_124 fX9_40 (by first | assumption | rfl) (by first | decide | omega) rfl (by first | assumption | rfl) ?_
      refine TT_V dX9_readClause_127 (c_readEnding c D hf hD hR hn hn2 s ha) kX9_60 (by decide) (by first | decide | omega) (by first | assumption | rfl) rfl (leb rfl) (fun v_ h_ hq => ?_)
      obtain ⟨rfl, hq⟩ := hq
      refine T_goto (tgt := 164) dX9_readClause_130 rfl ?_
      refine TT_rv dX9_readClause_164 trivial ?_
      rw [kE hnc e27_0]
      exact ⟨rfl, hq⟩
    · skip
      by_cases e27_1 : w = 102
      · refine T_tsIn (tgt := 155) dX9_readClause_27 (by omega) (by omega) (by rw [e27_1]; rfl) rfl ?_
        refine T_aloadn dX9_readClause_155 rfl rfl ?_
        refine T_iconst dX9_readClause_156 (inr rfl) ?_
        refine T_aloadn dX9_readClause_157 rfl rfl ?_
        refine T_getv dX9_readClause_158 fX9_25 (by first | assumption | rfl) (by first | decide | omega) rfl tx2 ?_
        refine TT_Vv dX9_readClause_161 (hfl) kX9_49 (by decide) (by first | decide | omega) (by first | assumption | rfl) rfl (leb rfl) ?_
        refine TT_rv dX9_readClause_164 trivial ?_
        rw [kO hnc (by omega)]
        exact ⟨rfl, c, rfl, hR, hD, FRF.refl⟩
      · skip
        by_cases e27_2 : w = 103
        · refine T_tsIn (tgt := 100) dX9_readClause_27 (by omega) (by omega) (by rw [e27_2]; rfl) rfl ?_
          refine T_aloadn dX9_readClause_100 rfl rfl ?_
          refine T_aloadn dX9_readClause_101 rfl rfl ?_
          refine T_getfin dX9_readClause_102 fX9_40 (by first | assumption | rfl) (by first | decide | omega) rfl (by first | assumption | rfl) ?_
          refine TT_V dX9_readClause_105 (c_readGrammar c D hf hD hR hn hn2 s ha) kX9_53 (by decide) (by first | decide | omega) (by first | assumption | rfl) rfl (leb rfl) (fun v_ h_ hq => ?_)
          obtain ⟨rfl, hq⟩ := hq
          refine T_goto (tgt := 164) dX9_readClause_108 rfl ?_
          refine TT_rv dX9_readClause_164 trivial ?_
          rw [kG e27_2]
          exact ⟨rfl, hq⟩
        · skip
          by_cases e27_3 : w = 104
          · refine T_tsIn (tgt := 155) dX9_readClause_27 (by omega) (by omega) (by rw [e27_3]; rfl) rfl ?_
            refine T_aloadn dX9_readClause_155 rfl rfl ?_
            refine T_iconst dX9_readClause_156 (inr rfl) ?_
            refine T_aloadn dX9_readClause_157 rfl rfl ?_
            refine T_getv dX9_readClause_158 fX9_25 (by first | assumption | rfl) (by first | decide | omega) rfl tx2 ?_
            refine TT_Vv dX9_readClause_161 (hfl) kX9_49 (by decide) (by first | decide | omega) (by first | assumption | rfl) rfl (leb rfl) ?_
            refine TT_rv dX9_readClause_164 trivial ?_
            rw [kO hnc (by omega)]
            exact ⟨rfl, c, rfl, hR, hD, FRF.refl⟩
          · skip
            by_cases e27_4 : w = 105
            · refine T_tsIn (tgt := 155) dX9_readClause_27 (by omega) (by omega) (by rw [e27_4]; rfl) rfl ?_
              refine T_aloadn dX9_readClause_155 rfl rfl ?_
              refine T_iconst dX9_readClause_156 (inr rfl) ?_
              refine T_aloadn dX9_readClause_157 rfl rfl ?_
              refine T_getv dX9_readClause_158 fX9_25 (by first | assumption | rfl) (by first | decide | omega) rfl tx2 ?_
              refine TT_Vv dX9_readClause_161 (hfl) kX9_49 (by decide) (by first | decide | omega) (by first | assumption | rfl) rfl (leb rfl) ?_
              refine TT_rv dX9_readClause_164 trivial ?_
              rw [kO hnc (by omega)]
              exact ⟨rfl, c, rfl, hR, hD, FRF.refl⟩
            · skip
              by_cases e27_5 : w = 106
              · refine T_tsIn (tgt := 155) dX9_readClause_27 (by omega) (by omega) (by rw [e27_5]; rfl) rfl ?_
                refine T_aloadn dX9_readClause_155 rfl rfl ?_
                refine T_iconst dX9_readClause_156 (inr rfl) ?_
                refine T_aloadn dX9_readClause_157 rfl rfl ?_
                refine T_getv dX9_readClause_158 fX9_25 (by first | assumption | rfl) (by first | decide | omega) rfl tx2 ?_
                refine TT_Vv dX9_readClause_161 (hfl) kX9_49 (by decide) (by first | decide | omega) (by first | assumption | rfl) rfl (leb rfl) ?_
                refine TT_rv dX9_readClause_164 trivial ?_
                rw [kO hnc (by omega)]
                exact ⟨rfl, c, rfl, hR, hD, FRF.refl⟩
              · skip
                by_cases e27_6 : w = 107
                · refine T_tsIn (tgt := 155) dX9_readClause_27 (by omega) (by omega) (by rw [e27_6]; rfl) rfl ?_
                  refine T_aloadn dX9_readClause_155 rfl rfl ?_
                  refine T_iconst dX9_readClause_156 (inr rfl) ?_
                  refine T_aloadn dX9_readClause_157 rfl rfl ?_
                  refine T_getv dX9_readClause_158 fX9_25 (by first | assumption | rfl) (by first | decide | omega) rfl tx2 ?_
                  refine TT_Vv dX9_readClause_161 (hfl) kX9_49 (by decide) (by first | decide | omega) (by first | assumption | rfl) rfl (leb rfl) ?_
                  refine TT_rv dX9_readClause_164 trivial ?_
                  rw [kO hnc (by omega)]
                  exact ⟨rfl, c, rfl, hR, hD, FRF.refl⟩
                · skip
                  by_cases e27_7 : w = 108
                  · refine T_tsIn (tgt := 155) dX9_readClause_27 (by omega) (by omega) (by rw [e27_7]; rfl) rfl ?_
                    refine T_aloadn dX9_readClause_155 rfl rfl ?_
                    refine T_iconst dX9_readClause_156 (inr rfl) ?_
                    refine T_aloadn dX9_readClause_157 rfl rfl ?_
                    refine T_getv dX9_readClause_158 fX9_25 (by first | assumption | rfl) (by first | decide | omega) rfl tx2 ?_
                    refine TT_Vv dX9_readClause_161 (hfl) kX9_49 (by decide) (by first | decide | omega) (by first | assumption | rfl) rfl (leb rfl) ?_
                    refine TT_rv dX9_readClause_164 trivial ?_
                    rw [kO hnc (by omega)]
                    exact ⟨rfl, c, rfl, hR, hD, FRF.refl⟩
                  · skip
                    by_cases e27_8 : w = 109
                    · refine T_tsIn (tgt := 155) dX9_readClause_27 (by omega) (by omega) (by rw [e27_8]; rfl) rfl ?_
                      refine T_aloadn dX9_readClause_155 rfl rfl ?_
                      refine T_iconst dX9_readClause_156 (inr rfl) ?_
                      refine T_aloadn dX9_readClause_157 rfl rfl ?_
                      refine T_getv dX9_readClause_158 fX9_25 (by first | assumption | rfl) (by first | decide | omega) rfl tx2 ?_
                      refine TT_Vv dX9_readClause_161 (hfl) kX9_49 (by decide) (by first | decide | omega) (by first | assumption | rfl) rfl (leb rfl) ?_
                      refine TT_rv dX9_readClause_164 trivial ?_
                      rw [kO hnc (by omega)]
                      exact ⟨rfl, c, rfl, hR, hD, FRF.refl⟩
                    · skip
                      by_cases e27_9 : w = 110
                      · refine T_tsIn (tgt := 144) dX9_readClause_27 (by omega) (by omega) (by rw [e27_9]; rfl) rfl ?_
                        refine T_aloadn dX9_readClause_144 rfl rfl ?_
                        refine T_aloadn dX9_readClause_145 rfl rfl ?_
                        refine T_getfin dX9_readClause_146 fX9_40 (by first | assumption | rfl) (by first | decide | omega) rfl (by first | assumption | rfl) ?_
                        refine TT_V dX9_readClause_149 (c_readBar c D hf hD hR hn hn2 s ha) kX9_71 (by decide) (by first | decide | omega) (by first | assumption | rfl) rfl (leb rfl) (fun v_ h_ hq => ?_)
                        obtain ⟨rfl, hq⟩ := hq
                        refine T_goto (tgt := 164) dX9_readClause_152 rfl ?_
                        refine TT_rv dX9_readClause_164 trivial ?_
                        rw [kN hnc e27_9]
                        exact ⟨rfl, hq⟩
                      · skip
                        by_cases e27_10 : w = 111
                        · refine T_tsIn (tgt := 155) dX9_readClause_27 (by omega) (by omega) (by rw [e27_10]; rfl) rfl ?_
                          refine T_aloadn dX9_readClause_155 rfl rfl ?_
                          refine T_iconst dX9_readClause_156 (inr rfl) ?_
                          refine T_aloadn dX9_readClause_157 rfl rfl ?_
                          refine T_getv dX9_readClause_158 fX9_25 (by first | assumption | rfl) (by first | decide | omega) rfl tx2 ?_
                          refine TT_Vv dX9_readClause_161 (hfl) kX9_49 (by decide) (by first | decide | omega) (by first | assumption | rfl) rfl (leb rfl) ?_
                          refine TT_rv dX9_readClause_164 trivial ?_
                          rw [kO hnc (by omega)]
                          exact ⟨rfl, c, rfl, hR, hD, FRF.refl⟩
                        · skip
                          by_cases e27_11 : w = 112
                          · refine T_tsIn (tgt := 133) dX9_readClause_27 (by omega) (by omega) (by rw [e27_11]; rfl) rfl ?_
                            refine T_aloadn dX9_readClause_133 rfl rfl ?_
                            refine T_aloadn dX9_readClause_134 rfl rfl ?_
                            refine T_getfin dX9_readClause_135 fX9_63 (by first | assumption | rfl) (by first | decide | omega) rfl (by first | assumption | rfl) ?_
                            refine TT_V dX9_readClause_138 (c_readSpeaker c D hf hD hR hn hn2 s ha) kX9_67 (by decide) (by first | decide | omega) (by first | assumption | rfl) rfl (leb rfl) (fun v_ h_ hq => ?_)
                            obtain ⟨rfl, hq⟩ := hq
                            refine T_goto (tgt := 164) dX9_readClause_141 rfl ?_
                            refine TT_rv dX9_readClause_164 trivial ?_
                            rw [kP hnc e27_11]
                            exact ⟨rfl, hq⟩
                          · skip
                            by_cases e27_12 : w = 113
                            · refine T_tsIn (tgt := 155) dX9_readClause_27 (by omega) (by omega) (by rw [e27_12]; rfl) rfl ?_
                              refine T_aloadn dX9_readClause_155 rfl rfl ?_
                              refine T_iconst dX9_readClause_156 (inr rfl) ?_
                              refine T_aloadn dX9_readClause_157 rfl rfl ?_
                              refine T_getv dX9_readClause_158 fX9_25 (by first | assumption | rfl) (by first | decide | omega) rfl tx2 ?_
                              refine TT_Vv dX9_readClause_161 (hfl) kX9_49 (by decide) (by first | decide | omega) (by first | assumption | rfl) rfl (leb rfl) ?_
                              refine TT_rv dX9_readClause_164 trivial ?_
                              rw [kO hnc (by omega)]
                              exact ⟨rfl, c, rfl, hR, hD, FRF.refl⟩
                            · skip
                              by_cases e27_13 : w = 114
                              · refine T_tsIn (tgt := 155) dX9_readClause_27 (by omega) (by omega) (by rw [e27_13]; rfl) rfl ?_
                                refine T_aloadn dX9_readClause_155 rfl rfl ?_
                                refine T_iconst dX9_readClause_156 (inr rfl) ?_
                                refine T_aloadn dX9_readClause_157 rfl rfl ?_
                                refine T_getv dX9_readClause_158 fX9_25 (by first | assumption | rfl) (by first | decide | omega) rfl tx2 ?_
                                refine TT_Vv dX9_readClause_161 (hfl) kX9_49 (by decide) (by first | decide | omega) (by first | assumption | rfl) rfl (leb rfl) ?_
                                refine TT_rv dX9_readClause_164 trivial ?_
                                rw [kO hnc (by omega)]
                                exact ⟨rfl, c, rfl, hR, hD, FRF.refl⟩
                              · skip
                                by_cases e27_14 : w = 115
                                · refine T_tsIn (tgt := 111) dX9_readClause_27 (by omega) (by omega) (by rw [e27_14]; rfl) rfl ?_
                                  refine T_aloadn dX9_readClause_111 rfl rfl ?_
                                  refine T_aloadn dX9_readClause_112 rfl rfl ?_
                                  refine T_getfin dX9_readClause_113 fX9_40 (by first | assumption | rfl) (by first | decide | omega) rfl (by first | assumption | rfl) ?_
                                  refine TT_V dX9_readClause_116 (c_readStem c D hf hD hR hn hn2 s ha) kX9_57 (by decide) (by first | decide | omega) (by first | assumption | rfl) rfl (leb rfl) (fun v_ h_ hq => ?_)
                                  obtain ⟨rfl, hq⟩ := hq
                                  refine T_goto (tgt := 164) dX9_readClause_119 rfl ?_
                                  refine TT_rv dX9_readClause_164 trivial ?_
                                  rw [kS hnc e27_14]
                                  exact ⟨rfl, hq⟩
                                · skip
                                  refine T_tsOut (tgt := 155) dX9_readClause_27 (by omega) rfl ?_
                                  refine T_aloadn dX9_readClause_155 rfl rfl ?_
                                  refine T_iconst dX9_readClause_156 (inr rfl) ?_
                                  refine T_aloadn dX9_readClause_157 rfl rfl ?_
                                  refine T_getv dX9_readClause_158 fX9_25 (by first | assumption | rfl) (by first | decide | omega) rfl tx2 ?_
                                  refine TT_Vv dX9_readClause_161 (hfl) kX9_49 (by decide) (by first | decide | omega) (by first | assumption | rfl) rfl (leb rfl) ?_
                                  refine TT_rv dX9_readClause_164 trivial ?_
                                  rw [kO hnc (by omega)]
                                  exact ⟨rfl, c, rfl, hR, hD, FRF.refl⟩
  · refine T_iloadn dX9_readClause_10 rfl rfl ?_
    refine T_bipush dX9_readClause_11 (bp8 rfl) (inr rfl) ?_
    refine T_icmp_eq (tgt := 26) dX9_readClause_13 rfl (fun b13 => ?_) (fun b13 => ?_)
    · have hnc : ¬ (D 0 0 = 0 ∧ w ≠ 103) := by omega
      refine T_iloadn dX9_readClause_26 rfl rfl ?_
      by_cases e27_0 : w = 101
      · refine T_tsIn (tgt := 122) dX9_readClause_27 (by omega) (by omega) (by rw [e27_0]; rfl) rfl ?_
        refine T_aloadn dX9_readClause_122 rfl rfl ?_
        refine T_aloadn dX9_readClause_123 rfl rfl ?_
        refine T_getfin dX9_readClause_124 fX9_40 (by first | assumption | rfl) (by first | decide | omega) rfl (by first | assumption | rfl) ?_
        refine TT_V dX9_readClause_127 (c_readEnding c D hf hD hR hn hn2 s ha) kX9_60 (by decide) (by first | decide | omega) (by first | assumption | rfl) rfl (leb rfl) (fun v_ h_ hq => ?_)
        obtain ⟨rfl, hq⟩ := hq
        refine T_goto (tgt := 164) dX9_readClause_130 rfl ?_
        refine TT_rv dX9_readClause_164 trivial ?_
        rw [kE hnc e27_0]
        exact ⟨rfl, hq⟩
      · skip
        by_cases e27_1 : w = 102
        · refine T_tsIn (tgt := 155) dX9_readClause_27 (by omega) (by omega) (by rw [e27_1]; rfl) rfl ?_
          refine T_aloadn dX9_readClause_155 rfl rfl ?_
          refine T_iconst dX9_readClause_156 (inr rfl) ?_
          refine T_aloadn dX9_readClause_157 rfl rfl ?_
          refine T_getv dX9_readClause_158 fX9_25 (by first | assumption | rfl) (by first | decide | omega) rfl tx2 ?_
          refine TT_Vv dX9_readClause_161 (hfl) kX9_49 (by decide) (by first | decide | omega) (by first | assumption | rfl) rfl (leb rfl) ?_
          refine TT_rv dX9_readClause_164 trivial ?_
          rw [kO hnc (by omega)]
          exact ⟨rfl, c, rfl, hR, hD, FRF.refl⟩
        · skip
          by_cases e27_2 : w = 103
          · refine T_tsIn (tgt := 100) dX9_readClause_27 (by omega) (by omega) (by rw [e27_2]; rfl) rfl ?_
            refine T_aloadn dX9_readClause_100 rfl rfl ?_
            refine T_aloadn dX9_readClause_101 rfl rfl ?_
            refine T_getfin dX9_readClause_102 fX9_40 (by first | assumption | rfl) (by first | decide | omega) rfl (by first | assumption | rfl) ?_
            refine TT_V dX9_readClause_105 (c_readGrammar c D hf hD hR hn hn2 s ha) kX9_53 (by decide) (by first | decide | omega) (by first | assumption | rfl) rfl (leb rfl) (fun v_ h_ hq => ?_)
            obtain ⟨rfl, hq⟩ := hq
            refine T_goto (tgt := 164) dX9_readClause_108 rfl ?_
            refine TT_rv dX9_readClause_164 trivial ?_
            rw [kG e27_2]
            exact ⟨rfl, hq⟩
          · skip
            by_cases e27_3 : w = 104
            · refine T_tsIn (tgt := 155) dX9_readClause_27 (by omega) (by omega) (by rw [e27_3]; rfl) rfl ?_
              refine T_aloadn dX9_readClause_155 rfl rfl ?_
              refine T_iconst dX9_readClause_156 (inr rfl) ?_
              refine T_aloadn dX9_readClause_157 rfl rfl ?_
              refine T_getv dX9_readClause_158 fX9_25 (by first | assumption | rfl) (by first | decide | omega) rfl tx2 ?_
              refine TT_Vv dX9_readClause_161 (hfl) kX9_49 (by decide) (by first | decide | omega) (by first | assumption | rfl) rfl (leb rfl) ?_
              refine TT_rv dX9_readClause_164 trivial ?_
              rw [kO hnc (by omega)]
              exact ⟨rfl, c, rfl, hR, hD, FRF.refl⟩
            · skip
              by_cases e27_4 : w = 105
              · refine T_tsIn (tgt := 155) dX9_readClause_27 (by omega) (by omega) (by rw [e27_4]; rfl) rfl ?_
                refine T_aloadn dX9_readClause_155 rfl rfl ?_
                refine T_iconst dX9_readClause_156 (inr rfl) ?_
                refine T_aloadn dX9_readClause_157 rfl rfl ?_
                refine T_getv dX9_readClause_158 fX9_25 (by first | assumption | rfl) (by first | decide | omega) rfl tx2 ?_
                refine TT_Vv dX9_readClause_161 (hfl) kX9_49 (by decide) (by first | decide | omega) (by first | assumption | rfl) rfl (leb rfl) ?_
                refine TT_rv dX9_readClause_164 trivial ?_
                rw [kO hnc (by omega)]
                exact ⟨rfl, c, rfl, hR, hD, FRF.refl⟩
              · skip
                by_cases e27_5 : w = 106
                · refine T_tsIn (tgt := 155) dX9_readClause_27 (by omega) (by omega) (by rw [e27_5]; rfl) rfl ?_
                  refine T_aloadn dX9_readClause_155 rfl rfl ?_
                  refine T_iconst dX9_readClause_156 (inr rfl) ?_
                  refine T_aloadn dX9_readClause_157 rfl rfl ?_
                  refine T_getv dX9_readClause_158 fX9_25 (by first | assumption | rfl) (by first | decide | omega) rfl tx2 ?_
                  refine TT_Vv dX9_readClause_161 (hfl) kX9_49 (by decide) (by first | decide | omega) (by first | assumption | rfl) rfl (leb rfl) ?_
                  refine TT_rv dX9_readClause_164 trivial ?_
                  rw [kO hnc (by omega)]
                  exact ⟨rfl, c, rfl, hR, hD, FRF.refl⟩
                · skip
                  by_cases e27_6 : w = 107
                  · refine T_tsIn (tgt := 155) dX9_readClause_27 (by omega) (by omega) (by rw [e27_6]; rfl) rfl ?_
                    refine T_aloadn dX9_readClause_155 rfl rfl ?_
                    refine T_iconst dX9_readClause_156 (inr rfl) ?_
                    refine T_aloadn dX9_readClause_157 rfl rfl ?_
                    refine T_getv dX9_readClause_158 fX9_25 (by first | assumption | rfl) (by first | decide | omega) rfl tx2 ?_
                    refine TT_Vv dX9_readClause_161 (hfl) kX9_49 (by decide) (by first | decide | omega) (by first | assumption | rfl) rfl (leb rfl) ?_
                    refine TT_rv dX9_readClause_164 trivial ?_
                    rw [kO hnc (by omega)]
                    exact ⟨rfl, c, rfl, hR, hD, FRF.refl⟩
                  · skip
                    by_cases e27_7 : w = 108
                    · refine T_tsIn (tgt := 155) dX9_readClause_27 (by omega) (by omega) (by rw [e27_7]; rfl) rfl ?_
                      refine T_aloadn dX9_readClause_155 rfl rfl ?_
                      refine T_iconst dX9_readClause_156 (inr rfl) ?_
                      refine T_aloadn dX9_readClause_157 rfl rfl ?_
                      refine T_getv dX9_readClause_158 fX9_25 (by first | assumption | rfl) (by first | decide | omega) rfl tx2 ?_
                      refine TT_Vv dX9_readClause_161 (hfl) kX9_49 (by decide) (by first | decide | omega) (by first | assumption | rfl) rfl (leb rfl) ?_
                      refine TT_rv dX9_readClause_164 trivial ?_
                      rw [kO hnc (by omega)]
                      exact ⟨rfl, c, rfl, hR, hD, FRF.refl⟩
                    · skip
                      by_cases e27_8 : w = 109
                      · refine T_tsIn (tgt := 155) dX9_readClause_27 (by omega) (by omega) (by rw [e27_8]; rfl) rfl ?_
                        refine T_aloadn dX9_readClause_155 rfl rfl ?_
                        refine T_iconst dX9_readClause_156 (inr rfl) ?_
                        refine T_aloadn dX9_readClause_157 rfl rfl ?_
                        refine T_getv dX9_readClause_158 fX9_25 (by first | assumption | rfl) (by first | decide | omega) rfl tx2 ?_
                        refine TT_Vv dX9_readClause_161 (hfl) kX9_49 (by decide) (by first | decide | omega) (by first | assumption | rfl) rfl (leb rfl) ?_
                        refine TT_rv dX9_readClause_164 trivial ?_
                        rw [kO hnc (by omega)]
                        exact ⟨rfl, c, rfl, hR, hD, FRF.refl⟩
                      · skip
                        by_cases e27_9 : w = 110
                        · refine T_tsIn (tgt := 144) dX9_readClause_27 (by omega) (by omega) (by rw [e27_9]; rfl) rfl ?_
                          refine T_aloadn dX9_readClause_144 rfl rfl ?_
                          refine T_aloadn dX9_readClause_145 rfl rfl ?_
                          refine T_getfin dX9_readClause_146 fX9_40 (by first | assumption | rfl) (by first | decide | omega) rfl (by first | assumption | rfl) ?_
                          refine TT_V dX9_readClause_149 (c_readBar c D hf hD hR hn hn2 s ha) kX9_71 (by decide) (by first | decide | omega) (by first | assumption | rfl) rfl (leb rfl) (fun v_ h_ hq => ?_)
                          obtain ⟨rfl, hq⟩ := hq
                          refine T_goto (tgt := 164) dX9_readClause_152 rfl ?_
                          refine TT_rv dX9_readClause_164 trivial ?_
                          rw [kN hnc e27_9]
                          exact ⟨rfl, hq⟩
                        · skip
                          by_cases e27_10 : w = 111
                          · refine T_tsIn (tgt := 155) dX9_readClause_27 (by omega) (by omega) (by rw [e27_10]; rfl) rfl ?_
                            refine T_aloadn dX9_readClause_155 rfl rfl ?_
                            refine T_iconst dX9_readClause_156 (inr rfl) ?_
                            refine T_aloadn dX9_readClause_157 rfl rfl ?_
                            refine T_getv dX9_readClause_158 fX9_25 (by first | assumption | rfl) (by first | decide | omega) rfl tx2 ?_
                            refine TT_Vv dX9_readClause_161 (hfl) kX9_49 (by decide) (by first | decide | omega) (by first | assumption | rfl) rfl (leb rfl) ?_
                            refine TT_rv dX9_readClause_164 trivial ?_
                            rw [kO hnc (by omega)]
                            exact ⟨rfl, c, rfl, hR, hD, FRF.refl⟩
                          · skip
                            by_cases e27_11 : w = 112
                            · refine T_tsIn (tgt := 133) dX9_readClause_27 (by omega) (by omega) (by rw [e27_11]; rfl) rfl ?_
                              refine T_aloadn dX9_readClause_133 rfl rfl ?_
                              refine T_aloadn dX9_readClause_134 rfl rfl ?_
                              refine T_getfin dX9_readClause_135 fX9_63 (by first | assumption | rfl) (by first | decide | omega) rfl (by first | assumption | rfl) ?_
                              refine TT_V dX9_readClause_138 (c_readSpeaker c D hf hD hR hn hn2 s ha) kX9_67 (by decide) (by first | decide | omega) (by first | assumption | rfl) rfl (leb rfl) (fun v_ h_ hq => ?_)
                              obtain ⟨rfl, hq⟩ := hq
                              refine T_goto (tgt := 164) dX9_readClause_141 rfl ?_
                              refine TT_rv dX9_readClause_164 trivial ?_
                              rw [kP hnc e27_11]
                              exact ⟨rfl, hq⟩
                            · skip
                              by_cases e27_12 : w = 113
                              · refine T_tsIn (tgt := 155) dX9_readClause_27 (by omega) (by omega) (by rw [e27_12]; rfl) rfl ?_
                                refine T_aloadn dX9_readClause_155 rfl rfl ?_
                                refine T_iconst dX9_readClause_156 (inr rfl) ?_
                                refine T_aloadn dX9_readClause_157 rfl rfl ?_
                                refine T_getv dX9_readClause_158 fX9_25 (by first | assumption | rfl) (by first | decide | omega) rfl tx2 ?_
                                refine TT_Vv dX9_readClause_161 (hfl) kX9_49 (by decide) (by first | decide | omega) (by first | assumption | rfl) rfl (leb rfl) ?_
                                refine TT_rv dX9_readClause_164 trivial ?_
                                rw [kO hnc (by omega)]
                                exact ⟨rfl, c, rfl, hR, hD, FRF.refl⟩
                              · skip
                                by_cases e27_13 : w = 114
                                · refine T_tsIn (tgt := 155) dX9_readClause_27 (by omega) (by omega) (by rw [e27_13]; rfl) rfl ?_
                                  refine T_aloadn dX9_readClause_155 rfl rfl ?_
                                  refine T_iconst dX9_readClause_156 (inr rfl) ?_
                                  refine T_aloadn dX9_readClause_157 rfl rfl ?_
                                  refine T_getv dX9_readClause_158 fX9_25 (by first | assumption | rfl) (by first | decide | omega) rfl tx2 ?_
                                  refine TT_Vv dX9_readClause_161 (hfl) kX9_49 (by decide) (by first | decide | omega) (by first | assumption | rfl) rfl (leb rfl) ?_
                                  refine TT_rv dX9_readClause_164 trivial ?_
                                  rw [kO hnc (by omega)]
                                  exact ⟨rfl, c, rfl, hR, hD, FRF.refl⟩
                                · skip
                                  by_cases e27_14 : w = 115
                                  · refine T_tsIn (tgt := 111) dX9_readClause_27 (by omega) (by omega) (by rw [e27_14]; rfl) rfl ?_
                                    refine T_aloadn dX9_readClause_111 rfl rfl ?_
                                    refine T_aloadn dX9_readClause_112 rfl rfl ?_
                                    refine T_getfin dX9_readClause_113 fX9_40 (by first | assumption | rfl) (by first | decide | omega) rfl (by first | assumption | rfl) ?_
                                    refine TT_V dX9_readClause_116 (c_readStem c D hf hD hR hn hn2 s ha) kX9_57 (by decide) (by first | decide | omega) (by first | assumption | rfl) rfl (leb rfl) (fun v_ h_ hq => ?_)
                                    obtain ⟨rfl, hq⟩ := hq
                                    refine T_goto (tgt := 164) dX9_readClause_119 rfl ?_
                                    refine TT_rv dX9_readClause_164 trivial ?_
                                    rw [kS hnc e27_14]
                                    exact ⟨rfl, hq⟩
                                  · skip
                                    refine T_tsOut (tgt := 155) dX9_readClause_27 (by omega) rfl ?_
                                    refine T_aloadn dX9_readClause_155 rfl rfl ?_
                                    refine T_iconst dX9_readClause_156 (inr rfl) ?_
                                    refine T_aloadn dX9_readClause_157 rfl rfl ?_
                                    refine T_getv dX9_readClause_158 fX9_25 (by first | assumption | rfl) (by first | decide | omega) rfl tx2 ?_
                                    refine TT_Vv dX9_readClause_161 (hfl) kX9_49 (by decide) (by first | decide | omega) (by first | assumption | rfl) rfl (leb rfl) ?_
                                    refine TT_rv dX9_readClause_164 trivial ?_
                                    rw [kO hnc (by omega)]
                                    exact ⟨rfl, c, rfl, hR, hD, FRF.refl⟩
    · refine T_aloadn dX9_readClause_16 rfl rfl ?_
      refine T_iconst dX9_readClause_17 (inr rfl) ?_
      refine T_aloadn dX9_readClause_18 rfl rfl ?_
      refine T_getv dX9_readClause_19 fX9_25 (by first | assumption | rfl) (by first | decide | omega) rfl tx2 ?_
      refine TT_Vv dX9_readClause_22 (hfl) kX9_49 (by decide) (by first | decide | omega) (by first | assumption | rfl) rfl (leb rfl) ?_
      refine TT_rv dX9_readClause_25 trivial ?_
      rw [kF ⟨b7, b13⟩]
      exact ⟨rfl, c, rfl, hR, hD, FRF.refl⟩
def clG (c : HC) (g : Nat) : HC := fillF (up2 (up2 (up2 (up2 (up2 c g 6 0) g 7 0) g 8 0) g 9 0) g 10 0) (g + 3) 0 6 0
def clC (c : HC) (f : Nat) : HC := up2 (clG c (f + 1)) (f + 8) 4 0
def D0 : HC := fun _ _ => 0
theorem DV_0 : DV D0 := by
  unfold DV D0
  refine ⟨by omega, fun j hj => by omega, fun j hj => by omega, fun j hj => by omega⟩
theorem RD_0 {f : Nat} {c : HC} : RD f (clC c f) D0 := by
  have e : ∀ x y, clC c f x y = if x = f + 8 ∧ y = 4 then 0 else if x = f + 1 + 3 ∧ 0 ≤ y ∧ y < 6 then 0 else up2 (up2 (up2 (up2 (up2 c (f + 1) 6 0) (f + 1) 7 0) (f + 1) 8 0) (f + 1) 9 0) (f + 1) 10 0 x y := fun x y => by
    unfold clC clG
    rw [up2_g]
    rfl
  unfold RD D0
  refine ⟨⟨?_, ?_, ?_, ?_, ?_, ?_⟩, fun j hj => by omega, fun j hj => by omega, fun j hj => ?_, fun j hj => by omega⟩
  · rw [e]; simp [up2_g]
  · rw [e]; simp [up2_g]
  · rw [e]; simp [up2_g]
  · rw [e]; simp [up2_g]
  · rw [e]; simp
  · rw [e]; simp [up2_g]
  · rw [e, if_neg (by omega), if_pos (by omega)]
theorem fillF_row {c : HC} {a i n x : Nat} {v : Int} (h : x ≠ a) : fillF c a i n v x = c x := by
  funext y
  unfold fillF
  rw [if_neg (fun q => h q.1)]
theorem FRF_0 {f : Nat} {c : HC} : FRF f c (clC c f) := by
  intro x hx
  unfold clC clG
  rw [up2_row _ _ _ _ (by omega), fillF_row (by omega), up2_row _ _ _ _ (by omega), up2_row _ _ _ _ (by omega), up2_row _ _ _ _ (by omega), up2_row _ _ _ _ (by omega), up2_row _ _ _ _ (by omega)]
theorem s_fill {c : HC} {s : TS} {a i n : Nat} {v : Int} (h : a ≠ 2) : fillF (txs c s) a i n v = txs (fillF c a i n v) s := by
  funext x y
  by_cases h2 : x = 2
  · subst h2
    rw [fillF_row (by omega)]
    unfold txs tx
    rw [fillF_row (by omega)]
  · rw [s_row h2]
    unfold fillF
    rw [s_row h2]
theorem clC_s {c : HC} {s : TS} {f : Nat} (hf : f = 88 ∨ f = 101) : clC (txs c s) f = txs (clC c f) s := by
  unfold clC clG
  rw [s_up (by omega), s_up (by omega), s_up (by omega), s_up (by omega), s_up (by omega), s_fill (by omega), s_up (by omega)]
set_option maxHeartbeats 4000000 in
set_option maxRecDepth 100000 in
theorem c_clearG (c : HC) {g : Nat} (hg : g = 89 ∨ g = 102) : VO mX3_clear 1 c [vr g] (clG c g) := by
  obtain ⟨g0, gs, gs1, gs2, gs3, gs4, gs5, gs6, gf0, gf1, gf2, gf3, gf4, gf5⟩ := gK hg
  refine CC.of (by decide +kernel) (leb rfl) (fun hok => ?_)
  refine T_aloadn dX3_clear_0 rfl rfl ?_
  refine T_iconst dX3_clear_1 (inr rfl) ?_
  refine T_puti dX3_clear_2 fX3_30 (by first | assumption | rfl) (by first | decide | omega) rfl rfl ?_
  refine T_aloadn dX3_clear_5 rfl rfl ?_
  refine T_iconst dX3_clear_6 (inr rfl) ?_
  refine T_puti dX3_clear_7 fX3_34 (by first | assumption | rfl) (by first | decide | omega) rfl rfl ?_
  refine T_aloadn dX3_clear_10 rfl rfl ?_
  refine T_iconst dX3_clear_11 (inr rfl) ?_
  refine T_puti dX3_clear_12 fX3_37 (by first | assumption | rfl) (by first | decide | omega) rfl rfl ?_
  refine T_aloadn dX3_clear_15 rfl rfl ?_
  refine T_iconst dX3_clear_16 (inr rfl) ?_
  refine T_puti dX3_clear_17 fX3_40 (by first | assumption | rfl) (by first | decide | omega) rfl rfl ?_
  refine T_aloadn dX3_clear_20 rfl rfl ?_
  refine T_iconst dX3_clear_21 (inr rfl) ?_
  refine T_puti dX3_clear_22 fX3_43 (by first | assumption | rfl) (by first | decide | omega) rfl rfl ?_
  refine T_aloadn dX3_clear_25 rfl rfl ?_
  refine T_getfin dX3_clear_26 fX3_18 (by first | assumption | rfl) (by first | decide | omega) rfl (by first | assumption | rfl) ?_
  refine T_iconst dX3_clear_29 (inr rfl) ?_
  refine TT_Sv dX3_clear_30 (c_fill (g + 3) 6 0 gs3 (by omega) (by decide) _) kX3_46 (by decide) rfl (leb rfl) ?_
  refine TT_rv dX3_clear_33 trivial ?_
  exact ⟨rfl, rfl⟩
set_option maxHeartbeats 4000000 in
set_option maxRecDepth 100000 in
theorem c_clearF (c : HC) {f : Nat} (hf : f = 88 ∨ f = 101) : VO mX1_clear 2 c [vr f] (clC c f) := by
  obtain ⟨f0, fs, ff0, ff1, hg, hf2⟩ := fK hf
  obtain ⟨g0, gs, gs1, gs2, gs3, gs4, gs5, gs6, gf0, gf1, gf2, gf3, gf4, gf5⟩ := gK hg
  obtain ⟨s0, ss, ss1, ss2, ss3, ss4, sf0, sf1, sf2, sf3⟩ := sK hf2
  refine CC.of (by decide +kernel) (leb rfl) (fun hok => ?_)
  refine T_aloadn dX1_clear_0 rfl rfl ?_
  refine T_getfin dX1_clear_1 fX1_10 (by first | assumption | rfl) (by first | decide | omega) rfl (by first | assumption | rfl) ?_
  refine TT_Vv dX1_clear_4 (c_clearG c hg) kX1_23 (by decide) (by first | decide | omega) (by first | assumption | rfl) rfl (leb rfl) ?_
  refine T_aloadn dX1_clear_7 rfl rfl ?_
  refine T_getfin dX1_clear_8 fX1_19 (by first | assumption | rfl) (by first | decide | omega) rfl (by first | assumption | rfl) ?_
  refine T_iconst dX1_clear_11 (inr rfl) ?_
  refine T_puti dX1_clear_12 fX1_26 (by first | assumption | rfl) (by first | decide | omega) rfl rfl ?_
  refine TT_rv dX1_clear_15 trivial ?_
  exact ⟨rfl, rfl⟩
def rdL (t : Nat → Int) (n : Nat) : Nat → HC × TS → HC × TS
  | 0, r => r
  | k + 1, r => if r.2.1 < n ∧ r.2.2.2.1 = 0 then rdL t n k ((clF t n r.1 r.2).1, skS t n (clF t n r.1 r.2).2) else r
def RIP (f : Nat) (c : HC) (r : HC × TS) (h : HC) : Prop := ∃ c1, h = up2 (txs c1 r.2) 2 1 0 ∧ RD f c1 r.1 ∧ DV r.1 ∧ FRF f c c1
set_option maxHeartbeats 4000000 in
set_option maxRecDepth 100000 in
theorem l_readInto {f : Nat} (hf : f = 88 ∨ f = 101) (t : Nat → Int) {n : Nat} (hn2 : n ≤ 250) : ∀ (k i : Nat) (c D : HC) (s : TS), i + k = 250 → DV D → RD f c D → c 2 1 = (n : Int) → c 3 = t → TT mX9_readInto 4 25 [(0, vr 2), (1, vr f), (2, vi (i : Int))] [] (txs c s) (fun v h => v = none ∧ RIP f c (rdL t n k (D, s)) h) := by
  obtain ⟨f0, fs, ff0, ff1, hg, hf2⟩ := fK hf
  obtain ⟨g0, gs, gs1, gs2, gs3, gs4, gs5, gs6, gf0, gf1, gf2, gf3, gf4, gf5⟩ := gK hg
  obtain ⟨s0, ss, ss1, ss2, ss3, ss4, sf0, sf1, sf2, sf3⟩ := sK hf2
  intro k
  induction k with
  | zero =>
    intro i c D s hk hD hR hn ht
    refine T_iloadn dX9_readInto_25 rfl rfl ?_
    refine T_sipush dX9_readInto_26 (bp16 rfl) (inr rfl) ?_
    refine T_icmp_ge (tgt := 74) dX9_readInto_29 rfl (fun b29 => ?_) (fun b29 => absurd b29 (by omega))
    refine T_aloadn dX9_readInto_74 rfl rfl ?_
    refine T_iconst dX9_readInto_75 (inr rfl) ?_
    refine T_puti dX9_readInto_76 fX9_22 (by first | assumption | rfl) (by first | decide | omega) rfl rfl ?_
    refine TT_rv dX9_readInto_79 trivial ?_
    exact ⟨rfl, c, rfl, hR, hD, FRF.refl⟩
  | succ k ih =>
    intro i c D s hk hD hR hn ht
    rw [rdL.eq_2]
    refine T_iloadn dX9_readInto_25 rfl rfl ?_
    refine T_sipush dX9_readInto_26 (bp16 rfl) (inr rfl) ?_
    refine T_icmp_ge (tgt := 74) dX9_readInto_29 rfl (fun b29 => absurd b29 (by omega)) (fun b29 => ?_)
    refine T_aloadn dX9_readInto_32 rfl rfl ?_
    refine T_getv dX9_readInto_33 fX9_25 (by first | assumption | rfl) (by first | decide | omega) rfl tx2 ?_
    refine T_aloadn dX9_readInto_36 rfl rfl ?_
    refine T_getv dX9_readInto_37 fX9_22 (by first | assumption | rfl) (by first | decide | omega) rfl hn ?_
    refine T_icmp_ge (tgt := 74) dX9_readInto_40 rfl (fun b40 => ?_) (fun b40 => ?_)
    · refine T_aloadn dX9_readInto_74 rfl rfl ?_
      refine T_iconst dX9_readInto_75 (inr rfl) ?_
      refine T_puti dX9_readInto_76 fX9_22 (by first | assumption | rfl) (by first | decide | omega) rfl rfl ?_
      refine TT_rv dX9_readInto_79 trivial ?_
      rw [if_neg (fun q => by have h1 : s.1 < n := q.1; omega)]
      exact ⟨rfl, c, rfl, hR, hD, FRF.refl⟩
    · refine T_aloadn dX9_readInto_43 rfl rfl ?_
      refine T_getv dX9_readInto_44 fX9_15 (by first | assumption | rfl) (by first | decide | omega) rfl tx4 ?_
      refine T_if_ne (tgt := 74) dX9_readInto_47 rfl (fun b47 => ?_) (fun b47 => ?_)
      · refine T_aloadn dX9_readInto_74 rfl rfl ?_
        refine T_iconst dX9_readInto_75 (inr rfl) ?_
        refine T_puti dX9_readInto_76 fX9_22 (by first | assumption | rfl) (by first | decide | omega) rfl rfl ?_
        refine TT_rv dX9_readInto_79 trivial ?_
        rw [if_neg (fun q => b47 q.2)]
        exact ⟨rfl, c, rfl, hR, hD, FRF.refl⟩
      · refine T_aloadn dX9_readInto_50 rfl rfl ?_
        refine T_aloadn dX9_readInto_51 rfl rfl ?_
        refine T_aloadn dX9_readInto_52 rfl rfl ?_
        refine T_getfin dX9_readInto_53 fX9_9 (by first | assumption | rfl) (by first | decide | omega) rfl (by first | assumption | rfl) ?_
        refine T_aloadn dX9_readInto_56 rfl rfl ?_
        refine T_getv dX9_readInto_57 fX9_25 (by first | assumption | rfl) (by first | decide | omega) rfl tx2 ?_
        refine T_caldv (j := s.1) dX9_readInto_60 (by first | assumption | rfl) (by first | decide | omega) (by omega) (by omega) (s_at (by decide)) ?_
        refine TT_V dX9_readInto_61 (c_readClause c D hf hD hR hn hn2 s (by omega) _ rfl) kX9_36 (by decide) (by first | decide | omega) (by first | assumption | rfl) rfl (leb rfl) (fun v_ h_ hq => ?_)
        obtain ⟨rfl, c1, rfl, hR1, hD1, hF1⟩ := hq
        have hn1 : c1 2 1 = (n : Int) := by rw [hF1 2 (by omega)]; exact hn
        have ht1 : c1 3 = t := by rw [hF1 3 (by omega)]; exact ht
        have hsk := s_skip hn1 hn2 (clF (c 3) n D s).2
        rw [ht1] at hsk
        refine T_aloadn dX9_readInto_64 rfl rfl ?_
        refine TT_Vv dX9_readInto_65 (hsk) kX9_33 (by decide) (by first | decide | omega) (by first | assumption | rfl) rfl (leb rfl) ?_
        refine T_iincN dX9_readInto_68 rfl (by decide) rfl (by omega) ?_
        refine T_goto (tgt := 25) dX9_readInto_71 rfl ?_
        rw [if_pos ⟨show s.1 < n by omega, b47⟩]
        rw [ht] at hR1 hD1
        have h := ih (i + 1) c1 _ (skS t n (clF t n D s).2) (by omega) hD1 hR1 hn1 ht1
        rw [ht]
        refine T_keep [0, 1, 2] ?_
        refine T_mono h (fun v s1 c2 hq => ⟨hq.1, hq.2.1, ?_⟩)
        obtain ⟨c3, y1, y2, y3, y4⟩ := hq.2.2
        exact ⟨c3, y1, y2, y3, hF1.tr y4⟩
def parse (t : Nat → Int) (n : Nat) (N : Int) : HC × TS := rdL t n 250 (D0, skS t n (0, N, 0, -1))
set_option maxHeartbeats 4000000 in
set_option maxRecDepth 100000 in
theorem c_readInto {f : Nat} (hf : f = 88 ∨ f = 101) (c : HC) {n : Nat} (hn2 : n ≤ 250) (hn : c 2 1 = (n : Int)) : CC mX9_readInto 4 c [vr 2, vr f] (fun v h => v = none ∧ RIP f c (parse (c 3) n (c 2 3)) h) := by
  obtain ⟨f0, fs, ff0, ff1, hg, hf2⟩ := fK hf
  obtain ⟨g0, gs, gs1, gs2, gs3, gs4, gs5, gs6, gf0, gf1, gf2, gf3, gf4, gf5⟩ := gK hg
  obtain ⟨s0, ss, ss1, ss2, ss3, ss4, sf0, sf1, sf2, sf3⟩ := sK hf2
  refine CC.of (by decide +kernel) (leb rfl) (fun hok => ?_)
  have hc0 := FRF_0 (f := f) (c := c)
  have hn1 : clC c f 2 1 = (n : Int) := by rw [hc0 2 (by omega)]; exact hn
  have ht1 : clC c f 3 = c 3 := hc0 3 (by omega)
  have h0 : up2 c 2 2 0 = tx c 0 (c 2 3) (c 2 4) (c 2 5) := by
    have h := txu2 (c := c) (A := c 2 2) (N := c 2 3) (F := c 2 4) (P := c 2 5) (z := 0)
    rw [tx_self] at h
    exact h
  have hcl := c_clearF (txs c (0, c 2 3, 0, -1)) hf
  rw [clC_s hf] at hcl
  have hsk := s_skip hn1 hn2 (0, c 2 3, 0, -1)
  rw [ht1] at hsk
  refine T_aloadn dX9_readInto_0 rfl rfl ?_
  refine T_iconst dX9_readInto_1 (inr rfl) ?_
  refine T_puti dX9_readInto_2 fX9_25 (by first | assumption | rfl) (by first | decide | omega) rfl rfl ?_
  rw [h0]
  refine T_aloadn dX9_readInto_5 rfl rfl ?_
  refine T_iconst dX9_readInto_6 (inr rfl) ?_
  refine T_puti dX9_readInto_7 fX9_15 (by first | assumption | rfl) (by first | decide | omega) rfl rfl ?_
  rw [txu4]
  refine T_aloadn dX9_readInto_10 rfl rfl ?_
  refine T_iconst dX9_readInto_11 (inr rfl) ?_
  refine T_puti dX9_readInto_12 fX9_19 (by first | assumption | rfl) (by first | decide | omega) rfl rfl ?_
  rw [txu5]
  refine T_aloadn dX9_readInto_15 rfl rfl ?_
  refine TT_Vv dX9_readInto_16 (hcl) kX9_28 (by decide) (by first | decide | omega) (by first | assumption | rfl) rfl (leb rfl) ?_
  refine T_aloadn dX9_readInto_19 rfl rfl ?_
  refine TT_Vv dX9_readInto_20 (hsk) kX9_33 (by decide) (by first | decide | omega) (by first | assumption | rfl) rfl (leb rfl) ?_
  refine T_iconst dX9_readInto_23 (inr rfl) ?_
  refine T_istoren dX9_readInto_24 rfl (by decide) rfl ?_
  have h := l_readInto hf (c 3) hn2 250 0 (clC c f) D0 (skS (c 3) n (0, c 2 3, 0, -1)) (by omega) DV_0 RD_0 hn1 ht1
  refine T_mono h (fun v s1 c2 hq => ⟨hq.1, hq.2.1, ?_⟩)
  obtain ⟨c3, y1, y2, y3, y4⟩ := hq.2.2
  exact ⟨c3, y1, y2, y3, hc0.tr y4⟩
