/-! the tables, and feast -/
def tb0 (c : HC) (g : Nat) : TB := (fun y => if 0 ≤ y ∧ y < 42 then 0 else c (g + 4) y, fun y => if 0 ≤ y ∧ y < 42 then 0 else c (g + 5) y)
theorem tb0_eq {c : HC} {g : Nat} : fillF (fillF c (g + 4) 0 42 0) (g + 5) 0 42 0 = tb c g (tb0 c g) := by
  funext x y
  unfold fillF tb tb0
  by_cases h : x = g + 4
  · subst h
    rw [if_neg (show ¬ (g + 4 = g + 5 ∧ 0 ≤ y ∧ y < 42) by omega), if_pos rfl]
    by_cases h2 : 0 ≤ y ∧ y < 42
    · rw [if_pos ⟨rfl, h2⟩]
      exact (if_pos h2).symm
    · rw [if_neg (fun q => h2 q.2)]
      exact (if_neg h2).symm
  · rw [if_neg h, if_neg (fun q : x = g + 4 ∧ 0 ≤ y ∧ y < 42 => h q.1)]
    by_cases h5 : x = g + 5
    · subst h5
      rw [if_pos rfl]
      by_cases h2 : 0 ≤ y ∧ y < 42
      · rw [if_pos ⟨rfl, h2⟩]
        exact (if_pos h2).symm
      · rw [if_neg (fun q => h2 q.2)]
        exact (if_neg h2).symm
    · rw [if_neg h5, if_neg (fun q => h5 q.1)]
def lbF (W : Nat → Int) (z : Int) : Nat → Int
  | 0 => z
  | b + 1 => if 0 < W (b + 1) then ((b + 1 : Nat) : Int) else lbF W z b
abbrev topG (c : HC) (g : Nat) (s : Nat) : TB → TB := grC c g 4 1 s (s + 1) (c (g + 1) s).toNat
def wdT (c : HC) (g : Nat) : TB := stU (topG c g) (fun _ => 0) (c g 8).toNat (tb0 c g)
def cwC (c : HC) (g : Nat) : HC := rC (tb c g (wdT c g)) (g + 6) (lbF (wdT c g).1 (c (g + 6) 0)) 42
theorem rC_1 {c : HC} {a : Nat} {Q : Nat → Int} (h : Q 0 = c a 0) : rC c a Q 1 = c := by
  funext x y
  unfold rC
  by_cases hx : x = a ∧ y < 1
  · obtain ⟨h1, h2⟩ := hx
    have h3 : y = 0 := by omega
    rw [if_pos ⟨h1, h2⟩, h1, h3, h]
  · rw [if_neg hx]
theorem rC_in {c : HC} {a i y : Nat} {Q : Nat → Int} (h : y < i) : rC c a Q i a y = Q y := by unfold rC; rw [if_pos ⟨rfl, h⟩]
set_option maxHeartbeats 4000000 in
set_option maxRecDepth 100000 in
theorem l_cw2 (H : HC) {g : Nat} (hg : g = 89 ∨ g = 102) (W : Nat → Int) (hW : H (g + 4) = W) (z : Int) : ∀ (k b : Nat), b + k = 42 → 1 ≤ b → TT mX3_countWords 6 49 [(0, vr g), (1, vi (b : Int))] [] (rC H (g + 6) (lbF W z) b) (fun v c1 => v = none ∧ c1 = rC H (g + 6) (lbF W z) 42) := by
  obtain ⟨g0, gs, gs1, gs2, gs3, gs4, gs5, gs6, gf0, gf1, gf2, gf3, gf4, gf5⟩ := gK hg
  intro k
  induction k with
  | zero =>
    intro b hk h1
    have e : b = 42 := by omega
    subst e
    refine T_iloadn dX3_countWords_49 rfl rfl ?_
    refine T_bipush dX3_countWords_50 (bp8 rfl) (inr rfl) ?_
    refine T_icmp_gt (tgt := 88) dX3_countWords_52 rfl (fun b52 => ?_) (fun b52 => absurd b52 (by omega))
    refine TT_rv dX3_countWords_88 trivial ?_
    exact ⟨rfl, rfl⟩
  | succ k ih =>
    intro b hk h1
    have h := ih (b + 1) (by omega) (by omega)
    rw [← rC_up] at h
    obtain ⟨b0, rfl⟩ : ∃ x, b = x + 1 := ⟨b - 1, by omega⟩
    rw [lbF.eq_2] at h
    have r1 : rC H (g + 6) (lbF W z) (b0 + 1) (g + 4) (b0 + 1) = W (b0 + 1) := by rw [rC_row (by omega), hW]
    have r2 : rC H (g + 6) (lbF W z) (b0 + 1) (g + 6) b0 = lbF W z b0 := rC_in (by omega)
    refine T_iloadn dX3_countWords_49 rfl rfl ?_
    refine T_bipush dX3_countWords_50 (bp8 rfl) (inr rfl) ?_
    refine T_icmp_gt (tgt := 88) dX3_countWords_52 rfl (fun b52 => absurd b52 (by omega)) (fun b52 => ?_)
    refine T_aloadn dX3_countWords_55 rfl rfl ?_
    refine T_getfin dX3_countWords_56 fX3_27 (by first | assumption | rfl) (by first | decide | omega) rfl (by first | assumption | rfl) ?_
    refine T_iloadn dX3_countWords_59 rfl rfl ?_
    refine T_aloadn dX3_countWords_60 rfl rfl ?_
    refine T_getfin dX3_countWords_61 fX3_21 (by first | assumption | rfl) (by first | decide | omega) rfl (by first | assumption | rfl) ?_
    refine T_iloadn dX3_countWords_64 rfl rfl ?_
    refine T_ialdv (j := b0 + 1) dX3_countWords_65 (by first | assumption | rfl) (by first | decide | omega) (by omega) (by omega) r1 ?_
    refine T_if_le (tgt := 73) dX3_countWords_66 rfl (fun b66 => ?_) (fun b66 => ?_)
    · refine T_aloadn dX3_countWords_73 rfl rfl ?_
      refine T_getfin dX3_countWords_74 fX3_27 (by first | assumption | rfl) (by first | decide | omega) rfl (by first | assumption | rfl) ?_
      refine T_iloadn dX3_countWords_77 rfl rfl ?_
      refine T_iconst dX3_countWords_78 (inr rfl) ?_
      first | refine T_isubN dX3_countWords_79 (by omega) ?_ | refine T_isub dX3_countWords_79 ?_
      refine T_ialdv (j := b0) dX3_countWords_80 (by first | assumption | rfl) (by first | decide | omega) (by omega) (by omega) r2 ?_
      refine T_iast (j := b0 + 1) dX3_countWords_81 (by first | assumption | rfl) (by first | decide | omega) (by omega) (by omega) ?_
      refine T_iincN dX3_countWords_82 rfl (by decide) rfl (by omega) ?_
      refine T_goto (tgt := 49) dX3_countWords_85 rfl ?_
      refine T_keep [0, 1] ?_
      rw [if_neg (by omega)] at h
      exact h
    · refine T_iloadn dX3_countWords_69 rfl rfl ?_
      refine T_goto (tgt := 81) dX3_countWords_70 rfl ?_
      refine T_iast (j := b0 + 1) dX3_countWords_81 (by first | assumption | rfl) (by first | decide | omega) (by omega) (by omega) ?_
      refine T_iincN dX3_countWords_82 rfl (by decide) rfl (by omega) ?_
      refine T_goto (tgt := 49) dX3_countWords_85 rfl ?_
      refine T_keep [0, 1] ?_
      rw [if_pos (by omega)] at h
      exact h
set_option maxHeartbeats 4000000 in
set_option maxRecDepth 100000 in
theorem l_cw1 (c : HC) {g : Nat} (hg : g = 89 ∨ g = 102) (hgv : GV c g) (ns : Nat) (hns : c g 8 = (ns : Int)) (T : TB) (hT : T = stU (topG c g) (fun _ => 0) ns (tb0 c g)) : ∀ (k s : Nat), s + k = ns → TT mX3_countWords 6 18 [(0, vr g), (1, vi (s : Int))] [] (tb c g (stU (topG c g) (fun _ => 0) s (tb0 c g))) (fun v c1 => v = none ∧ c1 = rC (tb c g T) (g + 6) (lbF T.1 (c (g + 6) 0)) 42) := by
  obtain ⟨g0, gs, gs1, gs2, gs3, gs4, gs5, gs6, gf0, gf1, gf2, gf3, gf4, gf5⟩ := gK hg
  obtain ⟨v1, v2, v3, v4, v5, v6⟩ := id hgv
  intro k
  induction k with
  | zero =>
    intro s hk
    have e : s = ns := by omega
    subst e
    rw [← hT]
    have h := l_cw2 (tb c g T) hg T.1 (by funext y; exact tb4) (c (g + 6) 0) 41 1 (by omega) (by omega)
    rw [rC_1 (show lbF T.1 (c (g + 6) 0) 0 = tb c g T (g + 6) 0 by rw [tb_at (by omega) (by omega)]; rfl)] at h
    refine T_iloadn dX3_countWords_18 rfl rfl ?_
    refine T_aloadn dX3_countWords_19 rfl rfl ?_
    refine T_getv dX3_countWords_20 fX3_37 (by first | assumption | rfl) (by first | decide | omega) rfl ((tb_at (by omega) (by omega)).trans hns) ?_
    refine T_icmp_ge (tgt := 47) dX3_countWords_23 rfl (fun b23 => ?_) (fun b23 => absurd b23 (by omega))
    refine T_iconst dX3_countWords_47 (inr rfl) ?_
    refine T_istoren dX3_countWords_48 rfl (by decide) rfl ?_
    refine T_keep [0, 1] ?_
    exact h
  | succ k ih =>
    intro s hk
    have h := ih (s + 1) (by omega)
    rw [stU.eq_2, if_neg (by decide)] at h
    have hv := v5 s (by omega)
    have hgr := c_grow c hg hgv 4 1 s (s + 1) (c (g + 1) s).toNat (stU (topG c g) (fun _ => 0) s (tb0 c g)) (by omega) (by omega) (by omega) (by omega) (by omega)
    refine T_iloadn dX3_countWords_18 rfl rfl ?_
    refine T_aloadn dX3_countWords_19 rfl rfl ?_
    refine T_getv dX3_countWords_20 fX3_37 (by first | assumption | rfl) (by first | decide | omega) rfl ((tb_at (by omega) (by omega)).trans hns) ?_
    refine T_icmp_ge (tgt := 47) dX3_countWords_23 rfl (fun b23 => absurd b23 (by omega)) (fun b23 => ?_)
    refine T_aloadn dX3_countWords_26 rfl rfl ?_
    refine T_iconst dX3_countWords_27 (inr rfl) ?_
    refine T_iloadn dX3_countWords_28 rfl rfl ?_
    refine T_iloadn dX3_countWords_29 rfl rfl ?_
    refine T_iconst dX3_countWords_30 (inr rfl) ?_
    first | refine T_iaddN dX3_countWords_31 (by omega) ?_ | refine T_iadd dX3_countWords_31 ?_
    refine T_aloadn dX3_countWords_32 rfl rfl ?_
    refine T_getfin dX3_countWords_33 fX3_11 (by first | assumption | rfl) (by first | decide | omega) rfl (by first | assumption | rfl) ?_
    refine T_iloadn dX3_countWords_36 rfl rfl ?_
    refine T_ialdv (j := s) dX3_countWords_37 (by first | assumption | rfl) (by first | decide | omega) (by omega) (by omega) (tb_at (by omega) (by omega)) ?_
    rw [show ((s : Int) + 1) = ((s + 1 : Nat) : Int) by omega, show c (g + 1) s = (((c (g + 1) s).toNat : Nat) : Int) by omega]
    refine TT_Sv dX3_countWords_38 (hgr) kX3_52 (by decide) rfl (leb rfl) ?_
    refine T_iincN dX3_countWords_41 rfl (by decide) rfl (by omega) ?_
    refine T_goto (tgt := 18) dX3_countWords_44 rfl ?_
    refine T_keep [0, 1] ?_
    exact h
set_option maxHeartbeats 4000000 in
set_option maxRecDepth 100000 in
theorem c_countWords (c : HC) {g : Nat} (hg : g = 89 ∨ g = 102) (hgv : GV c g) : VO mX3_countWords 6 c [vr g] (cwC c g) := by
  obtain ⟨g0, gs, gs1, gs2, gs3, gs4, gs5, gs6, gf0, gf1, gf2, gf3, gf4, gf5⟩ := gK hg
  obtain ⟨v1, v2, v3, v4, v5, v6⟩ := id hgv
  refine CC.of (by decide +kernel) (leb rfl) (fun hok => ?_)
  refine T_aloadn dX3_countWords_0 rfl rfl ?_
  refine T_getfin dX3_countWords_1 fX3_21 (by first | assumption | rfl) (by first | decide | omega) rfl (by first | assumption | rfl) ?_
  refine T_iconst dX3_countWords_4 (inr rfl) ?_
  refine TT_Sv dX3_countWords_5 (c_fill (g + 4) 42 0 gs4 (by omega) (by decide) _) kX3_46 (by decide) rfl (leb rfl) ?_
  refine T_aloadn dX3_countWords_8 rfl rfl ?_
  refine T_getfin dX3_countWords_9 fX3_24 (by first | assumption | rfl) (by first | decide | omega) rfl (by first | assumption | rfl) ?_
  refine T_iconst dX3_countWords_12 (inr rfl) ?_
  refine TT_Sv dX3_countWords_13 (c_fill (g + 5) 42 0 gs5 (by omega) (by decide) _) kX3_46 (by decide) rfl (leb rfl) ?_
  rw [tb0_eq]
  refine T_iconst dX3_countWords_16 (inr rfl) ?_
  refine T_istoren dX3_countWords_17 rfl (by decide) rfl ?_
  exact l_cw1 c hg hgv (c g 8).toNat (by omega) (wdT c g) rfl (c g 8).toNat 0 (by omega)
def fsC (c : HC) (s : TS) (f fn : Nat) : HC :=
  let h2 := up2 (up2 (up2 (txs c s) 2 1 0) 1 10 (fn : Int)) 1 11 (f : Int)
  let h3 := cwC h2 (fn + 1)
  let h4 := putR h3 4 (begR (h3 (fn + 8 + 2)) (stR h3 4))
  let h6 := forgF (up2 (up2 h4 1 12 0) 1 13 0)
  up2 (up2 h6 114 2 0) 118 2 0
theorem GV_of {f : Nat} {c D : HC} (hR : RD f c D) (hD : DV D) : GV c (f + 1) := by
  obtain ⟨⟨r0, r1, r2, r3, r4, r5⟩, q1, q2, q3, q4⟩ := hR
  obtain ⟨⟨v0, v1, v2, v3, v4, v5⟩, u1, u2, u4⟩ := hD
  refine ⟨by omega, by omega, by omega, by omega, fun i hi => ?_, fun i hi => ?_⟩
  · rw [q1 i (by omega)]; exact u1 i (by omega)
  · rw [q2 i (by omega)]; exact u2 i (by omega)
theorem SV_of {f : Nat} {c D : HC} (hR : RD f c D) (hD : DV D) : SV c (f + 8) (D 0 4).toNat := by
  obtain ⟨⟨r0, r1, r2, r3, r4, r5⟩, q1, q2, q3, q4⟩ := hR
  obtain ⟨⟨v0, v1, v2, v3, v4, v5⟩, u1, u2, u4⟩ := hD
  refine ⟨by omega, by omega, fun p hp => ?_⟩
  obtain ⟨w1, w2, w3, w4⟩ := q4 p (by omega)
  rw [w1, w2, w3, w4]
  exact u4 p (by omega)
theorem GV_cg {c c2 : HC} {g : Nat} (h : GV c g) (e : ∀ x, g ≤ x → x ≤ g + 3 → c2 x = c x) : GV c2 g := by
  unfold GV at *
  rw [e g (by omega) (by omega), e (g + 1) (by omega) (by omega), e (g + 2) (by omega) (by omega)]
  exact h
theorem cwC_row {c : HC} {g x : Nat} (h : x < g + 4 ∨ g + 6 < x) : cwC c g x = c x := by
  unfold cwC
  rw [rC_row (by omega), tb_row (by omega) (by omega)]
theorem forg_row {c : HC} {x : Nat} (h : x ≠ 7) : forgF c x = c x := by
  unfold forgF
  rw [up2_row _ _ _ _ h, up2_row _ _ _ _ h]
set_option maxHeartbeats 4000000 in
set_option maxRecDepth 100000 in
theorem l_fe2 (h : HC) {f : Nat} (hf : f = 88 ∨ f = 101) (hh : h 1 10 = (f : Int)) : TT mX10_feast 7 93 [(0, vr 1), (2, vi 2)] [] h (fun v c1 => v = some (vi (h (f + 8) 4)) ∧ c1 = h) := by
  obtain ⟨f0, fs, ff0, ff1, hg, hf2⟩ := fK hf
  obtain ⟨g0, gs, gs1, gs2, gs3, gs4, gs5, gs6, gf0, gf1, gf2, gf3, gf4, gf5⟩ := gK hg
  obtain ⟨s0, ss, ss1, ss2, ss3, ss4, sf0, sf1, sf2, sf3⟩ := sK hf2
  refine T_iloadn dX10_feast_93 rfl rfl ?_
  refine T_iconst dX10_feast_94 (inr rfl) ?_
  refine T_icmp_ge (tgt := 114) dX10_feast_95 rfl (fun b95 => ?_) (fun b95 => absurd b95 (by omega))
  refine T_aloadn dX10_feast_114 rfl rfl ?_
  refine T_getr dX10_feast_115 fX10_70 (by first | assumption | rfl) (by first | decide | omega) rfl hh ?_
  refine T_getfin dX10_feast_118 fX10_104 (by first | assumption | rfl) (by first | decide | omega) rfl (by first | assumption | rfl) ?_
  first | refine T_getv dX10_feast_121 fX10_125 (by first | assumption | rfl) (by first | decide | omega) rfl (by assumption) ?_ | refine T_geti dX10_feast_121 fX10_125 (by first | assumption | rfl) (by first | decide | omega) rfl ?_
  refine TT_ri dX10_feast_124 trivial ?_
  exact ro_q rfl
set_option maxHeartbeats 4000000 in
set_option maxRecDepth 100000 in
theorem l_fe1 (h : HC) {f : Nat} (hf : f = 88 ∨ f = 101) (hh : h 1 10 = (f : Int)) : TT mX10_feast 7 93 [(0, vr 1), (2, vi 1)] [] h (fun v c1 => v = some (vi (h (f + 8) 4)) ∧ c1 = up2 h 118 2 0) := by
  obtain ⟨f0, fs, ff0, ff1, hg, hf2⟩ := fK hf
  obtain ⟨g0, gs, gs1, gs2, gs3, gs4, gs5, gs6, gf0, gf1, gf2, gf3, gf4, gf5⟩ := gK hg
  obtain ⟨s0, ss, ss1, ss2, ss3, ss4, sf0, sf1, sf2, sf3⟩ := sK hf2
  have hk := l_fe2 (up2 h 118 2 0) hf (by rw [up2_a _ _ (by decide)]; exact hh)
  rw [up2_a _ _ (show f + 8 ≠ 118 by omega)] at hk
  refine T_iloadn dX10_feast_93 rfl rfl ?_
  refine T_iconst dX10_feast_94 (inr rfl) ?_
  refine T_icmp_ge (tgt := 114) dX10_feast_95 rfl (fun b95 => absurd b95 (by omega)) (fun b95 => ?_)
  refine T_aloadn dX10_feast_98 rfl rfl ?_
  refine T_getfin dX10_feast_99 fX10_32 (by first | assumption | rfl) (by first | decide | omega) rfl (by first | assumption | rfl) ?_
  refine T_iloadn dX10_feast_102 rfl rfl ?_
  refine T_aaldfin (j := 1) dX10_feast_103 (by first | assumption | rfl) (by decide) rfl (by first | decide | omega) (by omega) (by omega) (by first | assumption | rfl) ?_
  refine T_iconst dX10_feast_104 (inr rfl) ?_
  refine T_putz dX10_feast_105 fX10_121 (by first | assumption | rfl) (by first | decide | omega) rfl rfl (by first | exact Or.inl rfl | exact Or.inr rfl | assumption) ?_
  refine T_iincN dX10_feast_108 rfl (by decide) rfl (by omega) ?_
  refine T_goto (tgt := 93) dX10_feast_111 rfl ?_
  refine T_keep [0, 2] ?_
  exact hk
set_option maxHeartbeats 4000000 in
set_option maxRecDepth 100000 in
theorem l_fe0 (h : HC) {f : Nat} (hf : f = 88 ∨ f = 101) (hh : h 1 10 = (f : Int)) : TT mX10_feast 7 93 [(0, vr 1), (2, vi 0)] [] h (fun v c1 => v = some (vi (h (f + 8) 4)) ∧ c1 = up2 (up2 h 114 2 0) 118 2 0) := by
  obtain ⟨f0, fs, ff0, ff1, hg, hf2⟩ := fK hf
  obtain ⟨g0, gs, gs1, gs2, gs3, gs4, gs5, gs6, gf0, gf1, gf2, gf3, gf4, gf5⟩ := gK hg
  obtain ⟨s0, ss, ss1, ss2, ss3, ss4, sf0, sf1, sf2, sf3⟩ := sK hf2
  have hk := l_fe1 (up2 h 114 2 0) hf (by rw [up2_a _ _ (by decide)]; exact hh)
  rw [up2_a _ _ (show f + 8 ≠ 114 by omega)] at hk
  refine T_iloadn dX10_feast_93 rfl rfl ?_
  refine T_iconst dX10_feast_94 (inr rfl) ?_
  refine T_icmp_ge (tgt := 114) dX10_feast_95 rfl (fun b95 => absurd b95 (by omega)) (fun b95 => ?_)
  refine T_aloadn dX10_feast_98 rfl rfl ?_
  refine T_getfin dX10_feast_99 fX10_32 (by first | assumption | rfl) (by first | decide | omega) rfl (by first | assumption | rfl) ?_
  refine T_iloadn dX10_feast_102 rfl rfl ?_
  refine T_aaldfin (j := 0) dX10_feast_103 (by first | assumption | rfl) (by decide) rfl (by first | decide | omega) (by omega) (by omega) (by first | assumption | rfl) ?_
  refine T_iconst dX10_feast_104 (inr rfl) ?_
  refine T_putz dX10_feast_105 fX10_121 (by first | assumption | rfl) (by first | decide | omega) rfl rfl (by first | exact Or.inl rfl | exact Or.inr rfl | assumption) ?_
  refine T_iincN dX10_feast_108 rfl (by decide) rfl (by omega) ?_
  refine T_goto (tgt := 93) dX10_feast_111 rfl ?_
  refine T_keep [0, 2] ?_
  exact hk
set_option maxHeartbeats 4000000 in
set_option maxRecDepth 100000 in
theorem x_feast (c : HC) {f fn n : Nat} (hfo : f = 88 ∨ f = 101) (hf : fn = 88 ∨ fn = 101) (hh : c 1 10 = (f : Int)) (hs : c 1 11 = (fn : Int)) (hn : c 2 1 = (n : Int)) (hn2 : n ≤ 250) : CC mX10_feast 7 c [vr 1] (fun v c1 => ((parse (c 3) n (c 2 3)).2.2.2.1 ≠ 0 ∧ v = some (vi (wr (-10 - (parse (c 3) n (c 2 3)).2.2.2.1))) ∧ ∃ c3, c1 = up2 (txs c3 (parse (c 3) n (c 2 3)).2) 2 1 0 ∧ FRF fn c c3) ∨ ((parse (c 3) n (c 2 3)).2.2.2.1 = 0 ∧ v = some (vi ((parse (c 3) n (c 2 3)).1 0 4)) ∧ ∃ c3, RD fn c3 (parse (c 3) n (c 2 3)).1 ∧ DV (parse (c 3) n (c 2 3)).1 ∧ FRF fn c c3 ∧ c1 = fsC c3 (parse (c 3) n (c 2 3)).2 f fn)) := by
  obtain ⟨f0, fs, ff0, ff1, hg, hf2⟩ := fK hf
  obtain ⟨g0, gs, gs1, gs2, gs3, gs4, gs5, gs6, gf0, gf1, gf2, gf3, gf4, gf5⟩ := gK hg
  obtain ⟨s0, ss, ss1, ss2, ss3, ss4, sf0, sf1, sf2, sf3⟩ := sK hf2
  refine CC.of (by decide +kernel) (leb rfl) (fun hok => ?_)
  have hri := c_readInto hf c hn2 hn
  generalize parse (c 3) n (c 2 3) = r at *
  refine T_aloadn dX10_feast_0 rfl rfl ?_
  refine T_getfin dX10_feast_1 fX10_10 (by first | assumption | rfl) (by first | decide | omega) rfl (by first | assumption | rfl) ?_
  refine T_aloadn dX10_feast_4 rfl rfl ?_
  refine T_getr dX10_feast_5 fX10_74 (by first | assumption | rfl) (by first | decide | omega) rfl hs ?_
  refine TT_V dX10_feast_8 (hri) kX10_88 (by decide) (by first | decide | omega) (by first | assumption | rfl) rfl (leb rfl) (fun v_ h_ hq => ?_)
  obtain ⟨rfl, c3, rfl, hR, hD, hF⟩ := hq
  have hh3 : up2 (txs c3 r.2) 2 1 0 1 10 = (f : Int) := by rw [up2_a _ _ (by decide), s_at (by decide), hF 1 (by omega)]; exact hh
  have hs3 : up2 (txs c3 r.2) 2 1 0 1 11 = (fn : Int) := by rw [up2_a _ _ (by decide), s_at (by decide), hF 1 (by omega)]; exact hs
  refine T_aloadn dX10_feast_11 rfl rfl ?_
  refine T_getfin dX10_feast_12 fX10_10 (by first | assumption | rfl) (by first | decide | omega) rfl (by first | assumption | rfl) ?_
  refine T_getv dX10_feast_15 fX10_92 (by first | assumption | rfl) (by first | decide | omega) rfl (show up2 (txs c3 r.2) 2 1 0 2 4 = r.2.2.2.1 from rfl) ?_
  refine T_if_eq (tgt := 32) dX10_feast_18 rfl (fun b18 => ?_) (fun b18 => ?_)
  · refine T_aloadn dX10_feast_32 rfl rfl ?_
    refine T_getr dX10_feast_33 fX10_70 (by first | assumption | rfl) (by first | decide | omega) rfl hh3 ?_
    refine T_astoren dX10_feast_36 rfl (by decide) rfl ?_
    refine T_aloadn dX10_feast_37 rfl rfl ?_
    refine T_aloadn dX10_feast_38 rfl rfl ?_
    refine T_getr dX10_feast_39 fX10_74 (by first | assumption | rfl) (by first | decide | omega) rfl hs3 ?_
    refine T_putr dX10_feast_42 fX10_70 (by first | assumption | rfl) (by first | decide | omega) rfl rfl (by first | decide | omega) ?_
    refine T_aloadn dX10_feast_45 rfl rfl ?_
    refine T_aloadn dX10_feast_46 rfl rfl ?_
    refine T_putr dX10_feast_47 fX10_74 (by first | assumption | rfl) (by first | decide | omega) rfl rfl (by first | decide | omega) ?_
    obtain ⟨h2, e2⟩ : ∃ x, x = up2 (up2 (up2 (txs c3 r.2) 2 1 0) 1 10 (fn : Int)) 1 11 (f : Int) := ⟨_, rfl⟩
    rw [← e2]
    have hrow : ∀ x, x ≠ 1 → x ≠ 2 → h2 x = c3 x := fun x h1 h3 => by rw [e2, up2_row _ _ _ _ h1, up2_row _ _ _ _ h1, up2_row _ _ _ _ h3, s_row h3]
    have hhB : h2 1 10 = (fn : Int) := by rw [e2, up2_k _ _ (by decide), up2_s]
    have hgv2 : GV h2 (fn + 1) := GV_cg (GV_of hR hD) (fun x h1 h3 => hrow x (by omega) (by omega))
    have hcw := c_countWords h2 hg hgv2
    obtain ⟨h3, e3⟩ : ∃ x, x = cwC h2 (fn + 1) := ⟨_, rfl⟩
    rw [← e3] at hcw
    have hrow3 : ∀ x, x < fn + 5 ∨ fn + 7 < x → h3 x = h2 x := fun x hx => by rw [e3]; exact cwC_row (by omega)
    have hhC : h3 1 10 = (fn : Int) := by rw [hrow3 1 (by omega)]; exact hhB
    have hbe := c_begin h3 hf2 (s := 4) (Or.inl rfl) (by omega) (stR h3 4)
    rw [putR_self] at hbe
    obtain ⟨h4, e4⟩ : ∃ x, x = putR h3 4 (begR (h3 (fn + 8 + 2)) (stR h3 4)) := ⟨_, rfl⟩
    rw [← e4] at hbe
    have hrow4 : ∀ x, x < 4 ∨ 6 < x → h4 x = h3 x := fun x hx => by rw [e4]; exact pro_row (by omega)
    refine T_aloadn dX10_feast_50 rfl rfl ?_
    refine T_getr dX10_feast_51 fX10_70 (by first | assumption | rfl) (by first | decide | omega) rfl hhB ?_
    refine T_getfin dX10_feast_54 fX10_95 (by first | assumption | rfl) (by first | decide | omega) rfl (by first | assumption | rfl) ?_
    refine TT_Vv dX10_feast_57 (hcw) kX10_99 (by decide) (by first | decide | omega) (by first | assumption | rfl) rfl (leb rfl) ?_
    refine T_aloadn dX10_feast_60 rfl rfl ?_
    refine T_getfin dX10_feast_61 fX10_19 (by first | assumption | rfl) (by first | decide | omega) rfl (by first | assumption | rfl) ?_
    refine T_aloadn dX10_feast_64 rfl rfl ?_
    refine T_getr dX10_feast_65 fX10_70 (by first | assumption | rfl) (by first | decide | omega) rfl hhC ?_
    refine T_getfin dX10_feast_68 fX10_104 (by first | assumption | rfl) (by first | decide | omega) rfl (by first | assumption | rfl) ?_
    refine TT_Vv dX10_feast_71 (hbe) kX10_108 (by decide) (by first | decide | omega) (by first | assumption | rfl) rfl (leb rfl) ?_
    refine T_aloadn dX10_feast_74 rfl rfl ?_
    refine T_iconst dX10_feast_75 (inr rfl) ?_
    refine T_puti dX10_feast_76 fX10_112 (by first | assumption | rfl) (by first | decide | omega) rfl rfl ?_
    refine T_aloadn dX10_feast_79 rfl rfl ?_
    refine T_iconst dX10_feast_80 (inr rfl) ?_
    refine T_puti dX10_feast_81 fX10_115 (by first | assumption | rfl) (by first | decide | omega) rfl rfl ?_
    refine T_aloadn dX10_feast_84 rfl rfl ?_
    refine T_getfin dX10_feast_85 fX10_26 (by first | assumption | rfl) (by first | decide | omega) rfl (by first | assumption | rfl) ?_
    refine TT_Vv dX10_feast_88 (c_forget _) kX10_118 (by decide) (by first | decide | omega) (by first | assumption | rfl) rfl (leb rfl) ?_
    refine T_iconst dX10_feast_91 (inr rfl) ?_
    refine T_istoren dX10_feast_92 rfl (by decide) rfl ?_
    have h := l_fe0 (forgF (up2 (up2 h4 1 12 0) 1 13 0)) hf (by rw [forg_row (by decide), up2_k _ _ (by decide), up2_k _ _ (by decide), hrow4 1 (by omega)]; exact hhC)
    refine T_keep [0, 2] ?_
    refine T_mono h (fun v s1 c2 hq => ⟨hq.1, Or.inr ⟨b18, ?_, c3, hR, hD, hF, ?_⟩⟩)
    · rw [hq.2.1, forg_row (by omega), up2_a _ _ (by omega), up2_a _ _ (by omega), hrow4 _ (by omega), hrow3 _ (by omega), hrow _ (by omega) (by omega), hR.1.2.2.2.2.1]
    · rw [hq.2.2]
      subst e4 e3 e2
      rfl
  · refine T_bipush dX10_feast_21 (bp8 rfl) (inr rfl) ?_
    refine T_aloadn dX10_feast_23 rfl rfl ?_
    refine T_getfin dX10_feast_24 fX10_10 (by first | assumption | rfl) (by first | decide | omega) rfl (by first | assumption | rfl) ?_
    refine T_getv dX10_feast_27 fX10_92 (by first | assumption | rfl) (by first | decide | omega) rfl (show up2 (txs c3 r.2) 2 1 0 2 4 = r.2.2.2.1 from rfl) ?_
    refine T_isub dX10_feast_30 ?_
    refine TT_ri dX10_feast_31 trivial ?_
    exact Or.inl ⟨b18, rfl, c3, rfl, hF⟩
