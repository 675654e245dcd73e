/-! a round played; what can be undone -/
theorem pro_row {c : HC} {s : Nat} {R : Nat → Int} {x : Nat} (h : x < s ∨ s + 2 < x) : putR c s R x = c x := funext fun y => pro h
theorem GV_put {c : HC} {s g : Nat} {R : Nat → Int} (h : s + 2 < g) (hv : GV c g) : GV (putR c s R) g := by
  unfold GV at *
  rw [pro_row (x := g) (by omega), pro_row (x := g + 1) (by omega), pro_row (x := g + 2) (by omega)]
  exact hv
theorem SV_put {c : HC} {s f n : Nat} {R : Nat → Int} (h : s + 2 < f) (hv : SV c f n) : SV (putR c s R) f n := by
  unfold SV at *
  rw [pro_row (x := f) (by omega), pro_row (x := f + 1) (by omega), pro_row (x := f + 2) (by omega), pro_row (x := f + 3) (by omega), pro_row (x := f + 4) (by omega)]
  exact hv
theorem lenL_bd {ns : Int} {sy br : Nat → Int} (h : ∀ i : Nat, (i : Int) < ns → 1 ≤ sy i ∧ sy i ≤ 9) : ∀ (n : Nat) (rest bh syl : Int), 0 ≤ syl → -1 ≤ lenL ns sy br n rest bh syl ∧ lenL ns sy br n rest bh syl ≤ syl + 9 * n
  | 0, rest, bh, syl, h0 => by
    unfold lenL
    split <;> omega
  | n + 1, rest, bh, syl, h0 => by
    unfold lenL
    split
    · split <;> omega
    · split
      · omega
      · rename_i h1 h2
        have h3 := h (rest % 10 - 1).toNat (by omega)
        have h4 := lenL_bd (br := br) h n (rest / 10) (rest % 10 - 1) (syl + sy (rest % 10 - 1).toNat) (by omega)
        omega
theorem lenF_bd {ms ns ne : Int} {sy ey br : Nat → Int} (hms : ms ≤ 4) (h : ∀ i : Nat, (i : Int) < ns → 1 ≤ sy i ∧ sy i ≤ 9) (h2 : ∀ i : Nat, (i : Int) < ne → 1 ≤ ey i ∧ ey i ≤ 5) (w : Int) : -1 ≤ lenF ms ns ne sy ey br w ∧ lenF ms ns ne sy ey br w ≤ 41 := by
  unfold lenF
  split
  · omega
  · rename_i hw
    split
    · omega
    · split
      · have h4 := lenL_bd (br := br) h ms.toNat (w / 10) (-1) 0 (by omega)
        omega
      · have h3 := h2 (w % 10 - 1).toNat (by omega)
        have h4 := lenL_bd (br := br) h ms.toNat (w / 10) (-1) (ey (w % 10 - 1).toNat) (by omega)
        omega
theorem sylF_bd {ms ns ne : Int} {sy ey br : Nat → Int} (hms : ms ≤ 4) (h : ∀ i : Nat, (i : Int) < ns → 1 ≤ sy i ∧ sy i ≤ 9) (h2 : ∀ i : Nat, (i : Int) < ne → 1 ≤ ey i ∧ ey i ≤ 5) (w : Int) : -1 ≤ sylF ms ns ne sy ey br w ∧ sylF ms ns ne sy ey br w ≤ 41 := by
  unfold sylF
  split
  · omega
  · exact lenF_bd hms h h2 w
/-- a word's syllables by the grammar at g -/
abbrev sylG (c : HC) (g : Nat) (w : Int) : Int := sylF (c g 6) (c g 8) (c g 9) (c (g + 1)) (c (g + 2)) (c (g + 3)) w
abbrev lenG (c : HC) (g : Nat) (w : Int) : Int := lenF (c g 6) (c g 8) (c g 9) (c (g + 1)) (c (g + 2)) (c (g + 3)) w
theorem sylG_put {c : HC} {s g : Nat} {R : Nat → Int} {w : Int} (h : s + 2 < g) : sylG (putR c s R) g w = sylG c g w := by
  unfold sylG
  rw [pro_row (x := g) (by omega), pro_row (x := g + 1) (by omega), pro_row (x := g + 2) (by omega), pro_row (x := g + 3) (by omega)]
theorem lenG_put {c : HC} {s g : Nat} {R : Nat → Int} {w : Int} (h : s + 2 < g) : lenG (putR c s R) g w = lenG c g w := by
  unfold lenG
  rw [pro_row (x := g) (by omega), pro_row (x := g + 1) (by omega), pro_row (x := g + 2) (by omega), pro_row (x := g + 3) (by omega)]
theorem sylG_bd {c : HC} {g : Nat} (h : GV c g) (w : Int) : -1 ≤ sylG c g w ∧ sylG c g w ≤ 41 := sylF_bd h.1.2 h.2.2.2.2.1 h.2.2.2.2.2 w
theorem lenG_bd {c : HC} {g : Nat} (h : GV c g) (w : Int) : -1 ≤ lenG c g w ∧ lenG c g w ≤ 41 := lenF_bd h.1.2 h.2.2.2.2.1 h.2.2.2.2.2 w
theorem pullF_sm {m a w : Int} (hm : 0 ≤ m ∧ m ≤ 9) (ha : a ≤ 50) (hw : 0 ≤ w ∧ w ≤ 99) : 0 ≤ pullF m a w ∧ pullF m a w ≤ 95 := by
  unfold pullF
  split
  · rename_i h
    rw [Int.tdiv_eq_ediv_of_nonneg hw.1, wr_id (z := 10 + w / 10) (by omega) (by omega)]
    have hm2 := mul_bd (a := a) (b := 10 + w / 10) (m := 50) (n := 19) (by omega) ha (by omega) (by omega)
    rw [wr_id (z := a * (10 + w / 10)) (by omega) (by omega), Int.tdiv_eq_ediv_of_nonneg hm2.1, wr_id (by omega) (by omega)]
    unfold imax
    split <;> omega
  · omega
theorem wayF_sm {mud : Int} {wt : Nat → Int} {p a q b : Int} (hm : 0 ≤ mud ∧ mud ≤ 9) (ha : -1 ≤ a ∧ a ≤ 41) (hb : -1 ≤ b ∧ b ≤ 41) (hp : 0 ≤ wt p.toNat ∧ wt p.toNat ≤ 99) (hq : 0 ≤ wt q.toNat ∧ wt q.toNat ≤ 99) : -95 ≤ wayF mud wt p a q b ∧ wayF mud wt p a q b ≤ 95 := by
  have h1 := pullF_sm (a := b - a) hm (by omega) hq
  have h2 := pullF_sm (a := a - b) hm (by omega) hp
  unfold wayF
  split <;> omega
def ropeR (r way : Int) : Int := imax (-500) (imin 500 (r + way))
theorem ropeR_bd (r way : Int) : -500 ≤ ropeR r way ∧ ropeR r way ≤ 500 := by
  unfold ropeR imax imin
  split <;> split at * <;> omega
/-- a round on a row: way the rope goes, a and b syllables -/
def playR (bt : Nat → Int) (n : Nat) (way a b p v q w : Int) (R : Nat → Int) : Nat → Int :=
  let R3 := up1 (up1 (up1 R 0 (ropeR (R 0) way)) (2 + p.toNat) (R (2 + p.toNat) - a)) (2 + q.toNat) (R (2 + q.toNat) - b)
  let R4 := restR bt (if v = -1 then -1 else p) (if w = -1 then -1 else q) R3 n
  up1 (sayR (sayR R4 v) w) 1 (R 1 + 1)
theorem up1_s {R : Nat → Int} {k : Nat} {v : Int} : up1 R k v k = v := by simp [up1]
theorem up1_n {R : Nat → Int} {k j : Nat} {v : Int} (h : j ≠ k) : up1 R k v j = R j := by simp [up1, h]
theorem restR_lo {bt : Nat → Int} {p q : Int} {R : Nat → Int} {n k : Nat} (h : k < 2 ∨ 2 + n ≤ k) : restR bt p q R n k = R k := by
  unfold restR
  rw [if_neg (by omega)]
theorem sayR_lo {R : Nat → Int} {w : Int} {k : Nat} (h : k < 12) : sayR R w k = R k := by
  unfold sayR
  split
  · rfl
  · split
    · rw [up1_n (by omega), up1_n (by omega)]
    · unfold shR
      rw [up1_n (by omega), up1_n (by omega), up1_n (by omega), if_neg (by omega)]
theorem sayR_12 {R : Nat → Int} {w : Int} (h0 : 0 ≤ R 12) (h : R 12 ≤ 40) : 0 ≤ sayR R w 12 ∧ sayR R w 12 ≤ 40 := by
  unfold sayR
  split
  · exact ⟨h0, h⟩
  · split
    · rw [up1_s]; omega
    · rw [up1_s]; omega
/-- a standing as it may be -/
def RV (bt : Nat → Int) (n : Nat) (R : Nat → Int) : Prop := (-500 ≤ R 0 ∧ R 0 ≤ 500) ∧ (0 ≤ R 1 ∧ R 1 ≤ 100000) ∧ (0 ≤ R 12 ∧ R 12 ≤ 40) ∧ ∀ j, j < n → 0 ≤ R (2 + j) ∧ R (2 + j) ≤ bt j
set_option maxHeartbeats 4000000 in
set_option maxRecDepth 100000 in
theorem c_play (c : HC) {f n : Nat} (hf : f = 88 ∨ f = 101) (hgv : GV c (f + 1)) (hsv : SV c (f + 8) n) (R : Nat → Int) (hR : RV (c (f + 8 + 2)) n R) (p v q w : Int) (hp : 0 ≤ p ∧ p < n) (hq : 0 ≤ q ∧ q < n) (hpq : p ≠ q) (hr : R 1 ≤ 99999) :
    RW mX8_play 3 (putR c 4 R) [vr 4, vr f, vi p, vi v, vi q, vi w] (ropeR (R 0) (wayF (c (f + 1) 7) (c (f + 8 + 3)) p (sylG c (f + 1) v) q (sylG c (f + 1) w)) - R 0) (putR c 4 (playR (c (f + 8 + 2)) n (wayF (c (f + 1) 7) (c (f + 8 + 3)) p (sylG c (f + 1) v) q (sylG c (f + 1) w)) (sylG c (f + 1) v) (sylG c (f + 1) w) p v q w R)) := by
  obtain ⟨f0, fs, ff0, ff1, hg, hf2⟩ := fK hf
  obtain ⟨g0, gs, gs1, gs2, gs3, gs4, gs5, gs6, gf0, gf1, gf2, gf3, gf4, gf5⟩ := gK hg
  obtain ⟨s0, ss, ss1, ss2, ss3, ss4, sf0, sf1, sf2, sf3⟩ := sK hf2
  have hs : stA 4 := Or.inl rfl
  have hv2 : ∀ R, GV (putR c 4 R) (f + 1) := fun R => GV_put (by omega) hgv
  have hba := sylG_bd hgv v
  have hbb := sylG_bd hgv w
  have hcv := c_syllablesOf (putR c 4 R) hg (hv2 R) v
  have hcw := c_syllablesOf (putR c 4 R) hg (hv2 R) w
  rw [show sylF _ _ _ _ _ _ v = sylG c (f + 1) v from sylG_put (by omega)] at hcv
  rw [show sylF _ _ _ _ _ _ w = sylG c (f + 1) w from sylG_put (by omega)] at hcw
  generalize sylG c (f + 1) v = a at *
  generalize sylG c (f + 1) w = b at *
  have hway := c_wayOf (putR c 4 R) hf p a q b (by have := hsv.2.1; omega) (by have := hsv.2.1; omega) (by omega) (by omega)
  rw [pro_row (x := f + 1) (by omega), pro_row (x := f + 8 + 3) (by omega)] at hway
  obtain ⟨r0, r1, r12, rb⟩ := hR
  have hsv' := hsv
  obtain ⟨hn, hn10, hsp⟩ := hsv'
  have hwb := wayF_sm (mud := c (f + 1) 7) (wt := c (f + 8 + 3)) (p := p) (q := q) hgv.2.1 hba hbb (hsp p.toNat (by omega)).2.2.1 (hsp q.toNat (by omega)).2.2.1
  generalize hW : wayF (c (f + 1) 7) (c (f + 8 + 3)) p a q b = way at *
  have hrb := ropeR_bd (R 0) way
  have e69 : ∀ X, up1 R 0 X (2 + p.toNat) = R (2 + p.toNat) := fun X => up1_n (by omega)
  have e81 : ∀ X Y, up1 (up1 R 0 X) (2 + p.toNat) Y (2 + q.toNat) = R (2 + q.toNat) := fun X Y => by rw [up1_n (by omega), up1_n (by omega)]
  have hbp := rb p.toNat (by omega)
  have hbq := rb q.toNat (by omega)
  have hbtp := (hsp p.toNat (by omega)).2.1
  have hbtq := (hsp q.toNat (by omega)).2.1
  unfold playR
  have hR3 : ∀ j, j < n → -1000 ≤ up1 (up1 (up1 R 0 (ropeR (R 0) way)) (2 + p.toNat) (R (2 + p.toNat) - a)) (2 + q.toNat) (R (2 + q.toNat) - b) (2 + j) ∧ up1 (up1 (up1 R 0 (ropeR (R 0) way)) (2 + p.toNat) (R (2 + p.toNat) - a)) (2 + q.toNat) (R (2 + q.toNat) - b) (2 + j) ≤ 1000 := by
    intro j hj
    have h1 := rb j hj
    have h2 := (hsp j hj).2.1
    by_cases e1 : j = q.toNat
    · subst e1; rw [up1_s]; omega
    · rw [up1_n (by omega)]
      by_cases e2 : j = p.toNat
      · subst e2; rw [up1_s]; omega
      · rw [up1_n (by omega), up1_n (by omega)]; omega
  have e12 : up1 (up1 (up1 R 0 (ropeR (R 0) way)) (2 + p.toNat) (R (2 + p.toNat) - a)) (2 + q.toNat) (R (2 + q.toNat) - b) 12 = R 12 := by rw [up1_n (by omega), up1_n (by omega), up1_n (by omega)]
  have e1 : up1 (up1 (up1 R 0 (ropeR (R 0) way)) (2 + p.toNat) (R (2 + p.toNat) - a)) (2 + q.toNat) (R (2 + q.toNat) - b) 1 = R 1 := by rw [up1_n (by omega), up1_n (by omega), up1_n (by omega)]
  have e0 : up1 (up1 (up1 R 0 (ropeR (R 0) way)) (2 + p.toNat) (R (2 + p.toNat) - a)) (2 + q.toNat) (R (2 + q.toNat) - b) 0 = ropeR (R 0) way := by rw [up1_n (by omega), up1_n (by omega), up1_s]
  refine CC.of (by decide +kernel) (leb rfl) (fun hok => ?_)
  dsimp only
  refine T_aloadn dX8_play_0 rfl rfl ?_
  refine T_getfin dX8_play_1 fX8_37 (by first | assumption | rfl) (by first | decide | omega) rfl (by first | assumption | rfl) ?_
  refine T_iloadn dX8_play_4 rfl rfl ?_
  refine TT_Vi dX8_play_5 (hcv) kX8_43 (by decide) (by first | decide | omega) (by first | assumption | rfl) rfl (leb rfl) ?_
  refine T_istore dX8_play_8 (by decide) rfl ?_
  refine T_aloadn dX8_play_10 rfl rfl ?_
  refine T_getfin dX8_play_11 fX8_37 (by first | assumption | rfl) (by first | decide | omega) rfl (by first | assumption | rfl) ?_
  refine T_iload dX8_play_14 rfl ?_
  refine TT_Vi dX8_play_16 (hcw) kX8_43 (by decide) (by first | decide | omega) (by first | assumption | rfl) rfl (leb rfl) ?_
  refine T_istore dX8_play_19 (by decide) rfl ?_
  refine T_aloadn dX8_play_21 rfl rfl ?_
  refine T_getv dX8_play_22 fX8_31 (by first | assumption | rfl) (by first | decide | omega) rfl pr3 ?_
  refine T_istore dX8_play_25 (by decide) rfl ?_
  refine T_aloadn dX8_play_27 rfl rfl ?_
  refine T_getv dX8_play_28 fX8_31 (by first | assumption | rfl) (by first | decide | omega) rfl pr3 ?_
  refine T_aloadn dX8_play_31 rfl rfl ?_
  refine T_iloadn dX8_play_32 rfl rfl ?_
  refine T_iload dX8_play_33 rfl ?_
  refine T_iload dX8_play_35 rfl ?_
  refine T_iload dX8_play_37 rfl ?_
  refine TT_Vi dX8_play_39 (hway) kX8_49 (by decide) (by first | decide | omega) (by first | assumption | rfl) rfl (leb rfl) ?_
  first | refine T_iaddN dX8_play_42 (by omega) ?_ | refine T_iadd dX8_play_42 ?_
  refine T_istore dX8_play_43 (by decide) rfl ?_
  refine T_aloadn dX8_play_45 rfl rfl ?_
  refine T_sipush dX8_play_46 (bp16 rfl) (inr rfl) ?_
  refine T_sipush dX8_play_49 (bp16 rfl) (inr rfl) ?_
  refine T_iload dX8_play_52 rfl ?_
  refine T_mmin dX8_play_54 kX8_53M (by decide) (leb rfl) ?_
  refine T_mmax dX8_play_57 kX8_59M (by decide) (leb rfl) ?_
  refine T_puti dX8_play_60 fX8_31 (by first | assumption | rfl) (by first | decide | omega) rfl rfl ?_
  refine T_c pu3 ?_
  refine T_aloadn dX8_play_63 rfl rfl ?_
  refine T_getfin dX8_play_64 fX8_9 (by first | assumption | rfl) (by first | decide | omega) rfl (by first | assumption | rfl) ?_
  refine T_iloadn dX8_play_67 rfl rfl ?_
  refine T_dup2 dX8_play_68 rfl rfl ?_
  refine T_ialdv (j := p.toNat) dX8_play_69 (by first | assumption | rfl) (by first | decide | omega) (by omega) (by omega) ((prb (by omega)).trans (e69 _)) ?_
  refine T_iload dX8_play_70 rfl ?_
  first | refine T_isubN dX8_play_72 (by omega) ?_ | refine T_isub dX8_play_72 ?_
  refine T_iast (j := p.toNat) dX8_play_73 (by first | assumption | rfl) (by first | decide | omega) (by omega) (by omega) ?_
  refine T_c (pub (by omega)) ?_
  refine T_aloadn dX8_play_74 rfl rfl ?_
  refine T_getfin dX8_play_75 fX8_9 (by first | assumption | rfl) (by first | decide | omega) rfl (by first | assumption | rfl) ?_
  refine T_iload dX8_play_78 rfl ?_
  refine T_dup2 dX8_play_80 rfl rfl ?_
  refine T_ialdv (j := q.toNat) dX8_play_81 (by first | assumption | rfl) (by first | decide | omega) (by omega) (by omega) ((prb (by omega)).trans (e81 _ _)) ?_
  refine T_iload dX8_play_82 rfl ?_
  first | refine T_isubN dX8_play_84 (by omega) ?_ | refine T_isub dX8_play_84 ?_
  refine T_iast (j := q.toNat) dX8_play_85 (by first | assumption | rfl) (by first | decide | omega) (by omega) (by omega) ?_
  refine T_c (pub (by omega)) ?_
  refine T_aloadn dX8_play_86 rfl rfl ?_
  refine T_aloadn dX8_play_87 rfl rfl ?_
  refine T_getfin dX8_play_88 fX8_62 (by first | assumption | rfl) (by first | decide | omega) rfl (by first | assumption | rfl) ?_
  refine T_iloadn dX8_play_91 rfl rfl ?_
  refine T_iconst dX8_play_92 (inr rfl) ?_
  refine T_icmp_ne (tgt := 100) dX8_play_93 rfl (fun b93 => ?_) (fun b93 => ?_)
  · refine T_iloadn dX8_play_100 rfl rfl ?_
    refine T_iload dX8_play_101 rfl ?_
    refine T_iconst dX8_play_103 (inr rfl) ?_
    refine T_icmp_ne (tgt := 111) dX8_play_104 rfl (fun b104 => ?_) (fun b104 => ?_)
    · refine T_iload dX8_play_111 rfl ?_
      refine TT_Vv dX8_play_113 (c_restAllBut c hf2 hs (by omega) hn hn10 _ hR3 _ _) kX8_66 (by decide) (by first | decide | omega) (by first | assumption | rfl) rfl (leb rfl) ?_
      refine T_aloadn dX8_play_116 rfl rfl ?_
      refine T_iloadn dX8_play_117 rfl rfl ?_
      refine TT_Vv dX8_play_118 (c_remember c hs _ v (by rw [restR_lo (by omega), e12]; omega) (by rw [restR_lo (by omega), e12]; omega)) kX8_70 (by decide) (by first | decide | omega) (by first | assumption | rfl) rfl (leb rfl) ?_
      refine T_aloadn dX8_play_121 rfl rfl ?_
      refine T_iload dX8_play_122 rfl ?_
      refine TT_Vv dX8_play_124 (c_remember c hs _ w (sayR_12 (by rw [restR_lo (by omega), e12]; omega) (by rw [restR_lo (by omega), e12]; omega)).1 (sayR_12 (by rw [restR_lo (by omega), e12]; omega) (by rw [restR_lo (by omega), e12]; omega)).2) kX8_70 (by decide) (by first | decide | omega) (by first | assumption | rfl) rfl (leb rfl) ?_
      refine T_aloadn dX8_play_127 rfl rfl ?_
      refine T_dup dX8_play_128 rfl ?_
      refine T_getv dX8_play_129 fX8_34 (by first | assumption | rfl) (by first | decide | omega) rfl (pr4.trans ((sayR_lo (by omega)).trans ((sayR_lo (by omega)).trans ((restR_lo (by omega)).trans e1)))) ?_
      refine T_iconst dX8_play_132 (inr rfl) ?_
      first | refine T_iaddN dX8_play_133 (by omega) ?_ | refine T_iadd dX8_play_133 ?_
      refine T_puti dX8_play_134 fX8_34 (by first | assumption | rfl) (by first | decide | omega) rfl rfl ?_
      refine T_c pu4 ?_
      refine T_aloadn dX8_play_137 rfl rfl ?_
      refine T_getv dX8_play_138 fX8_31 (by first | assumption | rfl) (by first | decide | omega) rfl (pr3.trans ((up1_n (by omega)).trans ((sayR_lo (by omega)).trans ((sayR_lo (by omega)).trans ((restR_lo (by omega)).trans e0))))) ?_
      refine T_iload dX8_play_141 rfl ?_
      first | refine T_isubN dX8_play_143 (by omega) ?_ | refine T_isub dX8_play_143 ?_
      refine TT_ri dX8_play_144 trivial ?_
      exact ⟨rfl, by simp only [b93, b104, if_true, if_false]; try rfl⟩
    · refine T_iconst dX8_play_107 (inr rfl) ?_
      refine T_goto (tgt := 113) dX8_play_108 rfl ?_
      refine TT_Vv dX8_play_113 (c_restAllBut c hf2 hs (by omega) hn hn10 _ hR3 _ _) kX8_66 (by decide) (by first | decide | omega) (by first | assumption | rfl) rfl (leb rfl) ?_
      refine T_aloadn dX8_play_116 rfl rfl ?_
      refine T_iloadn dX8_play_117 rfl rfl ?_
      refine TT_Vv dX8_play_118 (c_remember c hs _ v (by rw [restR_lo (by omega), e12]; omega) (by rw [restR_lo (by omega), e12]; omega)) kX8_70 (by decide) (by first | decide | omega) (by first | assumption | rfl) rfl (leb rfl) ?_
      refine T_aloadn dX8_play_121 rfl rfl ?_
      refine T_iload dX8_play_122 rfl ?_
      refine TT_Vv dX8_play_124 (c_remember c hs _ w (sayR_12 (by rw [restR_lo (by omega), e12]; omega) (by rw [restR_lo (by omega), e12]; omega)).1 (sayR_12 (by rw [restR_lo (by omega), e12]; omega) (by rw [restR_lo (by omega), e12]; omega)).2) kX8_70 (by decide) (by first | decide | omega) (by first | assumption | rfl) rfl (leb rfl) ?_
      refine T_aloadn dX8_play_127 rfl rfl ?_
      refine T_dup dX8_play_128 rfl ?_
      refine T_getv dX8_play_129 fX8_34 (by first | assumption | rfl) (by first | decide | omega) rfl (pr4.trans ((sayR_lo (by omega)).trans ((sayR_lo (by omega)).trans ((restR_lo (by omega)).trans e1)))) ?_
      refine T_iconst dX8_play_132 (inr rfl) ?_
      first | refine T_iaddN dX8_play_133 (by omega) ?_ | refine T_iadd dX8_play_133 ?_
      refine T_puti dX8_play_134 fX8_34 (by first | assumption | rfl) (by first | decide | omega) rfl rfl ?_
      refine T_c pu4 ?_
      refine T_aloadn dX8_play_137 rfl rfl ?_
      refine T_getv dX8_play_138 fX8_31 (by first | assumption | rfl) (by first | decide | omega) rfl (pr3.trans ((up1_n (by omega)).trans ((sayR_lo (by omega)).trans ((sayR_lo (by omega)).trans ((restR_lo (by omega)).trans e0))))) ?_
      refine T_iload dX8_play_141 rfl ?_
      first | refine T_isubN dX8_play_143 (by omega) ?_ | refine T_isub dX8_play_143 ?_
      refine TT_ri dX8_play_144 trivial ?_
      exact ⟨rfl, by simp only [b93, b104, if_true, if_false]; try rfl⟩
  · refine T_iconst dX8_play_96 (inr rfl) ?_
    refine T_goto (tgt := 101) dX8_play_97 rfl ?_
    refine T_iload dX8_play_101 rfl ?_
    refine T_iconst dX8_play_103 (inr rfl) ?_
    refine T_icmp_ne (tgt := 111) dX8_play_104 rfl (fun b104 => ?_) (fun b104 => ?_)
    · refine T_iload dX8_play_111 rfl ?_
      refine TT_Vv dX8_play_113 (c_restAllBut c hf2 hs (by omega) hn hn10 _ hR3 _ _) kX8_66 (by decide) (by first | decide | omega) (by first | assumption | rfl) rfl (leb rfl) ?_
      refine T_aloadn dX8_play_116 rfl rfl ?_
      refine T_iloadn dX8_play_117 rfl rfl ?_
      refine TT_Vv dX8_play_118 (c_remember c hs _ v (by rw [restR_lo (by omega), e12]; omega) (by rw [restR_lo (by omega), e12]; omega)) kX8_70 (by decide) (by first | decide | omega) (by first | assumption | rfl) rfl (leb rfl) ?_
      refine T_aloadn dX8_play_121 rfl rfl ?_
      refine T_iload dX8_play_122 rfl ?_
      refine TT_Vv dX8_play_124 (c_remember c hs _ w (sayR_12 (by rw [restR_lo (by omega), e12]; omega) (by rw [restR_lo (by omega), e12]; omega)).1 (sayR_12 (by rw [restR_lo (by omega), e12]; omega) (by rw [restR_lo (by omega), e12]; omega)).2) kX8_70 (by decide) (by first | decide | omega) (by first | assumption | rfl) rfl (leb rfl) ?_
      refine T_aloadn dX8_play_127 rfl rfl ?_
      refine T_dup dX8_play_128 rfl ?_
      refine T_getv dX8_play_129 fX8_34 (by first | assumption | rfl) (by first | decide | omega) rfl (pr4.trans ((sayR_lo (by omega)).trans ((sayR_lo (by omega)).trans ((restR_lo (by omega)).trans e1)))) ?_
      refine T_iconst dX8_play_132 (inr rfl) ?_
      first | refine T_iaddN dX8_play_133 (by omega) ?_ | refine T_iadd dX8_play_133 ?_
      refine T_puti dX8_play_134 fX8_34 (by first | assumption | rfl) (by first | decide | omega) rfl rfl ?_
      refine T_c pu4 ?_
      refine T_aloadn dX8_play_137 rfl rfl ?_
      refine T_getv dX8_play_138 fX8_31 (by first | assumption | rfl) (by first | decide | omega) rfl (pr3.trans ((up1_n (by omega)).trans ((sayR_lo (by omega)).trans ((sayR_lo (by omega)).trans ((restR_lo (by omega)).trans e0))))) ?_
      refine T_iload dX8_play_141 rfl ?_
      first | refine T_isubN dX8_play_143 (by omega) ?_ | refine T_isub dX8_play_143 ?_
      refine TT_ri dX8_play_144 trivial ?_
      exact ⟨rfl, by simp only [b93, b104, if_true, if_false]; try rfl⟩
    · refine T_iconst dX8_play_107 (inr rfl) ?_
      refine T_goto (tgt := 113) dX8_play_108 rfl ?_
      refine TT_Vv dX8_play_113 (c_restAllBut c hf2 hs (by omega) hn hn10 _ hR3 _ _) kX8_66 (by decide) (by first | decide | omega) (by first | assumption | rfl) rfl (leb rfl) ?_
      refine T_aloadn dX8_play_116 rfl rfl ?_
      refine T_iloadn dX8_play_117 rfl rfl ?_
      refine TT_Vv dX8_play_118 (c_remember c hs _ v (by rw [restR_lo (by omega), e12]; omega) (by rw [restR_lo (by omega), e12]; omega)) kX8_70 (by decide) (by first | decide | omega) (by first | assumption | rfl) rfl (leb rfl) ?_
      refine T_aloadn dX8_play_121 rfl rfl ?_
      refine T_iload dX8_play_122 rfl ?_
      refine TT_Vv dX8_play_124 (c_remember c hs _ w (sayR_12 (by rw [restR_lo (by omega), e12]; omega) (by rw [restR_lo (by omega), e12]; omega)).1 (sayR_12 (by rw [restR_lo (by omega), e12]; omega) (by rw [restR_lo (by omega), e12]; omega)).2) kX8_70 (by decide) (by first | decide | omega) (by first | assumption | rfl) rfl (leb rfl) ?_
      refine T_aloadn dX8_play_127 rfl rfl ?_
      refine T_dup dX8_play_128 rfl ?_
      refine T_getv dX8_play_129 fX8_34 (by first | assumption | rfl) (by first | decide | omega) rfl (pr4.trans ((sayR_lo (by omega)).trans ((sayR_lo (by omega)).trans ((restR_lo (by omega)).trans e1)))) ?_
      refine T_iconst dX8_play_132 (inr rfl) ?_
      first | refine T_iaddN dX8_play_133 (by omega) ?_ | refine T_iadd dX8_play_133 ?_
      refine T_puti dX8_play_134 fX8_34 (by first | assumption | rfl) (by first | decide | omega) rfl rfl ?_
      refine T_c pu4 ?_
      refine T_aloadn dX8_play_137 rfl rfl ?_
      refine T_getv dX8_play_138 fX8_31 (by first | assumption | rfl) (by first | decide | omega) rfl (pr3.trans ((up1_n (by omega)).trans ((sayR_lo (by omega)).trans ((sayR_lo (by omega)).trans ((restR_lo (by omega)).trans e0))))) ?_
      refine T_iload dX8_play_141 rfl ?_
      first | refine T_isubN dX8_play_143 (by omega) ?_ | refine T_isub dX8_play_143 ?_
      refine TT_ri dX8_play_144 trivial ?_
      exact ⟨rfl, by simp only [b93, b104, if_true, if_false]; try rfl⟩
