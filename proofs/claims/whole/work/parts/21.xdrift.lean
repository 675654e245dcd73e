/-! the class: drift -/
def hD (c : HC) (s : Int) (R : Nat → Int) : HC := putR (up2 c 87 0 s) 4 R
theorem hD_row {c : HC} {s : Int} {R : Nat → Int} {x : Nat} (h : x < 4 ∨ 6 < x) (h2 : x ≠ 87) : hD c s R x = c x := by
  unfold hD
  rw [pro_row (by omega), up2_row _ _ _ _ h2]
theorem hD_seed {c : HC} {s : Int} {R : Nat → Int} : hD c s R 87 0 = s := by
  unfold hD
  rw [pro (by omega), up2_s]
theorem hD_up {c : HC} {s v : Int} {R : Nat → Int} : up2 (hD c s R) 87 0 v = hD c v R := by
  funext x y
  unfold hD
  by_cases h : x = 87
  · subst h
    rw [pro (by omega)]
    unfold up2
    by_cases h2 : y = 0
    · subst h2; rfl
    · simp [h2]
      rw [pro (by omega)]
      simp [h2]
  · rw [up2_a _ _ h]
    by_cases h2 : x < 4 ∨ 6 < x
    · rw [pro h2, pro h2, up2_a _ _ h, up2_a _ _ h]
    · unfold putR
      rw [up2_a _ _ h, up2_a _ _ h]
theorem hD_self (c : HC) : hD c (c 87 0) (stR c 4) = c := by
  unfold hD
  have e : up2 c 87 0 (c 87 0) = c := by
    funext x y
    unfold up2
    split
    · rename_i h
      simp at h
      rw [h.1, h.2]
    · rfl
  rw [e, putR_self]
def wdF (lb lw : Nat → Int) (b : Int) : Int := if lwF lb b = 0 then -1 else lw (lwF lb b).toNat
def dwF (s cg wd ot sd : Int) : Int := if drawF s 100 < cg then -1 else if wd = -1 then -1 else if wd = ot ∨ sd ≠ 0 then -1 else wd
/-- the tables as they may be -/
def TBV (c : HC) (g : Nat) : Prop := ∀ k, k < 42 → (0 ≤ c (g + 6) k ∧ c (g + 6) k ≤ k) ∧ (c (g + 6) k ≠ 0 → lenG c g (c (g + 5) (c (g + 6) k).toNat) = c (g + 6) k ∧ 10 ≤ c (g + 5) (c (g + 6) k).toNat)
theorem TBV.bd {c : HC} {g : Nat} (h : TBV c g) : ∀ k, k < 42 → 0 ≤ c (g + 6) k ∧ c (g + 6) k ≤ 41 := fun k hk => by
  have := (h k hk).1
  omega
abbrev dwG (c : HC) (f nw : Nat) (R : Nat → Int) (s p ot : Int) : Int := dwF s (c (f + 8 + 4) p.toNat) (wdF (c (f + 1 + 6)) (c (f + 1 + 5)) (R (2 + p.toNat))) ot (saidL R (wdF (c (f + 1 + 6)) (c (f + 1 + 5)) (R (2 + p.toNat))) nw 0)
set_option maxHeartbeats 4000000 in
set_option maxRecDepth 100000 in
theorem c_drawnWord (c : HC) {f : Nat} (hf : f = 88 ∨ f = 101) (hh : c 1 10 = (f : Int)) {n : Nat} (hsv : SV c (f + 8) n) (htb : TBV c (f + 1)) (s : Int) (hs : 0 ≤ s ∧ s ≤ 2147483647) (R : Nat → Int) (nw : Nat) (hnw : R 12 = (nw : Int)) (h40 : nw ≤ 40) (p ot : Int) (hp : 0 ≤ p ∧ p < n) :
    RW mX10_drawnWord 2 (hD c s R) [vr 1, vi p, vi ot] (dwG c f nw R s p ot) (hD c (drw s) R) := by
  obtain ⟨f0, fs, ff0, ff1, hg, hf2⟩ := fK hf
  obtain ⟨g0, gs, gs1, gs2, gs3, gs4, gs5, gs6, gf0, gf1, gf2, gf3, gf4, gf5⟩ := gK hg
  obtain ⟨s0, ss, ss1, ss2, ss3, ss4, sf0, sf1, sf2, sf3⟩ := sK hf2
  obtain ⟨hn, hn10, hsp⟩ := id hsv
  refine CC.of (by decide +kernel) (leb rfl) (fun hok => ?_)
  have hnx := c_next (hD c s R) 100 (by rw [hD_seed]; omega) (by rw [hD_seed]; omega)
  rw [hD_seed, hD_up] at hnx
  have hlw := c_longestWithin (hD c (drw s) R) hg (R (2 + p.toNat))
  rw [hD_row (x := f + 1 + 6) (by omega) (by omega)] at hlw
  have hlb := lwF_bd htb.bd (R (2 + p.toNat))
  have hws := fun w => c_wasSaid (up2 c 87 0 (drw s)) (Or.inl rfl : stA 4) R w nw hnw h40
  unfold dwG dwF wdF
  generalize lwF (c (f + 1 + 6)) (R (2 + p.toNat)) = lw at *
  refine T_aloadn dX10_drawnWord_0 rfl rfl ?_
  refine T_getfin dX10_drawnWord_1 fX10_63 (by first | assumption | rfl) (by first | decide | omega) rfl (by first | assumption | rfl) ?_
  refine T_bipush dX10_drawnWord_4 (bp8 rfl) (inr rfl) ?_
  refine TT_Vw dX10_drawnWord_6 (hnx) kX10_202 (by decide) (by first | decide | omega) (by first | assumption | rfl) rfl (leb rfl) ?_
  refine T_aloadn dX10_drawnWord_9 rfl rfl ?_
  refine T_getr dX10_drawnWord_10 fX10_70 (by first | assumption | rfl) (by first | decide | omega) rfl (by rw [hD_row (by omega) (by omega)]; exact hh) ?_
  refine T_getfin dX10_drawnWord_13 fX10_104 (by first | assumption | rfl) (by first | decide | omega) rfl (by first | assumption | rfl) ?_
  refine T_getfin dX10_drawnWord_16 fX10_172 (by first | assumption | rfl) (by first | decide | omega) rfl (by first | assumption | rfl) ?_
  refine T_iloadn dX10_drawnWord_19 rfl rfl ?_
  refine T_ialdv (j := p.toNat) dX10_drawnWord_20 (by first | assumption | rfl) (by first | decide | omega) (by omega) (by omega) (by rw [hD_row (by omega) (by omega)]) ?_
  refine T_icmp_ge (tgt := 26) dX10_drawnWord_21 rfl (fun b21 => ?_) (fun b21 => ?_)
  · refine T_aloadn dX10_drawnWord_26 rfl rfl ?_
    refine T_getr dX10_drawnWord_27 fX10_70 (by first | assumption | rfl) (by first | decide | omega) rfl (by rw [hD_row (by omega) (by omega)]; exact hh) ?_
    refine T_getfin dX10_drawnWord_30 fX10_95 (by first | assumption | rfl) (by first | decide | omega) rfl (by first | assumption | rfl) ?_
    refine T_aloadn dX10_drawnWord_33 rfl rfl ?_
    refine T_getfin dX10_drawnWord_34 fX10_19 (by first | assumption | rfl) (by first | decide | omega) rfl (by first | assumption | rfl) ?_
    refine T_getfin dX10_drawnWord_37 fX10_168 (by first | assumption | rfl) (by first | decide | omega) rfl (by first | assumption | rfl) ?_
    refine T_iloadn dX10_drawnWord_40 rfl rfl ?_
    refine T_ialdv (j := p.toNat) dX10_drawnWord_41 (by first | assumption | rfl) (by first | decide | omega) (by omega) (by omega) (prb (by omega)) ?_
    refine TT_Vi dX10_drawnWord_42 (hlw) kX10_215 (by decide) (by first | decide | omega) (by first | assumption | rfl) rfl (leb rfl) ?_
    refine T_istoren dX10_drawnWord_45 rfl (by decide) rfl ?_
    refine T_iloadn dX10_drawnWord_46 rfl rfl ?_
    refine T_if_ne (tgt := 52) dX10_drawnWord_47 rfl (fun b47 => ?_) (fun b47 => ?_)
    · refine T_aloadn dX10_drawnWord_52 rfl rfl ?_
      refine T_getr dX10_drawnWord_53 fX10_70 (by first | assumption | rfl) (by first | decide | omega) rfl (by rw [hD_row (by omega) (by omega)]; exact hh) ?_
      refine T_getfin dX10_drawnWord_56 fX10_95 (by first | assumption | rfl) (by first | decide | omega) rfl (by first | assumption | rfl) ?_
      refine T_getfin dX10_drawnWord_59 fX10_218 (by first | assumption | rfl) (by first | decide | omega) rfl (by first | assumption | rfl) ?_
      refine T_iloadn dX10_drawnWord_62 rfl rfl ?_
      refine T_ialdv (j := lw.toNat) dX10_drawnWord_63 (by first | assumption | rfl) (by first | decide | omega) (by omega) (by omega) (by rw [hD_row (by omega) (by omega)]) ?_
      refine T_istore dX10_drawnWord_64 (by decide) rfl ?_
      refine T_iload dX10_drawnWord_66 rfl ?_
      refine T_iloadn dX10_drawnWord_68 rfl rfl ?_
      refine T_icmp_eq (tgt := 84) dX10_drawnWord_69 rfl (fun b69 => ?_) (fun b69 => ?_)
      · refine T_iconst dX10_drawnWord_84 (inr rfl) ?_
        refine T_goto (tgt := 90) dX10_drawnWord_85 rfl ?_
        refine TT_ri dX10_drawnWord_90 trivial ?_
        refine ⟨?_, rfl⟩
        rw [if_neg (by omega), if_neg b47]
        by_cases hm : c (f + 1 + 5) lw.toNat = -1
        · rw [if_pos hm]
          try first | rfl | rw [hm]
        · rw [if_neg hm]
          first
            | rw [if_pos (Or.inl b69)]
            | rw [if_pos (Or.inr b81)]
            | rw [if_neg (fun z => by rcases z with z | z; exact b69 z; exact z b81)]
      · refine T_aloadn dX10_drawnWord_72 rfl rfl ?_
        refine T_getfin dX10_drawnWord_73 fX10_19 (by first | assumption | rfl) (by first | decide | omega) rfl (by first | assumption | rfl) ?_
        refine T_iload dX10_drawnWord_76 rfl ?_
        refine TT_Vi dX10_drawnWord_78 (hws _) kX10_288 (by decide) (by first | decide | omega) (by first | assumption | rfl) rfl (leb rfl) ?_
        refine T_if_eq (tgt := 88) dX10_drawnWord_81 rfl (fun b81 => ?_) (fun b81 => ?_)
        · refine T_iload dX10_drawnWord_88 rfl ?_
          refine TT_ri dX10_drawnWord_90 trivial ?_
          refine ⟨?_, rfl⟩
          rw [if_neg (by omega), if_neg b47]
          by_cases hm : c (f + 1 + 5) lw.toNat = -1
          · rw [if_pos hm]
            try first | rfl | rw [hm]
          · rw [if_neg hm]
            first
              | rw [if_pos (Or.inl b69)]
              | rw [if_pos (Or.inr b81)]
              | rw [if_neg (fun z => by rcases z with z | z; exact b69 z; exact z b81)]
        · refine T_iconst dX10_drawnWord_84 (inr rfl) ?_
          refine T_goto (tgt := 90) dX10_drawnWord_85 rfl ?_
          refine TT_ri dX10_drawnWord_90 trivial ?_
          refine ⟨?_, rfl⟩
          rw [if_neg (by omega), if_neg b47]
          by_cases hm : c (f + 1 + 5) lw.toNat = -1
          · rw [if_pos hm]
            try first | rfl | rw [hm]
          · rw [if_neg hm]
            first
              | rw [if_pos (Or.inl b69)]
              | rw [if_pos (Or.inr b81)]
              | rw [if_neg (fun z => by rcases z with z | z; exact b69 z; exact z b81)]
    · refine T_iconst dX10_drawnWord_50 (inr rfl) ?_
      refine TT_ri dX10_drawnWord_51 trivial ?_
      exact ⟨by rw [if_neg (by omega), if_pos b47, if_pos rfl], rfl⟩
  · refine T_iconst dX10_drawnWord_24 (inr rfl) ?_
    refine TT_ri dX10_drawnWord_25 trivial ?_
    exact ⟨by rw [if_pos (by omega)], rfl⟩
theorem nthL_in {sd : Nat → Int} {s df : Int} : ∀ (m p : Nat) (left : Int), 0 ≤ left → left < cntU sd s (p + m) - cntU sd s p → ∃ r : Nat, nthL sd s df m p left = (r : Int) ∧ r < p + m ∧ sd r = s
  | 0, p, left, h0, h1 => by
    rw [Nat.add_zero] at h1
    omega
  | m + 1, p, left, h0, h1 => by
    have e : cntU sd s (p + 1) = if sd p = s then cntU sd s p + 1 else cntU sd s p := rfl
    unfold nthL
    split
    · rename_i hs
      rw [if_pos hs] at e
      split
      · exact ⟨p, rfl, by omega, hs⟩
      · obtain ⟨r, h2, h3, h4⟩ := nthL_in (sd := sd) (s := s) (df := df) m (p + 1) (left - 1) (by omega) (by rw [show p + 1 + m = p + (m + 1) by omega]; omega)
        exact ⟨r, h2, by omega, h4⟩
    · rename_i hs
      rw [if_neg hs] at e
      obtain ⟨r, h2, h3, h4⟩ := nthL_in (sd := sd) (s := s) (df := df) m (p + 1) left (by omega) (by rw [show p + 1 + m = p + (m + 1) by omega]; omega)
      exact ⟨r, h2, by omega, h4⟩
theorem drawF_bd {s n : Int} (h : 0 < n) : 0 ≤ drawF s n ∧ drawF s n < n := by
  unfold drawF
  rw [if_pos h]
  exact ⟨Int.emod_nonneg _ (by omega), Int.emod_lt_of_pos _ h⟩
abbrev nthG (c : HC) (f n : Nat) (s sd : Int) : Int := nthL (c (f + 8 + 1)) sd 0 n 0 (drawF s (cntU (c (f + 8 + 1)) sd n))
theorem nthG_in {c : HC} {f n : Nat} {s sd : Int} (h : 0 < cntU (c (f + 8 + 1)) sd n) : ∃ r : Nat, nthG c f n s sd = (r : Int) ∧ r < n ∧ c (f + 8 + 1) r = sd := by
  have hd := drawF_bd (s := s) h
  obtain ⟨r, h1, h2, h3⟩ := nthL_in (sd := c (f + 8 + 1)) (s := sd) (df := 0) n 0 (drawF s (cntU (c (f + 8 + 1)) sd n)) hd.1 (by rw [Nat.zero_add]; show _ < _ - 0; omega)
  exact ⟨r, h1, by omega, h3⟩
/-- one round by draws -/
def itG (c : HC) (f n : Nat) (x : Int × (Nat → Int)) : Int × (Nat → Int) :=
  (drw (drw (drw (drw x.1))), playG c f n (nthG c f n x.1 0) (dwG c f (x.2 12).toNat x.2 (drw x.1) (nthG c f n x.1 0) (-1)) (nthG c f n (drw (drw x.1)) 1) (dwG c f (x.2 12).toNat x.2 (drw (drw (drw x.1))) (nthG c f n (drw (drw x.1)) 1) (dwG c f (x.2 12).toNat x.2 (drw x.1) (nthG c f n x.1 0) (-1))) x.2)
def itU (c : HC) (f n : Nat) (x : Int × (Nat → Int)) : Nat → Int × (Nat → Int)
  | 0 => x
  | k + 1 => itG c f n (itU c f n x k)
theorem dwG_syl {c : HC} {f n nw : Nat} {R : Nat → Int} {s p ot : Int} (hgv : GV c (f + 1)) (htb : TBV c (f + 1)) (hb : 0 ≤ R (2 + p.toNat) ∧ R (2 + p.toNat) ≤ 40) : 0 ≤ sylG c (f + 1) (dwG c f nw R s p ot) ∧ sylG c (f + 1) (dwG c f nw R s p ot) ≤ R (2 + p.toNat) := by
  have e0 : 0 ≤ sylG c (f + 1) (-1) ∧ sylG c (f + 1) (-1) ≤ R (2 + p.toNat) := by
    unfold sylG sylF
    rw [if_pos rfl]
    omega
  unfold dwG dwF
  split
  · exact e0
  · split
    · exact e0
    · split
      · exact e0
      · rename_i h1 h2 h3
        unfold wdF at h2 ⊢
        split
        · exact e0
        · rename_i h4
          unfold lwF at h4 ⊢
          rw [if_pos hb.1] at h4 ⊢
          have e1 : imin (R (2 + p.toNat)) 41 = R (2 + p.toNat) := by unfold imin; rw [if_neg (by omega)]
          rw [e1] at h4 ⊢
          obtain ⟨t1, t2⟩ := htb (R (2 + p.toNat)).toNat (by omega)
          obtain ⟨t3, t4⟩ := t2 h4
          unfold sylG sylF
          rw [if_neg (by omega)]
          unfold lenG at t3
          omega
theorem RV_play {bt : Nat → Int} {n : Nat} {way a b p v q w : Int} {R : Nat → Int} (hn : n ≤ 10) (hR : RV bt n R) (hr : R 1 ≤ 99999) (hbt : ∀ j, j < n → 0 ≤ bt j) (hp : 0 ≤ p ∧ p < n) (hq : 0 ≤ q ∧ q < n) (hpq : p ≠ q) (ha : 0 ≤ a ∧ a ≤ R (2 + p.toNat)) (hb : 0 ≤ b ∧ b ≤ R (2 + q.toNat)) : RV bt n (playR bt n way a b p v q w R) ∧ playR bt n way a b p v q w R 1 = R 1 + 1 := by
  obtain ⟨r0, r1, r12, rb⟩ := hR
  have h0 := ropeR_bd (R 0) way
  unfold playR
  dsimp only
  generalize hR3 : up1 (up1 (up1 R 0 (ropeR (R 0) way)) (2 + p.toNat) (R (2 + p.toNat) - a)) (2 + q.toNat) (R (2 + q.toNat) - b) = R3
  have g0 : R3 0 = ropeR (R 0) way := by rw [← hR3, up1_n (by omega), up1_n (by omega), up1_s]
  have g12 : R3 12 = R 12 := by rw [← hR3, up1_n (by omega), up1_n (by omega), up1_n (by omega)]
  have gb : ∀ j, j < n → 0 ≤ R3 (2 + j) ∧ R3 (2 + j) ≤ bt j := by
    intro j hj
    have h1 := rb j hj
    rw [← hR3]
    by_cases e1 : j = q.toNat
    · subst e1; rw [up1_s]; omega
    · rw [up1_n (by omega)]
      by_cases e2 : j = p.toNat
      · subst e2; rw [up1_s]; omega
      · rw [up1_n (by omega), up1_n (by omega)]; omega
  generalize (if v = -1 then (-1 : Int) else p) = pp
  generalize (if w = -1 then (-1 : Int) else q) = qq
  have k12 : restR bt pp qq R3 n 12 = R3 12 := restR_lo (by omega)
  have s1 := sayR_12 (R := restR bt pp qq R3 n) (w := v) (by rw [k12, g12]; omega) (by rw [k12, g12]; omega)
  have s2 := sayR_12 (R := sayR (restR bt pp qq R3 n) v) (w := w) s1.1 s1.2
  refine ⟨⟨?_, ?_, ?_, ?_⟩, up1_s⟩
  · rw [up1_n (by omega), sayR_lo (by omega), sayR_lo (by omega), restR_lo (by omega), g0]
    exact h0
  · rw [up1_s]; omega
  · rw [up1_n (by omega)]
    exact s2
  · intro j hj
    rw [up1_n (by omega), sayR_lo (by omega), sayR_lo (by omega)]
    have h1 := gb j hj
    unfold restR
    split
    · rename_i h2
      rw [show 2 + j - 2 = j by omega] at h2
      omega
    · exact h1
set_option maxHeartbeats 4000000 in
set_option maxRecDepth 100000 in
theorem it_ok {c : HC} {f n : Nat} (hf : f = 88 ∨ f = 101) (hgv : GV c (f + 1)) (hsv : SV c (f + 8) n) (htb : TBV c (f + 1)) (h0 : 0 < cntU (c (f + 8 + 1)) 0 n) (h1 : 0 < cntU (c (f + 8 + 1)) 1 n) (x : Int × (Nat → Int)) (hR : RV (c (f + 8 + 2)) n x.2) (hr : x.2 1 ≤ 99999) : RV (c (f + 8 + 2)) n (itG c f n x).2 ∧ (itG c f n x).2 1 = x.2 1 + 1 ∧ (0 ≤ (itG c f n x).1 ∧ (itG c f n x).1 ≤ 2147483647) := by
  obtain ⟨hn, hn10, hsp⟩ := id hsv
  obtain ⟨p, e1, e2, e3⟩ := nthG_in (s := x.1) h0
  obtain ⟨q, e4, e5, e6⟩ := nthG_in (s := drw (drw x.1)) h1
  have bp := hR.2.2.2 p e2
  have bq := hR.2.2.2 q e5
  have tp := (hsp p e2).2.1
  have tq := (hsp q e5).2.1
  have hpq : p ≠ q := fun e => by rw [e, e6] at e3; omega
  unfold itG
  dsimp only
  rw [e1, e4]
  have a1 := dwG_syl (nw := (x.2 12).toNat) (R := x.2) (s := drw x.1) (p := (p : Int)) (ot := -1) (n := n) hgv htb (by rw [Int.toNat_natCast]; omega)
  have a2 := dwG_syl (nw := (x.2 12).toNat) (R := x.2) (s := drw (drw (drw x.1))) (p := (q : Int)) (ot := dwG c f (x.2 12).toNat x.2 (drw x.1) (p : Int) (-1)) (n := n) hgv htb (by rw [Int.toNat_natCast]; omega)
  have hh := RV_play (way := wayG c f p (dwG c f (x.2 12).toNat x.2 (drw x.1) (p : Int) (-1)) q (dwG c f (x.2 12).toNat x.2 (drw (drw (drw x.1))) (q : Int) (dwG c f (x.2 12).toNat x.2 (drw x.1) (p : Int) (-1)))) (v := dwG c f (x.2 12).toNat x.2 (drw x.1) (p : Int) (-1)) (w := dwG c f (x.2 12).toNat x.2 (drw (drw (drw x.1))) (q : Int) (dwG c f (x.2 12).toNat x.2 (drw x.1) (p : Int) (-1))) hn10 hR hr (fun j hj => by have := (hsp j hj).2.1; omega) (p := (p : Int)) (q := (q : Int)) (by omega) (by omega) (by omega) a1 a2
  exact ⟨hh.1, hh.2, drw_bd _⟩
theorem itU_ok {c : HC} {f n : Nat} (hf : f = 88 ∨ f = 101) (hgv : GV c (f + 1)) (hsv : SV c (f + 8) n) (htb : TBV c (f + 1)) (h0 : 0 < cntU (c (f + 8 + 1)) 0 n) (h1 : 0 < cntU (c (f + 8 + 1)) 1 n) (x : Int × (Nat → Int)) (hs : 0 ≤ x.1 ∧ x.1 ≤ 2147483647) (hR : RV (c (f + 8 + 2)) n x.2) (hr : x.2 1 ≤ 90000) : ∀ k, k ≤ 100 → RV (c (f + 8 + 2)) n (itU c f n x k).2 ∧ (itU c f n x k).2 1 = x.2 1 + k ∧ (0 ≤ (itU c f n x k).1 ∧ (itU c f n x k).1 ≤ 2147483647)
  | 0, _ => ⟨hR, by show x.2 1 = x.2 1 + 0; omega, hs⟩
  | k + 1, hk => by
    obtain ⟨a1, a2, a3⟩ := itU_ok hf hgv hsv htb h0 h1 x hs hR hr k (by omega)
    obtain ⟨b1, b2, b3⟩ := it_ok hf hgv hsv htb h0 h1 (itU c f n x k) a1 (by omega)
    exact ⟨b1, by rw [itU.eq_2, b2, a2]; omega, b3⟩
set_option maxHeartbeats 4000000 in
set_option maxRecDepth 100000 in
theorem l_drift (c : HC) {f : Nat} (hf : f = 88 ∨ f = 101) (hh : c 1 10 = (f : Int)) {n : Nat} (hgv : GV c (f + 1)) (hsv : SV c (f + 8) n) (htb : TBV c (f + 1)) (h0 : 0 < cntU (c (f + 8 + 1)) 0 n) (h1 : 0 < cntU (c (f + 8 + 1)) 1 n) (m : Nat) (hm : m ≤ 99) (x : Int × (Nat → Int)) (hs : 0 ≤ x.1 ∧ x.1 ≤ 2147483647) (hR : RV (c (f + 8 + 2)) n x.2) (hr : x.2 1 ≤ 90000) : ∀ (k i : Nat), i + k = m →
    TT mX10_drift 4 78 [(0, vr 1), (1, vi (m : Int)), (2, vi (cntU (c (f + 8 + 1)) 0 n)), (3, vi (cntU (c (f + 8 + 1)) 1 n)), (4, vi (i : Int))] [] (hD c (itU c f n x i).1 (itU c f n x i).2) (fun v c1 => v = some (vi ((itU c f n x m).2 0 + 1000)) ∧ c1 = hD c (itU c f n x m).1 (itU c f n x m).2) := by
  obtain ⟨f0, fs, ff0, ff1, hg, hf2⟩ := fK hf
  obtain ⟨g0, gs, gs1, gs2, gs3, gs4, gs5, gs6, gf0, gf1, gf2, gf3, gf4, gf5⟩ := gK hg
  obtain ⟨s0, ss, ss1, ss2, ss3, ss4, sf0, sf1, sf2, sf3⟩ := sK hf2
  obtain ⟨hn, hn10, hsp⟩ := id hsv
  intro k
  induction k with
  | zero =>
    intro i hk
    have e : i = m := by omega
    subst e
    have hok := itU_ok hf hgv hsv htb h0 h1 x hs hR hr i (by omega)
    have hok0 := hok.1.1
    refine T_iload dX10_drift_78 rfl ?_
    refine T_iloadn dX10_drift_80 rfl rfl ?_
    refine T_icmp_ge (tgt := 171) dX10_drift_81 rfl (fun b81 => ?_) (fun b81 => absurd b81 (by omega))
    refine T_aloadn dX10_drift_171 rfl rfl ?_
    refine T_getfin dX10_drift_172 fX10_19 (by first | assumption | rfl) (by first | decide | omega) rfl (by first | assumption | rfl) ?_
    refine T_getv dX10_drift_175 fX10_145 (by first | assumption | rfl) (by first | decide | omega) rfl pr3 ?_
    refine T_sipush dX10_drift_178 (bp16 rfl) (inr rfl) ?_
    first | refine T_iaddN dX10_drift_181 (by omega) ?_ | refine T_iadd dX10_drift_181 ?_
    refine TT_ri dX10_drift_182 trivial ?_
    exact ⟨rfl, rfl⟩
  | succ k ih =>
    intro i hk
    have h := ih (i + 1) (by omega)
    obtain ⟨hok, hokr, hoks⟩ := itU_ok hf hgv hsv htb h0 h1 x hs hR hr i (by omega)
    rw [itU.eq_2] at h
    generalize itU c f n x i = y at *
    unfold itG at h
    dsimp only at h
    obtain ⟨p, e1, e2, e3⟩ := nthG_in (s := y.1) h0
    obtain ⟨q, e4, e5, e6⟩ := nthG_in (s := drw (drw y.1)) h1
    have bp := hok.2.2.2 p e2
    have bq := hok.2.2.2 q e5
    have tp := (hsp p e2).2.1
    have tq := (hsp q e5).2.1
    have hpq : p ≠ q := fun e => by rw [e, e6] at e3; omega
    have d1 := drw_bd y.1
    have d2 := drw_bd (drw y.1)
    have d3 := drw_bd (drw (drw y.1))
    have d4 := drw_bd (drw (drw (drw y.1)))
    have hnw : y.2 12 = ((y.2 12).toNat : Int) := (Int.toNat_of_nonneg hok.2.2.1.1).symm
    have h40 : (y.2 12).toNat ≤ 40 := by have := hok.2.2.1; omega
    rw [e1, e4] at h
    have hsvD : ∀ s R, SV (hD c s R) (f + 8) n := fun s R => SV_congr (hD_row (by omega) (by omega)) (hD_row (by omega) (by omega)) (hD_row (by omega) (by omega)) (hD_row (by omega) (by omega)) (hD_row (by omega) (by omega)) hsv
    have n1 := c_next (hD c y.1 y.2) (cntU (c (f + 8 + 1)) 0 n) (by rw [hD_seed]; omega) (by rw [hD_seed]; omega)
    rw [hD_seed, hD_up] at n1
    have db0 := drawF_bd (s := y.1) h0
    have db1 := drawF_bd (s := drw (drw y.1)) h1
    have cb0 := cntU_bd (c (f + 8 + 1)) 0 n
    have cb1 := cntU_bd (c (f + 8 + 1)) 1 n
    have n2 := c_nthOf (hD c (drw y.1) y.2) hf2 (hsvD _ _) 0 (drawF y.1 (cntU (c (f + 8 + 1)) 0 n)) db0.1 (by omega)
    rw [hD_row (x := f + 8 + 1) (by omega) (by omega), show nthL (c (f + 8 + 1)) 0 0 n 0 (drawF y.1 (cntU (c (f + 8 + 1)) 0 n)) = (p : Int) from e1] at n2
    have n3 := c_drawnWord c hf hh hsv htb (drw y.1) d1 y.2 (y.2 12).toNat hnw h40 (p : Int) (-1) (by omega)
    generalize hv : dwG c f (y.2 12).toNat y.2 (drw y.1) (p : Int) (-1) = v at *
    have n4 := c_next (hD c (drw (drw y.1)) y.2) (cntU (c (f + 8 + 1)) 1 n) (by rw [hD_seed]; omega) (by rw [hD_seed]; omega)
    rw [hD_seed, hD_up] at n4
    have n5 := c_nthOf (hD c (drw (drw (drw y.1))) y.2) hf2 (hsvD _ _) 1 (drawF (drw (drw y.1)) (cntU (c (f + 8 + 1)) 1 n)) db1.1 (by omega)
    rw [hD_row (x := f + 8 + 1) (by omega) (by omega), show nthL (c (f + 8 + 1)) 1 0 n 0 (drawF (drw (drw y.1)) (cntU (c (f + 8 + 1)) 1 n)) = (q : Int) from e4] at n5
    have n6 := c_drawnWord c hf hh hsv htb (drw (drw (drw y.1))) d3 y.2 (y.2 12).toNat hnw h40 (q : Int) v (by omega)
    generalize hw : dwG c f (y.2 12).toNat y.2 (drw (drw (drw y.1))) (q : Int) v = w at *
    have ur : ∀ x, x ≠ 87 → (up2 c 87 0 (drw (drw (drw (drw y.1))))) x = c x := fun x hx => up2_row _ _ _ _ hx
    have n7 := c_play (up2 c 87 0 (drw (drw (drw (drw y.1))))) hf (GV_congr (ur _ (by omega)) (ur _ (by omega)) (ur _ (by omega)) hgv) (SV_congr (ur _ (by omega)) (ur _ (by omega)) (ur _ (by omega)) (ur _ (by omega)) (ur _ (by omega)) hsv) y.2 (by rw [ur _ (by omega)]; exact hok) (p : Int) v (q : Int) w (by omega) (by omega) (by omega) (by omega)
    unfold playG wayG sylG at h
    unfold sylG at n7
    rw [ur (f + 1) (by omega), ur (f + 8 + 3) (by omega), ur (f + 8 + 2) (by omega), ur (f + 1 + 1) (by omega), ur (f + 1 + 2) (by omega), ur (f + 1 + 3) (by omega)] at n7
    have hhD : ∀ s R, hD c s R 1 10 = (f : Int) := fun s R => by rw [hD_row (by omega) (by omega)]; exact hh
    refine T_iload dX10_drift_78 rfl ?_
    refine T_iloadn dX10_drift_80 rfl rfl ?_
    refine T_icmp_ge (tgt := 171) dX10_drift_81 rfl (fun b81 => absurd b81 (by omega)) (fun b81 => ?_)
    refine T_aloadn dX10_drift_84 rfl rfl ?_
    refine T_getr dX10_drift_85 fX10_70 (by first | assumption | rfl) (by first | decide | omega) rfl (hhD _ _) ?_
    refine T_getfin dX10_drift_88 fX10_104 (by first | assumption | rfl) (by first | decide | omega) rfl (by first | assumption | rfl) ?_
    refine T_iconst dX10_drift_91 (inr rfl) ?_
    refine T_aloadn dX10_drift_92 rfl rfl ?_
    refine T_getfin dX10_drift_93 fX10_63 (by first | assumption | rfl) (by first | decide | omega) rfl (by first | assumption | rfl) ?_
    refine T_iloadn dX10_drift_96 rfl rfl ?_
    refine TT_Vw dX10_drift_97 (n1) kX10_202 (by decide) (by first | decide | omega) (by first | assumption | rfl) rfl (leb rfl) ?_
    refine TT_Vi dX10_drift_100 (n2) kX10_205 (by decide) (by first | decide | omega) (by first | assumption | rfl) rfl (leb rfl) ?_
    refine T_istore dX10_drift_103 (by decide) rfl ?_
    refine T_aloadn dX10_drift_105 rfl rfl ?_
    refine T_iload dX10_drift_106 rfl ?_
    refine T_iconst dX10_drift_108 (inr rfl) ?_
    refine TT_Vw dX10_drift_109 (n3) kX10_209 (by decide) (by first | decide | omega) (by first | assumption | rfl) rfl (leb rfl) ?_
    refine T_istore dX10_drift_112 (by decide) rfl ?_
    refine T_aloadn dX10_drift_114 rfl rfl ?_
    refine T_getr dX10_drift_115 fX10_70 (by first | assumption | rfl) (by first | decide | omega) rfl (hhD _ _) ?_
    refine T_getfin dX10_drift_118 fX10_104 (by first | assumption | rfl) (by first | decide | omega) rfl (by first | assumption | rfl) ?_
    refine T_iconst dX10_drift_121 (inr rfl) ?_
    refine T_aloadn dX10_drift_122 rfl rfl ?_
    refine T_getfin dX10_drift_123 fX10_63 (by first | assumption | rfl) (by first | decide | omega) rfl (by first | assumption | rfl) ?_
    refine T_iloadn dX10_drift_126 rfl rfl ?_
    refine TT_Vw dX10_drift_127 (n4) kX10_202 (by decide) (by first | decide | omega) (by first | assumption | rfl) rfl (leb rfl) ?_
    refine TT_Vi dX10_drift_130 (n5) kX10_205 (by decide) (by first | decide | omega) (by first | assumption | rfl) rfl (leb rfl) ?_
    refine T_istore dX10_drift_133 (by decide) rfl ?_
    refine T_aloadn dX10_drift_135 rfl rfl ?_
    refine T_iload dX10_drift_136 rfl ?_
    refine T_iload dX10_drift_138 rfl ?_
    refine TT_Vw dX10_drift_140 (n6) kX10_209 (by decide) (by first | decide | omega) (by first | assumption | rfl) rfl (leb rfl) ?_
    refine T_istore dX10_drift_143 (by decide) rfl ?_
    refine T_aloadn dX10_drift_145 rfl rfl ?_
    refine T_getfin dX10_drift_146 fX10_19 (by first | assumption | rfl) (by first | decide | omega) rfl (by first | assumption | rfl) ?_
    refine T_aloadn dX10_drift_149 rfl rfl ?_
    refine T_getr dX10_drift_150 fX10_70 (by first | assumption | rfl) (by first | decide | omega) rfl (hhD _ _) ?_
    refine T_iload dX10_drift_153 rfl ?_
    refine T_iload dX10_drift_155 rfl ?_
    refine T_iload dX10_drift_157 rfl ?_
    refine T_iload dX10_drift_159 rfl ?_
    refine TT_Vw dX10_drift_161 (n7) kX10_195 (by decide) (by first | decide | omega) (by first | assumption | rfl) rfl (leb rfl) ?_
    refine T_pop dX10_drift_164 rfl ?_
    refine T_iincN dX10_drift_165 rfl (by decide) rfl (by omega) ?_
    refine T_goto (tgt := 78) dX10_drift_168 rfl ?_
    refine T_keep [0, 1, 2, 3, 4] ?_
    exact h
def drfF (n0 n1 m rounds z : Int) : Int := if m < 1 ∨ 99 < m then OUT else if n0 = 0 ∨ n1 = 0 then NOTN else if 90000 < rounds then FUL else z
def drfC (n0 n1 m rounds : Int) (c c2 : HC) : HC := if m < 1 ∨ 99 < m then c else if n0 = 0 ∨ n1 = 0 then c else if 90000 < rounds then c else c2
set_option maxHeartbeats 4000000 in
set_option maxRecDepth 100000 in
theorem x_drift (c : HC) {f : Nat} (hf : f = 88 ∨ f = 101) (hh : c 1 10 = (f : Int)) {n : Nat} (hgv : GV c (f + 1)) (hsv : SV c (f + 8) n) (htb : TBV c (f + 1)) (hR : RV (c (f + 8 + 2)) n (stR c 4)) (hs : 0 ≤ c 87 0 ∧ c 87 0 ≤ 2147483647) (fi cn : Nat) (h1 : c 7 1 = (fi : Int)) (h2 : c 7 2 = (cn : Int)) (hfi : fi < 20) (hcn : cn ≤ 20) (m : Int) :
    RW mX10_drift 4 c [vr 1, vi m] (drfF (cntU (c (f + 8 + 1)) 0 n) (cntU (c (f + 8 + 1)) 1 n) m (c 4 4) ((itU c f n (c 87 0, stR c 4) m.toNat).2 0 + 1000)) (drfC (cntU (c (f + 8 + 1)) 0 n) (cntU (c (f + 8 + 1)) 1 n) m (c 4 4) c (hD (pushF c fi cn) (itU c f n (c 87 0, stR c 4) m.toNat).1 (itU c f n (c 87 0, stR c 4) m.toNat).2)) := by
  obtain ⟨f0, fs, ff0, ff1, hg, hf2⟩ := fK hf
  obtain ⟨g0, gs, gs1, gs2, gs3, gs4, gs5, gs6, gf0, gf1, gf2, gf3, gf4, gf5⟩ := gK hg
  obtain ⟨s0, ss, ss1, ss2, ss3, ss4, sf0, sf1, sf2, sf3⟩ := sK hf2
  have cb0 := cntU_bd (c (f + 8 + 1)) 0 n
  have cb1 := cntU_bd (c (f + 8 + 1)) 1 n
  refine CC.of (by decide +kernel) (leb rfl) (fun hok => ?_)
  unfold drfF drfC OUT NOTN FUL
  refine T_iloadn dX10_drift_0 rfl rfl ?_
  refine T_iconst dX10_drift_1 (inr rfl) ?_
  refine T_icmp_lt (tgt := 11) dX10_drift_2 rfl (fun b2 => ?_) (fun b2 => ?_)
  · refine T_ldc dX10_drift_11 cX10_78 (inr rfl) ?_
    refine TT_ri dX10_drift_13 trivial ?_
    exact ⟨by rw [if_pos (by omega)], by rw [if_pos (by omega)]⟩
  · refine T_iloadn dX10_drift_5 rfl rfl ?_
    refine T_bipush dX10_drift_6 (bp8 rfl) (inr rfl) ?_
    refine T_icmp_le (tgt := 14) dX10_drift_8 rfl (fun b8 => ?_) (fun b8 => ?_)
    · refine T_aloadn dX10_drift_14 rfl rfl ?_
      refine T_getr dX10_drift_15 fX10_70 (by first | assumption | rfl) (by first | decide | omega) rfl (by first | assumption | rfl) ?_
      refine T_getfin dX10_drift_18 fX10_104 (by first | assumption | rfl) (by first | decide | omega) rfl (by first | assumption | rfl) ?_
      refine T_iconst dX10_drift_21 (inr rfl) ?_
      refine TT_Vi dX10_drift_22 (c_countOf c hf2 hsv 0) kX10_199 (by decide) (by first | decide | omega) (by first | assumption | rfl) rfl (leb rfl) ?_
      refine T_istoren dX10_drift_25 rfl (by decide) rfl ?_
      refine T_aloadn dX10_drift_26 rfl rfl ?_
      refine T_getr dX10_drift_27 fX10_70 (by first | assumption | rfl) (by first | decide | omega) rfl (by first | assumption | rfl) ?_
      refine T_getfin dX10_drift_30 fX10_104 (by first | assumption | rfl) (by first | decide | omega) rfl (by first | assumption | rfl) ?_
      refine T_iconst dX10_drift_33 (inr rfl) ?_
      refine TT_Vi dX10_drift_34 (c_countOf c hf2 hsv 1) kX10_199 (by decide) (by first | decide | omega) (by first | assumption | rfl) rfl (leb rfl) ?_
      refine T_istoren dX10_drift_37 rfl (by decide) rfl ?_
      refine T_iloadn dX10_drift_38 rfl rfl ?_
      refine T_if_eq (tgt := 46) dX10_drift_39 rfl (fun b39 => ?_) (fun b39 => ?_)
      · refine T_ldc dX10_drift_46 cX10_189 (inr rfl) ?_
        refine TT_ri dX10_drift_48 trivial ?_
        exact ⟨by rw [if_neg (by omega), if_pos (by omega)], by rw [if_neg (by omega), if_pos (by omega)]⟩
      · refine T_iloadn dX10_drift_42 rfl rfl ?_
        refine T_if_ne (tgt := 49) dX10_drift_43 rfl (fun b43 => ?_) (fun b43 => ?_)
        · refine T_aloadn dX10_drift_49 rfl rfl ?_
          refine T_getfin dX10_drift_50 fX10_19 (by first | assumption | rfl) (by first | decide | omega) rfl (by first | assumption | rfl) ?_
          first | refine T_getv dX10_drift_53 fX10_148 (by first | assumption | rfl) (by first | decide | omega) rfl (by assumption) ?_ | refine T_geti dX10_drift_53 fX10_148 (by first | assumption | rfl) (by first | decide | omega) rfl ?_
          refine T_ldc dX10_drift_56 cX10_190 (inr rfl) ?_
          refine T_icmp_le (tgt := 64) dX10_drift_58 rfl (fun b58 => ?_) (fun b58 => ?_)
          · refine T_aloadn dX10_drift_64 rfl rfl ?_
            refine T_getfin dX10_drift_65 fX10_26 (by first | assumption | rfl) (by first | decide | omega) rfl (by first | assumption | rfl) ?_
            refine T_aloadn dX10_drift_68 rfl rfl ?_
            refine T_getfin dX10_drift_69 fX10_19 (by first | assumption | rfl) (by first | decide | omega) rfl (by first | assumption | rfl) ?_
            refine TT_Vv dX10_drift_72 (c_push c fi cn h1 h2 hfi hcn) kX10_191 (by decide) (by first | decide | omega) (by first | assumption | rfl) rfl (leb rfl) ?_
            refine T_iconst dX10_drift_75 (inr rfl) ?_
            refine T_istore dX10_drift_76 (by decide) rfl ?_
            rw [if_neg (by omega), if_neg (by omega), if_neg (by omega), if_neg (by omega), if_neg (by omega), if_neg (by omega)]
            have ep : ∀ x, x < 7 ∨ 68 < x → pushF c fi cn x = c x := fun x hx => pushF_row hx
            have hgv2 : GV (pushF c fi cn) (f + 1) := GV_congr (ep _ (by omega)) (ep _ (by omega)) (ep _ (by omega)) hgv
            have hsv2 : SV (pushF c fi cn) (f + 8) n := SV_congr (ep _ (by omega)) (ep _ (by omega)) (ep _ (by omega)) (ep _ (by omega)) (ep _ (by omega)) hsv
            have htb2 : TBV (pushF c fi cn) (f + 1) := by
              unfold TBV lenG at *
              rw [ep (f + 1 + 6) (by omega), ep (f + 1 + 5) (by omega), ep (f + 1) (by omega), ep (f + 1 + 1) (by omega), ep (f + 1 + 2) (by omega), ep (f + 1 + 3) (by omega)]
              exact htb
            have hk := l_drift (pushF c fi cn) hf (by rw [ep 1 (by omega)]; exact hh) hgv2 hsv2 htb2 (by rw [ep _ (by omega)]; omega) (by rw [ep _ (by omega)]; omega) m.toNat (by omega) (c 87 0, stR c 4) hs (by rw [ep _ (by omega)]; exact hR) (by show c 4 4 ≤ 90000; omega) m.toNat 0 (by omega)
            have ei : ∀ k x, itU (pushF c fi cn) f n x k = itU c f n x k := by
              intro k x
              induction k with
              | zero => rfl
              | succ k ih =>
                rw [itU.eq_2, itU.eq_2, ih]
                unfold itG playG wayG sylG dwG nthG
                rw [ep (f + 1) (by omega), ep (f + 8 + 3) (by omega), ep (f + 8 + 2) (by omega), ep (f + 1 + 1) (by omega), ep (f + 1 + 2) (by omega), ep (f + 1 + 3) (by omega), ep (f + 8 + 1) (by omega), ep (f + 8 + 4) (by omega), ep (f + 1 + 6) (by omega), ep (f + 1 + 5) (by omega)]
            rw [ei, ei, ep (f + 8 + 1) (by omega)] at hk
            rw [show itU c f n (c 87 0, stR c 4) 0 = (c 87 0, stR c 4) from rfl] at hk
            have eh : hD (pushF c fi cn) (c 87 0) (stR c 4) = pushF c fi cn := by
              have := hD_self (pushF c fi cn)
              rw [ep 87 (by omega), stR_pushF] at this
              exact this
            rw [eh, show ((m.toNat : Nat) : Int) = m by omega] at hk
            exact hk
          · refine T_ldc dX10_drift_61 cX10_83 (inr rfl) ?_
            refine TT_ri dX10_drift_63 trivial ?_
            exact ⟨by rw [if_neg (by omega), if_neg (by omega), if_pos (by omega)], by rw [if_neg (by omega), if_neg (by omega), if_pos (by omega)]⟩
        · refine T_ldc dX10_drift_46 cX10_189 (inr rfl) ?_
          refine TT_ri dX10_drift_48 trivial ?_
          exact ⟨by rw [if_neg (by omega), if_pos (by omega)], by rw [if_neg (by omega), if_pos (by omega)]⟩
    · refine T_ldc dX10_drift_11 cX10_78 (inr rfl) ?_
      refine TT_ri dX10_drift_13 trivial ?_
      exact ⟨by rw [if_pos (by omega)], by rw [if_pos (by omega)]⟩
