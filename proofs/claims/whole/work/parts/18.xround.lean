/-! the class's further calls -/
def opF (n : Nat) (sd : Nat → Int) (p q : Int) : Int := if isOfF n sd 0 p = 0 then 0 else if isOfF n sd 1 q = 0 then 0 else 1
theorem isOf_01 (n : Nat) (sd : Nat → Int) (s p : Int) : isOfF n sd s p = 0 ∨ (isOfF n sd s p = 1 ∧ 0 ≤ p ∧ p < n ∧ sd p.toNat = s) := by
  unfold isOfF
  split
  · rename_i h; exact Or.inr ⟨rfl, h⟩
  · exact Or.inl rfl
theorem opF_in {n : Nat} {sd : Nat → Int} {p q : Int} (h : opF n sd p q ≠ 0) : (0 ≤ p ∧ p < n ∧ sd p.toNat = 0) ∧ (0 ≤ q ∧ q < n ∧ sd q.toNat = 1) ∧ p ≠ q := by
  unfold opF at h
  rcases isOf_01 n sd 0 p with h1 | ⟨h1, h2⟩
  · rw [if_pos h1] at h; exact absurd rfl h
  · rw [if_neg (by omega)] at h
    rcases isOf_01 n sd 1 q with h3 | ⟨h3, h4⟩
    · rw [if_pos h3] at h; exact absurd rfl h
    · refine ⟨h2, h4, fun e => ?_⟩
      subst e
      omega
set_option maxHeartbeats 4000000 in
set_option maxRecDepth 100000 in
theorem c_areOpponents (c : HC) {f : Nat} (hf : f = 88 ∨ f = 101) (hh : c 1 10 = (f : Int)) {n : Nat} (hv : SV c (f + 8) n) (p q : Int) : RO mX10_areOpponents 1 c [vr 1, vi p, vi q] (opF n (c (f + 8 + 1)) p q) := by
  obtain ⟨f0, fs, ff0, ff1, hg, hf2⟩ := fK hf
  obtain ⟨g0, gs, gs1, gs2, gs3, gs4, gs5, gs6, gf0, gf1, gf2, gf3, gf4, gf5⟩ := gK hg
  obtain ⟨s0, ss, ss1, ss2, ss3, ss4, sf0, sf1, sf2, sf3⟩ := sK hf2
  refine CC.of (by decide +kernel) (leb rfl) (fun hok => ?_)
  unfold opF
  refine T_aloadn dX10_areOpponents_0 rfl rfl ?_
  refine T_getr dX10_areOpponents_1 fX10_70 (by first | assumption | rfl) (by first | decide | omega) rfl (by first | assumption | rfl) ?_
  refine T_getfin dX10_areOpponents_4 fX10_104 (by first | assumption | rfl) (by first | decide | omega) rfl (by first | assumption | rfl) ?_
  refine T_iconst dX10_areOpponents_7 (inr rfl) ?_
  refine T_iloadn dX10_areOpponents_8 rfl rfl ?_
  refine TT_Vi dX10_areOpponents_9 (c_isOf c hf2 hv 0 p) kX10_285 (by decide) (by first | decide | omega) (by first | assumption | rfl) rfl (leb rfl) ?_
  refine T_if_eq (tgt := 34) dX10_areOpponents_12 rfl (fun b12 => ?_) (fun b12 => ?_)
  · refine T_iconst dX10_areOpponents_34 (inr rfl) ?_
    refine TT_ri dX10_areOpponents_35 (by first | exact Or.inl rfl | exact Or.inr rfl | assumption) ?_
    exact ro_q (by first | rw [if_pos b12] | rw [if_neg b12, if_pos b27] | rw [if_neg b12, if_neg b27])
  · refine T_aloadn dX10_areOpponents_15 rfl rfl ?_
    refine T_getr dX10_areOpponents_16 fX10_70 (by first | assumption | rfl) (by first | decide | omega) rfl (by first | assumption | rfl) ?_
    refine T_getfin dX10_areOpponents_19 fX10_104 (by first | assumption | rfl) (by first | decide | omega) rfl (by first | assumption | rfl) ?_
    refine T_iconst dX10_areOpponents_22 (inr rfl) ?_
    refine T_iloadn dX10_areOpponents_23 rfl rfl ?_
    refine TT_Vi dX10_areOpponents_24 (c_isOf c hf2 hv 1 q) kX10_285 (by decide) (by first | decide | omega) (by first | assumption | rfl) rfl (leb rfl) ?_
    refine T_if_eq (tgt := 34) dX10_areOpponents_27 rfl (fun b27 => ?_) (fun b27 => ?_)
    · refine T_iconst dX10_areOpponents_34 (inr rfl) ?_
      refine TT_ri dX10_areOpponents_35 (by first | exact Or.inl rfl | exact Or.inr rfl | assumption) ?_
      exact ro_q (by first | rw [if_pos b12] | rw [if_neg b12, if_pos b27] | rw [if_neg b12, if_neg b27])
    · refine T_iconst dX10_areOpponents_30 (inr rfl) ?_
      refine T_goto (tgt := 35) dX10_areOpponents_31 rfl ?_
      refine TT_ri dX10_areOpponents_35 (by first | exact Or.inl rfl | exact Or.inr rfl | assumption) ?_
      exact ro_q (by first | rw [if_pos b12] | rw [if_neg b12, if_pos b27] | rw [if_neg b12, if_neg b27])
def mayF (len nb sd w : Int) : Int := if w = -1 then 1 else if len = -1 ∨ nb < len ∨ sd ≠ 0 then 0 else 1
set_option maxHeartbeats 4000000 in
set_option maxRecDepth 100000 in
theorem c_maySay (c : HC) {f : Nat} (hf : f = 88 ∨ f = 101) (hh : c 1 10 = (f : Int)) (hv : GV c (f + 1)) (nw : Nat) (hw : c 4 2 = (nw : Int)) (h40 : nw ≤ 40) (p w : Int) (hp : 0 ≤ p ∧ p < 10) : RO mX10_maySay 2 c [vr 1, vi p, vi w] (mayF (lenG c (f + 1) w) (c 5 p.toNat) (saidL (stR c 4) w nw 0) w) := by
  obtain ⟨f0, fs, ff0, ff1, hg, hf2⟩ := fK hf
  obtain ⟨g0, gs, gs1, gs2, gs3, gs4, gs5, gs6, gf0, gf1, gf2, gf3, gf4, gf5⟩ := gK hg
  obtain ⟨s0, ss, ss1, ss2, ss3, ss4, sf0, sf1, sf2, sf3⟩ := sK hf2
  refine CC.of (by decide +kernel) (leb rfl) (fun hok => ?_)
  have hws := c_wasSaid c (Or.inl rfl : stA 4) (stR c 4) w nw (by unfold stR; simpa using hw) h40
  rw [putR_self] at hws
  unfold mayF
  refine T_iloadn dX10_maySay_0 rfl rfl ?_
  refine T_iconst dX10_maySay_1 (inr rfl) ?_
  refine T_icmp_ne (tgt := 7) dX10_maySay_2 rfl (fun b2 => ?_) (fun b2 => ?_)
  · refine T_aloadn dX10_maySay_7 rfl rfl ?_
    refine T_getr dX10_maySay_8 fX10_70 (by first | assumption | rfl) (by first | decide | omega) rfl (by first | assumption | rfl) ?_
    refine T_getfin dX10_maySay_11 fX10_95 (by first | assumption | rfl) (by first | decide | omega) rfl (by first | assumption | rfl) ?_
    refine T_iloadn dX10_maySay_14 rfl rfl ?_
    refine TT_Vi dX10_maySay_15 (c_lengthOf c hg hv w) kX10_175 (by decide) (by first | decide | omega) (by first | assumption | rfl) rfl (leb rfl) ?_
    refine T_istoren dX10_maySay_18 rfl (by decide) rfl ?_
    refine T_iloadn dX10_maySay_19 rfl rfl ?_
    refine T_iconst dX10_maySay_20 (inr rfl) ?_
    refine T_icmp_eq (tgt := 52) dX10_maySay_21 rfl (fun b21 => ?_) (fun b21 => ?_)
    · refine T_iconst dX10_maySay_52 (inr rfl) ?_
      refine TT_ri dX10_maySay_53 (by first | exact Or.inl rfl | exact Or.inr rfl | assumption) ?_
      first
        | exact ro_q (by rw [if_neg b2, if_pos]; first | exact Or.inl b21 | exact Or.inr (Or.inl b34) | exact Or.inr (Or.inr b45))
        | exact ro_q (by rw [if_neg b2, if_neg]; intro q; rcases q with q | q | q; exact b21 q; exact b34 q; exact q b45)
    · refine T_iloadn dX10_maySay_24 rfl rfl ?_
      refine T_aloadn dX10_maySay_25 rfl rfl ?_
      refine T_getfin dX10_maySay_26 fX10_19 (by first | assumption | rfl) (by first | decide | omega) rfl (by first | assumption | rfl) ?_
      refine T_getfin dX10_maySay_29 fX10_168 (by first | assumption | rfl) (by first | decide | omega) rfl (by first | assumption | rfl) ?_
      refine T_iloadn dX10_maySay_32 rfl rfl ?_
      refine T_iald (j := p.toNat) dX10_maySay_33 (by first | assumption | rfl) (by first | decide | omega) (by omega) (by omega) ?_
      refine T_icmp_gt (tgt := 52) dX10_maySay_34 rfl (fun b34 => ?_) (fun b34 => ?_)
      · refine T_iconst dX10_maySay_52 (inr rfl) ?_
        refine TT_ri dX10_maySay_53 (by first | exact Or.inl rfl | exact Or.inr rfl | assumption) ?_
        first
          | exact ro_q (by rw [if_neg b2, if_pos]; first | exact Or.inl b21 | exact Or.inr (Or.inl b34) | exact Or.inr (Or.inr b45))
          | exact ro_q (by rw [if_neg b2, if_neg]; intro q; rcases q with q | q | q; exact b21 q; exact b34 q; exact q b45)
      · refine T_aloadn dX10_maySay_37 rfl rfl ?_
        refine T_getfin dX10_maySay_38 fX10_19 (by first | assumption | rfl) (by first | decide | omega) rfl (by first | assumption | rfl) ?_
        refine T_iloadn dX10_maySay_41 rfl rfl ?_
        refine TT_Vi dX10_maySay_42 (hws) kX10_288 (by decide) (by first | decide | omega) (by first | assumption | rfl) rfl (leb rfl) ?_
        refine T_if_ne (tgt := 52) dX10_maySay_45 rfl (fun b45 => ?_) (fun b45 => ?_)
        · refine T_iconst dX10_maySay_52 (inr rfl) ?_
          refine TT_ri dX10_maySay_53 (by first | exact Or.inl rfl | exact Or.inr rfl | assumption) ?_
          first
            | exact ro_q (by rw [if_neg b2, if_pos]; first | exact Or.inl b21 | exact Or.inr (Or.inl b34) | exact Or.inr (Or.inr b45))
            | exact ro_q (by rw [if_neg b2, if_neg]; intro q; rcases q with q | q | q; exact b21 q; exact b34 q; exact q b45)
        · refine T_iconst dX10_maySay_48 (inr rfl) ?_
          refine T_goto (tgt := 53) dX10_maySay_49 rfl ?_
          refine TT_ri dX10_maySay_53 (by first | exact Or.inl rfl | exact Or.inr rfl | assumption) ?_
          first
            | exact ro_q (by rw [if_neg b2, if_pos]; first | exact Or.inl b21 | exact Or.inr (Or.inl b34) | exact Or.inr (Or.inr b45))
            | exact ro_q (by rw [if_neg b2, if_neg]; intro q; rcases q with q | q | q; exact b21 q; exact b34 q; exact q b45)
  · refine T_iconst dX10_maySay_5 (inr rfl) ?_
    refine TT_ri dX10_maySay_6 (by first | exact Or.inl rfl | exact Or.inr rfl | assumption) ?_
    exact ro_q (by rw [if_pos b2])
theorem stR_up7 {c : HC} {k : Nat} {v : Int} : stR (up2 c 7 k v) 4 = stR c 4 := by
  funext j
  unfold stR
  rw [up2_a _ _ (by omega), up2_a _ _ (by omega), up2_a _ _ (by omega), up2_a _ _ (by omega), up2_a _ _ (by omega)]
theorem stR_pushF (c : HC) (fi cn : Nat) : stR (pushF c fi cn) 4 = stR c 4 := by
  unfold pushF
  have h : stR (putR c (9 + 3 * ((fi + cn) % 20)) (stR c 4)) 4 = stR c 4 := funext fun k => stR_off (by omega)
  split <;> rw [stR_up7, h]
theorem pushF_row {c : HC} {fi cn x : Nat} (h : x < 7 ∨ 68 < x) : pushF c fi cn x = c x := by
  have h2 : putR c (9 + 3 * ((fi + cn) % 20)) (stR c 4) x = c x := pro_row (by omega)
  unfold pushF
  split
  · rw [up2_row _ _ _ _ (by omega), h2]
  · rw [up2_row _ _ _ _ (by omega), h2]
theorem GV_congr {c c2 : HC} {g : Nat} (h0 : c2 g = c g) (h1 : c2 (g + 1) = c (g + 1)) (h2 : c2 (g + 2) = c (g + 2)) (hv : GV c g) : GV c2 g := by
  unfold GV at *
  rw [h0, h1, h2]
  exact hv
theorem SV_congr {c c2 : HC} {f n : Nat} (h0 : c2 f = c f) (h1 : c2 (f + 1) = c (f + 1)) (h2 : c2 (f + 2) = c (f + 2)) (h3 : c2 (f + 3) = c (f + 3)) (h4 : c2 (f + 4) = c (f + 4)) (hv : SV c f n) : SV c2 f n := by
  unfold SV at *
  rw [h0, h1, h2, h3, h4]
  exact hv
/-- the way of a round by the feast f -/
abbrev wayG (c : HC) (f : Nat) (p v q w : Int) : Int := wayF (c (f + 1) 7) (c (f + 8 + 3)) p (sylG c (f + 1) v) q (sylG c (f + 1) w)
abbrev playG (c : HC) (f n : Nat) (p v q w : Int) (R : Nat → Int) : Nat → Int := playR (c (f + 8 + 2)) n (wayG c f p v q w) (sylG c (f + 1) v) (sylG c (f + 1) w) p v q w R
set_option maxHeartbeats 4000000 in
set_option maxRecDepth 100000 in
theorem c_play2 (c : HC) {f n : Nat} (hf : f = 88 ∨ f = 101) (hgv : GV c (f + 1)) (hsv : SV c (f + 8) n) (hR : RV (c (f + 8 + 2)) n (stR c 4)) (p v q w : Int) (hp : 0 ≤ p ∧ p < n) (hq : 0 ≤ q ∧ q < n) (hpq : p ≠ q) (hr : stR c 4 1 ≤ 99999) :
    RW mX8_play 3 c [vr 4, vr f, vi p, vi v, vi q, vi w] (ropeR (c 4 3) (wayG c f p v q w) - c 4 3) (putR c 4 (playG c f n p v q w (stR c 4))) := by
  have h := c_play c hf hgv hsv (stR c 4) hR p v q w hp hq hpq hr
  rw [putR_self] at h
  exact h
/-- what round answers -/
def rndF (op m1 m2 v w rounds z : Int) : Int := if op = 0 then UNK else if m1 = 0 ∨ m2 = 0 ∨ (v = w ∧ v ≠ -1) then NOTN else if 90000 < rounds then FUL else z
def rndC (op m1 m2 v w rounds : Int) (c c2 : HC) : HC := if op = 0 then c else if m1 = 0 ∨ m2 = 0 ∨ (v = w ∧ v ≠ -1) then c else if 90000 < rounds then c else c2
set_option maxHeartbeats 4000000 in
set_option maxRecDepth 100000 in
theorem x_round (c : HC) {f : Nat} (hf : f = 88 ∨ f = 101) (hh : c 1 10 = (f : Int)) {n : Nat} (hgv : GV c (f + 1)) (hsv : SV c (f + 8) n) (hR : RV (c (f + 8 + 2)) n (stR c 4)) (nw fi cn : Nat) (hw : c 4 2 = (nw : Int)) (h40 : nw ≤ 40) (h1 : c 7 1 = (fi : Int)) (h2 : c 7 2 = (cn : Int)) (hfi : fi < 20) (hcn : cn ≤ 20) (p v q w : Int) :
    RW mX10_round 4 c [vr 1, vi p, vi v, vi q, vi w] (rndF (opF n (c (f + 8 + 1)) p q) (mayF (lenG c (f + 1) v) (c 5 p.toNat) (saidL (stR c 4) v nw 0) v) (mayF (lenG c (f + 1) w) (c 5 q.toNat) (saidL (stR c 4) w nw 0) w) v w (c 4 4) (ropeR (c 4 3) (wayG c f p v q w) - c 4 3))
      (rndC (opF n (c (f + 8 + 1)) p q) (mayF (lenG c (f + 1) v) (c 5 p.toNat) (saidL (stR c 4) v nw 0) v) (mayF (lenG c (f + 1) w) (c 5 q.toNat) (saidL (stR c 4) w nw 0) w) v w (c 4 4) c (putR (pushF c fi cn) 4 (playG c f n p v q w (stR c 4)))) := by
  obtain ⟨f0, fs, ff0, ff1, hg, hf2⟩ := fK hf
  obtain ⟨g0, gs, gs1, gs2, gs3, gs4, gs5, gs6, gf0, gf1, gf2, gf3, gf4, gf5⟩ := gK hg
  obtain ⟨s0, ss, ss1, ss2, ss3, ss4, sf0, sf1, sf2, sf3⟩ := sK hf2
  have hn10 := hsv.2.1
  refine CC.of (by decide +kernel) (leb rfl) (fun hok => ?_)
  have ep : ∀ x, x < 7 ∨ 68 < x → pushF c fi cn x = c x := fun x hx => pushF_row hx
  have hpl : opF n (c (f + 8 + 1)) p q ≠ 0 → c 4 4 ≤ 90000 → RW mX8_play 3 (pushF c fi cn) [vr 4, vr f, vi p, vi v, vi q, vi w] (ropeR (c 4 3) (wayG c f p v q w) - c 4 3) (putR (pushF c fi cn) 4 (playG c f n p v q w (stR c 4))) := fun hop hr9 => by
    obtain ⟨a1, a2, a3⟩ := opF_in hop
    have h := c_play2 (pushF c fi cn) hf (GV_congr (ep _ (by omega)) (ep _ (by omega)) (ep _ (by omega)) hgv) (SV_congr (ep _ (by omega)) (ep _ (by omega)) (ep _ (by omega)) (ep _ (by omega)) (ep _ (by omega)) hsv) (by rw [stR_pushF, ep _ (by omega)]; exact hR) p v q w ⟨a1.1, a1.2.1⟩ ⟨a2.1, a2.2.1⟩ a3 (by rw [stR_pushF]; show c 4 4 ≤ 99999; omega)
    rw [stR_pushF] at h
    unfold playG wayG sylG at *
    rw [ep 4 (by omega), ep (f + 1) (by omega), ep (f + 8 + 3) (by omega), ep (f + 8 + 2) (by omega), ep (f + 1 + 1) (by omega), ep (f + 1 + 2) (by omega), ep (f + 1 + 3) (by omega)] at h
    exact h
  unfold rndF rndC UNK NOTN FUL
  refine T_aloadn dX10_round_0 rfl rfl ?_
  refine T_iloadn dX10_round_1 rfl rfl ?_
  refine T_iloadn dX10_round_2 rfl rfl ?_
  refine TT_Vi dX10_round_3 (c_areOpponents c hf hh hsv p q) kX10_182 (by decide) (by first | decide | omega) (by first | assumption | rfl) rfl (leb rfl) ?_
  refine T_if_ne (tgt := 12) dX10_round_6 rfl (fun b6 => ?_) (fun b6 => ?_)
  · refine T_aloadn dX10_round_12 rfl rfl ?_
    refine T_iloadn dX10_round_13 rfl rfl ?_
    refine T_iloadn dX10_round_14 rfl rfl ?_
    refine TT_Vi dX10_round_15 (c_maySay c hf hh hgv nw hw h40 p v (by have := opF_in b6; omega)) kX10_186 (by decide) (by first | decide | omega) (by first | assumption | rfl) rfl (leb rfl) ?_
    refine T_if_eq (tgt := 42) dX10_round_18 rfl (fun b18 => ?_) (fun b18 => ?_)
    · refine T_ldc dX10_round_42 cX10_189 (inr rfl) ?_
      refine TT_ri dX10_round_44 trivial ?_
      have hx : mayF (lenG c (f + 1) v) (c 5 p.toNat) (saidL (stR c 4) v nw 0) v = 0 ∨ mayF (lenG c (f + 1) w) (c 5 q.toNat) (saidL (stR c 4) w nw 0) w = 0 ∨ (v = w ∧ v ≠ -1) := by first | exact Or.inl b18 | exact Or.inr (Or.inl b28) | exact Or.inr (Or.inr ⟨b34, b39⟩)
      exact ⟨by rw [if_neg b6, if_pos hx], by rw [if_neg b6, if_pos hx]⟩
    · refine T_aloadn dX10_round_21 rfl rfl ?_
      refine T_iloadn dX10_round_22 rfl rfl ?_
      refine T_iload dX10_round_23 rfl ?_
      refine TT_Vi dX10_round_25 (c_maySay c hf hh hgv nw hw h40 q w (by have := opF_in b6; omega)) kX10_186 (by decide) (by first | decide | omega) (by first | assumption | rfl) rfl (leb rfl) ?_
      refine T_if_eq (tgt := 42) dX10_round_28 rfl (fun b28 => ?_) (fun b28 => ?_)
      · refine T_ldc dX10_round_42 cX10_189 (inr rfl) ?_
        refine TT_ri dX10_round_44 trivial ?_
        have hx : mayF (lenG c (f + 1) v) (c 5 p.toNat) (saidL (stR c 4) v nw 0) v = 0 ∨ mayF (lenG c (f + 1) w) (c 5 q.toNat) (saidL (stR c 4) w nw 0) w = 0 ∨ (v = w ∧ v ≠ -1) := by first | exact Or.inl b18 | exact Or.inr (Or.inl b28) | exact Or.inr (Or.inr ⟨b34, b39⟩)
        exact ⟨by rw [if_neg b6, if_pos hx], by rw [if_neg b6, if_pos hx]⟩
      · refine T_iloadn dX10_round_31 rfl rfl ?_
        refine T_iload dX10_round_32 rfl ?_
        refine T_icmp_ne (tgt := 45) dX10_round_34 rfl (fun b34 => ?_) (fun b34 => ?_)
        · refine T_aloadn dX10_round_45 rfl rfl ?_
          refine T_getfin dX10_round_46 fX10_19 (by first | assumption | rfl) (by first | decide | omega) rfl (by first | assumption | rfl) ?_
          first | refine T_getv dX10_round_49 fX10_148 (by first | assumption | rfl) (by first | decide | omega) rfl (by assumption) ?_ | refine T_geti dX10_round_49 fX10_148 (by first | assumption | rfl) (by first | decide | omega) rfl ?_
          refine T_ldc dX10_round_52 cX10_190 (inr rfl) ?_
          refine T_icmp_le (tgt := 60) dX10_round_54 rfl (fun b54 => ?_) (fun b54 => ?_)
          · refine T_aloadn dX10_round_60 rfl rfl ?_
            refine T_getfin dX10_round_61 fX10_26 (by first | assumption | rfl) (by first | decide | omega) rfl (by first | assumption | rfl) ?_
            refine T_aloadn dX10_round_64 rfl rfl ?_
            refine T_getfin dX10_round_65 fX10_19 (by first | assumption | rfl) (by first | decide | omega) rfl (by first | assumption | rfl) ?_
            refine TT_Vv dX10_round_68 (c_push c fi cn h1 h2 hfi hcn) kX10_191 (by decide) (by first | decide | omega) (by first | assumption | rfl) rfl (leb rfl) ?_
            refine T_aloadn dX10_round_71 rfl rfl ?_
            refine T_getfin dX10_round_72 fX10_19 (by first | assumption | rfl) (by first | decide | omega) rfl (by first | assumption | rfl) ?_
            have hh2 : pushF c fi cn 1 10 = (f : Int) := by rw [ep 1 (by omega)]; exact hh
            refine T_aloadn dX10_round_75 rfl rfl ?_
            refine T_getr dX10_round_76 fX10_70 (by first | assumption | rfl) (by first | decide | omega) rfl hh2 ?_
            refine T_iloadn dX10_round_79 rfl rfl ?_
            refine T_iloadn dX10_round_80 rfl rfl ?_
            refine T_iloadn dX10_round_81 rfl rfl ?_
            refine T_iload dX10_round_82 rfl ?_
            refine TT_Vw dX10_round_84 (hpl b6 (by omega)) kX10_195 (by decide) (by first | decide | omega) (by first | assumption | rfl) rfl (leb rfl) ?_
            refine TT_ri dX10_round_87 trivial ?_
            have hx : ¬ (mayF (lenG c (f + 1) v) (c 5 p.toNat) (saidL (stR c 4) v nw 0) v = 0 ∨ mayF (lenG c (f + 1) w) (c 5 q.toNat) (saidL (stR c 4) w nw 0) w = 0 ∨ (v = w ∧ v ≠ -1)) := by intro z; rcases z with z | z | z; exact b18 z; exact b28 z; first | exact b34 z.1 | exact z.2 b39
            exact ⟨by rw [if_neg b6, if_neg hx, if_neg (by omega)], by rw [if_neg b6, if_neg hx, if_neg (by omega)]⟩
          · refine T_ldc dX10_round_57 cX10_83 (inr rfl) ?_
            refine TT_ri dX10_round_59 trivial ?_
            have hx : ¬ (mayF (lenG c (f + 1) v) (c 5 p.toNat) (saidL (stR c 4) v nw 0) v = 0 ∨ mayF (lenG c (f + 1) w) (c 5 q.toNat) (saidL (stR c 4) w nw 0) w = 0 ∨ (v = w ∧ v ≠ -1)) := by intro z; rcases z with z | z | z; exact b18 z; exact b28 z; first | exact b34 z.1 | exact z.2 b39
            exact ⟨by rw [if_neg b6, if_neg hx, if_pos (by omega)], by rw [if_neg b6, if_neg hx, if_pos (by omega)]⟩
        · refine T_iloadn dX10_round_37 rfl rfl ?_
          refine T_iconst dX10_round_38 (inr rfl) ?_
          refine T_icmp_eq (tgt := 45) dX10_round_39 rfl (fun b39 => ?_) (fun b39 => ?_)
          · refine T_aloadn dX10_round_45 rfl rfl ?_
            refine T_getfin dX10_round_46 fX10_19 (by first | assumption | rfl) (by first | decide | omega) rfl (by first | assumption | rfl) ?_
            first | refine T_getv dX10_round_49 fX10_148 (by first | assumption | rfl) (by first | decide | omega) rfl (by assumption) ?_ | refine T_geti dX10_round_49 fX10_148 (by first | assumption | rfl) (by first | decide | omega) rfl ?_
            refine T_ldc dX10_round_52 cX10_190 (inr rfl) ?_
            refine T_icmp_le (tgt := 60) dX10_round_54 rfl (fun b54 => ?_) (fun b54 => ?_)
            · refine T_aloadn dX10_round_60 rfl rfl ?_
              refine T_getfin dX10_round_61 fX10_26 (by first | assumption | rfl) (by first | decide | omega) rfl (by first | assumption | rfl) ?_
              refine T_aloadn dX10_round_64 rfl rfl ?_
              refine T_getfin dX10_round_65 fX10_19 (by first | assumption | rfl) (by first | decide | omega) rfl (by first | assumption | rfl) ?_
              refine TT_Vv dX10_round_68 (c_push c fi cn h1 h2 hfi hcn) kX10_191 (by decide) (by first | decide | omega) (by first | assumption | rfl) rfl (leb rfl) ?_
              refine T_aloadn dX10_round_71 rfl rfl ?_
              refine T_getfin dX10_round_72 fX10_19 (by first | assumption | rfl) (by first | decide | omega) rfl (by first | assumption | rfl) ?_
              have hh2 : pushF c fi cn 1 10 = (f : Int) := by rw [ep 1 (by omega)]; exact hh
              refine T_aloadn dX10_round_75 rfl rfl ?_
              refine T_getr dX10_round_76 fX10_70 (by first | assumption | rfl) (by first | decide | omega) rfl hh2 ?_
              refine T_iloadn dX10_round_79 rfl rfl ?_
              refine T_iloadn dX10_round_80 rfl rfl ?_
              refine T_iloadn dX10_round_81 rfl rfl ?_
              refine T_iload dX10_round_82 rfl ?_
              refine TT_Vw dX10_round_84 (hpl b6 (by omega)) kX10_195 (by decide) (by first | decide | omega) (by first | assumption | rfl) rfl (leb rfl) ?_
              refine TT_ri dX10_round_87 trivial ?_
              have hx : ¬ (mayF (lenG c (f + 1) v) (c 5 p.toNat) (saidL (stR c 4) v nw 0) v = 0 ∨ mayF (lenG c (f + 1) w) (c 5 q.toNat) (saidL (stR c 4) w nw 0) w = 0 ∨ (v = w ∧ v ≠ -1)) := by intro z; rcases z with z | z | z; exact b18 z; exact b28 z; first | exact b34 z.1 | exact z.2 b39
              exact ⟨by rw [if_neg b6, if_neg hx, if_neg (by omega)], by rw [if_neg b6, if_neg hx, if_neg (by omega)]⟩
            · refine T_ldc dX10_round_57 cX10_83 (inr rfl) ?_
              refine TT_ri dX10_round_59 trivial ?_
              have hx : ¬ (mayF (lenG c (f + 1) v) (c 5 p.toNat) (saidL (stR c 4) v nw 0) v = 0 ∨ mayF (lenG c (f + 1) w) (c 5 q.toNat) (saidL (stR c 4) w nw 0) w = 0 ∨ (v = w ∧ v ≠ -1)) := by intro z; rcases z with z | z | z; exact b18 z; exact b28 z; first | exact b34 z.1 | exact z.2 b39
              exact ⟨by rw [if_neg b6, if_neg hx, if_pos (by omega)], by rw [if_neg b6, if_neg hx, if_pos (by omega)]⟩
          · refine T_ldc dX10_round_42 cX10_189 (inr rfl) ?_
            refine TT_ri dX10_round_44 trivial ?_
            have hx : mayF (lenG c (f + 1) v) (c 5 p.toNat) (saidL (stR c 4) v nw 0) v = 0 ∨ mayF (lenG c (f + 1) w) (c 5 q.toNat) (saidL (stR c 4) w nw 0) w = 0 ∨ (v = w ∧ v ≠ -1) := by first | exact Or.inl b18 | exact Or.inr (Or.inl b28) | exact Or.inr (Or.inr ⟨b34, b39⟩)
            exact ⟨by rw [if_neg b6, if_pos hx], by rw [if_neg b6, if_pos hx]⟩
  · refine T_ldc dX10_round_9 cX10_155 (inr rfl) ?_
    refine TT_ri dX10_round_11 trivial ?_
    exact ⟨by rw [if_pos b6], by rw [if_pos b6]⟩
