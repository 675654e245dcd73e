/-! the class: silence, spoke -/
def gainF (mud : Int) (wt : Nat → Int) (a b p q s ch : Int) : Int := if s = 0 then -wayF mud wt p (band ch 1 * a) q (band (ch / 2 ^ (1 : Int).toNat) 1 * b) - band ch 1 else wayF mud wt p (band ch 1 * a) q (band (ch / 2 ^ (1 : Int).toNat) 1 * b) - band (ch / 2 ^ (1 : Int).toNat) 1
theorem bit01 {z : Int} (h : InR z) : band z 1 = 0 ∨ band z 1 = 1 := by rw [band1 h]; omega
theorem lwF_bd {lb : Nat → Int} (hl : ∀ k, k < 42 → 0 ≤ lb k ∧ lb k ≤ 41) (b : Int) : 0 ≤ lwF lb b ∧ lwF lb b ≤ 41 := by
  unfold lwF
  split
  · exact hl _ (by unfold imin; split <;> omega)
  · omega
set_option maxHeartbeats 4000000 in
set_option maxRecDepth 100000 in
theorem c_gainOf (c : HC) {f : Nat} (hf : f = 88 ∨ f = 101) (hh : c 1 10 = (f : Int)) {n : Nat} (hgv : GV c (f + 1)) (hsv : SV c (f + 8) n) (hl : ∀ k, k < 42 → 0 ≤ c (f + 1 + 6) k ∧ c (f + 1 + 6) k ≤ 41) (s ch p q : Int) (hch : 0 ≤ ch ∧ ch ≤ 3) (hp : 0 ≤ p ∧ p < n) (hq : 0 ≤ q ∧ q < n) :
    RO mX10_gainOf 3 c [vr 1, vi s, vi ch, vi p, vi q] (gainF (c (f + 1) 7) (c (f + 8 + 3)) (lwF (c (f + 1 + 6)) (c 5 p.toNat)) (lwF (c (f + 1 + 6)) (c 5 q.toNat)) p q s ch) := by
  obtain ⟨f0, fs, ff0, ff1, hg, hf2⟩ := fK hf
  obtain ⟨g0, gs, gs1, gs2, gs3, gs4, gs5, gs6, gf0, gf1, gf2, gf3, gf4, gf5⟩ := gK hg
  obtain ⟨s0, ss, ss1, ss2, ss3, ss4, sf0, sf1, sf2, sf3⟩ := sK hf2
  obtain ⟨hn, hn10, hsp⟩ := id hsv
  refine CC.of (by decide +kernel) (leb rfl) (fun hok => ?_)
  have ha := lwF_bd hl (c 5 p.toNat)
  have hb := lwF_bd hl (c 5 q.toNat)
  have b1 := bit01 (z := ch) (by unfold InR; omega)
  have e1 : (1 : Int).toNat = 1 := rfl
  have b2 := bit01 (z := ch / 2 ^ (1 : Int).toNat) (by unfold InR; rw [e1]; omega)
  unfold gainF
  refine T_iloadn dX10_gainOf_0 rfl rfl ?_
  refine T_iconst dX10_gainOf_1 (inr rfl) ?_
  refine T_iand dX10_gainOf_2 ?_
  refine T_istore dX10_gainOf_3 (by decide) rfl ?_
  refine T_iloadn dX10_gainOf_5 rfl rfl ?_
  refine T_iconst dX10_gainOf_6 (inr rfl) ?_
  refine T_ishr dX10_gainOf_7 (by omega) (by omega) ?_
  refine T_iconst dX10_gainOf_8 (inr rfl) ?_
  refine T_iand dX10_gainOf_9 ?_
  refine T_istore dX10_gainOf_10 (by decide) rfl ?_
  refine T_iload dX10_gainOf_12 rfl ?_
  refine T_aloadn dX10_gainOf_14 rfl rfl ?_
  refine T_getr dX10_gainOf_15 fX10_70 (by first | assumption | rfl) (by first | decide | omega) rfl (by first | assumption | rfl) ?_
  refine T_getfin dX10_gainOf_18 fX10_95 (by first | assumption | rfl) (by first | decide | omega) rfl (by first | assumption | rfl) ?_
  refine T_aloadn dX10_gainOf_21 rfl rfl ?_
  refine T_getfin dX10_gainOf_22 fX10_19 (by first | assumption | rfl) (by first | decide | omega) rfl (by first | assumption | rfl) ?_
  refine T_getfin dX10_gainOf_25 fX10_168 (by first | assumption | rfl) (by first | decide | omega) rfl (by first | assumption | rfl) ?_
  refine T_iloadn dX10_gainOf_28 rfl rfl ?_
  refine T_iald (j := p.toNat) dX10_gainOf_29 (by first | assumption | rfl) (by first | decide | omega) (by omega) (by omega) ?_
  refine TT_Vi dX10_gainOf_30 (c_longestWithin c hg _) kX10_215 (by decide) (by first | decide | omega) (by first | assumption | rfl) rfl (leb rfl) ?_
  generalize lwF (c (f + 1 + 6)) (c 5 p.toNat) = a at *
  have m1 : 0 ≤ band ch 1 * a ∧ band ch 1 * a ≤ 41 := by rcases b1 with h | h <;> rw [h] <;> omega
  first | refine T_imulN dX10_gainOf_33 (by omega) ?_ | refine T_imul dX10_gainOf_33 ?_
  refine T_istore dX10_gainOf_34 (by decide) rfl ?_
  refine T_iload dX10_gainOf_36 rfl ?_
  refine T_aloadn dX10_gainOf_38 rfl rfl ?_
  refine T_getr dX10_gainOf_39 fX10_70 (by first | assumption | rfl) (by first | decide | omega) rfl (by first | assumption | rfl) ?_
  refine T_getfin dX10_gainOf_42 fX10_95 (by first | assumption | rfl) (by first | decide | omega) rfl (by first | assumption | rfl) ?_
  refine T_aloadn dX10_gainOf_45 rfl rfl ?_
  refine T_getfin dX10_gainOf_46 fX10_19 (by first | assumption | rfl) (by first | decide | omega) rfl (by first | assumption | rfl) ?_
  refine T_getfin dX10_gainOf_49 fX10_168 (by first | assumption | rfl) (by first | decide | omega) rfl (by first | assumption | rfl) ?_
  refine T_iload dX10_gainOf_52 rfl ?_
  refine T_iald (j := q.toNat) dX10_gainOf_54 (by first | assumption | rfl) (by first | decide | omega) (by omega) (by omega) ?_
  refine TT_Vi dX10_gainOf_55 (c_longestWithin c hg _) kX10_215 (by decide) (by first | decide | omega) (by first | assumption | rfl) rfl (leb rfl) ?_
  generalize lwF (c (f + 1 + 6)) (c 5 q.toNat) = b at *
  have m2 : 0 ≤ band (ch / 2 ^ (1 : Int).toNat) 1 * b ∧ band (ch / 2 ^ (1 : Int).toNat) 1 * b ≤ 41 := by rcases b2 with h | h <;> rw [h] <;> omega
  first | refine T_imulN dX10_gainOf_58 (by omega) ?_ | refine T_imul dX10_gainOf_58 ?_
  refine T_istore dX10_gainOf_59 (by decide) rfl ?_
  refine T_aloadn dX10_gainOf_61 rfl rfl ?_
  refine T_getr dX10_gainOf_62 fX10_70 (by first | assumption | rfl) (by first | decide | omega) rfl (by first | assumption | rfl) ?_
  refine T_iloadn dX10_gainOf_65 rfl rfl ?_
  refine T_iload dX10_gainOf_66 rfl ?_
  refine T_iload dX10_gainOf_68 rfl ?_
  refine T_iload dX10_gainOf_70 rfl ?_
  refine TT_Vi dX10_gainOf_72 (c_wayOf c hf p _ q _ (by omega) (by omega) (by omega) (by omega)) kX10_291 (by decide) (by first | decide | omega) (by first | assumption | rfl) rfl (leb rfl) ?_
  have hw := wayF_sm (mud := c (f + 1) 7) (wt := c (f + 8 + 3)) (p := p) (q := q) (a := band ch 1 * a) (b := band (ch / 2 ^ (1 : Int).toNat) 1 * b) hgv.2.1 (by omega) (by omega) (hsp p.toNat (by omega)).2.2.1 (hsp q.toNat (by omega)).2.2.1
  refine T_istore dX10_gainOf_75 (by decide) rfl ?_
  refine T_iloadn dX10_gainOf_77 rfl rfl ?_
  refine T_if_ne (tgt := 90) dX10_gainOf_78 rfl (fun b78 => ?_) (fun b78 => ?_)
  · refine T_iload dX10_gainOf_90 rfl ?_
    refine T_iload dX10_gainOf_92 rfl ?_
    first | refine T_isubN dX10_gainOf_94 (by omega) ?_ | refine T_isub dX10_gainOf_94 ?_
    refine TT_ri dX10_gainOf_95 trivial ?_
    exact ro_q (by first | rw [if_pos b78] | rw [if_neg b78])
  · refine T_iload dX10_gainOf_81 rfl ?_
    first | refine T_inegN dX10_gainOf_83 (by omega) ?_ | refine T_ineg dX10_gainOf_83 ?_
    refine T_iload dX10_gainOf_84 rfl ?_
    first | refine T_isubN dX10_gainOf_86 (by omega) ?_ | refine T_isub dX10_gainOf_86 ?_
    refine T_goto (tgt := 95) dX10_gainOf_87 rfl ?_
    refine TT_ri dX10_gainOf_95 trivial ?_
    exact ro_q (by first | rw [if_pos b78] | rw [if_neg b78])
def silU (gn : Int → Int → Int) : Nat → Int
  | 0 => 0
  | k + 1 => if gn 0 (bxor (k : Int) 1) ≤ gn 0 (k : Int) ∧ gn 1 (bxor (k : Int) 2) ≤ gn 1 (k : Int) then bor (silU gn k) (wr (1 * 2 ^ ((k : Int)).toNat)) else silU gn k
theorem xor_bd : ∀ k : Nat, k < 4 → (0 ≤ bxor (k : Int) 1 ∧ bxor (k : Int) 1 ≤ 3) ∧ (0 ≤ bxor (k : Int) 2 ∧ bxor (k : Int) 2 ≤ 3) := by decide +kernel
def silF (op : Int) (gn : Int → Int → Int) : Int := if op = 0 then UNK else silU gn 4
set_option maxHeartbeats 4000000 in
set_option maxRecDepth 100000 in
theorem l_silence (c : HC) {f : Nat} (hf : f = 88 ∨ f = 101) (hh : c 1 10 = (f : Int)) {n : Nat} (hgv : GV c (f + 1)) (hsv : SV c (f + 8) n) (hl : ∀ k, k < 42 → 0 ≤ c (f + 1 + 6) k ∧ c (f + 1 + 6) k ≤ 41) (p q : Int) (hp : 0 ≤ p ∧ p < n) (hq : 0 ≤ q ∧ q < n) : ∀ (k i : Nat), i + k = 4 →
    TT mX10_silence 4 17 [(0, vr 1), (1, vi p), (2, vi q), (3, vi (silU (gainF (c (f + 1) 7) (c (f + 8 + 3)) (lwF (c (f + 1 + 6)) (c 5 p.toNat)) (lwF (c (f + 1 + 6)) (c 5 q.toNat)) p q) i)), (4, vi (i : Int))] [] c (fun v c1 => v = some (vi (silU (gainF (c (f + 1) 7) (c (f + 8 + 3)) (lwF (c (f + 1 + 6)) (c 5 p.toNat)) (lwF (c (f + 1 + 6)) (c 5 q.toNat)) p q) 4)) ∧ c1 = c) := by
  obtain ⟨f0, fs, ff0, ff1, hg, hf2⟩ := fK hf
  obtain ⟨g0, gs, gs1, gs2, gs3, gs4, gs5, gs6, gf0, gf1, gf2, gf3, gf4, gf5⟩ := gK hg
  obtain ⟨s0, ss, ss1, ss2, ss3, ss4, sf0, sf1, sf2, sf3⟩ := sK hf2
  have hgn := fun s ch h => c_gainOf c hf hh hgv hsv hl s ch p q h hp hq
  generalize (gainF (c (f + 1) 7) (c (f + 8 + 3)) (lwF (c (f + 1 + 6)) (c 5 p.toNat)) (lwF (c (f + 1 + 6)) (c 5 q.toNat)) p q) = gn at *
  intro k
  induction k with
  | zero =>
    intro i hk
    have e : i = 4 := by omega
    subst e
    refine T_iload dX10_silence_17 rfl ?_
    refine T_iconst dX10_silence_19 (inr rfl) ?_
    refine T_icmp_ge (tgt := 106) dX10_silence_20 rfl (fun b20 => ?_) (fun b20 => absurd b20 (by omega))
    refine T_iloadn dX10_silence_106 rfl rfl ?_
    refine TT_ri dX10_silence_107 trivial ?_
    exact ro_q rfl
  | succ k ih =>
    intro i hk
    have hx := xor_bd i (by omega)
    have h := ih (i + 1) (by omega)
    refine T_iload dX10_silence_17 rfl ?_
    refine T_iconst dX10_silence_19 (inr rfl) ?_
    refine T_icmp_ge (tgt := 106) dX10_silence_20 rfl (fun b20 => absurd b20 (by omega)) (fun b20 => ?_)
    refine T_aloadn dX10_silence_23 rfl rfl ?_
    refine T_iconst dX10_silence_24 (inr rfl) ?_
    refine T_iload dX10_silence_25 rfl ?_
    refine T_iloadn dX10_silence_27 rfl rfl ?_
    refine T_iloadn dX10_silence_28 rfl rfl ?_
    refine TT_Vi dX10_silence_29 (hgn 0 _ (by omega)) kX10_253 (by decide) (by first | decide | omega) (by first | assumption | rfl) rfl (leb rfl) ?_
    refine T_aloadn dX10_silence_32 rfl rfl ?_
    refine T_iconst dX10_silence_33 (inr rfl) ?_
    refine T_iload dX10_silence_34 rfl ?_
    refine T_iconst dX10_silence_36 (inr rfl) ?_
    refine T_ixor dX10_silence_37 ?_
    refine T_iloadn dX10_silence_38 rfl rfl ?_
    refine T_iloadn dX10_silence_39 rfl rfl ?_
    refine TT_Vi dX10_silence_40 (hgn 0 _ hx.1) kX10_253 (by decide) (by first | decide | omega) (by first | assumption | rfl) rfl (leb rfl) ?_
    refine T_icmp_lt (tgt := 50) dX10_silence_43 rfl (fun b43 => ?_) (fun b43 => ?_)
    · refine T_iconst dX10_silence_50 (inr rfl) ?_
      refine T_istore dX10_silence_51 (by decide) rfl ?_
      refine T_aloadn dX10_silence_53 rfl rfl ?_
      refine T_iconst dX10_silence_54 (inr rfl) ?_
      refine T_iload dX10_silence_55 rfl ?_
      refine T_iloadn dX10_silence_57 rfl rfl ?_
      refine T_iloadn dX10_silence_58 rfl rfl ?_
      refine TT_Vi dX10_silence_59 (hgn 1 _ (by omega)) kX10_253 (by decide) (by first | decide | omega) (by first | assumption | rfl) rfl (leb rfl) ?_
      refine T_aloadn dX10_silence_62 rfl rfl ?_
      refine T_iconst dX10_silence_63 (inr rfl) ?_
      refine T_iload dX10_silence_64 rfl ?_
      refine T_iconst dX10_silence_66 (inr rfl) ?_
      refine T_ixor dX10_silence_67 ?_
      refine T_iloadn dX10_silence_68 rfl rfl ?_
      refine T_iloadn dX10_silence_69 rfl rfl ?_
      refine TT_Vi dX10_silence_70 (hgn 1 _ hx.2) kX10_253 (by decide) (by first | decide | omega) (by first | assumption | rfl) rfl (leb rfl) ?_
      refine T_icmp_lt (tgt := 80) dX10_silence_73 rfl (fun b73 => ?_) (fun b73 => ?_)
      · refine T_iconst dX10_silence_80 (inr rfl) ?_
        refine T_istore dX10_silence_81 (by decide) rfl ?_
        refine T_iload dX10_silence_83 rfl ?_
        refine T_if_eq (tgt := 100) dX10_silence_85 rfl (fun b85 => ?_) (fun b85 => ?_)
        · refine T_iincN dX10_silence_100 rfl (by decide) rfl (by omega) ?_
          refine T_goto (tgt := 17) dX10_silence_103 rfl ?_
          refine T_keep [0, 1, 2, 3, 4] ?_
          first
            | (exfalso; omega)
            | (rw [silU.eq_2, if_pos ⟨by omega, by omega⟩] at h; exact h)
            | (rw [silU.eq_2, if_neg (by omega)] at h; exact h)
        · refine T_iload dX10_silence_88 rfl ?_
          refine T_if_eq (tgt := 100) dX10_silence_90 rfl (fun b90 => ?_) (fun b90 => ?_)
          · refine T_iincN dX10_silence_100 rfl (by decide) rfl (by omega) ?_
            refine T_goto (tgt := 17) dX10_silence_103 rfl ?_
            refine T_keep [0, 1, 2, 3, 4] ?_
            first
              | (exfalso; omega)
              | (rw [silU.eq_2, if_pos ⟨by omega, by omega⟩] at h; exact h)
              | (rw [silU.eq_2, if_neg (by omega)] at h; exact h)
          · refine T_iloadn dX10_silence_93 rfl rfl ?_
            refine T_iconst dX10_silence_94 (inr rfl) ?_
            refine T_iload dX10_silence_95 rfl ?_
            refine T_ishl dX10_silence_97 (by omega) (by omega) ?_
            refine T_ior dX10_silence_98 ?_
            refine T_istoren dX10_silence_99 rfl (by decide) rfl ?_
            refine T_iincN dX10_silence_100 rfl (by decide) rfl (by omega) ?_
            refine T_goto (tgt := 17) dX10_silence_103 rfl ?_
            refine T_keep [0, 1, 2, 3, 4] ?_
            first
              | (exfalso; omega)
              | (rw [silU.eq_2, if_pos ⟨by omega, by omega⟩] at h; exact h)
              | (rw [silU.eq_2, if_neg (by omega)] at h; exact h)
      · refine T_iconst dX10_silence_76 (inr rfl) ?_
        refine T_goto (tgt := 81) dX10_silence_77 rfl ?_
        refine T_istore dX10_silence_81 (by decide) rfl ?_
        refine T_iload dX10_silence_83 rfl ?_
        refine T_if_eq (tgt := 100) dX10_silence_85 rfl (fun b85 => ?_) (fun b85 => ?_)
        · refine T_iincN dX10_silence_100 rfl (by decide) rfl (by omega) ?_
          refine T_goto (tgt := 17) dX10_silence_103 rfl ?_
          refine T_keep [0, 1, 2, 3, 4] ?_
          first
            | (exfalso; omega)
            | (rw [silU.eq_2, if_pos ⟨by omega, by omega⟩] at h; exact h)
            | (rw [silU.eq_2, if_neg (by omega)] at h; exact h)
        · refine T_iload dX10_silence_88 rfl ?_
          refine T_if_eq (tgt := 100) dX10_silence_90 rfl (fun b90 => ?_) (fun b90 => ?_)
          · refine T_iincN dX10_silence_100 rfl (by decide) rfl (by omega) ?_
            refine T_goto (tgt := 17) dX10_silence_103 rfl ?_
            refine T_keep [0, 1, 2, 3, 4] ?_
            first
              | (exfalso; omega)
              | (rw [silU.eq_2, if_pos ⟨by omega, by omega⟩] at h; exact h)
              | (rw [silU.eq_2, if_neg (by omega)] at h; exact h)
          · refine T_iloadn dX10_silence_93 rfl rfl ?_
            refine T_iconst dX10_silence_94 (inr rfl) ?_
            refine T_iload dX10_silence_95 rfl ?_
            refine T_ishl dX10_silence_97 (by omega) (by omega) ?_
            refine T_ior dX10_silence_98 ?_
            refine T_istoren dX10_silence_99 rfl (by decide) rfl ?_
            refine T_iincN dX10_silence_100 rfl (by decide) rfl (by omega) ?_
            refine T_goto (tgt := 17) dX10_silence_103 rfl ?_
            refine T_keep [0, 1, 2, 3, 4] ?_
            first
              | (exfalso; omega)
              | (rw [silU.eq_2, if_pos ⟨by omega, by omega⟩] at h; exact h)
              | (rw [silU.eq_2, if_neg (by omega)] at h; exact h)
    · refine T_iconst dX10_silence_46 (inr rfl) ?_
      refine T_goto (tgt := 51) dX10_silence_47 rfl ?_
      refine T_istore dX10_silence_51 (by decide) rfl ?_
      refine T_aloadn dX10_silence_53 rfl rfl ?_
      refine T_iconst dX10_silence_54 (inr rfl) ?_
      refine T_iload dX10_silence_55 rfl ?_
      refine T_iloadn dX10_silence_57 rfl rfl ?_
      refine T_iloadn dX10_silence_58 rfl rfl ?_
      refine TT_Vi dX10_silence_59 (hgn 1 _ (by omega)) kX10_253 (by decide) (by first | decide | omega) (by first | assumption | rfl) rfl (leb rfl) ?_
      refine T_aloadn dX10_silence_62 rfl rfl ?_
      refine T_iconst dX10_silence_63 (inr rfl) ?_
      refine T_iload dX10_silence_64 rfl ?_
      refine T_iconst dX10_silence_66 (inr rfl) ?_
      refine T_ixor dX10_silence_67 ?_
      refine T_iloadn dX10_silence_68 rfl rfl ?_
      refine T_iloadn dX10_silence_69 rfl rfl ?_
      refine TT_Vi dX10_silence_70 (hgn 1 _ hx.2) kX10_253 (by decide) (by first | decide | omega) (by first | assumption | rfl) rfl (leb rfl) ?_
      refine T_icmp_lt (tgt := 80) dX10_silence_73 rfl (fun b73 => ?_) (fun b73 => ?_)
      · refine T_iconst dX10_silence_80 (inr rfl) ?_
        refine T_istore dX10_silence_81 (by decide) rfl ?_
        refine T_iload dX10_silence_83 rfl ?_
        refine T_if_eq (tgt := 100) dX10_silence_85 rfl (fun b85 => ?_) (fun b85 => ?_)
        · refine T_iincN dX10_silence_100 rfl (by decide) rfl (by omega) ?_
          refine T_goto (tgt := 17) dX10_silence_103 rfl ?_
          refine T_keep [0, 1, 2, 3, 4] ?_
          first
            | (exfalso; omega)
            | (rw [silU.eq_2, if_pos ⟨by omega, by omega⟩] at h; exact h)
            | (rw [silU.eq_2, if_neg (by omega)] at h; exact h)
        · refine T_iload dX10_silence_88 rfl ?_
          refine T_if_eq (tgt := 100) dX10_silence_90 rfl (fun b90 => ?_) (fun b90 => ?_)
          · refine T_iincN dX10_silence_100 rfl (by decide) rfl (by omega) ?_
            refine T_goto (tgt := 17) dX10_silence_103 rfl ?_
            refine T_keep [0, 1, 2, 3, 4] ?_
            first
              | (exfalso; omega)
              | (rw [silU.eq_2, if_pos ⟨by omega, by omega⟩] at h; exact h)
              | (rw [silU.eq_2, if_neg (by omega)] at h; exact h)
          · refine T_iloadn dX10_silence_93 rfl rfl ?_
            refine T_iconst dX10_silence_94 (inr rfl) ?_
            refine T_iload dX10_silence_95 rfl ?_
            refine T_ishl dX10_silence_97 (by omega) (by omega) ?_
            refine T_ior dX10_silence_98 ?_
            refine T_istoren dX10_silence_99 rfl (by decide) rfl ?_
            refine T_iincN dX10_silence_100 rfl (by decide) rfl (by omega) ?_
            refine T_goto (tgt := 17) dX10_silence_103 rfl ?_
            refine T_keep [0, 1, 2, 3, 4] ?_
            first
              | (exfalso; omega)
              | (rw [silU.eq_2, if_pos ⟨by omega, by omega⟩] at h; exact h)
              | (rw [silU.eq_2, if_neg (by omega)] at h; exact h)
      · refine T_iconst dX10_silence_76 (inr rfl) ?_
        refine T_goto (tgt := 81) dX10_silence_77 rfl ?_
        refine T_istore dX10_silence_81 (by decide) rfl ?_
        refine T_iload dX10_silence_83 rfl ?_
        refine T_if_eq (tgt := 100) dX10_silence_85 rfl (fun b85 => ?_) (fun b85 => ?_)
        · refine T_iincN dX10_silence_100 rfl (by decide) rfl (by omega) ?_
          refine T_goto (tgt := 17) dX10_silence_103 rfl ?_
          refine T_keep [0, 1, 2, 3, 4] ?_
          first
            | (exfalso; omega)
            | (rw [silU.eq_2, if_pos ⟨by omega, by omega⟩] at h; exact h)
            | (rw [silU.eq_2, if_neg (by omega)] at h; exact h)
        · refine T_iload dX10_silence_88 rfl ?_
          refine T_if_eq (tgt := 100) dX10_silence_90 rfl (fun b90 => ?_) (fun b90 => ?_)
          · refine T_iincN dX10_silence_100 rfl (by decide) rfl (by omega) ?_
            refine T_goto (tgt := 17) dX10_silence_103 rfl ?_
            refine T_keep [0, 1, 2, 3, 4] ?_
            first
              | (exfalso; omega)
              | (rw [silU.eq_2, if_pos ⟨by omega, by omega⟩] at h; exact h)
              | (rw [silU.eq_2, if_neg (by omega)] at h; exact h)
          · refine T_iloadn dX10_silence_93 rfl rfl ?_
            refine T_iconst dX10_silence_94 (inr rfl) ?_
            refine T_iload dX10_silence_95 rfl ?_
            refine T_ishl dX10_silence_97 (by omega) (by omega) ?_
            refine T_ior dX10_silence_98 ?_
            refine T_istoren dX10_silence_99 rfl (by decide) rfl ?_
            refine T_iincN dX10_silence_100 rfl (by decide) rfl (by omega) ?_
            refine T_goto (tgt := 17) dX10_silence_103 rfl ?_
            refine T_keep [0, 1, 2, 3, 4] ?_
            first
              | (exfalso; omega)
              | (rw [silU.eq_2, if_pos ⟨by omega, by omega⟩] at h; exact h)
              | (rw [silU.eq_2, if_neg (by omega)] at h; exact h)
set_option maxHeartbeats 4000000 in
set_option maxRecDepth 100000 in
theorem x_silence (c : HC) {f : Nat} (hf : f = 88 ∨ f = 101) (hh : c 1 10 = (f : Int)) {n : Nat} (hgv : GV c (f + 1)) (hsv : SV c (f + 8) n) (hl : ∀ k, k < 42 → 0 ≤ c (f + 1 + 6) k ∧ c (f + 1 + 6) k ≤ 41) (p q : Int) : RO mX10_silence 4 c [vr 1, vi p, vi q] (silF (opF n (c (f + 8 + 1)) p q) (gainF (c (f + 1) 7) (c (f + 8 + 3)) (lwF (c (f + 1 + 6)) (c 5 p.toNat)) (lwF (c (f + 1 + 6)) (c 5 q.toNat)) p q)) := by
  obtain ⟨f0, fs, ff0, ff1, hg, hf2⟩ := fK hf
  obtain ⟨g0, gs, gs1, gs2, gs3, gs4, gs5, gs6, gf0, gf1, gf2, gf3, gf4, gf5⟩ := gK hg
  obtain ⟨s0, ss, ss1, ss2, ss3, ss4, sf0, sf1, sf2, sf3⟩ := sK hf2
  refine CC.of (by decide +kernel) (leb rfl) (fun hok => ?_)
  unfold silF UNK
  refine T_aloadn dX10_silence_0 rfl rfl ?_
  refine T_iloadn dX10_silence_1 rfl rfl ?_
  refine T_iloadn dX10_silence_2 rfl rfl ?_
  refine TT_Vi dX10_silence_3 (c_areOpponents c hf hh hsv p q) kX10_182 (by decide) (by first | decide | omega) (by first | assumption | rfl) rfl (leb rfl) ?_
  refine T_if_ne (tgt := 12) dX10_silence_6 rfl (fun b6 => ?_) (fun b6 => ?_)
  · refine T_iconst dX10_silence_12 (inr rfl) ?_
    refine T_istoren dX10_silence_13 rfl (by decide) rfl ?_
    refine T_iconst dX10_silence_14 (inr rfl) ?_
    refine T_istore dX10_silence_15 (by decide) rfl ?_
    rw [if_neg b6]
    have ho := opF_in b6
    exact l_silence c hf hh hgv hsv hl p q (by omega) (by omega) 4 0 (by omega)
  · refine T_ldc dX10_silence_9 cX10_155 (inr rfl) ?_
    refine TT_ri dX10_silence_11 trivial ?_
    exact ro_q (by rw [if_pos b6])
def spQ (t : Nat → Nat → Int) (i : Int) (p : Nat) : Nat → Nat → Int → Int ⊕ Int
  | 0, _, fo => .inl fo
  | k + 1, q, fo => if t p q = 0 then spQ t i p k (q + 1) fo else if fo = i then .inr (10 * (p : Int) + q) else spQ t i p k (q + 1) (fo + 1)
def spP (t : Nat → Nat → Int) (i : Int) (n : Nat) : Nat → Nat → Int → Int
  | 0, _, fo => if i = -1 then fo else -1
  | k + 1, p, fo => match spQ t i p n 0 fo with
    | .inl fo2 => spP t i n k (p + 1) fo2
    | .inr r => r
def tC (n : Nat) (sd : Nat → Int) (mud : Int) (wt bt wo : Nat → Int) (d : Int) (p q : Nat) : Int := if opF n sd p q = 0 then 0 else cmF mud wt bt wo p q d
theorem spQ_bd (t : Nat → Nat → Int) (i : Int) (p : Nat) : ∀ (k q : Nat) (fo fo2 : Int), spQ t i p k q fo = .inl fo2 → fo ≤ fo2 ∧ fo2 ≤ fo + k
  | 0, q, fo, fo2, h => by
    unfold spQ at h
    cases h
    omega
  | k + 1, q, fo, fo2, h => by
    unfold spQ at h
    split at h
    · have := spQ_bd t i p k (q + 1) fo fo2 h
      omega
    · split at h
      · cases h
      · have := spQ_bd t i p k (q + 1) (fo + 1) fo2 h
        omega
set_option maxHeartbeats 4000000 in
set_option maxRecDepth 100000 in
theorem l_spokeQ (c : HC) {f : Nat} (hf : f = 88 ∨ f = 101) (hh : c 1 10 = (f : Int)) {n : Nat} (hsv : SV c (f + 8) n) (j i : Int) (hj : 0 ≤ j ∧ j < 8) (p : Nat) (hp : p < n) (Q : Option PV → HC → Prop) : ∀ (k q : Nat) (fo : Int), q + k = n → 0 ≤ fo → fo + k ≤ 1000 →
    (∀ fo2, spQ (tC n (c (f + 8 + 1)) (c (f + 1) 7) (c (f + 8 + 3)) (c (f + 8 + 2)) (c (f + 1 + 4)) (c 84 j.toNat)) i p k q fo = .inl fo2 → TT mX10_spoke 3 106 [(0, vr 1), (1, vi j), (2, vi i), (3, vi fo2), (4, vi (p : Int)), (5, vi (n : Int))] [] c Q) → (∀ r, spQ (tC n (c (f + 8 + 1)) (c (f + 1) 7) (c (f + 8 + 3)) (c (f + 8 + 2)) (c (f + 1 + 4)) (c 84 j.toNat)) i p k q fo = .inr r → Q (some (vi r)) c) →
    TT mX10_spoke 3 37 [(0, vr 1), (1, vi j), (2, vi i), (3, vi fo), (4, vi (p : Int)), (5, vi (q : Int))] [] c Q := by
  obtain ⟨f0, fs, ff0, ff1, hg, hf2⟩ := fK hf
  obtain ⟨g0, gs, gs1, gs2, gs3, gs4, gs5, gs6, gf0, gf1, gf2, gf3, gf4, gf5⟩ := gK hg
  obtain ⟨s0, ss, ss1, ss2, ss3, ss4, sf0, sf1, sf2, sf3⟩ := sK hf2
  obtain ⟨hn, hn10, hsp⟩ := id hsv
  intro k
  induction k with
  | zero =>
    intro q fo h1 h2 h3 hA hB
    have e : q = n := by omega
    subst e
    refine T_iload dX10_spoke_37 rfl ?_
    refine T_aloadn dX10_spoke_39 rfl rfl ?_
    refine T_getr dX10_spoke_40 fX10_70 (by first | assumption | rfl) (by first | decide | omega) rfl (by first | assumption | rfl) ?_
    refine T_getfin dX10_spoke_43 fX10_104 (by first | assumption | rfl) (by first | decide | omega) rfl (by first | assumption | rfl) ?_
    first | refine T_getv dX10_spoke_46 fX10_125 (by first | assumption | rfl) (by first | decide | omega) rfl (by assumption) ?_ | refine T_geti dX10_spoke_46 fX10_125 (by first | assumption | rfl) (by first | decide | omega) rfl ?_
    refine T_icmp_ge (tgt := 106) dX10_spoke_49 rfl (fun b49 => ?_) (fun b49 => absurd b49 (by omega))
    exact hA fo rfl
  | succ k ih =>
    intro q fo h1 h2 h3 hA hB
    rw [spQ.eq_2] at hA hB
    refine T_iload dX10_spoke_37 rfl ?_
    refine T_aloadn dX10_spoke_39 rfl rfl ?_
    refine T_getr dX10_spoke_40 fX10_70 (by first | assumption | rfl) (by first | decide | omega) rfl (by first | assumption | rfl) ?_
    refine T_getfin dX10_spoke_43 fX10_104 (by first | assumption | rfl) (by first | decide | omega) rfl (by first | assumption | rfl) ?_
    first | refine T_getv dX10_spoke_46 fX10_125 (by first | assumption | rfl) (by first | decide | omega) rfl (by assumption) ?_ | refine T_geti dX10_spoke_46 fX10_125 (by first | assumption | rfl) (by first | decide | omega) rfl ?_
    refine T_icmp_ge (tgt := 106) dX10_spoke_49 rfl (fun b49 => absurd b49 (by omega)) (fun b49 => ?_)
    refine T_aloadn dX10_spoke_52 rfl rfl ?_
    refine T_iload dX10_spoke_53 rfl ?_
    refine T_iload dX10_spoke_55 rfl ?_
    refine TT_Vi dX10_spoke_57 (c_areOpponents c hf hh hsv _ _) kX10_182 (by decide) (by first | decide | omega) (by first | assumption | rfl) rfl (leb rfl) ?_
    refine T_if_eq (tgt := 100) dX10_spoke_60 rfl (fun b60 => ?_) (fun b60 => ?_)
    · refine T_iincN dX10_spoke_100 rfl (by decide) rfl (by omega) ?_
      refine T_goto (tgt := 37) dX10_spoke_103 rfl ?_
      first
        | (rw [if_pos (by unfold tC; rw [if_pos b60])] at hA hB
           exact ih (q + 1) fo (by omega) (by omega) (by omega) hA hB)
        | (rw [if_pos (by unfold tC; rw [if_neg b60]; exact b80)] at hA hB
           exact ih (q + 1) fo (by omega) (by omega) (by omega) hA hB)
        | (rw [if_neg (by unfold tC; rw [if_neg b60]; exact b80), if_neg b85] at hA hB
           exact ih (q + 1) (fo + 1) (by omega) (by omega) (by omega) hA hB)
    · refine T_aloadn dX10_spoke_63 rfl rfl ?_
      refine T_getr dX10_spoke_64 fX10_70 (by first | assumption | rfl) (by first | decide | omega) rfl (by first | assumption | rfl) ?_
      refine T_iload dX10_spoke_67 rfl ?_
      refine T_iload dX10_spoke_69 rfl ?_
      refine T_aloadn dX10_spoke_71 rfl rfl ?_
      refine T_getfin dX10_spoke_72 fX10_50 (by first | assumption | rfl) (by first | decide | omega) rfl (by first | assumption | rfl) ?_
      refine T_iloadn dX10_spoke_75 rfl rfl ?_
      refine T_iald (j := j.toNat) dX10_spoke_76 (by first | assumption | rfl) (by first | decide | omega) (by omega) (by omega) ?_
      refine TT_Vi dX10_spoke_77 (c_couldMove c hf hsv _ _ _ (by omega) (by omega)) kX10_269 (by decide) (by first | decide | omega) (by first | assumption | rfl) rfl (leb rfl) ?_
      refine T_if_eq (tgt := 100) dX10_spoke_80 rfl (fun b80 => ?_) (fun b80 => ?_)
      · refine T_iincN dX10_spoke_100 rfl (by decide) rfl (by omega) ?_
        refine T_goto (tgt := 37) dX10_spoke_103 rfl ?_
        first
          | (rw [if_pos (by unfold tC; rw [if_pos b60])] at hA hB
             exact ih (q + 1) fo (by omega) (by omega) (by omega) hA hB)
          | (rw [if_pos (by unfold tC; rw [if_neg b60]; exact b80)] at hA hB
             exact ih (q + 1) fo (by omega) (by omega) (by omega) hA hB)
          | (rw [if_neg (by unfold tC; rw [if_neg b60]; exact b80), if_neg b85] at hA hB
             exact ih (q + 1) (fo + 1) (by omega) (by omega) (by omega) hA hB)
      · refine T_iloadn dX10_spoke_83 rfl rfl ?_
        refine T_iloadn dX10_spoke_84 rfl rfl ?_
        refine T_icmp_ne (tgt := 97) dX10_spoke_85 rfl (fun b85 => ?_) (fun b85 => ?_)
        · refine T_iincN dX10_spoke_97 rfl (by decide) rfl (by omega) ?_
          refine T_iincN dX10_spoke_100 rfl (by decide) rfl (by omega) ?_
          refine T_goto (tgt := 37) dX10_spoke_103 rfl ?_
          first
            | (rw [if_pos (by unfold tC; rw [if_pos b60])] at hA hB
               exact ih (q + 1) fo (by omega) (by omega) (by omega) hA hB)
            | (rw [if_pos (by unfold tC; rw [if_neg b60]; exact b80)] at hA hB
               exact ih (q + 1) fo (by omega) (by omega) (by omega) hA hB)
            | (rw [if_neg (by unfold tC; rw [if_neg b60]; exact b80), if_neg b85] at hA hB
               exact ih (q + 1) (fo + 1) (by omega) (by omega) (by omega) hA hB)
        · refine T_bipush dX10_spoke_88 (bp8 rfl) (inr rfl) ?_
          refine T_iload dX10_spoke_90 rfl ?_
          first | refine T_imulN dX10_spoke_92 (by omega) ?_ | refine T_imul dX10_spoke_92 ?_
          refine T_iload dX10_spoke_93 rfl ?_
          first | refine T_iaddN dX10_spoke_95 (by omega) ?_ | refine T_iadd dX10_spoke_95 ?_
          refine TT_ri dX10_spoke_96 trivial ?_
          refine hB _ ?_
          rw [if_neg (by unfold tC; rw [if_neg b60]; exact b80), if_pos b85]
set_option maxHeartbeats 4000000 in
set_option maxRecDepth 100000 in
theorem l_spokeP (c : HC) {f : Nat} (hf : f = 88 ∨ f = 101) (hh : c 1 10 = (f : Int)) {n : Nat} (hsv : SV c (f + 8) n) (j i : Int) (hj : 0 ≤ j ∧ j < 8) : ∀ (k p : Nat) (fo : Int), p + k = n → 0 ≤ fo → fo ≤ 10 * p →
    TT mX10_spoke 3 19 [(0, vr 1), (1, vi j), (2, vi i), (3, vi fo), (4, vi (p : Int))] [] c (fun v c1 => v = some (vi (spP (tC n (c (f + 8 + 1)) (c (f + 1) 7) (c (f + 8 + 3)) (c (f + 8 + 2)) (c (f + 1 + 4)) (c 84 j.toNat)) i n k p fo)) ∧ c1 = c) := by
  obtain ⟨f0, fs, ff0, ff1, hg, hf2⟩ := fK hf
  obtain ⟨g0, gs, gs1, gs2, gs3, gs4, gs5, gs6, gf0, gf1, gf2, gf3, gf4, gf5⟩ := gK hg
  obtain ⟨s0, ss, ss1, ss2, ss3, ss4, sf0, sf1, sf2, sf3⟩ := sK hf2
  obtain ⟨hn, hn10, hsp⟩ := id hsv
  intro k
  induction k with
  | zero =>
    intro p fo h1 h2 h3
    refine T_iload dX10_spoke_19 rfl ?_
    refine T_aloadn dX10_spoke_21 rfl rfl ?_
    refine T_getr dX10_spoke_22 fX10_70 (by first | assumption | rfl) (by first | decide | omega) rfl (by first | assumption | rfl) ?_
    refine T_getfin dX10_spoke_25 fX10_104 (by first | assumption | rfl) (by first | decide | omega) rfl (by first | assumption | rfl) ?_
    first | refine T_getv dX10_spoke_28 fX10_125 (by first | assumption | rfl) (by first | decide | omega) rfl (by assumption) ?_ | refine T_geti dX10_spoke_28 fX10_125 (by first | assumption | rfl) (by first | decide | omega) rfl ?_
    refine T_icmp_ge (tgt := 112) dX10_spoke_31 rfl (fun b31 => ?_) (fun b31 => absurd b31 (by omega))
    refine T_iloadn dX10_spoke_112 rfl rfl ?_
    refine T_iconst dX10_spoke_113 (inr rfl) ?_
    refine T_icmp_ne (tgt := 121) dX10_spoke_114 rfl (fun b114 => ?_) (fun b114 => ?_)
    · refine T_iconst dX10_spoke_121 (inr rfl) ?_
      refine TT_ri dX10_spoke_122 trivial ?_
      exact ro_q (by unfold spP; first | rw [if_neg b114] | rw [if_pos b114])
    · refine T_iloadn dX10_spoke_117 rfl rfl ?_
      refine T_goto (tgt := 122) dX10_spoke_118 rfl ?_
      refine TT_ri dX10_spoke_122 trivial ?_
      exact ro_q (by unfold spP; first | rw [if_neg b114] | rw [if_pos b114])
  | succ k ih =>
    intro p fo h1 h2 h3
    refine T_iload dX10_spoke_19 rfl ?_
    refine T_aloadn dX10_spoke_21 rfl rfl ?_
    refine T_getr dX10_spoke_22 fX10_70 (by first | assumption | rfl) (by first | decide | omega) rfl (by first | assumption | rfl) ?_
    refine T_getfin dX10_spoke_25 fX10_104 (by first | assumption | rfl) (by first | decide | omega) rfl (by first | assumption | rfl) ?_
    first | refine T_getv dX10_spoke_28 fX10_125 (by first | assumption | rfl) (by first | decide | omega) rfl (by assumption) ?_ | refine T_geti dX10_spoke_28 fX10_125 (by first | assumption | rfl) (by first | decide | omega) rfl ?_
    refine T_icmp_ge (tgt := 112) dX10_spoke_31 rfl (fun b31 => absurd b31 (by omega)) (fun b31 => ?_)
    refine T_iconst dX10_spoke_34 (inr rfl) ?_
    refine T_istore dX10_spoke_35 (by decide) rfl ?_
    refine l_spokeQ c hf hh hsv j i hj p (by omega) _ n 0 fo (by omega) h2 (by omega) (fun fo2 e => ?_) (fun r e => ro_q (by rw [spP.eq_2, e]))
    have hb := spQ_bd _ _ _ _ _ _ _ e
    rw [spP.eq_2, e]
    refine T_iincN dX10_spoke_106 rfl (by decide) rfl (by omega) ?_
    refine T_goto (tgt := 19) dX10_spoke_109 rfl ?_
    refine T_keep [0, 1, 2, 3, 4] ?_
    exact ih (p + 1) fo2 (by omega) (by omega) (by omega)
def spkeF (m : Nat) (k z : Int) : Int := if k < 0 ∨ (m : Int) ≤ k then -1 else z
set_option maxHeartbeats 4000000 in
set_option maxRecDepth 100000 in
theorem x_spoke (c : HC) {f : Nat} (hf : f = 88 ∨ f = 101) (hh : c 1 10 = (f : Int)) {n : Nat} (hsv : SV c (f + 8) n) (m : Nat) (hm : c 1 12 = (m : Int)) (h8 : m ≤ 8) (j i : Int) : RO mX10_spoke 3 c [vr 1, vi j, vi i] (spkeF m j (spP (tC n (c (f + 8 + 1)) (c (f + 1) 7) (c (f + 8 + 3)) (c (f + 8 + 2)) (c (f + 1 + 4)) (c 84 j.toNat)) i n n 0 0)) := by
  obtain ⟨f0, fs, ff0, ff1, hg, hf2⟩ := fK hf
  obtain ⟨g0, gs, gs1, gs2, gs3, gs4, gs5, gs6, gf0, gf1, gf2, gf3, gf4, gf5⟩ := gK hg
  obtain ⟨s0, ss, ss1, ss2, ss3, ss4, sf0, sf1, sf2, sf3⟩ := sK hf2
  refine CC.of (by decide +kernel) (leb rfl) (fun hok => ?_)
  unfold spkeF
  refine T_iloadn dX10_spoke_0 rfl rfl ?_
  refine T_if_lt (tgt := 12) dX10_spoke_1 rfl (fun b1 => ?_) (fun b1 => ?_)
  · refine T_iconst dX10_spoke_12 (inr rfl) ?_
    refine TT_ri dX10_spoke_13 trivial ?_
    exact ro_q (by rw [if_pos]; omega)
  · refine T_iloadn dX10_spoke_4 rfl rfl ?_
    refine T_aloadn dX10_spoke_5 rfl rfl ?_
    first | refine T_getv dX10_spoke_6 fX10_112 (by first | assumption | rfl) (by first | decide | omega) rfl (by assumption) ?_ | refine T_geti dX10_spoke_6 fX10_112 (by first | assumption | rfl) (by first | decide | omega) rfl ?_
    refine T_icmp_lt (tgt := 14) dX10_spoke_9 rfl (fun b9 => ?_) (fun b9 => ?_)
    · refine T_iconst dX10_spoke_14 (inr rfl) ?_
      refine T_istoren dX10_spoke_15 rfl (by decide) rfl ?_
      refine T_iconst dX10_spoke_16 (inr rfl) ?_
      refine T_istore dX10_spoke_17 (by decide) rfl ?_
      rw [if_neg (by omega)]
      exact l_spokeP c hf hh hsv j i (by omega) n 0 0 (by omega) (by omega) (by omega)
    · refine T_iconst dX10_spoke_12 (inr rfl) ?_
      refine TT_ri dX10_spoke_13 trivial ?_
      exact ro_q (by rw [if_pos]; omega)
