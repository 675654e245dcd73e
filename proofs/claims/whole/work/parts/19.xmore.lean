/-! the class's calls, on -/
def isSideF (s : Int) : Int := if s = 0 ∨ s = 1 then 1 else 0
set_option maxHeartbeats 4000000 in
set_option maxRecDepth 100000 in
theorem c_isSide (c : HC) (s : Int) : RO mX10_isSide 0 c [vi s] (isSideF s) := by
  refine CC.of (by decide +kernel) (leb rfl) (fun hok => ?_)
  unfold isSideF
  refine T_iloadn dX10_isSide_0 rfl rfl ?_
  refine T_if_eq (tgt := 9) dX10_isSide_1 rfl (fun b1 => ?_) (fun b1 => ?_)
  · refine T_iconst dX10_isSide_9 (inr rfl) ?_
    refine T_goto (tgt := 14) dX10_isSide_10 rfl ?_
    refine TT_ri dX10_isSide_14 (by first | exact Or.inl rfl | exact Or.inr rfl | assumption) ?_
    exact ro_q (by first | rw [if_pos (Or.inl b1)] | rw [if_pos (Or.inr b6)] | rw [if_neg (by omega)])
  · refine T_iloadn dX10_isSide_4 rfl rfl ?_
    refine T_iconst dX10_isSide_5 (inr rfl) ?_
    refine T_icmp_ne (tgt := 13) dX10_isSide_6 rfl (fun b6 => ?_) (fun b6 => ?_)
    · refine T_iconst dX10_isSide_13 (inr rfl) ?_
      refine TT_ri dX10_isSide_14 (by first | exact Or.inl rfl | exact Or.inr rfl | assumption) ?_
      exact ro_q (by first | rw [if_pos (Or.inl b1)] | rw [if_pos (Or.inr b6)] | rw [if_neg (by omega)])
    · refine T_iconst dX10_isSide_9 (inr rfl) ?_
      refine T_goto (tgt := 14) dX10_isSide_10 rfl ?_
      refine TT_ri dX10_isSide_14 (by first | exact Or.inl rfl | exact Or.inr rfl | assumption) ?_
      exact ro_q (by first | rw [if_pos (Or.inl b1)] | rw [if_pos (Or.inr b6)] | rw [if_neg (by omega)])
def undoF (cn : Nat) : Int := if cn = 0 then NOTN else (cn : Int) - 1
def undoC (c : HC) (fi cn : Nat) : HC := if cn = 0 then c else popF c fi cn
set_option maxHeartbeats 4000000 in
set_option maxRecDepth 100000 in
theorem x_undo (c : HC) (fi cn : Nat) (h1 : c 7 1 = (fi : Int)) (h2 : c 7 2 = (cn : Int)) (hfi : fi < 20) (hcn : cn ≤ 20) : RW mX10_undo 3 c [vr 1] (undoF cn) (undoC c fi cn) := by
  refine CC.of (by decide +kernel) (leb rfl) (fun hok => ?_)
  have e28 : popF c fi cn 7 2 = (cn : Int) - 1 := by
    unfold popF
    rw [pro (by omega), up2_s]
  unfold undoF undoC NOTN
  refine T_aloadn dX10_undo_0 rfl rfl ?_
  refine T_getfin dX10_undo_1 fX10_26 (by first | assumption | rfl) (by first | decide | omega) rfl (by first | assumption | rfl) ?_
  first | refine T_getv dX10_undo_4 fX10_154 (by first | assumption | rfl) (by first | decide | omega) rfl (by assumption) ?_ | refine T_geti dX10_undo_4 fX10_154 (by first | assumption | rfl) (by first | decide | omega) rfl ?_
  refine T_if_ne (tgt := 13) dX10_undo_7 rfl (fun b7 => ?_) (fun b7 => ?_)
  · refine T_aloadn dX10_undo_13 rfl rfl ?_
    refine T_getfin dX10_undo_14 fX10_26 (by first | assumption | rfl) (by first | decide | omega) rfl (by first | assumption | rfl) ?_
    refine T_aloadn dX10_undo_17 rfl rfl ?_
    refine T_getfin dX10_undo_18 fX10_19 (by first | assumption | rfl) (by first | decide | omega) rfl (by first | assumption | rfl) ?_
    refine TT_Vv dX10_undo_21 (c_popInto c fi cn h1 h2 hfi hcn (by omega)) kX10_212 (by decide) (by first | decide | omega) (by first | assumption | rfl) rfl (leb rfl) ?_
    refine T_aloadn dX10_undo_24 rfl rfl ?_
    refine T_getfin dX10_undo_25 fX10_26 (by first | assumption | rfl) (by first | decide | omega) rfl (by first | assumption | rfl) ?_
    refine T_getv dX10_undo_28 fX10_154 (by first | assumption | rfl) (by first | decide | omega) rfl e28 ?_
    refine TT_ri dX10_undo_31 trivial ?_
    exact ⟨by rw [if_neg (by omega)], by rw [if_neg (by omega)]⟩
  · refine T_ldc dX10_undo_10 cX10_189 (inr rfl) ?_
    refine TT_ri dX10_undo_12 trivial ?_
    exact ⟨by rw [if_pos (by omega)], by rw [if_pos (by omega)]⟩
def evenF (w0 w1 w : Int) : Int := if w < 0 ∨ 1 < w then OUT else if w = 1 then iabs (w0 - w1) else if w0 - w1 = 0 then -1 else if w0 - w1 < 0 then 0 else 1
set_option maxHeartbeats 4000000 in
set_option maxRecDepth 100000 in
theorem x_even (c : HC) {f : Nat} (hf : f = 88 ∨ f = 101) (hh : c 1 10 = (f : Int)) {n : Nat} (hv : SV c (f + 8) n) (w : Int) : RO mX10_even 1 c [vr 1, vi w] (evenF (wsU (c (f + 8 + 1)) (c (f + 8 + 3)) 0 n) (wsU (c (f + 8 + 1)) (c (f + 8 + 3)) 1 n) w) := by
  obtain ⟨f0, fs, ff0, ff1, hg, hf2⟩ := fK hf
  obtain ⟨g0, gs, gs1, gs2, gs3, gs4, gs5, gs6, gf0, gf1, gf2, gf3, gf4, gf5⟩ := gK hg
  obtain ⟨s0, ss, ss1, ss2, ss3, ss4, sf0, sf1, sf2, sf3⟩ := sK hf2
  have hw0 := wsU_bd (sd := c (f + 8 + 1)) (s := 0) hv.wt n (by omega)
  have hw1 := wsU_bd (sd := c (f + 8 + 1)) (s := 1) hv.wt n (by omega)
  have hn10 := hv.2.1
  refine CC.of (by decide +kernel) (leb rfl) (fun hok => ?_)
  unfold evenF OUT
  refine T_iloadn dX10_even_0 rfl rfl ?_
  refine T_if_lt (tgt := 9) dX10_even_1 rfl (fun b1 => ?_) (fun b1 => ?_)
  · refine T_ldc dX10_even_9 cX10_78 (inr rfl) ?_
    refine TT_ri dX10_even_11 trivial ?_
    exact ro_q (by rw [if_pos]; omega)
  · refine T_iloadn dX10_even_4 rfl rfl ?_
    refine T_iconst dX10_even_5 (inr rfl) ?_
    refine T_icmp_le (tgt := 12) dX10_even_6 rfl (fun b6 => ?_) (fun b6 => ?_)
    · refine T_aloadn dX10_even_12 rfl rfl ?_
      refine T_getr dX10_even_13 fX10_70 (by first | assumption | rfl) (by first | decide | omega) rfl (by first | assumption | rfl) ?_
      refine T_getfin dX10_even_16 fX10_104 (by first | assumption | rfl) (by first | decide | omega) rfl (by first | assumption | rfl) ?_
      refine T_iconst dX10_even_19 (inr rfl) ?_
      refine TT_Vi dX10_even_20 (c_weightOfSide c hf2 hv 0) kX10_245 (by decide) (by first | decide | omega) (by first | assumption | rfl) rfl (leb rfl) ?_
      refine T_aloadn dX10_even_23 rfl rfl ?_
      refine T_getr dX10_even_24 fX10_70 (by first | assumption | rfl) (by first | decide | omega) rfl (by first | assumption | rfl) ?_
      refine T_getfin dX10_even_27 fX10_104 (by first | assumption | rfl) (by first | decide | omega) rfl (by first | assumption | rfl) ?_
      refine T_iconst dX10_even_30 (inr rfl) ?_
      refine TT_Vi dX10_even_31 (c_weightOfSide c hf2 hv 1) kX10_245 (by decide) (by first | decide | omega) (by first | assumption | rfl) rfl (leb rfl) ?_
      first | refine T_isubN dX10_even_34 (by omega) ?_ | refine T_isub dX10_even_34 ?_
      refine T_istoren dX10_even_35 rfl (by decide) rfl ?_
      refine T_iloadn dX10_even_36 rfl rfl ?_
      refine T_iconst dX10_even_37 (inr rfl) ?_
      refine T_icmp_ne (tgt := 46) dX10_even_38 rfl (fun b38 => ?_) (fun b38 => ?_)
      · refine T_iloadn dX10_even_46 rfl rfl ?_
        refine T_if_ne (tgt := 52) dX10_even_47 rfl (fun b47 => ?_) (fun b47 => ?_)
        · refine T_iloadn dX10_even_52 rfl rfl ?_
          refine T_if_ge (tgt := 60) dX10_even_53 rfl (fun b53 => ?_) (fun b53 => ?_)
          · refine T_iconst dX10_even_60 (inr rfl) ?_
            refine TT_ri dX10_even_61 trivial ?_
            exact ro_q (by rw [if_neg (by omega)]; first | rw [if_pos b38] | rw [if_neg b38, if_pos b47] | rw [if_neg b38, if_neg b47, if_pos (by omega)] | rw [if_neg b38, if_neg b47, if_neg (by omega)])
          · refine T_iconst dX10_even_56 (inr rfl) ?_
            refine T_goto (tgt := 61) dX10_even_57 rfl ?_
            refine TT_ri dX10_even_61 trivial ?_
            exact ro_q (by rw [if_neg (by omega)]; first | rw [if_pos b38] | rw [if_neg b38, if_pos b47] | rw [if_neg b38, if_neg b47, if_pos (by omega)] | rw [if_neg b38, if_neg b47, if_neg (by omega)])
        · refine T_iconst dX10_even_50 (inr rfl) ?_
          refine TT_ri dX10_even_51 trivial ?_
          exact ro_q (by rw [if_neg (by omega)]; first | rw [if_pos b38] | rw [if_neg b38, if_pos b47] | rw [if_neg b38, if_neg b47, if_pos (by omega)] | rw [if_neg b38, if_neg b47, if_neg (by omega)])
      · refine T_iloadn dX10_even_41 rfl rfl ?_
        refine T_mabs dX10_even_42 kX10_248M (by decide) (leb rfl) ?_
        refine TT_ri dX10_even_45 trivial ?_
        exact ro_q (by rw [if_neg (by omega)]; first | rw [if_pos b38] | rw [if_neg b38, if_pos b47] | rw [if_neg b38, if_neg b47, if_pos (by omega)] | rw [if_neg b38, if_neg b47, if_neg (by omega)])
    · refine T_ldc dX10_even_9 cX10_78 (inr rfl) ?_
      refine TT_ri dX10_even_11 trivial ?_
      exact ro_q (by rw [if_pos]; omega)
def pickF (wt : Nat → Int) (n : Nat) (w : Int) : Int := if w < 0 ∨ 1 < w then OUT else if w = 0 then (frU wt n (2 ^ n)).1 else iabs (dfU wt (frU wt n (2 ^ n)).1 n)
set_option maxHeartbeats 4000000 in
set_option maxRecDepth 100000 in
theorem x_pick (c : HC) {f : Nat} (hf : f = 88 ∨ f = 101) (hh : c 1 10 = (f : Int)) {n : Nat} (hv : SV c (f + 8) n) (w : Int) : RO mX10_pick 3 c [vr 1, vi w] (pickF (c (f + 8 + 3)) n w) := by
  obtain ⟨f0, fs, ff0, ff1, hg, hf2⟩ := fK hf
  obtain ⟨g0, gs, gs1, gs2, gs3, gs4, gs5, gs6, gf0, gf1, gf2, gf3, gf4, gf5⟩ := gK hg
  obtain ⟨s0, ss, ss1, ss2, ss3, ss4, sf0, sf1, sf2, sf3⟩ := sK hf2
  refine CC.of (by decide +kernel) (leb rfl) (fun hok => ?_)
  unfold pickF OUT
  refine T_iloadn dX10_pick_0 rfl rfl ?_
  refine T_if_lt (tgt := 9) dX10_pick_1 rfl (fun b1 => ?_) (fun b1 => ?_)
  · refine T_ldc dX10_pick_9 cX10_78 (inr rfl) ?_
    refine TT_ri dX10_pick_11 trivial ?_
    exact ro_q (by rw [if_pos]; omega)
  · refine T_iloadn dX10_pick_4 rfl rfl ?_
    refine T_iconst dX10_pick_5 (inr rfl) ?_
    refine T_icmp_le (tgt := 12) dX10_pick_6 rfl (fun b6 => ?_) (fun b6 => ?_)
    · refine T_aloadn dX10_pick_12 rfl rfl ?_
      refine T_getr dX10_pick_13 fX10_70 (by first | assumption | rfl) (by first | decide | omega) rfl (by first | assumption | rfl) ?_
      refine T_getfin dX10_pick_16 fX10_104 (by first | assumption | rfl) (by first | decide | omega) rfl (by first | assumption | rfl) ?_
      refine TT_Vi dX10_pick_19 (c_fairestHalf c hf2 hv) kX10_257 (by decide) (by first | decide | omega) (by first | assumption | rfl) rfl (leb rfl) ?_
      refine T_istoren dX10_pick_22 rfl (by decide) rfl ?_
      refine T_iloadn dX10_pick_23 rfl rfl ?_
      refine T_if_ne (tgt := 31) dX10_pick_24 rfl (fun b24 => ?_) (fun b24 => ?_)
      · refine T_aloadn dX10_pick_31 rfl rfl ?_
        refine T_getr dX10_pick_32 fX10_70 (by first | assumption | rfl) (by first | decide | omega) rfl (by first | assumption | rfl) ?_
        refine T_getfin dX10_pick_35 fX10_104 (by first | assumption | rfl) (by first | decide | omega) rfl (by first | assumption | rfl) ?_
        refine T_iloadn dX10_pick_38 rfl rfl ?_
        refine TT_Vi dX10_pick_39 (c_differenceBy c hf2 hv _) kX10_260 (by decide) (by first | decide | omega) (by first | assumption | rfl) rfl (leb rfl) ?_
        refine TT_ri dX10_pick_42 trivial ?_
        exact ro_q (by rw [if_neg (by omega)]; first | rw [if_pos b24] | rw [if_neg b24])
      · refine T_iloadn dX10_pick_27 rfl rfl ?_
        refine T_goto (tgt := 42) dX10_pick_28 rfl ?_
        refine TT_ri dX10_pick_42 trivial ?_
        exact ro_q (by rw [if_neg (by omega)]; first | rw [if_pos b24] | rw [if_neg b24])
    · refine T_ldc dX10_pick_9 cX10_78 (inr rfl) ?_
      refine TT_ri dX10_pick_11 trivial ?_
      exact ro_q (by rw [if_pos]; omega)
def cghF (cg : Nat → Int) (n : Nat) (x : Int) : Int := if x < 0 ∨ ((2 ^ n : Nat) : Int) ≤ x then UNK else wr (odU cg x n)
set_option maxHeartbeats 4000000 in
set_option maxRecDepth 100000 in
theorem x_coughs (c : HC) {f : Nat} (hf : f = 88 ∨ f = 101) (hh : c 1 10 = (f : Int)) {n : Nat} (hv : SV c (f + 8) n) (x : Int) : RO mX10_coughs 1 c [vr 1, vi x] (cghF (c (f + 8 + 4)) n x) := by
  obtain ⟨f0, fs, ff0, ff1, hg, hf2⟩ := fK hf
  obtain ⟨g0, gs, gs1, gs2, gs3, gs4, gs5, gs6, gf0, gf1, gf2, gf3, gf4, gf5⟩ := gK hg
  obtain ⟨s0, ss, ss1, ss2, ss3, ss4, sf0, sf1, sf2, sf3⟩ := sK hf2
  obtain ⟨hn, hn10, -⟩ := id hv
  refine CC.of (by decide +kernel) (leb rfl) (fun hok => ?_)
  unfold cghF UNK
  generalize hP : 2 ^ n = P
  refine T_iloadn dX10_coughs_0 rfl rfl ?_
  refine T_if_lt (tgt := 20) dX10_coughs_1 rfl (fun b1 => ?_) (fun b1 => ?_)
  · refine T_ldc dX10_coughs_20 cX10_155 (inr rfl) ?_
    refine TT_ri dX10_coughs_22 trivial ?_
    exact ro_q (by first | (rw [if_pos]; omega) | (rw [if_neg]; omega))
  · refine T_iloadn dX10_coughs_4 rfl rfl ?_
    refine T_iconst dX10_coughs_5 (inr rfl) ?_
    refine T_aloadn dX10_coughs_6 rfl rfl ?_
    refine T_getr dX10_coughs_7 fX10_70 (by first | assumption | rfl) (by first | decide | omega) rfl (by first | assumption | rfl) ?_
    refine T_getfin dX10_coughs_10 fX10_104 (by first | assumption | rfl) (by first | decide | omega) rfl (by first | assumption | rfl) ?_
    first | refine T_getv dX10_coughs_13 fX10_125 (by first | assumption | rfl) (by first | decide | omega) rfl (by assumption) ?_ | refine T_geti dX10_coughs_13 fX10_125 (by first | assumption | rfl) (by first | decide | omega) rfl ?_
    refine T_ishl dX10_coughs_16 (by omega) (by omega) ?_
    rw [shl1 (n := n) (by omega), hP]
    refine T_icmp_lt (tgt := 23) dX10_coughs_17 rfl (fun b17 => ?_) (fun b17 => ?_)
    · refine T_aloadn dX10_coughs_23 rfl rfl ?_
      refine T_getr dX10_coughs_24 fX10_70 (by first | assumption | rfl) (by first | decide | omega) rfl (by first | assumption | rfl) ?_
      refine T_getfin dX10_coughs_27 fX10_104 (by first | assumption | rfl) (by first | decide | omega) rfl (by first | assumption | rfl) ?_
      refine T_iloadn dX10_coughs_30 rfl rfl ?_
      refine TT_Vi dX10_coughs_31 (c_odds c hf2 hv _) kX10_263 (by decide) (by first | decide | omega) (by first | assumption | rfl) rfl (leb rfl) ?_
      refine TT_ri dX10_coughs_34 trivial ?_
      exact ro_q (by first | (rw [if_pos]; omega) | (rw [if_neg]; omega))
    · refine T_ldc dX10_coughs_20 cX10_155 (inr rfl) ?_
      refine TT_ri dX10_coughs_22 trivial ?_
      exact ro_q (by first | (rw [if_pos]; omega) | (rw [if_neg]; omega))
def kbF (b s : Int) : Int := if isSideF s = 0 then UNK else b
set_option maxHeartbeats 4000000 in
set_option maxRecDepth 100000 in
theorem x_keepBack (c : HC) {f : Nat} (hf : f = 88 ∨ f = 101) (hh : c 1 10 = (f : Int)) {n : Nat} (hv : SV c (f + 8) n) (s : Int) : RO mX10_keepBack 1 c [vr 1, vi s] (kbF (lwU (c (f + 8 + 1)) (c (f + 8 + 3)) (c (f + 8 + 4)) s n).1 s) := by
  obtain ⟨f0, fs, ff0, ff1, hg, hf2⟩ := fK hf
  obtain ⟨g0, gs, gs1, gs2, gs3, gs4, gs5, gs6, gf0, gf1, gf2, gf3, gf4, gf5⟩ := gK hg
  obtain ⟨s0, ss, ss1, ss2, ss3, ss4, sf0, sf1, sf2, sf3⟩ := sK hf2
  refine CC.of (by decide +kernel) (leb rfl) (fun hok => ?_)
  unfold kbF UNK
  refine T_iloadn dX10_keepBack_0 rfl rfl ?_
  refine TT_Si dX10_keepBack_1 (c_isSide c s) kX10_230 (by decide) rfl (leb rfl) ?_
  refine T_if_ne (tgt := 10) dX10_keepBack_4 rfl (fun b4 => ?_) (fun b4 => ?_)
  · refine T_aloadn dX10_keepBack_10 rfl rfl ?_
    refine T_getr dX10_keepBack_11 fX10_70 (by first | assumption | rfl) (by first | decide | omega) rfl (by first | assumption | rfl) ?_
    refine T_getfin dX10_keepBack_14 fX10_104 (by first | assumption | rfl) (by first | decide | omega) rfl (by first | assumption | rfl) ?_
    refine T_iloadn dX10_keepBack_17 rfl rfl ?_
    refine TT_Vi dX10_keepBack_18 (c_leastWorth c hf2 hv s) kX10_266 (by decide) (by first | decide | omega) (by first | assumption | rfl) rfl (leb rfl) ?_
    refine TT_ri dX10_keepBack_21 trivial ?_
    exact ro_q (by first | rw [if_pos b4] | rw [if_neg b4])
  · refine T_ldc dX10_keepBack_7 cX10_155 (inr rfl) ?_
    refine TT_ri dX10_keepBack_9 trivial ?_
    exact ro_q (by first | rw [if_pos b4] | rw [if_neg b4])
def mkF (m : Nat) (d : Int) : Int := if d < -99 ∨ 99 < d then OUT else if 8 ≤ m then FUL else (m : Int) + 1
def mkC (c : HC) (m : Nat) (d : Int) : HC := if d < -99 ∨ 99 < d then c else if 8 ≤ m then c else up2 (up2 c 84 m d) 1 12 ((m : Int) + 1)
def wtF (m : Nat) (r p : Int) : Int := if (r < 0 ∨ 999 < r) ∨ (p < -500 ∨ 500 < p) then OUT else if 15 ≤ m then FUL else (m : Int) + 1
def wtC (c : HC) (m : Nat) (r p : Int) : HC := if (r < 0 ∨ 999 < r) ∨ (p < -500 ∨ 500 < p) then c else if 15 ≤ m then c else up2 (up2 (up2 c 85 m r) 86 m p) 1 13 ((m : Int) + 1)
set_option maxHeartbeats 4000000 in
set_option maxRecDepth 100000 in
theorem x_mark (c : HC) (m : Nat) (hm : c 1 12 = (m : Int)) (h8 : m ≤ 8) (d : Int) : RW mX10_mark 0 c [vr 1, vi d] (mkF m d) (mkC c m d) := by
  refine CC.of (by decide +kernel) (leb rfl) (fun hok => ?_)
  unfold mkF mkC OUT FUL
  refine T_iloadn dX10_mark_0 rfl rfl ?_
  refine T_bipush dX10_mark_1 (bp8 rfl) (inr rfl) ?_
  refine T_icmp_lt (tgt := 12) dX10_mark_3 rfl (fun b3 => ?_) (fun b3 => ?_)
  · refine T_ldc dX10_mark_12 cX10_78 (inr rfl) ?_
    refine TT_ri dX10_mark_14 trivial ?_
    first
      | exact ⟨by rw [if_pos (by omega)], by rw [if_pos (by omega)]⟩
      | exact ⟨by rw [if_neg (by omega), if_pos (by omega)], by rw [if_neg (by omega), if_pos (by omega)]⟩
      | exact ⟨by rw [if_neg (by omega), if_neg (by omega)], by rw [if_neg (by omega), if_neg (by omega)]⟩
  · refine T_iloadn dX10_mark_6 rfl rfl ?_
    refine T_bipush dX10_mark_7 (bp8 rfl) (inr rfl) ?_
    refine T_icmp_le (tgt := 15) dX10_mark_9 rfl (fun b9 => ?_) (fun b9 => ?_)
    · refine T_aloadn dX10_mark_15 rfl rfl ?_
      first | refine T_getv dX10_mark_16 fX10_112 (by first | assumption | rfl) (by first | decide | omega) rfl (by assumption) ?_ | refine T_geti dX10_mark_16 fX10_112 (by first | assumption | rfl) (by first | decide | omega) rfl ?_
      refine T_bipush dX10_mark_19 (bp8 rfl) (inr rfl) ?_
      refine T_icmp_lt (tgt := 27) dX10_mark_21 rfl (fun b21 => ?_) (fun b21 => ?_)
      · refine T_aloadn dX10_mark_27 rfl rfl ?_
        refine T_getfin dX10_mark_28 fX10_50 (by first | assumption | rfl) (by first | decide | omega) rfl (by first | assumption | rfl) ?_
        refine T_aloadn dX10_mark_31 rfl rfl ?_
        first | refine T_getv dX10_mark_32 fX10_112 (by first | assumption | rfl) (by first | decide | omega) rfl (by assumption) ?_ | refine T_geti dX10_mark_32 fX10_112 (by first | assumption | rfl) (by first | decide | omega) rfl ?_
        refine T_iloadn dX10_mark_35 rfl rfl ?_
        refine T_iast (j := m) dX10_mark_36 (by first | assumption | rfl) (by first | decide | omega) (by omega) (by omega) ?_
        refine T_aloadn dX10_mark_37 rfl rfl ?_
        refine T_dup dX10_mark_38 rfl ?_
        refine T_getv dX10_mark_39 fX10_112 (by first | assumption | rfl) (by first | decide | omega) rfl ((up2_a _ _ (by decide)).trans hm) ?_
        refine T_iconst dX10_mark_42 (inr rfl) ?_
        first | refine T_iaddN dX10_mark_43 (by omega) ?_ | refine T_iadd dX10_mark_43 ?_
        refine T_puti dX10_mark_44 fX10_112 (by first | assumption | rfl) (by first | decide | omega) rfl rfl ?_
        refine T_aloadn dX10_mark_47 rfl rfl ?_
        refine T_getv dX10_mark_48 fX10_112 (by first | assumption | rfl) (by first | decide | omega) rfl (up2_s _ _ _ _) ?_
        refine TT_ri dX10_mark_51 trivial ?_
        first
          | exact ⟨by rw [if_pos (by omega)], by rw [if_pos (by omega)]⟩
          | exact ⟨by rw [if_neg (by omega), if_pos (by omega)], by rw [if_neg (by omega), if_pos (by omega)]⟩
          | exact ⟨by rw [if_neg (by omega), if_neg (by omega)], by rw [if_neg (by omega), if_neg (by omega)]⟩
      · refine T_ldc dX10_mark_24 cX10_83 (inr rfl) ?_
        refine TT_ri dX10_mark_26 trivial ?_
        first
          | exact ⟨by rw [if_pos (by omega)], by rw [if_pos (by omega)]⟩
          | exact ⟨by rw [if_neg (by omega), if_pos (by omega)], by rw [if_neg (by omega), if_pos (by omega)]⟩
          | exact ⟨by rw [if_neg (by omega), if_neg (by omega)], by rw [if_neg (by omega), if_neg (by omega)]⟩
    · refine T_ldc dX10_mark_12 cX10_78 (inr rfl) ?_
      refine TT_ri dX10_mark_14 trivial ?_
      first
        | exact ⟨by rw [if_pos (by omega)], by rw [if_pos (by omega)]⟩
        | exact ⟨by rw [if_neg (by omega), if_pos (by omega)], by rw [if_neg (by omega), if_pos (by omega)]⟩
        | exact ⟨by rw [if_neg (by omega), if_neg (by omega)], by rw [if_neg (by omega), if_neg (by omega)]⟩
set_option maxHeartbeats 4000000 in
set_option maxRecDepth 100000 in
theorem x_write (c : HC) (m : Nat) (hm : c 1 13 = (m : Int)) (h8 : m ≤ 15) (r p : Int) : RW mX10_write 0 c [vr 1, vi r, vi p] (wtF m r p) (wtC c m r p) := by
  refine CC.of (by decide +kernel) (leb rfl) (fun hok => ?_)
  unfold wtF wtC OUT FUL
  refine T_iloadn dX10_write_0 rfl rfl ?_
  refine T_if_lt (tgt := 25) dX10_write_1 rfl (fun b1 => ?_) (fun b1 => ?_)
  · refine T_ldc dX10_write_25 cX10_78 (inr rfl) ?_
    refine TT_ri dX10_write_27 trivial ?_
    first
      | exact ⟨by rw [if_pos (by omega)], by rw [if_pos (by omega)]⟩
      | exact ⟨by rw [if_neg (by omega), if_pos (by omega)], by rw [if_neg (by omega), if_pos (by omega)]⟩
      | exact ⟨by rw [if_neg (by omega), if_neg (by omega)], by rw [if_neg (by omega), if_neg (by omega)]⟩
  · refine T_iloadn dX10_write_4 rfl rfl ?_
    refine T_sipush dX10_write_5 (bp16 rfl) (inr rfl) ?_
    refine T_icmp_gt (tgt := 25) dX10_write_8 rfl (fun b8 => ?_) (fun b8 => ?_)
    · refine T_ldc dX10_write_25 cX10_78 (inr rfl) ?_
      refine TT_ri dX10_write_27 trivial ?_
      first
        | exact ⟨by rw [if_pos (by omega)], by rw [if_pos (by omega)]⟩
        | exact ⟨by rw [if_neg (by omega), if_pos (by omega)], by rw [if_neg (by omega), if_pos (by omega)]⟩
        | exact ⟨by rw [if_neg (by omega), if_neg (by omega)], by rw [if_neg (by omega), if_neg (by omega)]⟩
    · refine T_iloadn dX10_write_11 rfl rfl ?_
      refine T_sipush dX10_write_12 (bp16 rfl) (inr rfl) ?_
      refine T_icmp_lt (tgt := 25) dX10_write_15 rfl (fun b15 => ?_) (fun b15 => ?_)
      · refine T_ldc dX10_write_25 cX10_78 (inr rfl) ?_
        refine TT_ri dX10_write_27 trivial ?_
        first
          | exact ⟨by rw [if_pos (by omega)], by rw [if_pos (by omega)]⟩
          | exact ⟨by rw [if_neg (by omega), if_pos (by omega)], by rw [if_neg (by omega), if_pos (by omega)]⟩
          | exact ⟨by rw [if_neg (by omega), if_neg (by omega)], by rw [if_neg (by omega), if_neg (by omega)]⟩
      · refine T_iloadn dX10_write_18 rfl rfl ?_
        refine T_sipush dX10_write_19 (bp16 rfl) (inr rfl) ?_
        refine T_icmp_le (tgt := 28) dX10_write_22 rfl (fun b22 => ?_) (fun b22 => ?_)
        · refine T_aloadn dX10_write_28 rfl rfl ?_
          first | refine T_getv dX10_write_29 fX10_115 (by first | assumption | rfl) (by first | decide | omega) rfl (by assumption) ?_ | refine T_geti dX10_write_29 fX10_115 (by first | assumption | rfl) (by first | decide | omega) rfl ?_
          refine T_bipush dX10_write_32 (bp8 rfl) (inr rfl) ?_
          refine T_icmp_lt (tgt := 40) dX10_write_34 rfl (fun b34 => ?_) (fun b34 => ?_)
          · refine T_aloadn dX10_write_40 rfl rfl ?_
            refine T_getfin dX10_write_41 fX10_54 (by first | assumption | rfl) (by first | decide | omega) rfl (by first | assumption | rfl) ?_
            refine T_aloadn dX10_write_44 rfl rfl ?_
            first | refine T_getv dX10_write_45 fX10_115 (by first | assumption | rfl) (by first | decide | omega) rfl (by assumption) ?_ | refine T_geti dX10_write_45 fX10_115 (by first | assumption | rfl) (by first | decide | omega) rfl ?_
            refine T_iloadn dX10_write_48 rfl rfl ?_
            refine T_iast (j := m) dX10_write_49 (by first | assumption | rfl) (by first | decide | omega) (by omega) (by omega) ?_
            refine T_aloadn dX10_write_50 rfl rfl ?_
            refine T_getfin dX10_write_51 fX10_57 (by first | assumption | rfl) (by first | decide | omega) rfl (by first | assumption | rfl) ?_
            refine T_aloadn dX10_write_54 rfl rfl ?_
            refine T_getv dX10_write_55 fX10_115 (by first | assumption | rfl) (by first | decide | omega) rfl ((up2_a _ _ (by decide)).trans hm) ?_
            refine T_iloadn dX10_write_58 rfl rfl ?_
            refine T_iast (j := m) dX10_write_59 (by first | assumption | rfl) (by first | decide | omega) (by omega) (by omega) ?_
            refine T_aloadn dX10_write_60 rfl rfl ?_
            refine T_dup dX10_write_61 rfl ?_
            refine T_getv dX10_write_62 fX10_115 (by first | assumption | rfl) (by first | decide | omega) rfl ((up2_a _ _ (by decide)).trans ((up2_a _ _ (by decide)).trans hm)) ?_
            refine T_iconst dX10_write_65 (inr rfl) ?_
            first | refine T_iaddN dX10_write_66 (by omega) ?_ | refine T_iadd dX10_write_66 ?_
            refine T_puti dX10_write_67 fX10_115 (by first | assumption | rfl) (by first | decide | omega) rfl rfl ?_
            refine T_aloadn dX10_write_70 rfl rfl ?_
            refine T_getv dX10_write_71 fX10_115 (by first | assumption | rfl) (by first | decide | omega) rfl (up2_s _ _ _ _) ?_
            refine TT_ri dX10_write_74 trivial ?_
            first
              | exact ⟨by rw [if_pos (by omega)], by rw [if_pos (by omega)]⟩
              | exact ⟨by rw [if_neg (by omega), if_pos (by omega)], by rw [if_neg (by omega), if_pos (by omega)]⟩
              | exact ⟨by rw [if_neg (by omega), if_neg (by omega)], by rw [if_neg (by omega), if_neg (by omega)]⟩
          · refine T_ldc dX10_write_37 cX10_83 (inr rfl) ?_
            refine TT_ri dX10_write_39 trivial ?_
            first
              | exact ⟨by rw [if_pos (by omega)], by rw [if_pos (by omega)]⟩
              | exact ⟨by rw [if_neg (by omega), if_pos (by omega)], by rw [if_neg (by omega), if_pos (by omega)]⟩
              | exact ⟨by rw [if_neg (by omega), if_neg (by omega)], by rw [if_neg (by omega), if_neg (by omega)]⟩
        · refine T_ldc dX10_write_25 cX10_78 (inr rfl) ?_
          refine TT_ri dX10_write_27 trivial ?_
          first
            | exact ⟨by rw [if_pos (by omega)], by rw [if_pos (by omega)]⟩
            | exact ⟨by rw [if_neg (by omega), if_pos (by omega)], by rw [if_neg (by omega), if_pos (by omega)]⟩
            | exact ⟨by rw [if_neg (by omega), if_neg (by omega)], by rw [if_neg (by omega), if_neg (by omega)]⟩
set_option maxHeartbeats 4000000 in
set_option maxRecDepth 100000 in
theorem x_tear (c : HC) (m k : Nat) (hm : c 1 12 = (m : Int)) (hk : c 1 13 = (k : Int)) (h8 : m ≤ 8) (h15 : k ≤ 15) : RW mX10_tear 0 c [vr 1] ((m : Int) + k) (up2 (up2 c 1 12 0) 1 13 0) := by
  refine CC.of (by decide +kernel) (leb rfl) (fun hok => ?_)
  refine T_aloadn dX10_tear_0 rfl rfl ?_
  first | refine T_getv dX10_tear_1 fX10_112 (by first | assumption | rfl) (by first | decide | omega) rfl (by assumption) ?_ | refine T_geti dX10_tear_1 fX10_112 (by first | assumption | rfl) (by first | decide | omega) rfl ?_
  refine T_aloadn dX10_tear_4 rfl rfl ?_
  first | refine T_getv dX10_tear_5 fX10_115 (by first | assumption | rfl) (by first | decide | omega) rfl (by assumption) ?_ | refine T_geti dX10_tear_5 fX10_115 (by first | assumption | rfl) (by first | decide | omega) rfl ?_
  first | refine T_iaddN dX10_tear_8 (by omega) ?_ | refine T_iadd dX10_tear_8 ?_
  refine T_istoren dX10_tear_9 rfl (by decide) rfl ?_
  refine T_aloadn dX10_tear_10 rfl rfl ?_
  refine T_iconst dX10_tear_11 (inr rfl) ?_
  refine T_puti dX10_tear_12 fX10_112 (by first | assumption | rfl) (by first | decide | omega) rfl rfl ?_
  refine T_aloadn dX10_tear_15 rfl rfl ?_
  refine T_iconst dX10_tear_16 (inr rfl) ?_
  refine T_puti dX10_tear_17 fX10_115 (by first | assumption | rfl) (by first | decide | omega) rfl rfl ?_
  refine T_iloadn dX10_tear_20 rfl rfl ?_
  refine TT_ri dX10_tear_21 trivial ?_
  exact ⟨rfl, rfl⟩
def jdL (er ep : Nat → Int) (rounds rope : Int) : Nat → Nat → Int
  | 0, _ => -1
  | k + 1, i => if er i = rounds ∧ ep i ≠ rope then (i : Int) else jdL er ep rounds rope k (i + 1)
set_option maxHeartbeats 4000000 in
set_option maxRecDepth 100000 in
theorem l_judge (c : HC) (n : Nat) (hn : c 1 13 = (n : Int)) (h15 : n ≤ 15) : ∀ (k i : Nat), i + k = n → TT mX10_judge 0 2 [(0, vr 1), (1, vi (i : Int))] [] c (fun v c1 => v = some (vi (jdL (c 85) (c 86) (c 4 4) (c 4 3) k i)) ∧ c1 = c) := by
  intro k
  induction k with
  | zero =>
    intro i hk
    refine T_iloadn dX10_judge_2 rfl rfl ?_
    refine T_aloadn dX10_judge_3 rfl rfl ?_
    first | refine T_getv dX10_judge_4 fX10_115 (by first | assumption | rfl) (by first | decide | omega) rfl (by assumption) ?_ | refine T_geti dX10_judge_4 fX10_115 (by first | assumption | rfl) (by first | decide | omega) rfl ?_
    refine T_icmp_ge (tgt := 50) dX10_judge_7 rfl (fun b7 => ?_) (fun b7 => absurd b7 (by omega))
    refine T_iconst dX10_judge_50 (inr rfl) ?_
    refine TT_ri dX10_judge_51 trivial ?_
    exact ro_q rfl
  | succ k ih =>
    intro i hk
    refine T_iloadn dX10_judge_2 rfl rfl ?_
    refine T_aloadn dX10_judge_3 rfl rfl ?_
    first | refine T_getv dX10_judge_4 fX10_115 (by first | assumption | rfl) (by first | decide | omega) rfl (by assumption) ?_ | refine T_geti dX10_judge_4 fX10_115 (by first | assumption | rfl) (by first | decide | omega) rfl ?_
    refine T_icmp_ge (tgt := 50) dX10_judge_7 rfl (fun b7 => absurd b7 (by omega)) (fun b7 => ?_)
    refine T_aloadn dX10_judge_10 rfl rfl ?_
    refine T_getfin dX10_judge_11 fX10_54 (by first | assumption | rfl) (by first | decide | omega) rfl (by first | assumption | rfl) ?_
    refine T_iloadn dX10_judge_14 rfl rfl ?_
    refine T_iald (j := i) dX10_judge_15 (by first | assumption | rfl) (by first | decide | omega) (by omega) (by omega) ?_
    refine T_aloadn dX10_judge_16 rfl rfl ?_
    refine T_getfin dX10_judge_17 fX10_19 (by first | assumption | rfl) (by first | decide | omega) rfl (by first | assumption | rfl) ?_
    first | refine T_getv dX10_judge_20 fX10_148 (by first | assumption | rfl) (by first | decide | omega) rfl (by assumption) ?_ | refine T_geti dX10_judge_20 fX10_148 (by first | assumption | rfl) (by first | decide | omega) rfl ?_
    refine T_icmp_ne (tgt := 44) dX10_judge_23 rfl (fun b23 => ?_) (fun b23 => ?_)
    · refine T_iincN dX10_judge_44 rfl (by decide) rfl (by omega) ?_
      refine T_goto (tgt := 2) dX10_judge_47 rfl ?_
      rw [jdL.eq_2, if_neg (fun q => by first | exact b23 q.1 | exact q.2 b39)]
      exact ih (i + 1) (by omega)
    · refine T_aloadn dX10_judge_26 rfl rfl ?_
      refine T_getfin dX10_judge_27 fX10_57 (by first | assumption | rfl) (by first | decide | omega) rfl (by first | assumption | rfl) ?_
      refine T_iloadn dX10_judge_30 rfl rfl ?_
      refine T_iald (j := i) dX10_judge_31 (by first | assumption | rfl) (by first | decide | omega) (by omega) (by omega) ?_
      refine T_aloadn dX10_judge_32 rfl rfl ?_
      refine T_getfin dX10_judge_33 fX10_19 (by first | assumption | rfl) (by first | decide | omega) rfl (by first | assumption | rfl) ?_
      first | refine T_getv dX10_judge_36 fX10_145 (by first | assumption | rfl) (by first | decide | omega) rfl (by assumption) ?_ | refine T_geti dX10_judge_36 fX10_145 (by first | assumption | rfl) (by first | decide | omega) rfl ?_
      refine T_icmp_eq (tgt := 44) dX10_judge_39 rfl (fun b39 => ?_) (fun b39 => ?_)
      · refine T_iincN dX10_judge_44 rfl (by decide) rfl (by omega) ?_
        refine T_goto (tgt := 2) dX10_judge_47 rfl ?_
        rw [jdL.eq_2, if_neg (fun q => by first | exact b23 q.1 | exact q.2 b39)]
        exact ih (i + 1) (by omega)
      · refine T_iloadn dX10_judge_42 rfl rfl ?_
        refine TT_ri dX10_judge_43 trivial ?_
        exact ro_q (by rw [jdL.eq_2, if_pos ⟨b23, b39⟩])
set_option maxHeartbeats 4000000 in
set_option maxRecDepth 100000 in
theorem x_judge (c : HC) (n : Nat) (hn : c 1 13 = (n : Int)) (h15 : n ≤ 15) : RO mX10_judge 0 c [vr 1] (jdL (c 85) (c 86) (c 4 4) (c 4 3) n 0) := by
  refine CC.of (by decide +kernel) (leb rfl) (fun hok => ?_)
  refine T_iconst dX10_judge_0 (inr rfl) ?_
  refine T_istoren dX10_judge_1 rfl (by decide) rfl ?_
  exact l_judge c n hn h15 n 0 (by omega)
set_option maxHeartbeats 4000000 in
set_option maxRecDepth 100000 in
theorem x_seed (c : HC) (v : Int) : RW mX10_seed 0 c [vr 1, vi v] (if v < 0 then OUT else c 87 0) (if v < 0 then c else up2 c 87 0 v) := by
  refine CC.of (by decide +kernel) (leb rfl) (fun hok => ?_)
  unfold OUT
  refine T_iloadn dX10_seed_0 rfl rfl ?_
  refine T_if_ge (tgt := 7) dX10_seed_1 rfl (fun b1 => ?_) (fun b1 => ?_)
  · refine T_aloadn dX10_seed_7 rfl rfl ?_
    refine T_getfin dX10_seed_8 fX10_63 (by first | assumption | rfl) (by first | decide | omega) rfl (by first | assumption | rfl) ?_
    first | refine T_getv dX10_seed_11 fX10_273 (by first | assumption | rfl) (by first | decide | omega) rfl (by assumption) ?_ | refine T_geti dX10_seed_11 fX10_273 (by first | assumption | rfl) (by first | decide | omega) rfl ?_
    refine T_istoren dX10_seed_14 rfl (by decide) rfl ?_
    refine T_aloadn dX10_seed_15 rfl rfl ?_
    refine T_getfin dX10_seed_16 fX10_63 (by first | assumption | rfl) (by first | decide | omega) rfl (by first | assumption | rfl) ?_
    refine T_iloadn dX10_seed_19 rfl rfl ?_
    refine T_puti dX10_seed_20 fX10_273 (by first | assumption | rfl) (by first | decide | omega) rfl rfl ?_
    refine T_iloadn dX10_seed_23 rfl rfl ?_
    refine TT_ri dX10_seed_24 trivial ?_
    first | exact ⟨by rw [if_pos (by omega)], by rw [if_pos (by omega)]⟩ | exact ⟨by rw [if_neg (by omega)], by rw [if_neg (by omega)]⟩
  · refine T_ldc dX10_seed_4 cX10_78 (inr rfl) ?_
    refine TT_ri dX10_seed_6 trivial ?_
    first | exact ⟨by rw [if_pos (by omega)], by rw [if_pos (by omega)]⟩ | exact ⟨by rw [if_neg (by omega)], by rw [if_neg (by omega)]⟩
def fdF (m : Nat) (x : Int) : Int := if x < 0 ∨ 255 < x then OUT else if 250 ≤ m then FUL else (m : Int) + 1
def fdC (c : HC) (m : Nat) (x : Int) : HC := if x < 0 ∨ 255 < x then c else if 250 ≤ m then c else up2 (up2 c 3 m x) 2 1 ((m : Int) + 1)
set_option maxHeartbeats 4000000 in
set_option maxRecDepth 100000 in
theorem c_add (c : HC) (m : Nat) (hm : c 2 1 = (m : Int)) (h8 : m < 250) (x : Int) (hx : 0 ≤ x ∧ x ≤ 255) : VO mX9_add 0 c [vr 2, vi x] (up2 (up2 c 3 m x) 2 1 ((m : Int) + 1)) := by
  refine CC.of (by decide +kernel) (leb rfl) (fun hok => ?_)
  refine T_aloadn dX9_add_0 rfl rfl ?_
  first | refine T_getv dX9_add_1 fX9_22 (by first | assumption | rfl) (by first | decide | omega) rfl (by assumption) ?_ | refine T_geti dX9_add_1 fX9_22 (by first | assumption | rfl) (by first | decide | omega) rfl ?_
  refine T_sipush dX9_add_4 (bp16 rfl) (inr rfl) ?_
  refine T_icmp_ge (tgt := 31) dX9_add_7 rfl (fun b7 => absurd b7 (by omega)) (fun b7 => ?_)
  refine T_aloadn dX9_add_10 rfl rfl ?_
  refine T_getfin dX9_add_11 fX9_9 (by first | assumption | rfl) (by first | decide | omega) rfl (by first | assumption | rfl) ?_
  refine T_aloadn dX9_add_14 rfl rfl ?_
  first | refine T_getv dX9_add_15 fX9_22 (by first | assumption | rfl) (by first | decide | omega) rfl (by assumption) ?_ | refine T_geti dX9_add_15 fX9_22 (by first | assumption | rfl) (by first | decide | omega) rfl ?_
  refine T_iloadn dX9_add_18 rfl rfl ?_
  refine T_i2c dX9_add_19 ?_
  rw [show x % 65536 = x by omega]
  refine T_cast (j := m) dX9_add_20 (by first | assumption | rfl) (by first | decide | omega) (by omega) (by omega) (by omega) ?_
  refine T_aloadn dX9_add_21 rfl rfl ?_
  refine T_dup dX9_add_22 rfl ?_
  refine T_getv dX9_add_23 fX9_22 (by first | assumption | rfl) (by first | decide | omega) rfl ((up2_a _ _ (by decide)).trans hm) ?_
  refine T_iconst dX9_add_26 (inr rfl) ?_
  first | refine T_iaddN dX9_add_27 (by omega) ?_ | refine T_iadd dX9_add_27 ?_
  refine T_puti dX9_add_28 fX9_22 (by first | assumption | rfl) (by first | decide | omega) rfl rfl ?_
  refine TT_rv dX9_add_31 trivial ?_
  exact ⟨rfl, rfl⟩
set_option maxHeartbeats 4000000 in
set_option maxRecDepth 100000 in
theorem x_feed (c : HC) (m : Nat) (hm : c 2 1 = (m : Int)) (h8 : m ≤ 250) (x : Int) : RW mX10_feed 1 c [vr 1, vi x] (fdF m x) (fdC c m x) := by
  refine CC.of (by decide +kernel) (leb rfl) (fun hok => ?_)
  unfold fdF fdC OUT FUL
  refine T_iloadn dX10_feed_0 rfl rfl ?_
  refine T_if_lt (tgt := 11) dX10_feed_1 rfl (fun b1 => ?_) (fun b1 => ?_)
  · refine T_ldc dX10_feed_11 cX10_78 (inr rfl) ?_
    refine TT_ri dX10_feed_13 trivial ?_
    first
      | exact ⟨by rw [if_pos (by omega)], by rw [if_pos (by omega)]⟩
      | exact ⟨by rw [if_neg (by omega), if_pos (by omega)], by rw [if_neg (by omega), if_pos (by omega)]⟩
      | exact ⟨by rw [if_neg (by omega), if_neg (by omega)], by rw [if_neg (by omega), if_neg (by omega)]⟩
  · refine T_iloadn dX10_feed_4 rfl rfl ?_
    refine T_sipush dX10_feed_5 (bp16 rfl) (inr rfl) ?_
    refine T_icmp_le (tgt := 14) dX10_feed_8 rfl (fun b8 => ?_) (fun b8 => ?_)
    · refine T_aloadn dX10_feed_14 rfl rfl ?_
      refine T_getfin dX10_feed_15 fX10_10 (by first | assumption | rfl) (by first | decide | omega) rfl (by first | assumption | rfl) ?_
      first | refine T_getv dX10_feed_18 fX10_79 (by first | assumption | rfl) (by first | decide | omega) rfl (by assumption) ?_ | refine T_geti dX10_feed_18 fX10_79 (by first | assumption | rfl) (by first | decide | omega) rfl ?_
      refine T_sipush dX10_feed_21 (bp16 rfl) (inr rfl) ?_
      refine T_icmp_lt (tgt := 30) dX10_feed_24 rfl (fun b24 => ?_) (fun b24 => ?_)
      · refine T_aloadn dX10_feed_30 rfl rfl ?_
        refine T_getfin dX10_feed_31 fX10_10 (by first | assumption | rfl) (by first | decide | omega) rfl (by first | assumption | rfl) ?_
        refine T_iloadn dX10_feed_34 rfl rfl ?_
        refine TT_Vv dX10_feed_35 (c_add c m hm (by omega) x (by omega)) kX10_84 (by decide) (by first | decide | omega) (by first | assumption | rfl) rfl (leb rfl) ?_
        refine T_aloadn dX10_feed_38 rfl rfl ?_
        refine T_getfin dX10_feed_39 fX10_10 (by first | assumption | rfl) (by first | decide | omega) rfl (by first | assumption | rfl) ?_
        refine T_getv dX10_feed_42 fX10_79 (by first | assumption | rfl) (by first | decide | omega) rfl (up2_s _ _ _ _) ?_
        refine TT_ri dX10_feed_45 trivial ?_
        first
          | exact ⟨by rw [if_pos (by omega)], by rw [if_pos (by omega)]⟩
          | exact ⟨by rw [if_neg (by omega), if_pos (by omega)], by rw [if_neg (by omega), if_pos (by omega)]⟩
          | exact ⟨by rw [if_neg (by omega), if_neg (by omega)], by rw [if_neg (by omega), if_neg (by omega)]⟩
      · refine T_ldc dX10_feed_27 cX10_83 (inr rfl) ?_
        refine TT_ri dX10_feed_29 trivial ?_
        first
          | exact ⟨by rw [if_pos (by omega)], by rw [if_pos (by omega)]⟩
          | exact ⟨by rw [if_neg (by omega), if_pos (by omega)], by rw [if_neg (by omega), if_pos (by omega)]⟩
          | exact ⟨by rw [if_neg (by omega), if_neg (by omega)], by rw [if_neg (by omega), if_neg (by omega)]⟩
    · refine T_ldc dX10_feed_11 cX10_78 (inr rfl) ?_
      refine TT_ri dX10_feed_13 trivial ?_
      first
        | exact ⟨by rw [if_pos (by omega)], by rw [if_pos (by omega)]⟩
        | exact ⟨by rw [if_neg (by omega), if_pos (by omega)], by rw [if_neg (by omega), if_pos (by omega)]⟩
        | exact ⟨by rw [if_neg (by omega), if_neg (by omega)], by rw [if_neg (by omega), if_neg (by omega)]⟩
theorem imgF : ∀ i, i < 2 → FIN 69 i = some (114 + 4 * i) ∧ SH[114 + 4 * i]? = some (0, 4) ∧ FIN (114 + 4 * i) 0 = some (115 + 4 * i) := by decide +kernel
theorem imgA {i : Nat} (h : i < 2) : stA (115 + 4 * i) := by
  rcases (show i = 0 ∨ i = 1 by omega) with rfl | rfl
  · exact Or.inr (Or.inr (Or.inl rfl))
  · exact Or.inr (Or.inr (Or.inr rfl))
def keepC (c : HC) (i : Int) : HC := if i < 0 ∨ 2 ≤ i then c else forgF (up2 (up2 (putR c (115 + 4 * i.toNat) (stR c 4)) (114 + 4 * i.toNat) 1 (c 87 0)) (114 + 4 * i.toNat) 2 1)
def goF (k i : Int) : Int := if i < 0 ∨ 2 ≤ i then UNK else if k = 0 then NOTN else 1
def goC (c : HC) (i : Int) : HC := if i < 0 ∨ 2 ≤ i then c else if c (114 + 4 * i.toNat) 2 = 0 then c else forgF (up2 (putR c 4 (stR c (115 + 4 * i.toNat))) 87 0 (c (114 + 4 * i.toNat) 1))
set_option maxHeartbeats 4000000 in
set_option maxRecDepth 100000 in
theorem x_keep (c : HC) (i : Int) : RW mX10_keep 2 c [vr 1, vi i] (if i < 0 ∨ 2 ≤ i then UNK else 1) (keepC c i) := by
  refine CC.of (by decide +kernel) (leb rfl) (fun hok => ?_)
  unfold keepC UNK
  have hi : ¬ (i < 0 ∨ 2 ≤ i) → i.toNat < 2 := by omega
  refine T_iloadn dX10_keep_0 rfl rfl ?_
  refine T_if_lt (tgt := 9) dX10_keep_1 rfl (fun b1 => ?_) (fun b1 => ?_)
  · refine T_ldc dX10_keep_9 cX10_155 (inr rfl) ?_
    refine TT_ri dX10_keep_11 trivial ?_
    exact ⟨by rw [if_pos (by omega)], by rw [if_pos (by omega)]⟩
  · refine T_iloadn dX10_keep_4 rfl rfl ?_
    refine T_iconst dX10_keep_5 (inr rfl) ?_
    refine T_icmp_lt (tgt := 12) dX10_keep_6 rfl (fun b6 => ?_) (fun b6 => ?_)
    · refine T_aloadn dX10_keep_12 rfl rfl ?_
      refine T_getfin dX10_keep_13 fX10_32 (by first | assumption | rfl) (by first | decide | omega) rfl (by first | assumption | rfl) ?_
      refine T_iloadn dX10_keep_16 rfl rfl ?_
      refine T_aaldfin (j := i.toNat) dX10_keep_17 (by first | assumption | rfl) (by decide) rfl (by first | decide | omega) (by omega) (by omega) (imgF _ (hi (by omega))).1 ?_
      refine T_getfin dX10_keep_18 fX10_276 (imgF _ (hi (by omega))).2.1 (by first | decide | omega) rfl (imgF _ (hi (by omega))).2.2 ?_
      refine T_aloadn dX10_keep_21 rfl rfl ?_
      refine T_getfin dX10_keep_22 fX10_19 (by first | assumption | rfl) (by first | decide | omega) rfl (by first | assumption | rfl) ?_
      refine TT_Vv dX10_keep_25 (c_copy c (imgA (hi (by omega))) (Or.inl rfl : stA 4) (by omega)) kX10_279 (by decide) (by first | decide | omega) (stK (imgA (hi (by omega)))).2.1 rfl (leb rfl) ?_
      refine T_aloadn dX10_keep_28 rfl rfl ?_
      refine T_getfin dX10_keep_29 fX10_32 (by first | assumption | rfl) (by first | decide | omega) rfl (by first | assumption | rfl) ?_
      refine T_iloadn dX10_keep_32 rfl rfl ?_
      refine T_aaldfin (j := i.toNat) dX10_keep_33 (by first | assumption | rfl) (by decide) rfl (by first | decide | omega) (by omega) (by omega) (imgF _ (hi (by omega))).1 ?_
      refine T_aloadn dX10_keep_34 rfl rfl ?_
      refine T_getfin dX10_keep_35 fX10_63 (by first | assumption | rfl) (by first | decide | omega) rfl (by first | assumption | rfl) ?_
      refine T_getv dX10_keep_38 fX10_273 (by first | assumption | rfl) (by first | decide | omega) rfl (pro (by omega)) ?_
      refine T_puti dX10_keep_41 fX10_282 (imgF _ (hi (by omega))).2.1 (by first | decide | omega) rfl rfl ?_
      refine T_aloadn dX10_keep_44 rfl rfl ?_
      refine T_getfin dX10_keep_45 fX10_32 (by first | assumption | rfl) (by first | decide | omega) rfl (by first | assumption | rfl) ?_
      refine T_iloadn dX10_keep_48 rfl rfl ?_
      refine T_aaldfin (j := i.toNat) dX10_keep_49 (by first | assumption | rfl) (by decide) rfl (by first | decide | omega) (by omega) (by omega) (imgF _ (hi (by omega))).1 ?_
      refine T_iconst dX10_keep_50 (inr rfl) ?_
      refine T_putz dX10_keep_51 fX10_121 (imgF _ (hi (by omega))).2.1 (by first | decide | omega) rfl rfl (by first | exact Or.inl rfl | exact Or.inr rfl | assumption) ?_
      refine T_aloadn dX10_keep_54 rfl rfl ?_
      refine T_getfin dX10_keep_55 fX10_26 (by first | assumption | rfl) (by first | decide | omega) rfl (by first | assumption | rfl) ?_
      refine TT_Vv dX10_keep_58 (c_forget _) kX10_118 (by decide) (by first | decide | omega) (by first | assumption | rfl) rfl (leb rfl) ?_
      refine T_iconst dX10_keep_61 (inr rfl) ?_
      refine TT_ri dX10_keep_62 trivial ?_
      exact ⟨by rw [if_neg (by omega)], by rw [if_neg (by omega)]⟩
    · refine T_ldc dX10_keep_9 cX10_155 (inr rfl) ?_
      refine TT_ri dX10_keep_11 trivial ?_
      exact ⟨by rw [if_pos (by omega)], by rw [if_pos (by omega)]⟩
set_option maxHeartbeats 4000000 in
set_option maxRecDepth 100000 in
theorem x_goBack (c : HC) (i : Int) : RW mX10_goBack 2 c [vr 1, vi i] (goF (c (114 + 4 * i.toNat) 2) i) (goC c i) := by
  refine CC.of (by decide +kernel) (leb rfl) (fun hok => ?_)
  unfold goF goC UNK NOTN
  have hi : ¬ (i < 0 ∨ 2 ≤ i) → i.toNat < 2 := by omega
  refine T_iloadn dX10_goBack_0 rfl rfl ?_
  refine T_if_lt (tgt := 9) dX10_goBack_1 rfl (fun b1 => ?_) (fun b1 => ?_)
  · refine T_ldc dX10_goBack_9 cX10_155 (inr rfl) ?_
    refine TT_ri dX10_goBack_11 trivial ?_
    exact ⟨by rw [if_pos (by omega)], by rw [if_pos (by omega)]⟩
  · refine T_iloadn dX10_goBack_4 rfl rfl ?_
    refine T_iconst dX10_goBack_5 (inr rfl) ?_
    refine T_icmp_lt (tgt := 12) dX10_goBack_6 rfl (fun b6 => ?_) (fun b6 => ?_)
    · refine T_aloadn dX10_goBack_12 rfl rfl ?_
      refine T_getfin dX10_goBack_13 fX10_32 (by first | assumption | rfl) (by first | decide | omega) rfl (by first | assumption | rfl) ?_
      refine T_iloadn dX10_goBack_16 rfl rfl ?_
      refine T_aaldfin (j := i.toNat) dX10_goBack_17 (by first | assumption | rfl) (by decide) rfl (by first | decide | omega) (by omega) (by omega) (imgF _ (hi (by omega))).1 ?_
      first | refine T_getv dX10_goBack_18 fX10_121 (imgF _ (hi (by omega))).2.1 (by first | decide | omega) rfl (by assumption) ?_ | refine T_geti dX10_goBack_18 fX10_121 (imgF _ (hi (by omega))).2.1 (by first | decide | omega) rfl ?_
      refine T_if_ne (tgt := 27) dX10_goBack_21 rfl (fun b21 => ?_) (fun b21 => ?_)
      · refine T_aloadn dX10_goBack_27 rfl rfl ?_
        refine T_getfin dX10_goBack_28 fX10_19 (by first | assumption | rfl) (by first | decide | omega) rfl (by first | assumption | rfl) ?_
        refine T_aloadn dX10_goBack_31 rfl rfl ?_
        refine T_getfin dX10_goBack_32 fX10_32 (by first | assumption | rfl) (by first | decide | omega) rfl (by first | assumption | rfl) ?_
        refine T_iloadn dX10_goBack_35 rfl rfl ?_
        refine T_aaldfin (j := i.toNat) dX10_goBack_36 (by first | assumption | rfl) (by decide) rfl (by first | decide | omega) (by omega) (by omega) (imgF _ (hi (by omega))).1 ?_
        refine T_getfin dX10_goBack_37 fX10_276 (imgF _ (hi (by omega))).2.1 (by first | decide | omega) rfl (imgF _ (hi (by omega))).2.2 ?_
        refine TT_Vv dX10_goBack_40 (c_copy c (Or.inl rfl : stA 4) (imgA (hi (by omega))) (by omega)) kX10_279 (by decide) (by first | decide | omega) (by first | assumption | rfl) rfl (leb rfl) ?_
        refine T_aloadn dX10_goBack_43 rfl rfl ?_
        refine T_getfin dX10_goBack_44 fX10_63 (by first | assumption | rfl) (by first | decide | omega) rfl (by first | assumption | rfl) ?_
        refine T_aloadn dX10_goBack_47 rfl rfl ?_
        refine T_getfin dX10_goBack_48 fX10_32 (by first | assumption | rfl) (by first | decide | omega) rfl (by first | assumption | rfl) ?_
        refine T_iloadn dX10_goBack_51 rfl rfl ?_
        refine T_aaldfin (j := i.toNat) dX10_goBack_52 (by first | assumption | rfl) (by decide) rfl (by first | decide | omega) (by omega) (by omega) (imgF _ (hi (by omega))).1 ?_
        refine T_getv dX10_goBack_53 fX10_282 (imgF _ (hi (by omega))).2.1 (by first | decide | omega) rfl (pro (by omega)) ?_
        refine T_puti dX10_goBack_56 fX10_273 (by first | assumption | rfl) (by first | decide | omega) rfl rfl ?_
        refine T_aloadn dX10_goBack_59 rfl rfl ?_
        refine T_getfin dX10_goBack_60 fX10_26 (by first | assumption | rfl) (by first | decide | omega) rfl (by first | assumption | rfl) ?_
        refine TT_Vv dX10_goBack_63 (c_forget _) kX10_118 (by decide) (by first | decide | omega) (by first | assumption | rfl) rfl (leb rfl) ?_
        refine T_iconst dX10_goBack_66 (inr rfl) ?_
        refine TT_ri dX10_goBack_67 trivial ?_
        exact ⟨by rw [if_neg (by omega), if_neg b21], by rw [if_neg (by omega), if_neg b21]⟩
      · refine T_ldc dX10_goBack_24 cX10_189 (inr rfl) ?_
        refine TT_ri dX10_goBack_26 trivial ?_
        exact ⟨by rw [if_neg (by omega), if_pos b21], by rw [if_neg (by omega), if_pos b21]⟩
    · refine T_ldc dX10_goBack_9 cX10_155 (inr rfl) ?_
      refine TT_ri dX10_goBack_11 trivial ?_
      exact ⟨by rw [if_pos (by omega)], by rw [if_pos (by omega)]⟩
