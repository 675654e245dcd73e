/-! the reference: drift -/
def wdR (W L : Nat → Int) (b : Int) : Int := if lgL W (imin b 41).toNat < 0 then -1 else L (lgL W (imin b 41).toNat).toNat
set_option maxHeartbeats 4000000 in
set_option maxRecDepth 100000 in
theorem r_drawn (c : HC) (nw : Nat) (hnw : c 130 12 = (nw : Int)) (h40 : nw ≤ 40) (h0 : 0 ≤ c 122 13) (h1 : c 122 13 ≤ 2147483647) (p : Nat) (hp : p < 10) (hb : 0 ≤ c 130 (2 + p)) (ot : Int) : RW mX11_drawn 1 c [vr 122, vi (p : Int), vi ot] (dwF (c 122 13) (c 128 p) (wdR (c 141) (c 140) (c 130 (2 + p))) ot (saidL (c 130) (wdR (c 141) (c 140) (c 130 (2 + p))) nw 0)) (up2 c 122 13 (drw (c 122 13))) := by
  have hlo := r_longestOf (up2 c 122 13 (drw (c 122 13))) (c 130 (2 + p)) hb
  rw [up2_row _ _ _ _ (x := 141) (by decide)] at hlo
  have hlb := lgL_bd (c 141) (imin (c 130 (2 + p)) 41).toNat
  have him := imin41 hb
  have hws := r_wasSaid (up2 c 122 13 (drw (c 122 13))) (wdR (c 141) (c 140) (c 130 (2 + p))) nw ((up2_a _ _ (by decide)).trans hnw) h40
  rw [up2_row _ _ _ _ (x := 130) (by decide)] at hws
  refine CC.of (by decide +kernel) (leb rfl) (fun hok => ?_)
  refine T_aloadn dX11_drawn_0 rfl rfl ?_
  refine T_bipush dX11_drawn_1 (bp8 rfl) (inr rfl) ?_
  refine TT_Vw dX11_drawn_3 (r_draw c 100 (by decide) h0 h1) kX11_255 (by decide) (by first | decide | omega) (by first | assumption | rfl) rfl (leb rfl) ?_
  refine T_aloadn dX11_drawn_6 rfl rfl ?_
  refine T_getfin dX11_drawn_7 fX11_25 (by first | assumption | rfl) (by first | decide | omega) rfl (by first | assumption | rfl) ?_
  refine T_iloadn dX11_drawn_10 rfl rfl ?_
  refine T_ialdv (j := p) dX11_drawn_11 (by first | assumption | rfl) (by first | decide | omega) (by omega) (by omega) (up2_a _ _ (by decide)) ?_
  refine T_icmp_ge (tgt := 19) dX11_drawn_12 rfl (fun b12 => ?_) (fun b12 => ?_)
  · refine T_iconst dX11_drawn_19 (inr rfl) ?_
    refine T_istoren dX11_drawn_20 rfl (by decide) rfl ?_
    refine T_aloadn dX11_drawn_21 rfl rfl ?_
    refine T_aloadn dX11_drawn_22 rfl rfl ?_
    refine T_getfin dX11_drawn_23 fX11_31 (by first | assumption | rfl) (by first | decide | omega) rfl (by first | assumption | rfl) ?_
    refine T_iconst dX11_drawn_26 (inr rfl) ?_
    refine T_iloadn dX11_drawn_27 rfl rfl ?_
    first | refine T_iaddN dX11_drawn_28 (by omega) ?_ | refine T_iadd dX11_drawn_28 ?_
    refine T_ialdv (j := 2 + p) dX11_drawn_29 (by first | assumption | rfl) (by first | decide | omega) (by omega) (by omega) (up2_a _ _ (by decide)) ?_
    refine TT_Vi dX11_drawn_30 (hlo) kX11_208 (by decide) (by first | decide | omega) (by first | assumption | rfl) rfl (leb rfl) ?_
    refine T_istore dX11_drawn_33 (by decide) rfl ?_
    refine T_iload dX11_drawn_35 rfl ?_
    refine T_if_ge (tgt := 44) dX11_drawn_37 rfl (fun b37 => ?_) (fun b37 => ?_)
    · have hw : wdR (c 141) (c 140) (c 130 (2 + p)) = c 140 (lgL (c 141) (imin (c 130 (2 + p)) 41).toNat).toNat := by unfold wdR; rw [if_neg (by omega)]
      rw [hw] at hws
      refine T_aloadn dX11_drawn_44 rfl rfl ?_
      refine T_getfin dX11_drawn_45 fX11_65 (by first | assumption | rfl) (by first | decide | omega) rfl (by first | assumption | rfl) ?_
      refine T_iload dX11_drawn_48 rfl ?_
      refine T_ialdv (j := (lgL (c 141) (imin (c 130 (2 + p)) 41).toNat).toNat) dX11_drawn_50 (by first | assumption | rfl) (by first | decide | omega) (by omega) (by omega) (up2_a _ _ (by decide)) ?_
      refine T_istore dX11_drawn_51 (by decide) rfl ?_
      refine T_iloadn dX11_drawn_53 rfl rfl ?_
      refine T_if_ne (tgt := 78) dX11_drawn_54 rfl (fun b54 => absurd b54 (by omega)) (fun b54 => ?_)
      refine T_iload dX11_drawn_57 rfl ?_
      refine T_iconst dX11_drawn_59 (inr rfl) ?_
      refine T_icmp_eq (tgt := 78) dX11_drawn_60 rfl (fun b60 => ?_) (fun b60 => ?_)
      · refine T_iconst dX11_drawn_78 (inr rfl) ?_
        refine T_goto (tgt := 84) dX11_drawn_79 rfl ?_
        refine TT_ri dX11_drawn_84 trivial ?_
        refine ⟨?_, rfl⟩
        unfold dwF
        rw [if_neg (show ¬ (drawF (c 122 13) 100 < c 128 p) by omega)]
        rw [if_pos (by rw [hw]; exact b60)]
      · refine T_iload dX11_drawn_63 rfl ?_
        refine T_iloadn dX11_drawn_65 rfl rfl ?_
        refine T_icmp_eq (tgt := 78) dX11_drawn_66 rfl (fun b66 => ?_) (fun b66 => ?_)
        · refine T_iconst dX11_drawn_78 (inr rfl) ?_
          refine T_goto (tgt := 84) dX11_drawn_79 rfl ?_
          refine TT_ri dX11_drawn_84 trivial ?_
          refine ⟨?_, rfl⟩
          unfold dwF
          rw [if_neg (show ¬ (drawF (c 122 13) 100 < c 128 p) by omega)]
          rw [if_neg (by rw [hw]; exact b60)]
          rw [if_pos (Or.inl (by rw [hw]; exact b66))]
        · refine T_aloadn dX11_drawn_69 rfl rfl ?_
          refine T_iload dX11_drawn_70 rfl ?_
          refine TT_Vi dX11_drawn_72 (hws) kX11_228 (by decide) (by first | decide | omega) (by first | assumption | rfl) rfl (leb rfl) ?_
          refine T_if_eq (tgt := 82) dX11_drawn_75 rfl (fun b75 => ?_) (fun b75 => ?_)
          · refine T_iload dX11_drawn_82 rfl ?_
            refine TT_ri dX11_drawn_84 trivial ?_
            refine ⟨?_, rfl⟩
            unfold dwF
            rw [if_neg (show ¬ (drawF (c 122 13) 100 < c 128 p) by omega)]
            rw [if_neg (by rw [hw]; exact b60)]
            rw [hw]
            rw [if_neg (by rintro (z | z); exact b66 z; exact z b75)]
          · refine T_iconst dX11_drawn_78 (inr rfl) ?_
            refine T_goto (tgt := 84) dX11_drawn_79 rfl ?_
            refine TT_ri dX11_drawn_84 trivial ?_
            refine ⟨?_, rfl⟩
            unfold dwF
            rw [if_neg (show ¬ (drawF (c 122 13) 100 < c 128 p) by omega)]
            rw [if_neg (by rw [hw]; exact b60)]
            rw [hw]
            rw [if_pos (Or.inr b75)]
    · have hz : wdR (c 141) (c 140) (c 130 (2 + p)) = -1 := by unfold wdR; rw [if_pos (by omega)]
      refine T_iconst dX11_drawn_40 (inr rfl) ?_
      refine T_goto (tgt := 51) dX11_drawn_41 rfl ?_
      refine T_istore dX11_drawn_51 (by decide) rfl ?_
      refine T_iloadn dX11_drawn_53 rfl rfl ?_
      refine T_if_ne (tgt := 78) dX11_drawn_54 rfl (fun b54 => absurd b54 (by omega)) (fun b54 => ?_)
      refine T_iload dX11_drawn_57 rfl ?_
      refine T_iconst dX11_drawn_59 (inr rfl) ?_
      refine T_icmp_eq (tgt := 78) dX11_drawn_60 rfl (fun b60 => ?_) (fun b60 => absurd rfl b60)
      refine T_iconst dX11_drawn_78 (inr rfl) ?_
      refine T_goto (tgt := 84) dX11_drawn_79 rfl ?_
      refine TT_ri dX11_drawn_84 trivial ?_
      refine ⟨?_, rfl⟩
      unfold dwF
      rw [if_neg (show ¬ (drawF (c 122 13) 100 < c 128 p) by omega)]
      rw [if_pos hz]
  · refine T_iconst dX11_drawn_15 (inr rfl) ?_
    refine T_goto (tgt := 20) dX11_drawn_16 rfl ?_
    refine T_istoren dX11_drawn_20 rfl (by decide) rfl ?_
    refine T_aloadn dX11_drawn_21 rfl rfl ?_
    refine T_aloadn dX11_drawn_22 rfl rfl ?_
    refine T_getfin dX11_drawn_23 fX11_31 (by first | assumption | rfl) (by first | decide | omega) rfl (by first | assumption | rfl) ?_
    refine T_iconst dX11_drawn_26 (inr rfl) ?_
    refine T_iloadn dX11_drawn_27 rfl rfl ?_
    first | refine T_iaddN dX11_drawn_28 (by omega) ?_ | refine T_iadd dX11_drawn_28 ?_
    refine T_ialdv (j := 2 + p) dX11_drawn_29 (by first | assumption | rfl) (by first | decide | omega) (by omega) (by omega) (up2_a _ _ (by decide)) ?_
    refine TT_Vi dX11_drawn_30 (hlo) kX11_208 (by decide) (by first | decide | omega) (by first | assumption | rfl) rfl (leb rfl) ?_
    refine T_istore dX11_drawn_33 (by decide) rfl ?_
    refine T_iload dX11_drawn_35 rfl ?_
    refine T_if_ge (tgt := 44) dX11_drawn_37 rfl (fun b37 => ?_) (fun b37 => ?_)
    · have hw : wdR (c 141) (c 140) (c 130 (2 + p)) = c 140 (lgL (c 141) (imin (c 130 (2 + p)) 41).toNat).toNat := by unfold wdR; rw [if_neg (by omega)]
      rw [hw] at hws
      refine T_aloadn dX11_drawn_44 rfl rfl ?_
      refine T_getfin dX11_drawn_45 fX11_65 (by first | assumption | rfl) (by first | decide | omega) rfl (by first | assumption | rfl) ?_
      refine T_iload dX11_drawn_48 rfl ?_
      refine T_ialdv (j := (lgL (c 141) (imin (c 130 (2 + p)) 41).toNat).toNat) dX11_drawn_50 (by first | assumption | rfl) (by first | decide | omega) (by omega) (by omega) (up2_a _ _ (by decide)) ?_
      refine T_istore dX11_drawn_51 (by decide) rfl ?_
      refine T_iloadn dX11_drawn_53 rfl rfl ?_
      refine T_if_ne (tgt := 78) dX11_drawn_54 rfl (fun b54 => ?_) (fun b54 => absurd b54 (by omega))
      refine T_iconst dX11_drawn_78 (inr rfl) ?_
      refine T_goto (tgt := 84) dX11_drawn_79 rfl ?_
      refine TT_ri dX11_drawn_84 trivial ?_
      refine ⟨?_, rfl⟩
      unfold dwF
      rw [if_pos (by omega)]
    · have hz : wdR (c 141) (c 140) (c 130 (2 + p)) = -1 := by unfold wdR; rw [if_pos (by omega)]
      refine T_iconst dX11_drawn_40 (inr rfl) ?_
      refine T_goto (tgt := 51) dX11_drawn_41 rfl ?_
      refine T_istore dX11_drawn_51 (by decide) rfl ?_
      refine T_iloadn dX11_drawn_53 rfl rfl ?_
      refine T_if_ne (tgt := 78) dX11_drawn_54 rfl (fun b54 => ?_) (fun b54 => absurd b54 (by omega))
      refine T_iconst dX11_drawn_78 (inr rfl) ?_
      refine T_goto (tgt := 84) dX11_drawn_79 rfl ?_
      refine TT_ri dX11_drawn_84 trivial ?_
      refine ⟨?_, rfl⟩
      unfold dwF
      rw [if_pos (by omega)]
def hRR (c : HC) (s : Int) (R : Nat → Int) : HC := nowP (up2 c 122 13 s) R
theorem hRR_row {c : HC} {s : Int} {R : Nat → Int} {x : Nat} (h : x ≠ 130) (h2 : x ≠ 122) : hRR c s R x = c x := (nowP_row h).trans (up2_row _ _ _ _ h2)
theorem hRR_f {c : HC} {s : Int} {R : Nat → Int} {k : Nat} (h : k ≠ 13) : hRR c s R 122 k = c 122 k := (nowP_o (by decide)).trans (up2_k _ _ h)
theorem hRR_seed {c : HC} {s : Int} {R : Nat → Int} : hRR c s R 122 13 = s := (nowP_o (by decide)).trans (up2_s _ _ _ _)
theorem hRR_at {c : HC} {s : Int} {R : Nat → Int} {k : Nat} (h : k < 53) : hRR c s R 130 k = R k := nowP_at h
theorem hRR_up {c : HC} {s v : Int} {R : Nat → Int} : up2 (hRR c s R) 122 13 v = hRR c v R := by
  unfold hRR
  rw [nowP_up2 (by decide)]
  congr 1
  funext x y
  rw [up2_g, up2_g, up2_g]
  split <;> rfl
theorem hRR_self (c : HC) : hRR c (c 122 13) (c 130) = c := by
  unfold hRR
  have e : up2 c 122 13 (c 122 13) = c := by
    funext x y
    rw [up2_g]
    split
    · rename_i h; rw [h.1, h.2]
    · rfl
  rw [e, nowP_self]
theorem RGV_hRR {c : HC} {s : Int} {R : Nat → Int} (h : RGV c) : RGV (hRR c s R) := RGV_row (fun k hk => hRR_f (by omega)) (hRR_row (by decide) (by decide)) (hRR_row (by decide) (by decide)) h
theorem RSV_hRR {c : HC} {s : Int} {R : Nat → Int} {n : Nat} (h : RSV c n) : RSV (hRR c s R) n := RSV_row (hRR_f (by decide)) (hRR_row (by decide) (by decide)) (hRR_row (by decide) (by decide)) (hRR_row (by decide) (by decide)) (hRR_row (by decide) (by decide)) h
theorem sylR_row {c c2 : HC} (h0 : ∀ k, k ≤ 4 → c2 122 k = c 122 k) (h1 : c2 123 = c 123) (h2 : c2 124 = c 124) (h3 : c2 129 = c 129) (w : Int) : sylR c2 w = sylR c w := by
  unfold sylR sylF
  split
  · rfl
  · exact lenR_row h0 h1 h2 h3 w
theorem sylR_hRR {c : HC} {s : Int} {R : Nat → Int} (w : Int) : sylR (hRR c s R) w = sylR c w := sylR_row (fun k hk => hRR_f (by omega)) (hRR_row (by decide) (by decide)) (hRR_row (by decide) (by decide)) (hRR_row (by decide) (by decide)) w
theorem saidL_ext {R R2 : Nat → Int} {w : Int} : ∀ k i, (∀ j, i ≤ j → j < i + k → R (13 + j) = R2 (13 + j)) → saidL R w k i = saidL R2 w k i
  | 0, _, _ => rfl
  | k + 1, i, h => by
    unfold saidL
    rw [h i (Nat.le_refl _) (by omega), saidL_ext k (i + 1) (fun j h1 h2 => h j (by omega) (by omega))]
def dwR (c : HC) (nw : Nat) (R : Nat → Int) (s p ot : Int) : Int := dwF s (c 128 p.toNat) (wdR (c 141) (c 140) (R (2 + p.toNat))) ot (saidL R (wdR (c 141) (c 140) (R (2 + p.toNat))) nw 0)
def nthR (c : HC) (n : Nat) (s sd : Int) : Int := nthL (c 125) sd (-1) n 0 (drawF s (cntU (c 125) sd n))
theorem nthR_in {c : HC} {n : Nat} {s sd : Int} (h : 0 < cntU (c 125) sd n) : ∃ r : Nat, nthR c n s sd = (r : Int) ∧ r < n ∧ c 125 r = sd := by
  have hd := drawF_bd (s := s) h
  obtain ⟨r, h1, h2, h3⟩ := nthL_in (sd := c 125) (s := sd) (df := -1) n 0 (drawF s (cntU (c 125) sd n)) hd.1 (by rw [Nat.zero_add]; show drawF s (cntU (c 125) sd n) < cntU (c 125) sd n - 0; omega)
  exact ⟨r, h1, by omega, h3⟩
def TBR (c : HC) : Prop := ∀ l, l < 42 → 0 ≤ c 141 l ∧ (0 < c 141 l → lenR c (c 140 l) = (l : Int) ∧ 10 ≤ c 140 l)
theorem lgL_nz (W : Nat → Int) : ∀ b, 0 ≤ lgL W b → W (lgL W b).toNat ≠ 0
  | 0, h => by
    unfold lgL at h ⊢
    split
    · rename_i e; rw [if_pos e] at h; omega
    · rename_i e; exact e
  | b + 1, h => by
    unfold lgL at h ⊢
    split
    · rename_i e; rw [if_pos e] at h; exact lgL_nz W b h
    · rename_i e; exact e
theorem dwR_syl {c : HC} {nw : Nat} {R : Nat → Int} {s p ot : Int} (ht : TBR c) (hb : 0 ≤ R (2 + p.toNat)) : 0 ≤ sylR c (dwR c nw R s p ot) ∧ sylR c (dwR c nw R s p ot) ≤ R (2 + p.toNat) := by
  have h1 := lgL_bd (c 141) (imin (R (2 + p.toNat)) 41).toNat
  have h2 := imin41 hb
  have hm : sylR c (-1) = 0 := by unfold sylR sylF; rw [if_pos rfl]
  have key : dwR c nw R s p ot = -1 ∨ (0 ≤ lgL (c 141) (imin (R (2 + p.toNat)) 41).toNat ∧ dwR c nw R s p ot = c 140 (lgL (c 141) (imin (R (2 + p.toNat)) 41).toNat).toNat) := by
    unfold dwR dwF
    split
    · exact Or.inl rfl
    · split
      · exact Or.inl rfl
      · split
        · exact Or.inl rfl
        · rename_i hne _
          unfold wdR at hne ⊢
          by_cases hz : lgL (c 141) (imin (R (2 + p.toNat)) 41).toNat < 0
          · rw [if_pos hz] at hne; exact absurd rfl hne
          · rw [if_neg hz]; exact Or.inr ⟨by omega, rfl⟩
  rcases key with k | ⟨k1, k2⟩
  · rw [k, hm]; omega
  · rw [k2]
    have h3 := lgL_nz (c 141) _ k1
    have h4 := ht (lgL (c 141) (imin (R (2 + p.toNat)) 41).toNat).toNat (by omega)
    have h5 := h4.2 (by omega)
    have e : sylR c (c 140 (lgL (c 141) (imin (R (2 + p.toNat)) 41).toNat).toNat) = lenR c (c 140 (lgL (c 141) (imin (R (2 + p.toNat)) 41).toNat).toNat) := by
      unfold sylR sylF
      rw [if_neg (by omega)]
    rw [e, h5.1]
    omega
def itR (c : HC) (n : Nat) (x : Int × (Nat → Int)) : Int × (Nat → Int) :=
  (drw (drw (drw (drw x.1))), playRR c n (nthR c n x.1 0) (dwR c (x.2 12).toNat x.2 (drw x.1) (nthR c n x.1 0) (-1)) (nthR c n (drw (drw x.1)) 1) (dwR c (x.2 12).toNat x.2 (drw (drw (drw x.1))) (nthR c n (drw (drw x.1)) 1) (dwR c (x.2 12).toNat x.2 (drw x.1) (nthR c n x.1 0) (-1))) x.2)
def itV (c : HC) (n : Nat) (x : Int × (Nat → Int)) : Nat → Int × (Nat → Int)
  | 0 => x
  | k + 1 => itR c n (itV c n x k)
section HD
variable (c : HC) {n : Nat} (hv : RSV c n) (s : Int) (R : Nat → Int)
theorem d_many (sd : Int) (hv : RSV c n) : RO mX11_manyOfSide 0 (hRR c s R) [vr 122, vi sd] (cntU (c 125) sd n) := by
  have h := r_many (hRR c s R) (RSV_hRR hv) sd
  rw [hRR_row (x := 125) (by decide) (by decide)] at h
  exact h
theorem d_draw (m : Int) (hm : 0 < m ∧ m ≤ 1000) (hs : 0 ≤ s ∧ s ≤ 2147483647) : RW mX11_draw 0 (hRR c s R) [vr 122, vi m] (drawF s m) (hRR c (drw s) R) := by
  have h := r_draw (hRR c s R) m hm (by rw [hRR_seed]; exact hs.1) (by rw [hRR_seed]; exact hs.2)
  rw [hRR_seed, hRR_up] at h
  exact h
theorem d_nth (sd j : Int) (hj : 0 ≤ j ∧ j ≤ 1000) (hv : RSV c n) : RO mX11_speakerOf 0 (hRR c s R) [vr 122, vi sd, vi j] (nthL (c 125) sd (-1) n 0 j) := by
  have h := r_nth (hRR c s R) (RSV_hRR hv) sd j hj
  rw [hRR_row (x := 125) (by decide) (by decide)] at h
  exact h
theorem d_drawn (hs : 0 ≤ s ∧ s ≤ 2147483647) (nw : Nat) (hnw : R 12 = (nw : Int)) (h40 : nw ≤ 40) (p : Nat) (hp : p < 10) (hb : 0 ≤ R (2 + p)) (ot : Int) : RW mX11_drawn 1 (hRR c s R) [vr 122, vi (p : Int), vi ot] (dwR c nw R s (p : Int) ot) (hRR c (drw s) R) := by
  have h := r_drawn (hRR c s R) nw ((hRR_at (by decide)).trans hnw) h40 (by rw [hRR_seed]; exact hs.1) (by rw [hRR_seed]; exact hs.2) p hp (by rw [hRR_at (by omega)]; exact hb) ot
  rw [hRR_seed, hRR_up, hRR_row (x := 141) (by decide) (by decide), hRR_row (x := 140) (by decide) (by decide), hRR_row (x := 128) (by decide) (by decide), hRR_at (by omega), saidL_ext (R2 := R) nw 0 (fun j _ h2 => hRR_at (by omega))] at h
  unfold dwR
  rw [Int.toNat_natCast]
  exact h
theorem d_round (hg : RGV c) (hv : RSV c n) (hR : RV (c 126) n R) (hr : R 1 ≤ 99999) (p q : Nat) (v w : Int) (hp : p < n) (hq : q < n) (hpq : p ≠ q) (ha : 0 ≤ sylR c v) (hb : 0 ≤ sylR c w) : RW mX11_roundNow 3 (hRR c s R) [vr 122, vi (p : Int), vi v, vi (q : Int), vi w] (ropeR (R 0) (wayRR c (p : Int) v (q : Int) w) - R 0) (hRR c s (playRR c n (p : Int) v (q : Int) w R)) := by
  have e0 : ∀ k, k ≤ 4 → up2 c 122 13 s 122 k = c 122 k := fun k hk => up2_k _ _ (by omega)
  have er : ∀ x, x ≠ 122 → up2 c 122 13 s x = c x := fun x hx => up2_row _ _ _ _ hx
  have es : ∀ w, sylR (up2 c 122 13 s) w = sylR c w := sylR_row e0 (er _ (by decide)) (er _ (by decide)) (er _ (by decide))
  have h := r_roundNow (up2 c 122 13 s) (RGV_row e0 (er _ (by decide)) (er _ (by decide)) hg) (RSV_row (up2_k _ _ (by decide)) (er _ (by decide)) (er _ (by decide)) (er _ (by decide)) (er _ (by decide)) hv) R (by rw [er 126 (by decide)]; exact hR) hr p q v w hp hq hpq (by rw [es]; exact ha) (by rw [es]; exact hb)
  rw [es, es, er 126 (by decide), er 127 (by decide), e0 1 (by decide)] at h
  exact h
end HD
theorem itR_ok {c : HC} {n : Nat} (hg : RGV c) (hv : RSV c n) (ht : TBR c) (h0 : 0 < cntU (c 125) 0 n) (h1 : 0 < cntU (c 125) 1 n) (x : Int × (Nat → Int)) (hR : RV (c 126) n x.2) (hr : x.2 1 ≤ 99999) : RV (c 126) n (itR c n x).2 ∧ (itR c n x).2 1 = x.2 1 + 1 ∧ (0 ≤ (itR c n x).1 ∧ (itR c n x).1 ≤ 2147483647) := by
  obtain ⟨p, hp, hpn, hps⟩ := nthR_in (s := x.1) h0
  obtain ⟨q, hq, hqn, hqs⟩ := nthR_in (s := drw (drw x.1)) h1
  have hne : p ≠ q := fun z => by subst z; rw [hps] at hqs; exact absurd hqs (by decide)
  have hpb := hR.2.2.2 p hpn
  have hqb := hR.2.2.2 q hqn
  have sp := dwR_syl (c := c) (nw := (x.2 12).toNat) (R := x.2) (s := drw x.1) (p := (p : Int)) (ot := -1) ht (by rw [Int.toNat_natCast]; exact hpb.1)
  have sq := dwR_syl (c := c) (nw := (x.2 12).toNat) (R := x.2) (s := drw (drw (drw x.1))) (p := (q : Int)) (ot := dwR c (x.2 12).toNat x.2 (drw x.1) (p : Int) (-1)) ht (by rw [Int.toNat_natCast]; exact hqb.1)
  have h := RV_play (bt := c 126) (n := n) (way := wayRR c (p : Int) (dwR c (x.2 12).toNat x.2 (drw x.1) (p : Int) (-1)) (q : Int) (dwR c (x.2 12).toNat x.2 (drw (drw (drw x.1))) (q : Int) (dwR c (x.2 12).toNat x.2 (drw x.1) (p : Int) (-1)))) (v := dwR c (x.2 12).toNat x.2 (drw x.1) (p : Int) (-1)) (w := dwR c (x.2 12).toNat x.2 (drw (drw (drw x.1))) (q : Int) (dwR c (x.2 12).toNat x.2 (drw x.1) (p : Int) (-1))) hv.2.1 hR hr (fun j hj => by have := (hv.2.2 j hj).2.1; omega) (p := (p : Int)) (q := (q : Int)) (by omega) (by omega) (by omega) sp sq
  unfold itR
  rw [hp, hq]
  exact ⟨h.1, h.2, drw_bd _⟩
theorem itV_ok {c : HC} {n : Nat} (hg : RGV c) (hv : RSV c n) (ht : TBR c) (h0 : 0 < cntU (c 125) 0 n) (h1 : 0 < cntU (c 125) 1 n) (x : Int × (Nat → Int)) (hs : 0 ≤ x.1 ∧ x.1 ≤ 2147483647) (hR : RV (c 126) n x.2) (hr : x.2 1 ≤ 90000) : ∀ k, k ≤ 100 → RV (c 126) n (itV c n x k).2 ∧ (itV c n x k).2 1 = x.2 1 + k ∧ (0 ≤ (itV c n x k).1 ∧ (itV c n x k).1 ≤ 2147483647)
  | 0, _ => ⟨hR, by show x.2 1 = x.2 1 + 0; omega, hs⟩
  | k + 1, hk => by
    have ih := itV_ok hg hv ht h0 h1 x hs hR hr k (by omega)
    have h := itR_ok hg hv ht h0 h1 (itV c n x k) ih.1 (by omega)
    exact ⟨h.1, by show (itR c n (itV c n x k)).2 1 = _; rw [h.2.1]; omega, h.2.2⟩
set_option maxHeartbeats 4000000 in
set_option maxRecDepth 100000 in
theorem yl_drift (c : HC) {n : Nat} (hg : RGV c) (hv : RSV c n) (ht : TBR c) (h0 : 0 < cntU (c 125) 0 n) (h1 : 0 < cntU (c 125) 1 n) (m : Nat) (hm : m ≤ 99) (x : Int × (Nat → Int)) (hs : 0 ≤ x.1 ∧ x.1 ≤ 2147483647) (hR : RV (c 126) n x.2) (hr : x.2 1 ≤ 90000) : ∀ (k i : Nat), i + k = m → TT mX11_drift 4 54 [(0, vr 122), (1, vi (m : Int)), (2, vi (i : Int))] [] (hRR c (itV c n x i).1 (itV c n x i).2) (fun v c1 => v = some (vi ((itV c n x m).2 0 + 1000)) ∧ c1 = hRR c (itV c n x m).1 (itV c n x m).2) := by
  have hn10 := hv.2.1
  have c0 := cntU_bd (c 125) 0 n
  have c1 := cntU_bd (c 125) 1 n
  intro k
  induction k with
  | zero =>
    intro i hk
    have e : i = m := by omega
    subst e
    have hok := itV_ok hg hv ht h0 h1 x hs hR hr i (by omega)
    have r0 := hok.1.1
    refine T_iloadn dX11_drift_54 rfl rfl ?_
    refine T_iloadn dX11_drift_55 rfl rfl ?_
    refine T_icmp_ge (tgt := 127) dX11_drift_56 rfl (fun b56 => ?_) (fun b56 => absurd b56 (by omega))
    refine T_aloadn dX11_drift_127 rfl rfl ?_
    refine T_getfin dX11_drift_128 fX11_31 (by first | assumption | rfl) (by first | decide | omega) rfl (by first | assumption | rfl) ?_
    refine T_iconst dX11_drift_131 (inr rfl) ?_
    refine T_ialdv (j := 0) dX11_drift_132 (by first | assumption | rfl) (by first | decide | omega) (by omega) (by omega) (hRR_at (by decide)) ?_
    refine T_sipush dX11_drift_133 (bp16 rfl) (inr rfl) ?_
    first | refine T_iaddN dX11_drift_136 (by omega) ?_ | refine T_iadd dX11_drift_136 ?_
    refine TT_ri dX11_drift_137 trivial ?_
    exact ⟨rfl, rfl⟩
  | succ k ih =>
    intro i hk
    have h := ih (i + 1) (by omega)
    have hok := itV_ok hg hv ht h0 h1 x hs hR hr i (by omega)
    rw [itV.eq_2] at h
    generalize hy : (itV c n x i) = y at *
    obtain ⟨hRy, hry, hsy⟩ := hok
    obtain ⟨p, hp, hpn, hps⟩ := nthR_in (s := y.1) h0
    obtain ⟨q, hq, hqn, hqs⟩ := nthR_in (s := drw (drw y.1)) h1
    have hne : p ≠ q := fun z => by subst z; rw [hps] at hqs; exact absurd hqs (by decide)
    have hpb := hRy.2.2.2 p hpn
    have hqb := hRy.2.2.2 q hqn
    have h12 := hRy.2.2.1
    have hnw : y.2 12 = (((y.2 12).toNat : Nat) : Int) := by omega
    unfold itR at h
    rw [hp, hq] at h
    have sp := dwR_syl (c := c) (nw := (y.2 12).toNat) (R := y.2) (s := drw y.1) (p := (p : Int)) (ot := -1) ht (by rw [Int.toNat_natCast]; exact hpb.1)
    have df0 := drawF_bd (s := y.1) h0
    have df1 := drawF_bd (s := drw (drw y.1)) h1
    have n0 := d_nth c (drw y.1) y.2 0 (drawF y.1 (cntU (c 125) 0 n)) (by omega) hv
    have n1 := d_nth c (drw (drw (drw y.1))) y.2 1 (drawF (drw (drw y.1)) (cntU (c 125) 1 n)) (by omega) hv
    rw [show nthL (c 125) 0 (-1) n 0 (drawF y.1 (cntU (c 125) 0 n)) = (p : Int) from hp] at n0
    rw [show nthL (c 125) 1 (-1) n 0 (drawF (drw (drw y.1)) (cntU (c 125) 1 n)) = (q : Int) from hq] at n1
    obtain ⟨V, hV⟩ : ∃ V, V = dwR c (y.2 12).toNat y.2 (drw y.1) (p : Int) (-1) := ⟨_, rfl⟩
    have sq := dwR_syl (c := c) (nw := (y.2 12).toNat) (R := y.2) (s := drw (drw (drw y.1))) (p := (q : Int)) (ot := V) ht (by rw [Int.toNat_natCast]; exact hqb.1)
    obtain ⟨U, hU⟩ : ∃ U, U = dwR c (y.2 12).toNat y.2 (drw (drw (drw y.1))) (q : Int) V := ⟨_, rfl⟩
    have w0 := d_drawn c (drw y.1) y.2 (drw_bd _) (y.2 12).toNat hnw (by omega) p (by omega) hpb.1 (-1)
    have w1 := d_drawn c (drw (drw (drw y.1))) y.2 (drw_bd _) (y.2 12).toNat hnw (by omega) q (by omega) hqb.1 V
    rw [← hV] at w0 sp h
    rw [← hU] at w1 sq h
    have rn := d_round c (drw (drw (drw (drw y.1)))) y.2 hg hv hRy (by omega) p q V U hpn hqn hne sp.1 sq.1
    refine T_iloadn dX11_drift_54 rfl rfl ?_
    refine T_iloadn dX11_drift_55 rfl rfl ?_
    refine T_icmp_ge (tgt := 127) dX11_drift_56 rfl (fun b56 => absurd b56 (by omega)) (fun b56 => ?_)
    refine T_aloadn dX11_drift_59 rfl rfl ?_
    refine T_iconst dX11_drift_60 (inr rfl) ?_
    refine T_aloadn dX11_drift_61 rfl rfl ?_
    refine T_aloadn dX11_drift_62 rfl rfl ?_
    refine T_iconst dX11_drift_63 (inr rfl) ?_
    refine TT_Vi dX11_drift_64 (d_many c y.1 y.2 0 hv) kX11_258 (by decide) (by first | decide | omega) (by first | assumption | rfl) rfl (leb rfl) ?_
    refine TT_Vw dX11_drift_67 (d_draw c y.1 y.2 (cntU (c 125) 0 n) (by omega) hsy) kX11_255 (by decide) (by first | decide | omega) (by first | assumption | rfl) rfl (leb rfl) ?_
    refine TT_Vi dX11_drift_70 (n0) kX11_261 (by decide) (by first | decide | omega) (by first | assumption | rfl) rfl (leb rfl) ?_
    refine T_istoren dX11_drift_73 rfl (by decide) rfl ?_
    refine T_aloadn dX11_drift_74 rfl rfl ?_
    refine T_iloadn dX11_drift_75 rfl rfl ?_
    refine T_iconst dX11_drift_76 (inr rfl) ?_
    refine TT_Vw dX11_drift_77 (w0) kX11_264 (by decide) (by first | decide | omega) (by first | assumption | rfl) rfl (leb rfl) ?_
    refine T_istore dX11_drift_80 (by decide) rfl ?_
    refine T_aloadn dX11_drift_82 rfl rfl ?_
    refine T_iconst dX11_drift_83 (inr rfl) ?_
    refine T_aloadn dX11_drift_84 rfl rfl ?_
    refine T_aloadn dX11_drift_85 rfl rfl ?_
    refine T_iconst dX11_drift_86 (inr rfl) ?_
    refine TT_Vi dX11_drift_87 (d_many c (drw (drw y.1)) y.2 1 hv) kX11_258 (by decide) (by first | decide | omega) (by first | assumption | rfl) rfl (leb rfl) ?_
    refine TT_Vw dX11_drift_90 (d_draw c (drw (drw y.1)) y.2 (cntU (c 125) 1 n) (by omega) (drw_bd _)) kX11_255 (by decide) (by first | decide | omega) (by first | assumption | rfl) rfl (leb rfl) ?_
    refine TT_Vi dX11_drift_93 (n1) kX11_261 (by decide) (by first | decide | omega) (by first | assumption | rfl) rfl (leb rfl) ?_
    refine T_istore dX11_drift_96 (by decide) rfl ?_
    refine T_aloadn dX11_drift_98 rfl rfl ?_
    refine T_iload dX11_drift_99 rfl ?_
    refine T_iload dX11_drift_101 rfl ?_
    refine TT_Vw dX11_drift_103 (w1) kX11_264 (by decide) (by first | decide | omega) (by first | assumption | rfl) rfl (leb rfl) ?_
    refine T_istore dX11_drift_106 (by decide) rfl ?_
    refine T_aloadn dX11_drift_108 rfl rfl ?_
    refine T_iloadn dX11_drift_109 rfl rfl ?_
    refine T_iload dX11_drift_110 rfl ?_
    refine T_iload dX11_drift_112 rfl ?_
    refine T_iload dX11_drift_114 rfl ?_
    refine TT_Vw dX11_drift_116 (rn) kX11_242 (by decide) (by first | decide | omega) (by first | assumption | rfl) rfl (leb rfl) ?_
    refine T_istore dX11_drift_119 (by decide) rfl ?_
    refine T_iincN dX11_drift_121 rfl (by decide) rfl (by omega) ?_
    refine T_goto (tgt := 54) dX11_drift_124 rfl ?_
    refine T_keep [0, 1, 2] ?_
    exact h
set_option maxHeartbeats 4000000 in
set_option maxRecDepth 100000 in
theorem y_drift (c : HC) {n : Nat} (hg : RGV c) (hv : RSV c n) (ht : TBR c) (hR : RV (c 126) n (c 130)) (hs : 0 ≤ c 122 13 ∧ c 122 13 ≤ 2147483647) (u : Nat) (hu : c 122 34 = (u : Int)) (h20 : u ≤ 20) (m : Int) : RW mX11_drift 4 c [vr 122, vi m] (drfF (cntU (c 125) 0 n) (cntU (c 125) 1 n) m (c 130 1) ((itV c n (c 122 13, c 130) m.toNat).2 0 + 1000)) (drfC (cntU (c 125) 0 n) (cntU (c 125) 1 n) m (c 130 1) c (hRR (remR c u) (itV c n (c 122 13, c 130) m.toNat).1 (itV c n (c 122 13, c 130) m.toNat).2)) := by
  have c0 := cntU_bd (c 125) 0 n
  have c1 := cntU_bd (c 125) 1 n
  have e125 : remR c u 125 = c 125 := rem_row (by decide) (by decide)
  have e126 : remR c u 126 = c 126 := rem_row (by decide) (by decide)
  have hsyl : ∀ w, sylR (remR c u) w = sylR c w := sylR_rem
  have hit : ∀ x, itR (remR c u) n x = itR c n x := fun x => by
    unfold itR playRR nthR dwR
    simp only [hsyl, e125, e126, rem_row (c := c) (u := u) (x := 127) (by decide) (by decide), rem_row (c := c) (u := u) (x := 128) (by decide) (by decide), rem_row (c := c) (u := u) (x := 140) (by decide) (by decide), rem_row (c := c) (u := u) (x := 141) (by decide) (by decide), rem_f (c := c) (u := u) (y := 1) (by decide)]
  have hitV : ∀ x k, itV (remR c u) n x k = itV c n x k := fun x k => by
    induction k with
    | zero => rfl
    | succ k ih => rw [itV.eq_2, itV.eq_2, ih, hit]
  have htb : TBR (remR c u) := fun l hl => by
    rw [rem_row (x := 141) (by decide) (by decide), rem_row (x := 140) (by decide) (by decide), lenR_row (c := c) (fun k hk => rem_f (by omega)) (rem_row (by decide) (by decide)) (rem_row (by decide) (by decide)) (rem_row (by decide) (by decide))]
    exact ht l hl
  refine CC.of (by decide +kernel) (leb rfl) (fun hok => ?_)
  unfold drfF drfC OUT NOTN FUL
  refine T_iloadn dX11_drift_0 rfl rfl ?_
  refine T_i2l dX11_drift_1 ?_
  refine T_lconst (z := 1) dX11_drift_2 rfl (inl rfl) ?_
  refine T_ldc2 dX11_drift_3 clX11_206 (inl rfl) ?_
  refine TT_Si dX11_drift_6 (r_in c m 1 99) kX11_96 (by decide) rfl (leb rfl) ?_
  refine T_if_ne (tgt := 15) dX11_drift_9 rfl (fun b9 => ?_) (fun b9 => ?_)
  · have hi := inF_t b9
    rw [if_neg (show ¬ (m < 1 ∨ 99 < m) by omega), if_neg (show ¬ (m < 1 ∨ 99 < m) by omega)]
    refine T_aloadn dX11_drift_15 rfl rfl ?_
    refine T_iconst dX11_drift_16 (inr rfl) ?_
    refine TT_Vi dX11_drift_17 (r_many c hv 0) kX11_258 (by decide) (by first | decide | omega) (by first | assumption | rfl) rfl (leb rfl) ?_
    refine T_if_eq (tgt := 31) dX11_drift_20 rfl (fun b20 => ?_) (fun b20 => ?_)
    · refine T_ldc dX11_drift_31 cX11_237 (inr rfl) ?_
      refine TT_ri dX11_drift_33 trivial ?_
      exact ⟨by rw [if_pos (by omega)], by rw [if_pos (by omega)]⟩
    · refine T_aloadn dX11_drift_23 rfl rfl ?_
      refine T_iconst dX11_drift_24 (inr rfl) ?_
      refine TT_Vi dX11_drift_25 (r_many c hv 1) kX11_258 (by decide) (by first | decide | omega) (by first | assumption | rfl) rfl (leb rfl) ?_
      refine T_if_ne (tgt := 34) dX11_drift_28 rfl (fun b28 => ?_) (fun b28 => ?_)
      · rw [if_neg (show ¬ (cntU (c 125) 0 n = 0 ∨ cntU (c 125) 1 n = 0) by omega), if_neg (show ¬ (cntU (c 125) 0 n = 0 ∨ cntU (c 125) 1 n = 0) by omega)]
        refine T_aloadn dX11_drift_34 rfl rfl ?_
        refine T_getfin dX11_drift_35 fX11_31 (by first | assumption | rfl) (by first | decide | omega) rfl (by first | assumption | rfl) ?_
        refine T_iconst dX11_drift_38 (inr rfl) ?_
        refine T_iald (j := 1) dX11_drift_39 (by first | assumption | rfl) (by first | decide | omega) (by omega) (by omega) ?_
        refine T_ldc dX11_drift_40 cX11_238 (inr rfl) ?_
        refine T_icmp_le (tgt := 48) dX11_drift_42 rfl (fun b42 => ?_) (fun b42 => ?_)
        · rw [if_neg (show ¬ (90000 < c 130 1) by omega), if_neg (show ¬ (90000 < c 130 1) by omega)]
          refine T_aloadn dX11_drift_48 rfl rfl ?_
          refine TT_Vv dX11_drift_49 (r_remember c u hu h20) kX11_239 (by decide) (by first | decide | omega) (by first | assumption | rfl) rfl (leb rfl) ?_
          refine T_iconst dX11_drift_52 (inr rfl) ?_
          refine T_istoren dX11_drift_53 rfl (by decide) rfl ?_
          obtain ⟨mm, rfl⟩ := Int.eq_ofNat_of_zero_le (show 0 ≤ m by omega)
          rw [Int.toNat_natCast]
          have h := yl_drift (remR c u) (RGV_rem hg) (RSV_rem hv) htb (by rw [e125]; omega) (by rw [e125]; omega) mm (by omega) (c 122 13, c 130) hs (by rw [e126]; exact hR) (show c 130 1 ≤ 90000 by omega) mm 0 (by omega)
          have e0 : hRR (remR c u) (c 122 13) (c 130) = remR c u := by
            have z := hRR_self (remR c u)
            rw [rem_f (by decide), rem_row (x := 130) (by decide) (by decide)] at z
            exact z
          rw [show itV (remR c u) n (c 122 13, c 130) 0 = (c 122 13, c 130) from rfl, hitV, e0] at h
          exact h
        · refine T_ldc dX11_drift_45 cX11_110 (inr rfl) ?_
          refine TT_ri dX11_drift_47 trivial ?_
          exact ⟨by rw [if_pos (by omega)], by rw [if_pos (by omega)]⟩
      · refine T_ldc dX11_drift_31 cX11_237 (inr rfl) ?_
        refine TT_ri dX11_drift_33 trivial ?_
        exact ⟨by rw [if_pos (by omega)], by rw [if_pos (by omega)]⟩
  · refine T_ldc dX11_drift_12 cX11_106 (inr rfl) ?_
    refine TT_ri dX11_drift_14 trivial ?_
    have hi := inF_f b9
    exact ⟨by rw [if_pos (by omega)], by rw [if_pos (by omega)]⟩
