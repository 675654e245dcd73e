/-! the reference: bars -/
set_option maxHeartbeats 4000000 in
set_option maxRecDepth 100000 in
theorem r_takeBar (c D : HC) {n : Nat} (hn : c 122 15 = (n : Int)) (hn2 : n ≤ 250) (hD : DV D) (hz : DZ D) (hR : RR c D) (V N N0 P : Int) (a : Nat) (ha : a ≤ 300) (hk : D 0 5 < 6) : CC mX11_takeBar 2 (rt c (a : Int) V N P) [vr 122] (TKP c (if (nuS (c 131) n 0 (D 0 2 - 1) (nuS (c 131) n 0 (D 0 2 - 1) (a, N0, 0, P))).2.2.1 = 0 ∧ bitI (D 3 (nuV (c 131) n a).toNat) (nuV (c 131) n (enF (c 131) n a)) = 1 then flS (nuS (c 131) n 0 (D 0 2 - 1) (nuS (c 131) n 0 (D 0 2 - 1) (a, N0, 0, P))) 4 (nuS (c 131) n 0 (D 0 2 - 1) (nuS (c 131) n 0 (D 0 2 - 1) (a, N0, 0, P))).2.1 else (nuS (c 131) n 0 (D 0 2 - 1) (nuS (c 131) n 0 (D 0 2 - 1) (a, N0, 0, P)))) (up2 (up2 D 3 (nuV (c 131) n a).toNat (bor (D 3 (nuV (c 131) n a).toNat) (wr (1 * 2 ^ (nuV (c 131) n (enF (c 131) n a)).toNat)))) 0 5 (D 0 5 + 1))) := by
  have b1 := enF_1k (t := (c 131)) (show a ≤ 600 by omega) hn2
  have b2 := enF_1k (t := (c 131)) b1 hn2
  have j1 := nuK_3 (c 131) n a 0 (D 0 2 - 1)
  have j2 := nuK_3 (c 131) n (enF (c 131) n a) 0 (D 0 2 - 1)
  have hd2 := hD.1.2.2.1
  have hd5 := hD.1.2.2.2.2.2
  have hc : c 122 30 = D 0 5 := hR.1.2.2.2.2.2
  have hc2 : c 122 21 = D 0 2 := hR.1.2.2.1
  have hc3 : up2 c 122 30 (D 0 5 + 1) 122 21 = D 0 2 := (up2_k _ _ (by decide)).trans hc2
  have hi := r_takeNumber (up2 c 122 30 (D 0 5 + 1)) ((up2_k _ _ (by decide)).trans hn) hn2 V N P 0 (D 0 2 - 1) a (by omega)
  unfold PN at hi
  rw [up2_row _ _ _ _ (x := 131) (by decide)] at hi
  refine CC.of (by decide +kernel) (leb rfl) (fun hok => ?_)
  refine T_aloadn dX11_takeBar_0 rfl rfl ?_
  refine T_dup dX11_takeBar_1 rfl ?_
  refine T_getv dX11_takeBar_2 fX11_148 (by first | assumption | rfl) (by first | decide | omega) rfl ((rt_f (by omega)).trans hc) ?_
  refine T_iconst dX11_takeBar_5 (inr rfl) ?_
  first | refine T_iaddN dX11_takeBar_6 (by omega) ?_ | refine T_iadd dX11_takeBar_6 ?_
  refine T_puti dX11_takeBar_7 fX11_148 (by first | assumption | rfl) (by first | decide | omega) rfl rfl ?_
  rw [rt_upf (by omega)]
  refine T_aloadn dX11_takeBar_10 rfl rfl ?_
  refine T_iconst dX11_takeBar_11 (inr rfl) ?_
  refine T_aloadn dX11_takeBar_12 rfl rfl ?_
  refine T_getv dX11_takeBar_13 fX11_139 (by first | assumption | rfl) (by first | decide | omega) rfl ((rt_f (by omega)).trans hc3) ?_
  refine T_iconst dX11_takeBar_16 (inr rfl) ?_
  first | refine T_isubN dX11_takeBar_17 (by omega) ?_ | refine T_isub dX11_takeBar_17 ?_
  refine TT_V dX11_takeBar_18 (hi) kX11_132 (by decide) (by first | decide | omega) (by first | assumption | rfl) rfl (leb rfl) (fun v c1 hq => ?_)
  obtain ⟨rfl, V2, N2, rfl, hz1⟩ := hq
  refine T_istoren dX11_takeBar_21 rfl (by decide) rfl ?_
  refine T_aloadn dX11_takeBar_22 rfl rfl ?_
  refine T_getv dX11_takeBar_23 fX11_129 (by first | assumption | rfl) (by first | decide | omega) rfl rt18 ?_
  refine T_istoren dX11_takeBar_26 rfl (by decide) rfl ?_
  refine T_iloadn dX11_takeBar_27 rfl rfl ?_
  refine T_if_le (tgt := 35) dX11_takeBar_28 rfl (fun b28 => ?_) (fun b28 => ?_)
  · have e1 : nuK (c 131) n a 0 (D 0 2 - 1) = 0 := by omega
    rw [e1, fP_0z]
    have hi2 := r_takeNumber (up2 c 122 30 (D 0 5 + 1)) ((up2_k _ _ (by decide)).trans hn) hn2 V2 N2 P 0 (D 0 2 - 1) (enF (c 131) n a) (by omega)
    unfold PN at hi2
    rw [up2_row _ _ _ _ (x := 131) (by decide)] at hi2
    refine T_aloadn dX11_takeBar_35 rfl rfl ?_
    refine T_iconst dX11_takeBar_36 (inr rfl) ?_
    refine T_aloadn dX11_takeBar_37 rfl rfl ?_
    refine T_getv dX11_takeBar_38 fX11_139 (by first | assumption | rfl) (by first | decide | omega) rfl ((rt_f (by omega)).trans hc3) ?_
    refine T_iconst dX11_takeBar_41 (inr rfl) ?_
    first | refine T_isubN dX11_takeBar_42 (by omega) ?_ | refine T_isub dX11_takeBar_42 ?_
    refine TT_V dX11_takeBar_43 (hi2) kX11_132 (by decide) (by first | decide | omega) (by first | assumption | rfl) rfl (leb rfl) (fun v2 c2 hq2 => ?_)
    obtain ⟨rfl, V3, N3, rfl, hz2⟩ := hq2
    refine T_istoren dX11_takeBar_46 rfl (by decide) rfl ?_
    refine T_iloadn dX11_takeBar_47 rfl rfl ?_
    refine T_if_ne (tgt := 77) dX11_takeBar_48 rfl (fun b48 => ?_) (fun b48 => ?_)
    · refine T_iloadn dX11_takeBar_77 rfl rfl ?_
      refine T_if_ne (tgt := 96) dX11_takeBar_78 rfl (fun b78 => ?_) (fun b78 => absurd b78 (by omega))
      refine T_iloadn dX11_takeBar_96 rfl rfl ?_
      refine TT_ri dX11_takeBar_97 trivial ?_
      have g2 : (nuS (c 131) n 0 (D 0 2 - 1) (nuS (c 131) n 0 (D 0 2 - 1) (a, N0, 0, P))).2.2.1 ≠ 0 := by rw [nuS_0 e1, nuS_1.1]; exact b48
      rw [if_neg (fun z => g2 z.1), nuS_0 e1]
      exact tk_fail nuS_1.1 b48 nuS_1.2 (FRX.upf FRX.refl (by decide)) (by omega)
    · have hv1 := (hz1 e1).1
      have hv2 := (hz2 b48).1
      have hv3 := (hz2 b48).2
      subst hv1
      subst hv2
      subst hv3
      have q1 := nuK_z e1
      have q2 := nuK_z b48
      rw [b48, fP_0z]
      have h139 := (hR.2.1 (nuV (c 131) n a).toNat (by omega)).2
      refine T_aloadn dX11_takeBar_51 rfl rfl ?_
      refine T_getfin dX11_takeBar_52 fX11_62 (by first | assumption | rfl) (by first | decide | omega) rfl (by first | assumption | rfl) ?_
      refine T_iloadn dX11_takeBar_55 rfl rfl ?_
      refine T_ialdv (j := (nuV (c 131) n a).toNat) dX11_takeBar_56 (by first | assumption | rfl) (by first | decide | omega) (by omega) (by omega) ((rt_o (by decide)).trans ((up2_a _ _ (by decide)).trans h139)) ?_
      refine T_aloadn dX11_takeBar_57 rfl rfl ?_
      refine T_getv dX11_takeBar_58 fX11_129 (by first | assumption | rfl) (by first | decide | omega) rfl rt18 ?_
      refine TT_Si dX11_takeBar_61 (r_has _ (D 3 (nuV (c 131) n a).toNat) (nuV (c 131) n (enF (c 131) n a)) (by omega)) kX11_151 (by decide) rfl (leb rfl) ?_
      refine T_if_eq (tgt := 77) dX11_takeBar_64 rfl (fun b64 => ?_) (fun b64 => ?_)
      · refine T_iloadn dX11_takeBar_77 rfl rfl ?_
        refine T_if_ne (tgt := 96) dX11_takeBar_78 rfl (fun b78 => absurd rfl b78) (fun b78 => ?_)
        refine T_aloadn dX11_takeBar_81 rfl rfl ?_
        refine T_getfin dX11_takeBar_82 fX11_62 (by first | assumption | rfl) (by first | decide | omega) rfl (by first | assumption | rfl) ?_
        refine T_iloadn dX11_takeBar_85 rfl rfl ?_
        refine T_dup2 dX11_takeBar_86 rfl rfl ?_
        refine T_ialdv (j := (nuV (c 131) n a).toNat) dX11_takeBar_87 (by first | assumption | rfl) (by first | decide | omega) (by omega) (by omega) ((rt_o (by decide)).trans ((up2_a _ _ (by decide)).trans h139)) ?_
        refine T_iconst dX11_takeBar_88 (inr rfl) ?_
        refine T_aloadn dX11_takeBar_89 rfl rfl ?_
        refine T_getv dX11_takeBar_90 fX11_129 (by first | assumption | rfl) (by first | decide | omega) rfl rt18 ?_
        refine T_ishl dX11_takeBar_93 (by omega) (by omega) ?_
        refine T_ior dX11_takeBar_94 ?_
        refine T_iast (j := (nuV (c 131) n a).toNat) dX11_takeBar_95 (by first | assumption | rfl) (by first | decide | omega) (by omega) (by omega) ?_
        refine T_iloadn dX11_takeBar_96 rfl rfl ?_
        refine TT_ri dX11_takeBar_97 trivial ?_
        rw [nuS_0 e1, nuS_0 b48]
        rw [if_neg (fun z => by have := z.2; rw [b64] at this; exact absurd this (by decide))]
        rw [rt_up (by decide)]
        exact tk_ok rfl rfl rfl (FRX.up (FRX.upf FRX.refl (by decide)) (by decide)) (by omega) (RR_n rfl hR) rfl
      · refine T_aloadn dX11_takeBar_67 rfl rfl ?_
        refine T_iconst dX11_takeBar_68 (inr rfl) ?_
        refine T_aloadn dX11_takeBar_69 rfl rfl ?_
        refine T_getv dX11_takeBar_70 fX11_126 (by first | assumption | rfl) (by first | decide | omega) rfl rt19 ?_
        refine TT_Vw dX11_takeBar_73 (r_fails _ _ _ _ _ 4 ((skF (c 131) n (enF (c 131) n a) : Nat) : Int)) kX11_122 (by decide) (by first | decide | omega) (by first | assumption | rfl) rfl (leb rfl) ?_
        refine TT_ri dX11_takeBar_76 trivial ?_
        rw [nuS_0 e1, nuS_0 b48]
        rw [if_pos ⟨rfl, bit1 b64⟩]
        exact tk_fail (by unfold flS; exact fF_0) (by decide) (fP_0n (k := 4) (P := P) (p := ((skF (c 131) n (enF (c 131) n a) : Nat) : Int)) (by decide)) (FRX.upf FRX.refl (by decide)) (by omega)
  · refine T_iloadn dX11_takeBar_31 rfl rfl ?_
    refine T_goto (tgt := 46) dX11_takeBar_32 rfl ?_
    refine T_istoren dX11_takeBar_46 rfl (by decide) rfl ?_
    refine T_iloadn dX11_takeBar_47 rfl rfl ?_
    refine T_if_ne (tgt := 77) dX11_takeBar_48 rfl (fun b48 => ?_) (fun b48 => absurd b48 (by omega))
    refine T_iloadn dX11_takeBar_77 rfl rfl ?_
    refine T_if_ne (tgt := 96) dX11_takeBar_78 rfl (fun b78 => ?_) (fun b78 => absurd b78 (by omega))
    refine T_iloadn dX11_takeBar_96 rfl rfl ?_
    refine TT_ri dX11_takeBar_97 trivial ?_
    have f1 : nuK (c 131) n a 0 (D 0 2 - 1) ≠ 0 := by omega
    have g1 : (nuS (c 131) n 0 (D 0 2 - 1) (a, N0, 0, P)).2.2.1 ≠ 0 := by rw [nuS_1.1]; exact f1
    have g2 : (nuS (c 131) n 0 (D 0 2 - 1) (nuS (c 131) n 0 (D 0 2 - 1) (a, N0, 0, P))).2.2.1 ≠ 0 := by rw [(nuS_n g1).1]; exact g1
    rw [if_neg (fun z => g2 z.1)]
    exact tk_fail ((nuS_n g1).1.trans nuS_1.1) f1 ((nuS_n g1).2.trans nuS_1.2) (FRX.upf FRX.refl (by decide)) (by omega)
