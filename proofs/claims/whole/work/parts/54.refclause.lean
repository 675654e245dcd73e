/-! the reference: a clause, the text -/
def CLR (c : HC) (r : HC × TS) (v : Option PV) (h : HC) : Prop := v = some (vi r.2.2.2.1) ∧ ∃ (cc : HC) (A : Nat) (V N : Int), h = rt cc (A : Int) V N r.2.2.2.2 ∧ FRX c cc ∧ A ≤ 1500 ∧ (r.2.2.2.1 = 0 → RR cc r.1 ∧ A = r.2.1)
theorem edS_n {t : Nat → Int} {n : Nat} {s : TS} (h : s.2.2.1 ≠ 0) : (edS t n s).2.2.1 = s.2.2.1 ∧ (edS t n s).2.2.2 = s.2.2.2 := by
  unfold edS
  exact ⟨fF_n h, fP_n h⟩
theorem edS_0 {t : Nat → Int} {n : Nat} {s : TS} (h : s.2.2.1 = 0) : (edS t n s).2.2.1 = edK t n s.1 ∧ (edS t n s).2.2.2 = fP 0 (edK t n s.1) s.2.2.2 ((skF t n s.1 : Nat) : Int) := by
  unfold edS
  rw [h]
  exact ⟨fF_0, rfl⟩
theorem wd_room {a : Nat} {N P : Int} {b : Prop} [Decidable b] (h : b) : wdS (a, N, 0, P) (rm b) = (a + 1, N, 0, P) := by
  unfold wdS rm
  rw [if_pos h]
  show (a + 1, N, fF 0 0, fP 0 0 P (a : Int)) = _
  rw [fF_0, fP_0z]
theorem wd_full {a : Nat} {N P : Int} {b : Prop} [Decidable b] (h : ¬ b) : wdS (a, N, 0, P) (rm b) = (a + 1, N, 3, (a : Int)) := by
  unfold wdS rm
  rw [if_neg h]
  show (a + 1, N, fF 0 3, fP 0 3 P (a : Int)) = _
  rw [fF_0, fP_0n (by decide)]
set_option maxHeartbeats 4000000 in
set_option maxRecDepth 100000 in
theorem rl_tail (c0 c D DX : HC) {n : Nat} (hn : c 122 15 = (n : Int)) (hn2 : n ≤ 250) (s : TS) (A : Nat) (V N : Int) (hf : FRX c0 c) (hA : A ≤ 1000) (hs : s.2.2.1 = 0 → RR c DX ∧ A = s.1) : TT mX11_takeClause 4 260 [(0, vr 122)] [vi s.2.2.1] (rt c (A : Int) V N s.2.2.2) (CLR c0 (if (edS (c 131) n s).2.2.1 = 0 then DX else D, edS (c 131) n s)) := by
  by_cases h0 : s.2.2.1 = 0
  · obtain ⟨hR, hA2⟩ := hs h0
    have hsk := skF_bd (c 131) n A
    have e1 := (edS_0 (t := c 131) (n := n) h0).1
    have e2 := (edS_0 (t := c 131) (n := n) h0).2
    rw [h0]
    rw [← hA2] at e1 e2
    refine T_istore dX11_takeClause_260 (by decide) rfl ?_
    refine T_iload dX11_takeClause_262 rfl ?_
    refine T_if_ne (tgt := 286) dX11_takeClause_264 rfl (fun b264 => absurd rfl b264) (fun b264 => ?_)
    refine T_aloadn dX11_takeClause_267 rfl rfl ?_
    refine TT_Vw dX11_takeClause_268 (r_here c hn hn2 V N s.2.2.2 A (by omega)) kX11_114 (by decide) (by first | decide | omega) (by first | assumption | rfl) rfl (leb rfl) ?_
    refine T_bipush dX11_takeClause_271 (bp8 rfl) (inr rfl) ?_
    refine T_icmp_eq (tgt := 286) dX11_takeClause_273 rfl (fun b273 => ?_) (fun b273 => ?_)
    · refine T_aloadn dX11_takeClause_286 rfl rfl ?_
      refine T_dup dX11_takeClause_287 rfl ?_
      refine T_getv dX11_takeClause_288 fX11_111 (by first | assumption | rfl) (by first | decide | omega) rfl rt17 ?_
      refine T_iconst dX11_takeClause_291 (inr rfl) ?_
      first | refine T_iaddN dX11_takeClause_292 (by omega) ?_ | refine T_iadd dX11_takeClause_292 ?_
      refine T_puti dX11_takeClause_293 fX11_111 (by first | assumption | rfl) (by first | decide | omega) rfl rfl ?_
      refine T_iload dX11_takeClause_296 rfl ?_
      refine TT_ri dX11_takeClause_298 trivial ?_
      have hlt : skF (c 131) n A < n ∧ c 131 (skF (c 131) n A) = 59 := by
        unfold hereF at b273
        by_cases hl : skF (c 131) n A < n
        · rw [if_pos hl] at b273; exact ⟨hl, b273⟩
        · rw [if_neg hl] at b273; exact absurd b273 (by decide)
      have ek : edK (c 131) n A = 0 := by unfold edK; rw [if_pos hlt]
      rw [ek] at e1 e2
      rw [fP_0z] at e2
      refine ⟨by rw [e1], c, skF (c 131) n A + 1, V, N, ?_, hf, by omega, fun z => ⟨by rw [if_pos e1]; exact hR, ?_⟩⟩
      · rw [rtu17, e2]; rfl
      · show skF (c 131) n A + 1 = skF (c 131) n s.1 + 1
        rw [hA2]
    · refine T_aloadn dX11_takeClause_276 rfl rfl ?_
      refine T_iconst dX11_takeClause_277 (inr rfl) ?_
      refine T_aloadn dX11_takeClause_278 rfl rfl ?_
      refine T_getv dX11_takeClause_279 fX11_111 (by first | assumption | rfl) (by first | decide | omega) rfl rt17 ?_
      refine TT_Vw dX11_takeClause_282 (r_fails c _ _ _ _ 1 ((skF (c 131) n A : Nat) : Int)) kX11_122 (by decide) (by first | decide | omega) (by first | assumption | rfl) rfl (leb rfl) ?_
      refine TT_ri dX11_takeClause_285 trivial ?_
      have ek : edK (c 131) n A = 1 := by
        unfold edK
        rw [if_neg (fun z => ?_)]
        apply b273
        unfold hereF
        rw [if_pos z.1, z.2]
      rw [ek] at e1 e2
      rw [fP_0n (by decide)] at e2
      refine ⟨by rw [e1], c, skF (c 131) n A, V, N, by rw [e2], hf, by omega, fun z => ?_⟩
      rw [e1] at z
      exact absurd z (by decide)
  · have e1 := (edS_n (t := c 131) (n := n) h0).1
    have e2 := (edS_n (t := c 131) (n := n) h0).2
    refine T_c (c2 := rt c (A : Int) V N (edS (c 131) n s).2.2.2) (by rw [e2]) ?_
    refine T_istore dX11_takeClause_260 (by decide) rfl ?_
    refine T_iload dX11_takeClause_262 rfl ?_
    refine T_if_ne (tgt := 286) dX11_takeClause_264 rfl (fun b264 => ?_) (fun b264 => absurd b264 h0)
    refine T_aloadn dX11_takeClause_286 rfl rfl ?_
    refine T_dup dX11_takeClause_287 rfl ?_
    refine T_getv dX11_takeClause_288 fX11_111 (by first | assumption | rfl) (by first | decide | omega) rfl rt17 ?_
    refine T_iconst dX11_takeClause_291 (inr rfl) ?_
    first | refine T_iaddN dX11_takeClause_292 (by omega) ?_ | refine T_iadd dX11_takeClause_292 ?_
    refine T_puti dX11_takeClause_293 fX11_111 (by first | assumption | rfl) (by first | decide | omega) rfl rfl ?_
    refine T_iload dX11_takeClause_296 rfl ?_
    refine TT_ri dX11_takeClause_298 trivial ?_
    refine ⟨by rw [e1], c, A + 1, V, N, by rw [rtu17]; rfl, hf, ?_, fun z => absurd (e1.symm.trans z) h0⟩
    omega
theorem cG_room {t : Nat → Int} {n a : Nat} {D : HC} {N0 P : Int} (h : D 0 0 = 0) : cG t n D (a, N0, 0, P) = (if (edS t n (nuS t n 0 9 (nuS t n 1 4 (a + 1, N0, 0, P)))).2.2.1 = 0 then up2 (up2 D 0 0 (nuV t n (a + 1))) 0 1 (nuV t n (enF t n (a + 1))) else D, edS t n (nuS t n 0 9 (nuS t n 1 4 (a + 1, N0, 0, P)))) := by
  unfold cG
  simp only [wd_room h] <;> rfl
theorem cS_room {t : Nat → Int} {n a : Nat} {D : HC} {N0 P : Int} (h : D 0 2 < 6) : cS t n D (a, N0, 0, P) = (if (edS t n (nuS t n 1 9 (a + 1, N0, 0, P))).2.2.1 = 0 then up2 (up2 D 1 (D 0 2).toNat (nuV t n (a + 1))) 0 2 (D 0 2 + 1) else D, edS t n (nuS t n 1 9 (a + 1, N0, 0, P))) := by
  unfold cS
  simp only [wd_room h] <;> rfl
theorem cE_room {t : Nat → Int} {n a : Nat} {D : HC} {N0 P : Int} (h : D 0 3 < 4) : cE t n D (a, N0, 0, P) = (if (edS t n (nuS t n 1 5 (a + 1, N0, 0, P))).2.2.1 = 0 then up2 (up2 D 2 (D 0 3).toNat (nuV t n (a + 1))) 0 3 (D 0 3 + 1) else D, edS t n (nuS t n 1 5 (a + 1, N0, 0, P))) := by
  unfold cE
  simp only [wd_room h] <;> rfl
theorem cP_room {t : Nat → Int} {n a : Nat} {D : HC} {N0 P : Int} (h : D 0 4 < 10) : cP t n D (a, N0, 0, P) = (if (edS t n (nuS t n 0 100 (nuS t n 0 99 (nuS t n 1 40 (nuS t n 0 1 (a + 1, N0, 0, P)))))).2.2.1 = 0 then up2 (up2 (up2 (up2 (up2 D 4 (D 0 4).toNat (nuV t n (a + 1))) 5 (D 0 4).toNat (nuV t n (enF t n (a + 1)))) 6 (D 0 4).toNat (nuV t n (enF t n (enF t n (a + 1))))) 7 (D 0 4).toNat (nuV t n (enF t n (enF t n (enF t n (a + 1)))))) 0 4 (D 0 4 + 1) else D, edS t n (nuS t n 0 100 (nuS t n 0 99 (nuS t n 1 40 (nuS t n 0 1 (a + 1, N0, 0, P)))))) := by
  unfold cP
  simp only [wd_room h] <;> rfl
theorem cN_room {t : Nat → Int} {n a : Nat} {D : HC} {N0 P : Int} (h : D 0 5 < 6) : cN t n D (a, N0, 0, P) = (if (edS t n (if (nuS t n 0 (D 0 2 - 1) (nuS t n 0 (D 0 2 - 1) (a + 1, N0, 0, P))).2.2.1 = 0 ∧ bitI (D 3 (nuV t n (a + 1)).toNat) (nuV t n (enF t n (a + 1))) = 1 then flS (nuS t n 0 (D 0 2 - 1) (nuS t n 0 (D 0 2 - 1) (a + 1, N0, 0, P))) 4 (nuS t n 0 (D 0 2 - 1) (nuS t n 0 (D 0 2 - 1) (a + 1, N0, 0, P))).2.1 else (nuS t n 0 (D 0 2 - 1) (nuS t n 0 (D 0 2 - 1) (a + 1, N0, 0, P))))).2.2.1 = 0 then up2 (up2 D 3 (nuV t n (a + 1)).toNat (bor (D 3 (nuV t n (a + 1)).toNat) (wr (1 * 2 ^ (nuV t n (enF t n (a + 1))).toNat)))) 0 5 (D 0 5 + 1) else D, edS t n (if (nuS t n 0 (D 0 2 - 1) (nuS t n 0 (D 0 2 - 1) (a + 1, N0, 0, P))).2.2.1 = 0 ∧ bitI (D 3 (nuV t n (a + 1)).toNat) (nuV t n (enF t n (a + 1))) = 1 then flS (nuS t n 0 (D 0 2 - 1) (nuS t n 0 (D 0 2 - 1) (a + 1, N0, 0, P))) 4 (nuS t n 0 (D 0 2 - 1) (nuS t n 0 (D 0 2 - 1) (a + 1, N0, 0, P))).2.1 else (nuS t n 0 (D 0 2 - 1) (nuS t n 0 (D 0 2 - 1) (a + 1, N0, 0, P))))) := by
  unfold cN
  simp only [wd_room h] <;> rfl
theorem cG_full {t : Nat → Int} {n a : Nat} {D : HC} {N0 P : Int} (h : ¬ D 0 0 = 0) : (cG t n D (a, N0, 0, P)).2.2.2.1 = 3 ∧ (cG t n D (a, N0, 0, P)).2.2.2.2 = (a : Int) := by
  unfold cG
  simp only [wd_full h]
  have g0 : (((a + 1, N0, 3, (a : Int)) : TS)).2.2.1 ≠ 0 := by show (3 : Int) ≠ 0; decide
  have g1 : (nuS t n 1 4 (a + 1, N0, 3, (a : Int))).2.2.1 ≠ 0 := by rw [(nuS_n g0).1]; exact g0
  have g2 : (nuS t n 0 9 (nuS t n 1 4 (a + 1, N0, 3, (a : Int)))).2.2.1 ≠ 0 := by rw [(nuS_n g1).1]; exact g1
  exact ⟨(edS_n g2).1.trans ((nuS_n g1).1.trans ((nuS_n g0).1.trans (rfl))), (edS_n g2).2.trans ((nuS_n g1).2.trans ((nuS_n g0).2.trans (rfl)))⟩
theorem cS_full {t : Nat → Int} {n a : Nat} {D : HC} {N0 P : Int} (h : ¬ D 0 2 < 6) : (cS t n D (a, N0, 0, P)).2.2.2.1 = 3 ∧ (cS t n D (a, N0, 0, P)).2.2.2.2 = (a : Int) := by
  unfold cS
  simp only [wd_full h]
  have g0 : (((a + 1, N0, 3, (a : Int)) : TS)).2.2.1 ≠ 0 := by show (3 : Int) ≠ 0; decide
  have g1 : (nuS t n 1 9 (a + 1, N0, 3, (a : Int))).2.2.1 ≠ 0 := by rw [(nuS_n g0).1]; exact g0
  exact ⟨(edS_n g1).1.trans ((nuS_n g0).1.trans (rfl)), (edS_n g1).2.trans ((nuS_n g0).2.trans (rfl))⟩
theorem cE_full {t : Nat → Int} {n a : Nat} {D : HC} {N0 P : Int} (h : ¬ D 0 3 < 4) : (cE t n D (a, N0, 0, P)).2.2.2.1 = 3 ∧ (cE t n D (a, N0, 0, P)).2.2.2.2 = (a : Int) := by
  unfold cE
  simp only [wd_full h]
  have g0 : (((a + 1, N0, 3, (a : Int)) : TS)).2.2.1 ≠ 0 := by show (3 : Int) ≠ 0; decide
  have g1 : (nuS t n 1 5 (a + 1, N0, 3, (a : Int))).2.2.1 ≠ 0 := by rw [(nuS_n g0).1]; exact g0
  exact ⟨(edS_n g1).1.trans ((nuS_n g0).1.trans (rfl)), (edS_n g1).2.trans ((nuS_n g0).2.trans (rfl))⟩
theorem cP_full {t : Nat → Int} {n a : Nat} {D : HC} {N0 P : Int} (h : ¬ D 0 4 < 10) : (cP t n D (a, N0, 0, P)).2.2.2.1 = 3 ∧ (cP t n D (a, N0, 0, P)).2.2.2.2 = (a : Int) := by
  unfold cP
  simp only [wd_full h]
  have g0 : (((a + 1, N0, 3, (a : Int)) : TS)).2.2.1 ≠ 0 := by show (3 : Int) ≠ 0; decide
  have g1 : (nuS t n 0 1 (a + 1, N0, 3, (a : Int))).2.2.1 ≠ 0 := by rw [(nuS_n g0).1]; exact g0
  have g2 : (nuS t n 1 40 (nuS t n 0 1 (a + 1, N0, 3, (a : Int)))).2.2.1 ≠ 0 := by rw [(nuS_n g1).1]; exact g1
  have g3 : (nuS t n 0 99 (nuS t n 1 40 (nuS t n 0 1 (a + 1, N0, 3, (a : Int))))).2.2.1 ≠ 0 := by rw [(nuS_n g2).1]; exact g2
  have g4 : (nuS t n 0 100 (nuS t n 0 99 (nuS t n 1 40 (nuS t n 0 1 (a + 1, N0, 3, (a : Int)))))).2.2.1 ≠ 0 := by rw [(nuS_n g3).1]; exact g3
  exact ⟨(edS_n g4).1.trans ((nuS_n g3).1.trans ((nuS_n g2).1.trans ((nuS_n g1).1.trans ((nuS_n g0).1.trans (rfl))))), (edS_n g4).2.trans ((nuS_n g3).2.trans ((nuS_n g2).2.trans ((nuS_n g1).2.trans ((nuS_n g0).2.trans (rfl)))))⟩
theorem cN_full {t : Nat → Int} {n a : Nat} {D : HC} {N0 P : Int} (h : ¬ D 0 5 < 6) : (cN t n D (a, N0, 0, P)).2.2.2.1 = 3 ∧ (cN t n D (a, N0, 0, P)).2.2.2.2 = (a : Int) := by
  unfold cN
  simp only [wd_full h]
  have g0 : (((a + 1, N0, 3, (a : Int)) : TS)).2.2.1 ≠ 0 := by show (3 : Int) ≠ 0; decide
  have g1 : (nuS t n 0 (D 0 2 - 1) (a + 1, N0, 3, (a : Int))).2.2.1 ≠ 0 := by rw [(nuS_n g0).1]; exact g0
  have g2 : (nuS t n 0 (D 0 2 - 1) (nuS t n 0 (D 0 2 - 1) (a + 1, N0, 3, (a : Int)))).2.2.1 ≠ 0 := by rw [(nuS_n g1).1]; exact g1
  rw [if_neg (fun z => g2 z.1)]
  exact ⟨(edS_n g2).1.trans ((nuS_n g1).1.trans ((nuS_n g0).1.trans rfl)), (edS_n g2).2.trans ((nuS_n g1).2.trans ((nuS_n g0).2.trans rfl))⟩
theorem cl_fail {c : HC} {r : HC × TS} {cc : HC} {k V N Pp : Int} {A : Nat} (hF : r.2.2.2.1 = k) (hk : k ≠ 0) (hP : r.2.2.2.2 = Pp) (hf : FRX c cc) (hA : A ≤ 1500) : CLR c r (some (vi k)) (rt cc (A : Int) V N Pp) := ⟨by rw [hF], cc, A, V, N, by rw [hP], hf, hA, fun z => absurd (hF.symm.trans z) hk⟩
set_option maxHeartbeats 4000000 in
set_option maxRecDepth 100000 in
theorem r_clause (c D : HC) {n : Nat} (hn : c 122 15 = (n : Int)) (hn2 : n ≤ 250) (hD : DV D) (hz : DZ D) (hR : RR c D) (V N N0 P : Int) (a : Nat) (ha : a < n) (hsp : skF (c 131) n a = a) : CC mX11_takeClause 4 (rt c (a : Int) V N P) [vr 122] (CLR c (clF (c 131) n D (a, N0, 0, P))) := by
  have hh := r_here c hn hn2 V N P a (by omega)
  have e0 : hereF (c 131) n a = c 131 a := by unfold hereF; rw [hsp, if_pos ha]
  rw [e0, hsp] at hh
  obtain ⟨⟨d0, d1, d2, d3, d4, d5⟩, _, _, _⟩ := id hD
  have h00 : c 132 0 = D 0 0 := hR.1.1
  have h21 : c 122 21 = D 0 2 := hR.1.2.2.1
  have h23 : c 122 23 = D 0 3 := hR.1.2.2.2.1
  have h25 : c 122 25 = D 0 4 := hR.1.2.2.2.2.1
  have h30 : c 122 30 = D 0 5 := hR.1.2.2.2.2.2
  refine CC.of (by decide +kernel) (leb rfl) (fun hok => ?_)
  refine T_aloadn dX11_takeClause_0 rfl rfl ?_
  refine TT_Vw dX11_takeClause_1 (hh) kX11_114 (by decide) (by first | decide | omega) (by first | assumption | rfl) rfl (leb rfl) ?_
  refine T_istoren dX11_takeClause_4 rfl (by decide) rfl ?_
  refine T_iloadn dX11_takeClause_5 rfl rfl ?_
  refine T_bipush dX11_takeClause_6 (bp8 rfl) (inr rfl) ?_
  refine T_icmp_ne (tgt := 15) dX11_takeClause_8 rfl (fun b8 => ?_) (fun b8 => ?_)
  · refine T_iloadn dX11_takeClause_15 rfl rfl ?_
    refine T_bipush dX11_takeClause_16 (bp8 rfl) (inr rfl) ?_
    refine T_icmp_ne (tgt := 25) dX11_takeClause_18 rfl (fun b18 => ?_) (fun b18 => ?_)
    · refine T_iloadn dX11_takeClause_25 rfl rfl ?_
      refine T_bipush dX11_takeClause_26 (bp8 rfl) (inr rfl) ?_
      refine T_icmp_ne (tgt := 35) dX11_takeClause_28 rfl (fun b28 => ?_) (fun b28 => ?_)
      · refine T_iloadn dX11_takeClause_35 rfl rfl ?_
        refine T_bipush dX11_takeClause_36 (bp8 rfl) (inr rfl) ?_
        refine T_icmp_ne (tgt := 45) dX11_takeClause_38 rfl (fun b38 => ?_) (fun b38 => ?_)
        · refine T_iloadn dX11_takeClause_45 rfl rfl ?_
          refine T_bipush dX11_takeClause_46 (bp8 rfl) (inr rfl) ?_
          refine T_icmp_ne (tgt := 55) dX11_takeClause_48 rfl (fun b48 => ?_) (fun b48 => ?_)
          · refine T_iconst dX11_takeClause_55 (inr rfl) ?_
            refine T_istoren dX11_takeClause_56 rfl (by decide) rfl ?_
            refine T_iloadn dX11_takeClause_57 rfl rfl ?_
            refine T_if_lt (tgt := 74) dX11_takeClause_58 rfl (fun b58 => ?_) (fun b58 => absurd b58 (by omega))
            refine T_aloadn dX11_takeClause_74 rfl rfl ?_
            refine T_iconst dX11_takeClause_75 (inr rfl) ?_
            refine T_aloadn dX11_takeClause_76 rfl rfl ?_
            refine T_getv dX11_takeClause_77 fX11_111 (by first | assumption | rfl) (by first | decide | omega) rfl rt17 ?_
            refine TT_Vw dX11_takeClause_80 (r_fails c _ _ _ _ 1 (a : Int)) kX11_122 (by decide) (by first | decide | omega) (by first | assumption | rfl) rfl (leb rfl) ?_
            refine TT_ri dX11_takeClause_83 trivial ?_
            have e : clF (c 131) n D (a, N0, 0, P) = (D, flS (a, N0, 0, P) 1 (a : Int)) := by
              unfold clF
              show (if D 0 0 = 0 ∧ c 131 a ≠ 103 then _ else if c 131 a = 103 then _ else if c 131 a = 115 then _ else if c 131 a = 101 then _ else if c 131 a = 112 then _ else if c 131 a = 110 then _ else _) = _
              by_cases hg : D 0 0 = 0 ∧ c 131 a ≠ 103
              · rw [if_pos hg]
              · rw [if_neg hg, if_neg b8, if_neg b18, if_neg b28, if_neg b38, if_neg b48]
            rw [e]
            exact cl_fail fF_0 (by decide) (fP_0n (k := 1) (P := P) (p := (a : Int)) (by decide)) FRX.refl (by omega)
          · refine T_iconst dX11_takeClause_51 (inr rfl) ?_
            refine T_goto (tgt := 56) dX11_takeClause_52 rfl ?_
            refine T_istoren dX11_takeClause_56 rfl (by decide) rfl ?_
            refine T_iloadn dX11_takeClause_57 rfl rfl ?_
            refine T_if_lt (tgt := 74) dX11_takeClause_58 rfl (fun b58 => absurd b58 (by omega)) (fun b58 => ?_)
            refine T_iloadn dX11_takeClause_61 rfl rfl ?_
            refine T_if_le (tgt := 84) dX11_takeClause_62 rfl (fun b62 => absurd b62 (by omega)) (fun b62 => ?_)
            refine T_aloadn dX11_takeClause_65 rfl rfl ?_
            refine T_getfin dX11_takeClause_66 fX11_41 (by first | assumption | rfl) (by first | decide | omega) rfl (by first | assumption | rfl) ?_
            refine T_iconst dX11_takeClause_69 (inr rfl) ?_
            refine T_ialdv (j := 0) dX11_takeClause_70 (by first | assumption | rfl) (by first | decide | omega) (by omega) (by omega) (rt_o (by decide)) ?_
            refine T_if_ne (tgt := 84) dX11_takeClause_71 rfl (fun b71 => ?_) (fun b71 => ?_)
            · refine T_iloadn dX11_takeClause_84 rfl rfl ?_
              refine T_if_ne (tgt := 105) dX11_takeClause_85 rfl (fun b85 => ?_) (fun b85 => absurd b85 (by omega))
              refine T_iloadn dX11_takeClause_105 rfl rfl ?_
              refine T_iconst dX11_takeClause_106 (inr rfl) ?_
              refine T_icmp_ne (tgt := 127) dX11_takeClause_107 rfl (fun b107 => ?_) (fun b107 => absurd b107 (by omega))
              refine T_iloadn dX11_takeClause_127 rfl rfl ?_
              refine T_iconst dX11_takeClause_128 (inr rfl) ?_
              refine T_icmp_ne (tgt := 148) dX11_takeClause_129 rfl (fun b129 => ?_) (fun b129 => absurd b129 (by omega))
              refine T_iloadn dX11_takeClause_148 rfl rfl ?_
              refine T_iconst dX11_takeClause_149 (inr rfl) ?_
              refine T_icmp_ne (tgt := 170) dX11_takeClause_150 rfl (fun b150 => ?_) (fun b150 => absurd b150 (by omega))
              refine T_aloadn dX11_takeClause_170 rfl rfl ?_
              refine T_getv dX11_takeClause_171 fX11_148 (by first | assumption | rfl) (by first | decide | omega) rfl ((rt_f (by omega)).trans h30) ?_
              refine T_bipush dX11_takeClause_174 (bp8 rfl) (inr rfl) ?_
              refine T_icmp_ne (tgt := 183) dX11_takeClause_176 rfl (fun b176 => ?_) (fun b176 => ?_)
              · refine T_iconst dX11_takeClause_183 (inr rfl) ?_
                refine T_istoren dX11_takeClause_184 rfl (by decide) rfl ?_
                refine T_iloadn dX11_takeClause_185 rfl rfl ?_
                refine T_if_eq (tgt := 199) dX11_takeClause_186 rfl (fun b186 => ?_) (fun b186 => absurd b186 (by omega))
                refine T_aloadn dX11_takeClause_199 rfl rfl ?_
                refine T_dup dX11_takeClause_200 rfl ?_
                refine T_getv dX11_takeClause_201 fX11_111 (by first | assumption | rfl) (by first | decide | omega) rfl rt17 ?_
                refine T_iconst dX11_takeClause_204 (inr rfl) ?_
                first | refine T_iaddN dX11_takeClause_205 (by omega) ?_ | refine T_iadd dX11_takeClause_205 ?_
                refine T_puti dX11_takeClause_206 fX11_111 (by first | assumption | rfl) (by first | decide | omega) rfl rfl ?_
                rw [rtu17, show (a : Int) + 1 = ((a + 1 : Nat) : Int) by omega]
                refine T_iloadn dX11_takeClause_209 rfl rfl ?_
                refine T_if_ne (tgt := 220) dX11_takeClause_210 rfl (fun b210 => ?_) (fun b210 => absurd b210 (by omega))
                refine T_iloadn dX11_takeClause_220 rfl rfl ?_
                refine T_iconst dX11_takeClause_221 (inr rfl) ?_
                refine T_icmp_ne (tgt := 232) dX11_takeClause_222 rfl (fun b222 => ?_) (fun b222 => absurd b222 (by omega))
                refine T_iloadn dX11_takeClause_232 rfl rfl ?_
                refine T_iconst dX11_takeClause_233 (inr rfl) ?_
                refine T_icmp_ne (tgt := 244) dX11_takeClause_234 rfl (fun b234 => ?_) (fun b234 => absurd b234 (by omega))
                refine T_iloadn dX11_takeClause_244 rfl rfl ?_
                refine T_iconst dX11_takeClause_245 (inr rfl) ?_
                refine T_icmp_ne (tgt := 256) dX11_takeClause_246 rfl (fun b246 => ?_) (fun b246 => absurd b246 (by omega))
                refine T_aloadn dX11_takeClause_256 rfl rfl ?_
                refine TT_V dX11_takeClause_257 (r_takeBar c D hn hn2 hD hz hR V N N0 P (a + 1) (by omega) (by omega)) kX11_167 (by decide) (by first | decide | omega) (by first | assumption | rfl) rfl (leb rfl) (fun v c1 hq => ?_)
                obtain ⟨rfl, cc, A, V2, N2, rfl, hf, hA, hz2⟩ := hq
                have e : clF (c 131) n D (a, N0, 0, P) = cN (c 131) n D (a, N0, 0, P) := by
                  unfold clF
                  show (if D 0 0 = 0 ∧ c 131 a ≠ 103 then _ else if c 131 a = 103 then _ else if c 131 a = 115 then _ else if c 131 a = 101 then _ else if c 131 a = 112 then _ else if c 131 a = 110 then _ else _) = _
                  rw [if_neg (show ¬ (D 0 0 = 0 ∧ c 131 a ≠ 103) from fun z => b71 (h00.trans z.1)), if_neg b8, if_neg b18, if_neg b28, if_neg b38, if_pos b48]
                have hroom := cN_room (t := c 131) (n := n) (a := a) (D := D) (N0 := N0) (P := P) (by omega)
                rw [e, hroom]
                have h131 : cc 131 = c 131 := hf.1 131 (by decide) (by decide)
                rw [← h131]
                rw [← h131] at hz2
                refine T_keep [0] ?_
                exact rl_tail c cc D _ ((hf.2 15 (by decide) (by decide) (by decide) (by decide)).trans hn) hn2 _ A V2 N2 hf hA hz2
              · refine T_iconst dX11_takeClause_179 (inr rfl) ?_
                refine T_goto (tgt := 184) dX11_takeClause_180 rfl ?_
                refine T_istoren dX11_takeClause_184 rfl (by decide) rfl ?_
                refine T_iloadn dX11_takeClause_185 rfl rfl ?_
                refine T_if_eq (tgt := 199) dX11_takeClause_186 rfl (fun b186 => absurd b186 (by omega)) (fun b186 => ?_)
                refine T_aloadn dX11_takeClause_189 rfl rfl ?_
                refine T_iconst dX11_takeClause_190 (inr rfl) ?_
                refine T_aloadn dX11_takeClause_191 rfl rfl ?_
                refine T_getv dX11_takeClause_192 fX11_111 (by first | assumption | rfl) (by first | decide | omega) rfl rt17 ?_
                refine TT_Vw dX11_takeClause_195 (r_fails c _ _ _ _ 3 (a : Int)) kX11_122 (by decide) (by first | decide | omega) (by first | assumption | rfl) rfl (leb rfl) ?_
                refine TT_ri dX11_takeClause_198 trivial ?_
                have e : clF (c 131) n D (a, N0, 0, P) = cN (c 131) n D (a, N0, 0, P) := by
                  unfold clF
                  show (if D 0 0 = 0 ∧ c 131 a ≠ 103 then _ else if c 131 a = 103 then _ else if c 131 a = 115 then _ else if c 131 a = 101 then _ else if c 131 a = 112 then _ else if c 131 a = 110 then _ else _) = _
                  rw [if_neg (show ¬ (D 0 0 = 0 ∧ c 131 a ≠ 103) from fun z => b71 (h00.trans z.1)), if_neg b8, if_neg b18, if_neg b28, if_neg b38, if_pos b48]
                rw [e]
                have hfull := cN_full (t := c 131) (n := n) (a := a) (D := D) (N0 := N0) (P := P) (by omega)
                exact cl_fail hfull.1 (by decide) hfull.2 FRX.refl (by omega)
            · refine T_aloadn dX11_takeClause_74 rfl rfl ?_
              refine T_iconst dX11_takeClause_75 (inr rfl) ?_
              refine T_aloadn dX11_takeClause_76 rfl rfl ?_
              refine T_getv dX11_takeClause_77 fX11_111 (by first | assumption | rfl) (by first | decide | omega) rfl rt17 ?_
              refine TT_Vw dX11_takeClause_80 (r_fails c _ _ _ _ 1 (a : Int)) kX11_122 (by decide) (by first | decide | omega) (by first | assumption | rfl) rfl (leb rfl) ?_
              refine TT_ri dX11_takeClause_83 trivial ?_
              have e : clF (c 131) n D (a, N0, 0, P) = (D, flS (a, N0, 0, P) 1 (a : Int)) := by
                unfold clF
                show (if D 0 0 = 0 ∧ c 131 a ≠ 103 then _ else _) = _
                rw [if_pos ⟨h00.symm.trans b71, b8⟩]
              rw [e]
              exact cl_fail fF_0 (by decide) (fP_0n (k := 1) (P := P) (p := (a : Int)) (by decide)) FRX.refl (by omega)
        · refine T_iconst dX11_takeClause_41 (inr rfl) ?_
          refine T_goto (tgt := 56) dX11_takeClause_42 rfl ?_
          refine T_istoren dX11_takeClause_56 rfl (by decide) rfl ?_
          refine T_iloadn dX11_takeClause_57 rfl rfl ?_
          refine T_if_lt (tgt := 74) dX11_takeClause_58 rfl (fun b58 => absurd b58 (by omega)) (fun b58 => ?_)
          refine T_iloadn dX11_takeClause_61 rfl rfl ?_
          refine T_if_le (tgt := 84) dX11_takeClause_62 rfl (fun b62 => absurd b62 (by omega)) (fun b62 => ?_)
          refine T_aloadn dX11_takeClause_65 rfl rfl ?_
          refine T_getfin dX11_takeClause_66 fX11_41 (by first | assumption | rfl) (by first | decide | omega) rfl (by first | assumption | rfl) ?_
          refine T_iconst dX11_takeClause_69 (inr rfl) ?_
          refine T_ialdv (j := 0) dX11_takeClause_70 (by first | assumption | rfl) (by first | decide | omega) (by omega) (by omega) (rt_o (by decide)) ?_
          refine T_if_ne (tgt := 84) dX11_takeClause_71 rfl (fun b71 => ?_) (fun b71 => ?_)
          · refine T_iloadn dX11_takeClause_84 rfl rfl ?_
            refine T_if_ne (tgt := 105) dX11_takeClause_85 rfl (fun b85 => ?_) (fun b85 => absurd b85 (by omega))
            refine T_iloadn dX11_takeClause_105 rfl rfl ?_
            refine T_iconst dX11_takeClause_106 (inr rfl) ?_
            refine T_icmp_ne (tgt := 127) dX11_takeClause_107 rfl (fun b107 => ?_) (fun b107 => absurd b107 (by omega))
            refine T_iloadn dX11_takeClause_127 rfl rfl ?_
            refine T_iconst dX11_takeClause_128 (inr rfl) ?_
            refine T_icmp_ne (tgt := 148) dX11_takeClause_129 rfl (fun b129 => ?_) (fun b129 => absurd b129 (by omega))
            refine T_iloadn dX11_takeClause_148 rfl rfl ?_
            refine T_iconst dX11_takeClause_149 (inr rfl) ?_
            refine T_icmp_ne (tgt := 170) dX11_takeClause_150 rfl (fun b150 => absurd b150 (by omega)) (fun b150 => ?_)
            refine T_aloadn dX11_takeClause_153 rfl rfl ?_
            refine T_getv dX11_takeClause_154 fX11_145 (by first | assumption | rfl) (by first | decide | omega) rfl ((rt_f (by omega)).trans h25) ?_
            refine T_bipush dX11_takeClause_157 (bp8 rfl) (inr rfl) ?_
            refine T_icmp_ne (tgt := 166) dX11_takeClause_159 rfl (fun b159 => ?_) (fun b159 => ?_)
            · refine T_iconst dX11_takeClause_166 (inr rfl) ?_
              refine T_goto (tgt := 184) dX11_takeClause_167 rfl ?_
              refine T_istoren dX11_takeClause_184 rfl (by decide) rfl ?_
              refine T_iloadn dX11_takeClause_185 rfl rfl ?_
              refine T_if_eq (tgt := 199) dX11_takeClause_186 rfl (fun b186 => ?_) (fun b186 => absurd b186 (by omega))
              refine T_aloadn dX11_takeClause_199 rfl rfl ?_
              refine T_dup dX11_takeClause_200 rfl ?_
              refine T_getv dX11_takeClause_201 fX11_111 (by first | assumption | rfl) (by first | decide | omega) rfl rt17 ?_
              refine T_iconst dX11_takeClause_204 (inr rfl) ?_
              first | refine T_iaddN dX11_takeClause_205 (by omega) ?_ | refine T_iadd dX11_takeClause_205 ?_
              refine T_puti dX11_takeClause_206 fX11_111 (by first | assumption | rfl) (by first | decide | omega) rfl rfl ?_
              rw [rtu17, show (a : Int) + 1 = ((a + 1 : Nat) : Int) by omega]
              refine T_iloadn dX11_takeClause_209 rfl rfl ?_
              refine T_if_ne (tgt := 220) dX11_takeClause_210 rfl (fun b210 => ?_) (fun b210 => absurd b210 (by omega))
              refine T_iloadn dX11_takeClause_220 rfl rfl ?_
              refine T_iconst dX11_takeClause_221 (inr rfl) ?_
              refine T_icmp_ne (tgt := 232) dX11_takeClause_222 rfl (fun b222 => ?_) (fun b222 => absurd b222 (by omega))
              refine T_iloadn dX11_takeClause_232 rfl rfl ?_
              refine T_iconst dX11_takeClause_233 (inr rfl) ?_
              refine T_icmp_ne (tgt := 244) dX11_takeClause_234 rfl (fun b234 => ?_) (fun b234 => absurd b234 (by omega))
              refine T_iloadn dX11_takeClause_244 rfl rfl ?_
              refine T_iconst dX11_takeClause_245 (inr rfl) ?_
              refine T_icmp_ne (tgt := 256) dX11_takeClause_246 rfl (fun b246 => absurd b246 (by omega)) (fun b246 => ?_)
              refine T_aloadn dX11_takeClause_249 rfl rfl ?_
              refine TT_V dX11_takeClause_250 (r_takeSpeaker c D hn hn2 hD hz hR V N N0 P (a + 1) (by omega) (D 0 4).toNat (by omega) (by omega)) kX11_164 (by decide) (by first | decide | omega) (by first | assumption | rfl) rfl (leb rfl) (fun v c1 hq => ?_)
              refine T_goto (tgt := 260) dX11_takeClause_253 rfl ?_
              obtain ⟨rfl, cc, A, V2, N2, rfl, hf, hA, hz2⟩ := hq
              have e : clF (c 131) n D (a, N0, 0, P) = cP (c 131) n D (a, N0, 0, P) := by
                unfold clF
                show (if D 0 0 = 0 ∧ c 131 a ≠ 103 then _ else if c 131 a = 103 then _ else if c 131 a = 115 then _ else if c 131 a = 101 then _ else if c 131 a = 112 then _ else if c 131 a = 110 then _ else _) = _
                rw [if_neg (show ¬ (D 0 0 = 0 ∧ c 131 a ≠ 103) from fun z => b71 (h00.trans z.1)), if_neg b8, if_neg b18, if_neg b28, if_pos b38]
              have hroom := cP_room (t := c 131) (n := n) (a := a) (D := D) (N0 := N0) (P := P) (by omega)
              rw [e, hroom]
              have h131 : cc 131 = c 131 := hf.1 131 (by decide) (by decide)
              rw [← h131]
              rw [← h131] at hz2
              refine T_keep [0] ?_
              exact rl_tail c cc D _ ((hf.2 15 (by decide) (by decide) (by decide) (by decide)).trans hn) hn2 _ A V2 N2 hf hA hz2
            · refine T_iconst dX11_takeClause_162 (inr rfl) ?_
              refine T_goto (tgt := 184) dX11_takeClause_163 rfl ?_
              refine T_istoren dX11_takeClause_184 rfl (by decide) rfl ?_
              refine T_iloadn dX11_takeClause_185 rfl rfl ?_
              refine T_if_eq (tgt := 199) dX11_takeClause_186 rfl (fun b186 => absurd b186 (by omega)) (fun b186 => ?_)
              refine T_aloadn dX11_takeClause_189 rfl rfl ?_
              refine T_iconst dX11_takeClause_190 (inr rfl) ?_
              refine T_aloadn dX11_takeClause_191 rfl rfl ?_
              refine T_getv dX11_takeClause_192 fX11_111 (by first | assumption | rfl) (by first | decide | omega) rfl rt17 ?_
              refine TT_Vw dX11_takeClause_195 (r_fails c _ _ _ _ 3 (a : Int)) kX11_122 (by decide) (by first | decide | omega) (by first | assumption | rfl) rfl (leb rfl) ?_
              refine TT_ri dX11_takeClause_198 trivial ?_
              have e : clF (c 131) n D (a, N0, 0, P) = cP (c 131) n D (a, N0, 0, P) := by
                unfold clF
                show (if D 0 0 = 0 ∧ c 131 a ≠ 103 then _ else if c 131 a = 103 then _ else if c 131 a = 115 then _ else if c 131 a = 101 then _ else if c 131 a = 112 then _ else if c 131 a = 110 then _ else _) = _
                rw [if_neg (show ¬ (D 0 0 = 0 ∧ c 131 a ≠ 103) from fun z => b71 (h00.trans z.1)), if_neg b8, if_neg b18, if_neg b28, if_pos b38]
              rw [e]
              have hfull := cP_full (t := c 131) (n := n) (a := a) (D := D) (N0 := N0) (P := P) (by omega)
              exact cl_fail hfull.1 (by decide) hfull.2 FRX.refl (by omega)
          · refine T_aloadn dX11_takeClause_74 rfl rfl ?_
            refine T_iconst dX11_takeClause_75 (inr rfl) ?_
            refine T_aloadn dX11_takeClause_76 rfl rfl ?_
            refine T_getv dX11_takeClause_77 fX11_111 (by first | assumption | rfl) (by first | decide | omega) rfl rt17 ?_
            refine TT_Vw dX11_takeClause_80 (r_fails c _ _ _ _ 1 (a : Int)) kX11_122 (by decide) (by first | decide | omega) (by first | assumption | rfl) rfl (leb rfl) ?_
            refine TT_ri dX11_takeClause_83 trivial ?_
            have e : clF (c 131) n D (a, N0, 0, P) = (D, flS (a, N0, 0, P) 1 (a : Int)) := by
              unfold clF
              show (if D 0 0 = 0 ∧ c 131 a ≠ 103 then _ else _) = _
              rw [if_pos ⟨h00.symm.trans b71, b8⟩]
            rw [e]
            exact cl_fail fF_0 (by decide) (fP_0n (k := 1) (P := P) (p := (a : Int)) (by decide)) FRX.refl (by omega)
      · refine T_iconst dX11_takeClause_31 (inr rfl) ?_
        refine T_goto (tgt := 56) dX11_takeClause_32 rfl ?_
        refine T_istoren dX11_takeClause_56 rfl (by decide) rfl ?_
        refine T_iloadn dX11_takeClause_57 rfl rfl ?_
        refine T_if_lt (tgt := 74) dX11_takeClause_58 rfl (fun b58 => absurd b58 (by omega)) (fun b58 => ?_)
        refine T_iloadn dX11_takeClause_61 rfl rfl ?_
        refine T_if_le (tgt := 84) dX11_takeClause_62 rfl (fun b62 => absurd b62 (by omega)) (fun b62 => ?_)
        refine T_aloadn dX11_takeClause_65 rfl rfl ?_
        refine T_getfin dX11_takeClause_66 fX11_41 (by first | assumption | rfl) (by first | decide | omega) rfl (by first | assumption | rfl) ?_
        refine T_iconst dX11_takeClause_69 (inr rfl) ?_
        refine T_ialdv (j := 0) dX11_takeClause_70 (by first | assumption | rfl) (by first | decide | omega) (by omega) (by omega) (rt_o (by decide)) ?_
        refine T_if_ne (tgt := 84) dX11_takeClause_71 rfl (fun b71 => ?_) (fun b71 => ?_)
        · refine T_iloadn dX11_takeClause_84 rfl rfl ?_
          refine T_if_ne (tgt := 105) dX11_takeClause_85 rfl (fun b85 => ?_) (fun b85 => absurd b85 (by omega))
          refine T_iloadn dX11_takeClause_105 rfl rfl ?_
          refine T_iconst dX11_takeClause_106 (inr rfl) ?_
          refine T_icmp_ne (tgt := 127) dX11_takeClause_107 rfl (fun b107 => ?_) (fun b107 => absurd b107 (by omega))
          refine T_iloadn dX11_takeClause_127 rfl rfl ?_
          refine T_iconst dX11_takeClause_128 (inr rfl) ?_
          refine T_icmp_ne (tgt := 148) dX11_takeClause_129 rfl (fun b129 => absurd b129 (by omega)) (fun b129 => ?_)
          refine T_aloadn dX11_takeClause_132 rfl rfl ?_
          refine T_getv dX11_takeClause_133 fX11_142 (by first | assumption | rfl) (by first | decide | omega) rfl ((rt_f (by omega)).trans h23) ?_
          refine T_iconst dX11_takeClause_136 (inr rfl) ?_
          refine T_icmp_ne (tgt := 144) dX11_takeClause_137 rfl (fun b137 => ?_) (fun b137 => ?_)
          · refine T_iconst dX11_takeClause_144 (inr rfl) ?_
            refine T_goto (tgt := 184) dX11_takeClause_145 rfl ?_
            refine T_istoren dX11_takeClause_184 rfl (by decide) rfl ?_
            refine T_iloadn dX11_takeClause_185 rfl rfl ?_
            refine T_if_eq (tgt := 199) dX11_takeClause_186 rfl (fun b186 => ?_) (fun b186 => absurd b186 (by omega))
            refine T_aloadn dX11_takeClause_199 rfl rfl ?_
            refine T_dup dX11_takeClause_200 rfl ?_
            refine T_getv dX11_takeClause_201 fX11_111 (by first | assumption | rfl) (by first | decide | omega) rfl rt17 ?_
            refine T_iconst dX11_takeClause_204 (inr rfl) ?_
            first | refine T_iaddN dX11_takeClause_205 (by omega) ?_ | refine T_iadd dX11_takeClause_205 ?_
            refine T_puti dX11_takeClause_206 fX11_111 (by first | assumption | rfl) (by first | decide | omega) rfl rfl ?_
            rw [rtu17, show (a : Int) + 1 = ((a + 1 : Nat) : Int) by omega]
            refine T_iloadn dX11_takeClause_209 rfl rfl ?_
            refine T_if_ne (tgt := 220) dX11_takeClause_210 rfl (fun b210 => ?_) (fun b210 => absurd b210 (by omega))
            refine T_iloadn dX11_takeClause_220 rfl rfl ?_
            refine T_iconst dX11_takeClause_221 (inr rfl) ?_
            refine T_icmp_ne (tgt := 232) dX11_takeClause_222 rfl (fun b222 => ?_) (fun b222 => absurd b222 (by omega))
            refine T_iloadn dX11_takeClause_232 rfl rfl ?_
            refine T_iconst dX11_takeClause_233 (inr rfl) ?_
            refine T_icmp_ne (tgt := 244) dX11_takeClause_234 rfl (fun b234 => absurd b234 (by omega)) (fun b234 => ?_)
            refine T_aloadn dX11_takeClause_237 rfl rfl ?_
            refine TT_V dX11_takeClause_238 (r_takeEnding c D hn hn2 hD hz hR V N N0 P (a + 1) (by omega) (D 0 3).toNat (by omega) (by omega)) kX11_161 (by decide) (by first | decide | omega) (by first | assumption | rfl) rfl (leb rfl) (fun v c1 hq => ?_)
            refine T_goto (tgt := 260) dX11_takeClause_241 rfl ?_
            obtain ⟨rfl, cc, A, V2, N2, rfl, hf, hA, hz2⟩ := hq
            have e : clF (c 131) n D (a, N0, 0, P) = cE (c 131) n D (a, N0, 0, P) := by
              unfold clF
              show (if D 0 0 = 0 ∧ c 131 a ≠ 103 then _ else if c 131 a = 103 then _ else if c 131 a = 115 then _ else if c 131 a = 101 then _ else if c 131 a = 112 then _ else if c 131 a = 110 then _ else _) = _
              rw [if_neg (show ¬ (D 0 0 = 0 ∧ c 131 a ≠ 103) from fun z => b71 (h00.trans z.1)), if_neg b8, if_neg b18, if_pos b28]
            have hroom := cE_room (t := c 131) (n := n) (a := a) (D := D) (N0 := N0) (P := P) (by omega)
            rw [e, hroom]
            have h131 : cc 131 = c 131 := hf.1 131 (by decide) (by decide)
            rw [← h131]
            rw [← h131] at hz2
            refine T_keep [0] ?_
            exact rl_tail c cc D _ ((hf.2 15 (by decide) (by decide) (by decide) (by decide)).trans hn) hn2 _ A V2 N2 hf hA hz2
          · refine T_iconst dX11_takeClause_140 (inr rfl) ?_
            refine T_goto (tgt := 184) dX11_takeClause_141 rfl ?_
            refine T_istoren dX11_takeClause_184 rfl (by decide) rfl ?_
            refine T_iloadn dX11_takeClause_185 rfl rfl ?_
            refine T_if_eq (tgt := 199) dX11_takeClause_186 rfl (fun b186 => absurd b186 (by omega)) (fun b186 => ?_)
            refine T_aloadn dX11_takeClause_189 rfl rfl ?_
            refine T_iconst dX11_takeClause_190 (inr rfl) ?_
            refine T_aloadn dX11_takeClause_191 rfl rfl ?_
            refine T_getv dX11_takeClause_192 fX11_111 (by first | assumption | rfl) (by first | decide | omega) rfl rt17 ?_
            refine TT_Vw dX11_takeClause_195 (r_fails c _ _ _ _ 3 (a : Int)) kX11_122 (by decide) (by first | decide | omega) (by first | assumption | rfl) rfl (leb rfl) ?_
            refine TT_ri dX11_takeClause_198 trivial ?_
            have e : clF (c 131) n D (a, N0, 0, P) = cE (c 131) n D (a, N0, 0, P) := by
              unfold clF
              show (if D 0 0 = 0 ∧ c 131 a ≠ 103 then _ else if c 131 a = 103 then _ else if c 131 a = 115 then _ else if c 131 a = 101 then _ else if c 131 a = 112 then _ else if c 131 a = 110 then _ else _) = _
              rw [if_neg (show ¬ (D 0 0 = 0 ∧ c 131 a ≠ 103) from fun z => b71 (h00.trans z.1)), if_neg b8, if_neg b18, if_pos b28]
            rw [e]
            have hfull := cE_full (t := c 131) (n := n) (a := a) (D := D) (N0 := N0) (P := P) (by omega)
            exact cl_fail hfull.1 (by decide) hfull.2 FRX.refl (by omega)
        · refine T_aloadn dX11_takeClause_74 rfl rfl ?_
          refine T_iconst dX11_takeClause_75 (inr rfl) ?_
          refine T_aloadn dX11_takeClause_76 rfl rfl ?_
          refine T_getv dX11_takeClause_77 fX11_111 (by first | assumption | rfl) (by first | decide | omega) rfl rt17 ?_
          refine TT_Vw dX11_takeClause_80 (r_fails c _ _ _ _ 1 (a : Int)) kX11_122 (by decide) (by first | decide | omega) (by first | assumption | rfl) rfl (leb rfl) ?_
          refine TT_ri dX11_takeClause_83 trivial ?_
          have e : clF (c 131) n D (a, N0, 0, P) = (D, flS (a, N0, 0, P) 1 (a : Int)) := by
            unfold clF
            show (if D 0 0 = 0 ∧ c 131 a ≠ 103 then _ else _) = _
            rw [if_pos ⟨h00.symm.trans b71, b8⟩]
          rw [e]
          exact cl_fail fF_0 (by decide) (fP_0n (k := 1) (P := P) (p := (a : Int)) (by decide)) FRX.refl (by omega)
    · refine T_iconst dX11_takeClause_21 (inr rfl) ?_
      refine T_goto (tgt := 56) dX11_takeClause_22 rfl ?_
      refine T_istoren dX11_takeClause_56 rfl (by decide) rfl ?_
      refine T_iloadn dX11_takeClause_57 rfl rfl ?_
      refine T_if_lt (tgt := 74) dX11_takeClause_58 rfl (fun b58 => absurd b58 (by omega)) (fun b58 => ?_)
      refine T_iloadn dX11_takeClause_61 rfl rfl ?_
      refine T_if_le (tgt := 84) dX11_takeClause_62 rfl (fun b62 => absurd b62 (by omega)) (fun b62 => ?_)
      refine T_aloadn dX11_takeClause_65 rfl rfl ?_
      refine T_getfin dX11_takeClause_66 fX11_41 (by first | assumption | rfl) (by first | decide | omega) rfl (by first | assumption | rfl) ?_
      refine T_iconst dX11_takeClause_69 (inr rfl) ?_
      refine T_ialdv (j := 0) dX11_takeClause_70 (by first | assumption | rfl) (by first | decide | omega) (by omega) (by omega) (rt_o (by decide)) ?_
      refine T_if_ne (tgt := 84) dX11_takeClause_71 rfl (fun b71 => ?_) (fun b71 => ?_)
      · refine T_iloadn dX11_takeClause_84 rfl rfl ?_
        refine T_if_ne (tgt := 105) dX11_takeClause_85 rfl (fun b85 => ?_) (fun b85 => absurd b85 (by omega))
        refine T_iloadn dX11_takeClause_105 rfl rfl ?_
        refine T_iconst dX11_takeClause_106 (inr rfl) ?_
        refine T_icmp_ne (tgt := 127) dX11_takeClause_107 rfl (fun b107 => absurd b107 (by omega)) (fun b107 => ?_)
        refine T_aloadn dX11_takeClause_110 rfl rfl ?_
        refine T_getv dX11_takeClause_111 fX11_139 (by first | assumption | rfl) (by first | decide | omega) rfl ((rt_f (by omega)).trans h21) ?_
        refine T_bipush dX11_takeClause_114 (bp8 rfl) (inr rfl) ?_
        refine T_icmp_ne (tgt := 123) dX11_takeClause_116 rfl (fun b116 => ?_) (fun b116 => ?_)
        · refine T_iconst dX11_takeClause_123 (inr rfl) ?_
          refine T_goto (tgt := 184) dX11_takeClause_124 rfl ?_
          refine T_istoren dX11_takeClause_184 rfl (by decide) rfl ?_
          refine T_iloadn dX11_takeClause_185 rfl rfl ?_
          refine T_if_eq (tgt := 199) dX11_takeClause_186 rfl (fun b186 => ?_) (fun b186 => absurd b186 (by omega))
          refine T_aloadn dX11_takeClause_199 rfl rfl ?_
          refine T_dup dX11_takeClause_200 rfl ?_
          refine T_getv dX11_takeClause_201 fX11_111 (by first | assumption | rfl) (by first | decide | omega) rfl rt17 ?_
          refine T_iconst dX11_takeClause_204 (inr rfl) ?_
          first | refine T_iaddN dX11_takeClause_205 (by omega) ?_ | refine T_iadd dX11_takeClause_205 ?_
          refine T_puti dX11_takeClause_206 fX11_111 (by first | assumption | rfl) (by first | decide | omega) rfl rfl ?_
          rw [rtu17, show (a : Int) + 1 = ((a + 1 : Nat) : Int) by omega]
          refine T_iloadn dX11_takeClause_209 rfl rfl ?_
          refine T_if_ne (tgt := 220) dX11_takeClause_210 rfl (fun b210 => ?_) (fun b210 => absurd b210 (by omega))
          refine T_iloadn dX11_takeClause_220 rfl rfl ?_
          refine T_iconst dX11_takeClause_221 (inr rfl) ?_
          refine T_icmp_ne (tgt := 232) dX11_takeClause_222 rfl (fun b222 => absurd b222 (by omega)) (fun b222 => ?_)
          refine T_aloadn dX11_takeClause_225 rfl rfl ?_
          refine TT_V dX11_takeClause_226 (r_takeStem c D hn hn2 hD hz hR V N N0 P (a + 1) (by omega) (D 0 2).toNat (by omega) (by omega)) kX11_158 (by decide) (by first | decide | omega) (by first | assumption | rfl) rfl (leb rfl) (fun v c1 hq => ?_)
          refine T_goto (tgt := 260) dX11_takeClause_229 rfl ?_
          obtain ⟨rfl, cc, A, V2, N2, rfl, hf, hA, hz2⟩ := hq
          have e : clF (c 131) n D (a, N0, 0, P) = cS (c 131) n D (a, N0, 0, P) := by
            unfold clF
            show (if D 0 0 = 0 ∧ c 131 a ≠ 103 then _ else if c 131 a = 103 then _ else if c 131 a = 115 then _ else if c 131 a = 101 then _ else if c 131 a = 112 then _ else if c 131 a = 110 then _ else _) = _
            rw [if_neg (show ¬ (D 0 0 = 0 ∧ c 131 a ≠ 103) from fun z => b71 (h00.trans z.1)), if_neg b8, if_pos b18]
          have hroom := cS_room (t := c 131) (n := n) (a := a) (D := D) (N0 := N0) (P := P) (by omega)
          rw [e, hroom]
          have h131 : cc 131 = c 131 := hf.1 131 (by decide) (by decide)
          rw [← h131]
          rw [← h131] at hz2
          refine T_keep [0] ?_
          exact rl_tail c cc D _ ((hf.2 15 (by decide) (by decide) (by decide) (by decide)).trans hn) hn2 _ A V2 N2 hf hA hz2
        · refine T_iconst dX11_takeClause_119 (inr rfl) ?_
          refine T_goto (tgt := 184) dX11_takeClause_120 rfl ?_
          refine T_istoren dX11_takeClause_184 rfl (by decide) rfl ?_
          refine T_iloadn dX11_takeClause_185 rfl rfl ?_
          refine T_if_eq (tgt := 199) dX11_takeClause_186 rfl (fun b186 => absurd b186 (by omega)) (fun b186 => ?_)
          refine T_aloadn dX11_takeClause_189 rfl rfl ?_
          refine T_iconst dX11_takeClause_190 (inr rfl) ?_
          refine T_aloadn dX11_takeClause_191 rfl rfl ?_
          refine T_getv dX11_takeClause_192 fX11_111 (by first | assumption | rfl) (by first | decide | omega) rfl rt17 ?_
          refine TT_Vw dX11_takeClause_195 (r_fails c _ _ _ _ 3 (a : Int)) kX11_122 (by decide) (by first | decide | omega) (by first | assumption | rfl) rfl (leb rfl) ?_
          refine TT_ri dX11_takeClause_198 trivial ?_
          have e : clF (c 131) n D (a, N0, 0, P) = cS (c 131) n D (a, N0, 0, P) := by
            unfold clF
            show (if D 0 0 = 0 ∧ c 131 a ≠ 103 then _ else if c 131 a = 103 then _ else if c 131 a = 115 then _ else if c 131 a = 101 then _ else if c 131 a = 112 then _ else if c 131 a = 110 then _ else _) = _
            rw [if_neg (show ¬ (D 0 0 = 0 ∧ c 131 a ≠ 103) from fun z => b71 (h00.trans z.1)), if_neg b8, if_pos b18]
          rw [e]
          have hfull := cS_full (t := c 131) (n := n) (a := a) (D := D) (N0 := N0) (P := P) (by omega)
          exact cl_fail hfull.1 (by decide) hfull.2 FRX.refl (by omega)
      · refine T_aloadn dX11_takeClause_74 rfl rfl ?_
        refine T_iconst dX11_takeClause_75 (inr rfl) ?_
        refine T_aloadn dX11_takeClause_76 rfl rfl ?_
        refine T_getv dX11_takeClause_77 fX11_111 (by first | assumption | rfl) (by first | decide | omega) rfl rt17 ?_
        refine TT_Vw dX11_takeClause_80 (r_fails c _ _ _ _ 1 (a : Int)) kX11_122 (by decide) (by first | decide | omega) (by first | assumption | rfl) rfl (leb rfl) ?_
        refine TT_ri dX11_takeClause_83 trivial ?_
        have e : clF (c 131) n D (a, N0, 0, P) = (D, flS (a, N0, 0, P) 1 (a : Int)) := by
          unfold clF
          show (if D 0 0 = 0 ∧ c 131 a ≠ 103 then _ else _) = _
          rw [if_pos ⟨h00.symm.trans b71, b8⟩]
        rw [e]
        exact cl_fail fF_0 (by decide) (fP_0n (k := 1) (P := P) (p := (a : Int)) (by decide)) FRX.refl (by omega)
  · refine T_iconst dX11_takeClause_11 (inr rfl) ?_
    refine T_goto (tgt := 56) dX11_takeClause_12 rfl ?_
    refine T_istoren dX11_takeClause_56 rfl (by decide) rfl ?_
    refine T_iloadn dX11_takeClause_57 rfl rfl ?_
    refine T_if_lt (tgt := 74) dX11_takeClause_58 rfl (fun b58 => absurd b58 (by omega)) (fun b58 => ?_)
    refine T_iloadn dX11_takeClause_61 rfl rfl ?_
    refine T_if_le (tgt := 84) dX11_takeClause_62 rfl (fun b62 => ?_) (fun b62 => absurd b62 (by omega))
    refine T_iloadn dX11_takeClause_84 rfl rfl ?_
    refine T_if_ne (tgt := 105) dX11_takeClause_85 rfl (fun b85 => absurd b85 (by omega)) (fun b85 => ?_)
    refine T_aloadn dX11_takeClause_88 rfl rfl ?_
    refine T_getfin dX11_takeClause_89 fX11_41 (by first | assumption | rfl) (by first | decide | omega) rfl (by first | assumption | rfl) ?_
    refine T_iconst dX11_takeClause_92 (inr rfl) ?_
    refine T_ialdv (j := 0) dX11_takeClause_93 (by first | assumption | rfl) (by first | decide | omega) (by omega) (by omega) (rt_o (by decide)) ?_
    refine T_if_le (tgt := 101) dX11_takeClause_94 rfl (fun b94 => ?_) (fun b94 => ?_)
    · refine T_iconst dX11_takeClause_101 (inr rfl) ?_
      refine T_goto (tgt := 184) dX11_takeClause_102 rfl ?_
      refine T_istoren dX11_takeClause_184 rfl (by decide) rfl ?_
      refine T_iloadn dX11_takeClause_185 rfl rfl ?_
      refine T_if_eq (tgt := 199) dX11_takeClause_186 rfl (fun b186 => ?_) (fun b186 => absurd b186 (by omega))
      refine T_aloadn dX11_takeClause_199 rfl rfl ?_
      refine T_dup dX11_takeClause_200 rfl ?_
      refine T_getv dX11_takeClause_201 fX11_111 (by first | assumption | rfl) (by first | decide | omega) rfl rt17 ?_
      refine T_iconst dX11_takeClause_204 (inr rfl) ?_
      first | refine T_iaddN dX11_takeClause_205 (by omega) ?_ | refine T_iadd dX11_takeClause_205 ?_
      refine T_puti dX11_takeClause_206 fX11_111 (by first | assumption | rfl) (by first | decide | omega) rfl rfl ?_
      rw [rtu17, show (a : Int) + 1 = ((a + 1 : Nat) : Int) by omega]
      refine T_iloadn dX11_takeClause_209 rfl rfl ?_
      refine T_if_ne (tgt := 220) dX11_takeClause_210 rfl (fun b210 => absurd b210 (by omega)) (fun b210 => ?_)
      refine T_aloadn dX11_takeClause_213 rfl rfl ?_
      refine TT_V dX11_takeClause_214 (r_takeGrammar c D hn hn2 hD hz hR V N N0 P (a + 1) (by omega)) kX11_155 (by decide) (by first | decide | omega) (by first | assumption | rfl) rfl (leb rfl) (fun v c1 hq => ?_)
      refine T_goto (tgt := 260) dX11_takeClause_217 rfl ?_
      obtain ⟨rfl, cc, A, V2, N2, rfl, hf, hA, hz2⟩ := hq
      have e : clF (c 131) n D (a, N0, 0, P) = cG (c 131) n D (a, N0, 0, P) := by
        unfold clF
        show (if D 0 0 = 0 ∧ c 131 a ≠ 103 then _ else if c 131 a = 103 then _ else if c 131 a = 115 then _ else if c 131 a = 101 then _ else if c 131 a = 112 then _ else if c 131 a = 110 then _ else _) = _
        rw [if_neg (fun z => z.2 b8), if_pos b8]
      have hroom := cG_room (t := c 131) (n := n) (a := a) (D := D) (N0 := N0) (P := P) (by omega)
      rw [e, hroom]
      have h131 : cc 131 = c 131 := hf.1 131 (by decide) (by decide)
      rw [← h131]
      rw [← h131] at hz2
      refine T_keep [0] ?_
      exact rl_tail c cc D _ ((hf.2 15 (by decide) (by decide) (by decide) (by decide)).trans hn) hn2 _ A V2 N2 hf hA hz2
    · refine T_iconst dX11_takeClause_97 (inr rfl) ?_
      refine T_goto (tgt := 184) dX11_takeClause_98 rfl ?_
      refine T_istoren dX11_takeClause_184 rfl (by decide) rfl ?_
      refine T_iloadn dX11_takeClause_185 rfl rfl ?_
      refine T_if_eq (tgt := 199) dX11_takeClause_186 rfl (fun b186 => absurd b186 (by omega)) (fun b186 => ?_)
      refine T_aloadn dX11_takeClause_189 rfl rfl ?_
      refine T_iconst dX11_takeClause_190 (inr rfl) ?_
      refine T_aloadn dX11_takeClause_191 rfl rfl ?_
      refine T_getv dX11_takeClause_192 fX11_111 (by first | assumption | rfl) (by first | decide | omega) rfl rt17 ?_
      refine TT_Vw dX11_takeClause_195 (r_fails c _ _ _ _ 3 (a : Int)) kX11_122 (by decide) (by first | decide | omega) (by first | assumption | rfl) rfl (leb rfl) ?_
      refine TT_ri dX11_takeClause_198 trivial ?_
      have e : clF (c 131) n D (a, N0, 0, P) = cG (c 131) n D (a, N0, 0, P) := by
        unfold clF
        show (if D 0 0 = 0 ∧ c 131 a ≠ 103 then _ else if c 131 a = 103 then _ else if c 131 a = 115 then _ else if c 131 a = 101 then _ else if c 131 a = 112 then _ else if c 131 a = 110 then _ else _) = _
        rw [if_neg (fun z => z.2 b8), if_pos b8]
      rw [e]
      have hfull := cG_full (t := c 131) (n := n) (a := a) (D := D) (N0 := N0) (P := P) (by omega)
      exact cl_fail hfull.1 (by decide) hfull.2 FRX.refl (by omega)
