/-! Text: clauses, read -/
theorem bit1 {x t : Int} (h : bitI x t ≠ 0) : bitI x t = 1 := by
  unfold bitI at *
  split at h
  · rw [if_pos (by assumption)]
  · exact absurd rfl h
section RDS
variable {f : Nat} {c D : HC}
theorem up2_g {x y a k : Nat} {z : Int} : up2 c a k z x y = if x = a ∧ y = k then z else c x y := by
  unfold up2
  by_cases h : x = a ∧ y = k
  · rw [if_pos h, if_pos (by simp [h.1, h.2])]
  · rw [if_neg h, if_neg (by simpa using h)]
theorem RD_g {v w : Int} (h : RD f c D) : RD f (up2 (up2 c (f + 1) 6 v) (f + 1) 7 w) (up2 (up2 D 0 0 v) 0 1 w) := by
  obtain ⟨⟨r0, r1, r2, r3, r4, r5⟩, q1, q2, q3, q4⟩ := h
  refine ⟨⟨by simp [up2_g], by simp [up2_g], by simp [up2_g, r2], by simp [up2_g, r3], by simp [up2_g, r4], by simp [up2_g, r5]⟩, fun j hj => ?_, fun j hj => ?_, fun j hj => ?_, fun j hj => ?_⟩
  · have := q1 j (by simpa [up2_g] using hj)
    simpa [up2_g] using this
  · have := q2 j (by simpa [up2_g] using hj)
    simpa [up2_g] using this
  · have := q3 j hj
    simpa [up2_g] using this
  · have := q4 j (by simpa [up2_g] using hj)
    simpa [up2_g] using this
theorem RD_s {v : Int} {k : Nat} (hk : D 0 2 = (k : Int)) (h : RD f c D) : RD f (up2 (up2 c (f + 1 + 1) k v) (f + 1) 8 ((k : Int) + 1)) (up2 (up2 D 1 (D 0 2).toNat v) 0 2 (D 0 2 + 1)) := by
  obtain ⟨⟨r0, r1, r2, r3, r4, r5⟩, q1, q2, q3, q4⟩ := h
  have e : (D 0 2).toNat = k := by omega
  rw [e, hk]
  refine ⟨⟨by simp [up2_g, r0], by simp [up2_g, r1], by simp [up2_g], by simp [up2_g, r3], by simp [up2_g, r4], by simp [up2_g, r5]⟩, fun j hj => ?_, fun j hj => ?_, fun j hj => ?_, fun j hj => ?_⟩
  · by_cases ej : j = k
    · subst ej; simp [up2_g]
    · have hj2 : (j : Int) < (k : Int) + 1 := by simpa [up2_g] using hj
      have := q1 j (by omega)
      simpa [up2_g, ej] using this
  · have := q2 j (by simpa [up2_g] using hj)
    simpa [up2_g] using this
  · have := q3 j hj
    simpa [up2_g] using this
  · have := q4 j (by simpa [up2_g] using hj)
    simpa [up2_g] using this
theorem RD_e {v : Int} {k : Nat} (hk : D 0 3 = (k : Int)) (h : RD f c D) : RD f (up2 (up2 c (f + 1 + 2) k v) (f + 1) 9 ((k : Int) + 1)) (up2 (up2 D 2 (D 0 3).toNat v) 0 3 (D 0 3 + 1)) := by
  obtain ⟨⟨r0, r1, r2, r3, r4, r5⟩, q1, q2, q3, q4⟩ := h
  have e : (D 0 3).toNat = k := by omega
  rw [e, hk]
  refine ⟨⟨by simp [up2_g, r0], by simp [up2_g, r1], by simp [up2_g, r2], by simp [up2_g], by simp [up2_g, r4], by simp [up2_g, r5]⟩, fun j hj => ?_, fun j hj => ?_, fun j hj => ?_, fun j hj => ?_⟩
  · have := q1 j (by simpa [up2_g] using hj)
    simpa [up2_g] using this
  · by_cases ej : j = k
    · subst ej; simp [up2_g]
    · have hj2 : (j : Int) < (k : Int) + 1 := by simpa [up2_g] using hj
      have := q2 j (by omega)
      simpa [up2_g, ej] using this
  · have := q3 j hj
    simpa [up2_g] using this
  · have := q4 j (by simpa [up2_g] using hj)
    simpa [up2_g] using this
theorem RD_n {v : Int} {a : Nat} {k : Int} (hk : D 0 5 = k) (h : RD f c D) : RD f (up2 (up2 c (f + 1 + 3) a v) (f + 1) 10 (k + 1)) (up2 (up2 D 3 a v) 0 5 (D 0 5 + 1)) := by
  obtain ⟨⟨r0, r1, r2, r3, r4, r5⟩, q1, q2, q3, q4⟩ := h
  rw [hk]
  refine ⟨⟨by simp [up2_g, r0], by simp [up2_g, r1], by simp [up2_g, r2], by simp [up2_g, r3], by simp [up2_g, r4], by simp [up2_g]⟩, fun j hj => ?_, fun j hj => ?_, fun j hj => ?_, fun j hj => ?_⟩
  · have := q1 j (by simpa [up2_g] using hj)
    simpa [up2_g] using this
  · have := q2 j (by simpa [up2_g] using hj)
    simpa [up2_g] using this
  · by_cases ej : j = a
    · subst ej; simp [up2_g]
    · have := q3 j hj
      simpa [up2_g, ej] using this
  · have := q4 j (by simpa [up2_g] using hj)
    simpa [up2_g] using this
theorem RD_p {x y z w : Int} {k : Nat} (hk : D 0 4 = (k : Int)) (h : RD f c D) : RD f (up2 (up2 (up2 (up2 (up2 c (f + 8 + 1) k x) (f + 8 + 2) k y) (f + 8 + 3) k z) (f + 8 + 4) k w) (f + 8) 4 ((k : Int) + 1)) (up2 (up2 (up2 (up2 (up2 D 4 (D 0 4).toNat x) 5 (D 0 4).toNat y) 6 (D 0 4).toNat z) 7 (D 0 4).toNat w) 0 4 (D 0 4 + 1)) := by
  obtain ⟨⟨r0, r1, r2, r3, r4, r5⟩, q1, q2, q3, q4⟩ := h
  have e : (D 0 4).toNat = k := by omega
  rw [e, hk]
  refine ⟨⟨by simp [up2_g, r0], by simp [up2_g, r1], by simp [up2_g, r2], by simp [up2_g, r3], by simp [up2_g], by simp [up2_g, r5]⟩, fun j hj => ?_, fun j hj => ?_, fun j hj => ?_, fun j hj => ?_⟩
  · have := q1 j (by simpa [up2_g] using hj)
    simpa [up2_g] using this
  · have := q2 j (by simpa [up2_g] using hj)
    simpa [up2_g] using this
  · have := q3 j hj
    simpa [up2_g] using this
  · by_cases ej : j = k
    · subst ej; simp [up2_g]
    · have hj2 : (j : Int) < (k : Int) + 1 := by simpa [up2_g] using hj
      have := q4 j (by omega)
      simpa [up2_g, ej] using this
theorem DV_g {v w : Int} (h : DV D) (hv : 1 ≤ v ∧ v ≤ 4) (hw : 0 ≤ w ∧ w ≤ 9) : DV (up2 (up2 D 0 0 v) 0 1 w) := by
  obtain ⟨⟨r0, r1, r2, r3, r4, r5⟩, q1, q2, q4⟩ := h
  refine ⟨⟨by simp [up2_g]; omega, by simp [up2_g]; omega, by simpa [up2_g] using r2, by simpa [up2_g] using r3, by simpa [up2_g] using r4, by simpa [up2_g] using r5⟩, fun j hj => ?_, fun j hj => ?_, fun j hj => ?_⟩
  · have := q1 j (by simpa [up2_g] using hj)
    simpa [up2_g] using this
  · have := q2 j (by simpa [up2_g] using hj)
    simpa [up2_g] using this
  · have := q4 j (by simpa [up2_g] using hj)
    simpa [up2_g] using this
theorem DV_s {v : Int} (h : DV D) (hk : D 0 2 < 6) (hv : 1 ≤ v ∧ v ≤ 9) : DV (up2 (up2 D 1 (D 0 2).toNat v) 0 2 (D 0 2 + 1)) := by
  obtain ⟨⟨r0, r1, r2, r3, r4, r5⟩, q1, q2, q4⟩ := h
  refine ⟨⟨by simpa [up2_g] using r0, by simpa [up2_g] using r1, by simp [up2_g]; omega, by simpa [up2_g] using r3, by simpa [up2_g] using r4, by simpa [up2_g] using r5⟩, fun j hj => ?_, fun j hj => ?_, fun j hj => ?_⟩
  · by_cases ej : j = (D 0 2).toNat
    · subst ej; simp [up2_g]; exact hv
    · have hj2 : (j : Int) < D 0 2 + 1 := by simpa [up2_g] using hj
      have := q1 j (by omega)
      simpa [up2_g, ej] using this
  · have := q2 j (by simpa [up2_g] using hj)
    simpa [up2_g] using this
  · have := q4 j (by simpa [up2_g] using hj)
    simpa [up2_g] using this
theorem DV_e {v : Int} (h : DV D) (hk : D 0 3 < 4) (hv : 1 ≤ v ∧ v ≤ 5) : DV (up2 (up2 D 2 (D 0 3).toNat v) 0 3 (D 0 3 + 1)) := by
  obtain ⟨⟨r0, r1, r2, r3, r4, r5⟩, q1, q2, q4⟩ := h
  refine ⟨⟨by simpa [up2_g] using r0, by simpa [up2_g] using r1, by simpa [up2_g] using r2, by simp [up2_g]; omega, by simpa [up2_g] using r4, by simpa [up2_g] using r5⟩, fun j hj => ?_, fun j hj => ?_, fun j hj => ?_⟩
  · have := q1 j (by simpa [up2_g] using hj)
    simpa [up2_g] using this
  · by_cases ej : j = (D 0 3).toNat
    · subst ej; simp [up2_g]; exact hv
    · have hj2 : (j : Int) < D 0 3 + 1 := by simpa [up2_g] using hj
      have := q2 j (by omega)
      simpa [up2_g, ej] using this
  · have := q4 j (by simpa [up2_g] using hj)
    simpa [up2_g] using this
theorem DV_n {v : Int} {a : Nat} (h : DV D) (hk : D 0 5 < 6) : DV (up2 (up2 D 3 a v) 0 5 (D 0 5 + 1)) := by
  obtain ⟨⟨r0, r1, r2, r3, r4, r5⟩, q1, q2, q4⟩ := h
  refine ⟨⟨by simpa [up2_g] using r0, by simpa [up2_g] using r1, by simpa [up2_g] using r2, by simpa [up2_g] using r3, by simpa [up2_g] using r4, by simp [up2_g]; omega⟩, fun j hj => ?_, fun j hj => ?_, fun j hj => ?_⟩
  · have := q1 j (by simpa [up2_g] using hj)
    simpa [up2_g] using this
  · have := q2 j (by simpa [up2_g] using hj)
    simpa [up2_g] using this
  · have := q4 j (by simpa [up2_g] using hj)
    simpa [up2_g] using this
theorem DV_p {x y z w : Int} (h : DV D) (hk : D 0 4 < 10) (hx : 0 ≤ x ∧ x ≤ 1) (hy : 1 ≤ y ∧ y ≤ 40) (hz : 0 ≤ z ∧ z ≤ 99) (hw : 0 ≤ w ∧ w ≤ 100) : DV (up2 (up2 (up2 (up2 (up2 D 4 (D 0 4).toNat x) 5 (D 0 4).toNat y) 6 (D 0 4).toNat z) 7 (D 0 4).toNat w) 0 4 (D 0 4 + 1)) := by
  obtain ⟨⟨r0, r1, r2, r3, r4, r5⟩, q1, q2, q4⟩ := h
  refine ⟨⟨by simpa [up2_g] using r0, by simpa [up2_g] using r1, by simpa [up2_g] using r2, by simpa [up2_g] using r3, by simp [up2_g]; omega, by simpa [up2_g] using r5⟩, fun j hj => ?_, fun j hj => ?_, fun j hj => ?_⟩
  · have := q1 j (by simpa [up2_g] using hj)
    simpa [up2_g] using this
  · have := q2 j (by simpa [up2_g] using hj)
    simpa [up2_g] using this
  · by_cases ej : j = (D 0 4).toNat
    · subst ej
      simp [up2_g]
      omega
    · have hj2 : (j : Int) < D 0 4 + 1 := by simpa [up2_g] using hj
      have := q4 j (by omega)
      simpa [up2_g, ej] using this
end RDS
set_option maxHeartbeats 4000000 in
set_option maxRecDepth 100000 in
theorem c_readGrammar (c D : HC) {f : Nat} (hf : f = 88 ∨ f = 101) (hD : DV D) (hR : RD f c D) {n : Nat} (hn : c 2 1 = (n : Int)) (hn2 : n ≤ 250) (s : TS) (ha : s.1 ≤ 255) : CC mX9_readGrammar 2 (txs c s) [vr 2, vr (f + 1)] (fun v h => v = none ∧ CLP f c (cG (c 3) n D s) h) := by
  obtain ⟨f0, fs, ff0, ff1, hg, hf2⟩ := fK hf
  obtain ⟨g0, gs, gs1, gs2, gs3, gs4, gs5, gs6, gf0, gf1, gf2, gf3, gf4, gf5⟩ := gK hg
  obtain ⟨s0, ss, ss1, ss2, ss3, ss4, sf0, sf1, sf2, sf3⟩ := sK hf2
  obtain ⟨⟨r0, r1, r2, r3, r4, r5⟩, q1, q2, q3, q4⟩ := id hR
  obtain ⟨⟨v0, v1, v2, v3, v4, v5⟩, u1, u2, u4⟩ := id hD
  obtain ⟨s1, e1⟩ : ∃ x, x = wdS s (rm (D 0 0 = 0)) := ⟨_, rfl⟩
  have a1 : s1.1 ≤ 300 := by rw [e1, wd1]; omega
  have wt := s_word (c := c) s (by omega) 1 (D 0 0 = 0)
  have wf := s_word (c := c) s (by omega) 0 (D 0 0 = 0)
  rw [← e1] at wt wf
  obtain ⟨s2, e2⟩ : ∃ x, x = nuS (c 3) n 1 4 s1 := ⟨_, rfl⟩
  have a2 : s2.1 ≤ 300 := by rw [e2]; have := nu1 (t := c 3) (n := n) (lo := 1) (hi := 4) (s := s1); omega
  have n2 := s_num hn hn2 1 4 s1 (by omega)
  rw [← e2] at n2
  obtain ⟨s3, e3⟩ : ∃ x, x = nuS (c 3) n 0 9 s2 := ⟨_, rfl⟩
  have a3 : s3.1 ≤ 300 := by rw [e3]; have := nu1 (t := c 3) (n := n) (lo := 0) (hi := 9) (s := s2); omega
  have n3 := s_num hn hn2 0 9 s2 (by omega)
  rw [← e3] at n3
  obtain ⟨s4, e4⟩ : ∃ x, x = edS (c 3) n s3 := ⟨_, rfl⟩
  have n4 := s_end hn hn2 s3 (by omega)
  rw [← e4] at n4
  have hres : cG (c 3) n D s = (if s4.2.2.1 = 0 then up2 (up2 D 0 0 (nuV (c 3) n s1.1)) 0 1 (nuV (c 3) n s2.1) else D, s4) := by subst e4 e3 e2 e1; rfl
  rw [hres]
  refine CC.of (by decide +kernel) (leb rfl) (fun hok => ?_)
  refine T_aloadn dX9_readGrammar_0 rfl rfl ?_
  refine T_aloadn dX9_readGrammar_1 rfl rfl ?_
  refine T_getv dX9_readGrammar_2 fX9_44 (by first | assumption | rfl) (by first | decide | omega) rfl ((s_at (by omega)).trans r0) ?_
  refine T_if_ne (tgt := 12) dX9_readGrammar_5 rfl (fun b5 => ?_) (fun b5 => ?_)
  · refine T_iconst dX9_readGrammar_12 (inr rfl) ?_
    refine TT_Vv dX9_readGrammar_13 (wf (by rw [if_neg b5])) kX9_74 (by decide) (by first | decide | omega) (by first | assumption | rfl) rfl (leb rfl) ?_
    refine T_aloadn dX9_readGrammar_16 rfl rfl ?_
    refine T_iconst dX9_readGrammar_17 (inr rfl) ?_
    refine T_iconst dX9_readGrammar_18 (inr rfl) ?_
    refine TT_Vw dX9_readGrammar_19 (n2) kX9_78 (by decide) (by first | decide | omega) (by first | assumption | rfl) rfl (leb rfl) ?_
    refine T_istoren dX9_readGrammar_22 rfl (by decide) rfl ?_
    refine T_aloadn dX9_readGrammar_23 rfl rfl ?_
    refine T_iconst dX9_readGrammar_24 (inr rfl) ?_
    refine T_bipush dX9_readGrammar_25 (bp8 rfl) (inr rfl) ?_
    refine TT_Vw dX9_readGrammar_27 (n3) kX9_78 (by decide) (by first | decide | omega) (by first | assumption | rfl) rfl (leb rfl) ?_
    refine T_istoren dX9_readGrammar_30 rfl (by decide) rfl ?_
    refine T_aloadn dX9_readGrammar_31 rfl rfl ?_
    refine TT_Vv dX9_readGrammar_32 (n4) kX9_82 (by decide) (by first | decide | omega) (by first | assumption | rfl) rfl (leb rfl) ?_
    refine T_aloadn dX9_readGrammar_35 rfl rfl ?_
    refine T_getv dX9_readGrammar_36 fX9_15 (by first | assumption | rfl) (by first | decide | omega) rfl tx4 ?_
    refine T_if_ne (tgt := 52) dX9_readGrammar_39 rfl (fun b39 => ?_) (fun b39 => ?_)
    · skip
      refine TT_rv dX9_readGrammar_52 trivial ?_
      refine ⟨rfl, c, rfl, ?_, ?_, FRF.refl⟩
      · rw [if_neg b39]; exact hR
      · rw [if_neg b39]; exact hD
    · refine T_aloadn dX9_readGrammar_42 rfl rfl ?_
      refine T_iloadn dX9_readGrammar_43 rfl rfl ?_
      refine T_puti dX9_readGrammar_44 fX9_44 (by first | assumption | rfl) (by first | decide | omega) rfl rfl ?_
      refine T_aloadn dX9_readGrammar_47 rfl rfl ?_
      refine T_iloadn dX9_readGrammar_48 rfl rfl ?_
      refine T_puti dX9_readGrammar_49 fX9_85 (by first | assumption | rfl) (by first | decide | omega) rfl rfl ?_
      rw [s_up (by omega), s_up (by omega)]
      refine TT_rv dX9_readGrammar_52 trivial ?_
      have z3 := edS_z (e4 ▸ b39)
      have z2 := nuS_z (e3 ▸ z3)
      have z1 := nuS_z (e2 ▸ z2.1)
      refine ⟨rfl, _, rfl, ?_, ?_, (FRF.refl.up (by omega)).up (by omega)⟩
      · rw [if_pos b39]; exact RD_g hR
      · rw [if_pos b39]; exact DV_g hD z1.2 z2.2
  · refine T_iconst dX9_readGrammar_8 (inr rfl) ?_
    refine T_goto (tgt := 13) dX9_readGrammar_9 rfl ?_
    refine TT_Vv dX9_readGrammar_13 (wt (by rw [if_pos b5])) kX9_74 (by decide) (by first | decide | omega) (by first | assumption | rfl) rfl (leb rfl) ?_
    refine T_aloadn dX9_readGrammar_16 rfl rfl ?_
    refine T_iconst dX9_readGrammar_17 (inr rfl) ?_
    refine T_iconst dX9_readGrammar_18 (inr rfl) ?_
    refine TT_Vw dX9_readGrammar_19 (n2) kX9_78 (by decide) (by first | decide | omega) (by first | assumption | rfl) rfl (leb rfl) ?_
    refine T_istoren dX9_readGrammar_22 rfl (by decide) rfl ?_
    refine T_aloadn dX9_readGrammar_23 rfl rfl ?_
    refine T_iconst dX9_readGrammar_24 (inr rfl) ?_
    refine T_bipush dX9_readGrammar_25 (bp8 rfl) (inr rfl) ?_
    refine TT_Vw dX9_readGrammar_27 (n3) kX9_78 (by decide) (by first | decide | omega) (by first | assumption | rfl) rfl (leb rfl) ?_
    refine T_istoren dX9_readGrammar_30 rfl (by decide) rfl ?_
    refine T_aloadn dX9_readGrammar_31 rfl rfl ?_
    refine TT_Vv dX9_readGrammar_32 (n4) kX9_82 (by decide) (by first | decide | omega) (by first | assumption | rfl) rfl (leb rfl) ?_
    refine T_aloadn dX9_readGrammar_35 rfl rfl ?_
    refine T_getv dX9_readGrammar_36 fX9_15 (by first | assumption | rfl) (by first | decide | omega) rfl tx4 ?_
    refine T_if_ne (tgt := 52) dX9_readGrammar_39 rfl (fun b39 => ?_) (fun b39 => ?_)
    · skip
      refine TT_rv dX9_readGrammar_52 trivial ?_
      refine ⟨rfl, c, rfl, ?_, ?_, FRF.refl⟩
      · rw [if_neg b39]; exact hR
      · rw [if_neg b39]; exact hD
    · refine T_aloadn dX9_readGrammar_42 rfl rfl ?_
      refine T_iloadn dX9_readGrammar_43 rfl rfl ?_
      refine T_puti dX9_readGrammar_44 fX9_44 (by first | assumption | rfl) (by first | decide | omega) rfl rfl ?_
      refine T_aloadn dX9_readGrammar_47 rfl rfl ?_
      refine T_iloadn dX9_readGrammar_48 rfl rfl ?_
      refine T_puti dX9_readGrammar_49 fX9_85 (by first | assumption | rfl) (by first | decide | omega) rfl rfl ?_
      rw [s_up (by omega), s_up (by omega)]
      refine TT_rv dX9_readGrammar_52 trivial ?_
      have z3 := edS_z (e4 ▸ b39)
      have z2 := nuS_z (e3 ▸ z3)
      have z1 := nuS_z (e2 ▸ z2.1)
      refine ⟨rfl, _, rfl, ?_, ?_, (FRF.refl.up (by omega)).up (by omega)⟩
      · rw [if_pos b39]; exact RD_g hR
      · rw [if_pos b39]; exact DV_g hD z1.2 z2.2
set_option maxHeartbeats 4000000 in
set_option maxRecDepth 100000 in
theorem c_readStem (c D : HC) {f : Nat} (hf : f = 88 ∨ f = 101) (hD : DV D) (hR : RD f c D) {n : Nat} (hn : c 2 1 = (n : Int)) (hn2 : n ≤ 250) (s : TS) (ha : s.1 ≤ 255) : CC mX9_readStem 2 (txs c s) [vr 2, vr (f + 1)] (fun v h => v = none ∧ CLP f c (cS (c 3) n D s) h) := by
  obtain ⟨f0, fs, ff0, ff1, hg, hf2⟩ := fK hf
  obtain ⟨g0, gs, gs1, gs2, gs3, gs4, gs5, gs6, gf0, gf1, gf2, gf3, gf4, gf5⟩ := gK hg
  obtain ⟨s0, ss, ss1, ss2, ss3, ss4, sf0, sf1, sf2, sf3⟩ := sK hf2
  obtain ⟨⟨r0, r1, r2, r3, r4, r5⟩, q1, q2, q3, q4⟩ := id hR
  obtain ⟨⟨v0, v1, v2, v3, v4, v5⟩, u1, u2, u4⟩ := id hD
  obtain ⟨s1, e1⟩ : ∃ x, x = wdS s (rm (D 0 2 < 6)) := ⟨_, rfl⟩
  have a1 : s1.1 ≤ 300 := by rw [e1, wd1]; omega
  have wt := s_word (c := c) s (by omega) 1 (D 0 2 < 6)
  have wf := s_word (c := c) s (by omega) 0 (D 0 2 < 6)
  rw [← e1] at wt wf
  obtain ⟨s2, e2⟩ : ∃ x, x = nuS (c 3) n 1 9 s1 := ⟨_, rfl⟩
  have a2 : s2.1 ≤ 300 := by rw [e2]; have := nu1 (t := c 3) (n := n) (lo := 1) (hi := 9) (s := s1); omega
  have n2 := s_num hn hn2 1 9 s1 (by omega)
  rw [← e2] at n2
  obtain ⟨s3, e3⟩ : ∃ x, x = edS (c 3) n s2 := ⟨_, rfl⟩
  have n3 := s_end hn hn2 s2 (by omega)
  rw [← e3] at n3
  have hres : cS (c 3) n D s = (if s3.2.2.1 = 0 then up2 (up2 D 1 (D 0 2).toNat (nuV (c 3) n s1.1)) 0 2 (D 0 2 + 1) else D, s3) := by subst e3 e2 e1; rfl
  rw [hres]
  refine CC.of (by decide +kernel) (leb rfl) (fun hok => ?_)
  refine T_aloadn dX9_readStem_0 rfl rfl ?_
  refine T_aloadn dX9_readStem_1 rfl rfl ?_
  refine T_getv dX9_readStem_2 fX9_88 (by first | assumption | rfl) (by first | decide | omega) rfl ((s_at (by omega)).trans r2) ?_
  refine T_bipush dX9_readStem_5 (bp8 rfl) (inr rfl) ?_
  refine T_icmp_ge (tgt := 14) dX9_readStem_7 rfl (fun b7 => ?_) (fun b7 => ?_)
  · refine T_iconst dX9_readStem_14 (inr rfl) ?_
    refine TT_Vv dX9_readStem_15 (wf (by rw [if_neg (by omega)])) kX9_74 (by decide) (by first | decide | omega) (by first | assumption | rfl) rfl (leb rfl) ?_
    refine T_aloadn dX9_readStem_18 rfl rfl ?_
    refine T_iconst dX9_readStem_19 (inr rfl) ?_
    refine T_bipush dX9_readStem_20 (bp8 rfl) (inr rfl) ?_
    refine TT_Vw dX9_readStem_22 (n2) kX9_78 (by decide) (by first | decide | omega) (by first | assumption | rfl) rfl (leb rfl) ?_
    refine T_istoren dX9_readStem_25 rfl (by decide) rfl ?_
    refine T_aloadn dX9_readStem_26 rfl rfl ?_
    refine TT_Vv dX9_readStem_27 (n3) kX9_82 (by decide) (by first | decide | omega) (by first | assumption | rfl) rfl (leb rfl) ?_
    refine T_aloadn dX9_readStem_30 rfl rfl ?_
    refine T_getv dX9_readStem_31 fX9_15 (by first | assumption | rfl) (by first | decide | omega) rfl tx4 ?_
    refine T_if_ne (tgt := 42) dX9_readStem_34 rfl (fun b34 => ?_) (fun b34 => ?_)
    · refine TT_rv dX9_readStem_42 trivial ?_
      refine ⟨rfl, c, rfl, ?_, ?_, FRF.refl⟩
      · rw [if_neg b34]; exact hR
      · rw [if_neg b34]; exact hD
    · refine T_aloadn dX9_readStem_37 rfl rfl ?_
      refine T_iloadn dX9_readStem_38 rfl rfl ?_
      have z2 := edS_z (e3 ▸ b34)
      have z1 := nuS_z (e2 ▸ z2)
      have z0 := wdS_z (e1 ▸ z1.1)
      obtain ⟨k, hk⟩ : ∃ k : Nat, D 0 2 = (k : Int) := ⟨(D 0 2).toNat, by omega⟩
      have hadd := c_addStem (txs c s3) hg k (by omega) ((s_at (by omega)).trans (r2.trans hk)) (nuV (c 3) n s1.1)
      rw [s_up (by omega), s_up (by omega)] at hadd
      refine TT_Vv dX9_readStem_39 (hadd) kX9_91 (by decide) (by first | decide | omega) (by first | assumption | rfl) rfl (leb rfl) ?_
      refine TT_rv dX9_readStem_42 trivial ?_
      refine ⟨rfl, _, rfl, ?_, ?_, (FRF.refl.up (by omega)).up (by omega)⟩
      · rw [if_pos b34]; exact RD_s hk hR
      · rw [if_pos b34]; exact DV_s hD z0.2 z1.2
  · refine T_iconst dX9_readStem_10 (inr rfl) ?_
    refine T_goto (tgt := 15) dX9_readStem_11 rfl ?_
    refine TT_Vv dX9_readStem_15 (wt (by rw [if_pos (by omega)])) kX9_74 (by decide) (by first | decide | omega) (by first | assumption | rfl) rfl (leb rfl) ?_
    refine T_aloadn dX9_readStem_18 rfl rfl ?_
    refine T_iconst dX9_readStem_19 (inr rfl) ?_
    refine T_bipush dX9_readStem_20 (bp8 rfl) (inr rfl) ?_
    refine TT_Vw dX9_readStem_22 (n2) kX9_78 (by decide) (by first | decide | omega) (by first | assumption | rfl) rfl (leb rfl) ?_
    refine T_istoren dX9_readStem_25 rfl (by decide) rfl ?_
    refine T_aloadn dX9_readStem_26 rfl rfl ?_
    refine TT_Vv dX9_readStem_27 (n3) kX9_82 (by decide) (by first | decide | omega) (by first | assumption | rfl) rfl (leb rfl) ?_
    refine T_aloadn dX9_readStem_30 rfl rfl ?_
    refine T_getv dX9_readStem_31 fX9_15 (by first | assumption | rfl) (by first | decide | omega) rfl tx4 ?_
    refine T_if_ne (tgt := 42) dX9_readStem_34 rfl (fun b34 => ?_) (fun b34 => ?_)
    · refine TT_rv dX9_readStem_42 trivial ?_
      refine ⟨rfl, c, rfl, ?_, ?_, FRF.refl⟩
      · rw [if_neg b34]; exact hR
      · rw [if_neg b34]; exact hD
    · refine T_aloadn dX9_readStem_37 rfl rfl ?_
      refine T_iloadn dX9_readStem_38 rfl rfl ?_
      have z2 := edS_z (e3 ▸ b34)
      have z1 := nuS_z (e2 ▸ z2)
      have z0 := wdS_z (e1 ▸ z1.1)
      obtain ⟨k, hk⟩ : ∃ k : Nat, D 0 2 = (k : Int) := ⟨(D 0 2).toNat, by omega⟩
      have hadd := c_addStem (txs c s3) hg k (by omega) ((s_at (by omega)).trans (r2.trans hk)) (nuV (c 3) n s1.1)
      rw [s_up (by omega), s_up (by omega)] at hadd
      refine TT_Vv dX9_readStem_39 (hadd) kX9_91 (by decide) (by first | decide | omega) (by first | assumption | rfl) rfl (leb rfl) ?_
      refine TT_rv dX9_readStem_42 trivial ?_
      refine ⟨rfl, _, rfl, ?_, ?_, (FRF.refl.up (by omega)).up (by omega)⟩
      · rw [if_pos b34]; exact RD_s hk hR
      · rw [if_pos b34]; exact DV_s hD z0.2 z1.2
set_option maxHeartbeats 4000000 in
set_option maxRecDepth 100000 in
theorem c_readEnding (c D : HC) {f : Nat} (hf : f = 88 ∨ f = 101) (hD : DV D) (hR : RD f c D) {n : Nat} (hn : c 2 1 = (n : Int)) (hn2 : n ≤ 250) (s : TS) (ha : s.1 ≤ 255) : CC mX9_readEnding 2 (txs c s) [vr 2, vr (f + 1)] (fun v h => v = none ∧ CLP f c (cE (c 3) n D s) h) := by
  obtain ⟨f0, fs, ff0, ff1, hg, hf2⟩ := fK hf
  obtain ⟨g0, gs, gs1, gs2, gs3, gs4, gs5, gs6, gf0, gf1, gf2, gf3, gf4, gf5⟩ := gK hg
  obtain ⟨s0, ss, ss1, ss2, ss3, ss4, sf0, sf1, sf2, sf3⟩ := sK hf2
  obtain ⟨⟨r0, r1, r2, r3, r4, r5⟩, q1, q2, q3, q4⟩ := id hR
  obtain ⟨⟨v0, v1, v2, v3, v4, v5⟩, u1, u2, u4⟩ := id hD
  obtain ⟨s1, e1⟩ : ∃ x, x = wdS s (rm (D 0 3 < 4)) := ⟨_, rfl⟩
  have a1 : s1.1 ≤ 300 := by rw [e1, wd1]; omega
  have wt := s_word (c := c) s (by omega) 1 (D 0 3 < 4)
  have wf := s_word (c := c) s (by omega) 0 (D 0 3 < 4)
  rw [← e1] at wt wf
  obtain ⟨s2, e2⟩ : ∃ x, x = nuS (c 3) n 1 5 s1 := ⟨_, rfl⟩
  have a2 : s2.1 ≤ 300 := by rw [e2]; have := nu1 (t := c 3) (n := n) (lo := 1) (hi := 5) (s := s1); omega
  have n2 := s_num hn hn2 1 5 s1 (by omega)
  rw [← e2] at n2
  obtain ⟨s3, e3⟩ : ∃ x, x = edS (c 3) n s2 := ⟨_, rfl⟩
  have n3 := s_end hn hn2 s2 (by omega)
  rw [← e3] at n3
  have hres : cE (c 3) n D s = (if s3.2.2.1 = 0 then up2 (up2 D 2 (D 0 3).toNat (nuV (c 3) n s1.1)) 0 3 (D 0 3 + 1) else D, s3) := by subst e3 e2 e1; rfl
  rw [hres]
  refine CC.of (by decide +kernel) (leb rfl) (fun hok => ?_)
  refine T_aloadn dX9_readEnding_0 rfl rfl ?_
  refine T_aloadn dX9_readEnding_1 rfl rfl ?_
  refine T_getv dX9_readEnding_2 fX9_95 (by first | assumption | rfl) (by first | decide | omega) rfl ((s_at (by omega)).trans r3) ?_
  refine T_iconst dX9_readEnding_5 (inr rfl) ?_
  refine T_icmp_ge (tgt := 13) dX9_readEnding_6 rfl (fun b6 => ?_) (fun b6 => ?_)
  · refine T_iconst dX9_readEnding_13 (inr rfl) ?_
    refine TT_Vv dX9_readEnding_14 (wf (by rw [if_neg (by omega)])) kX9_74 (by decide) (by first | decide | omega) (by first | assumption | rfl) rfl (leb rfl) ?_
    refine T_aloadn dX9_readEnding_17 rfl rfl ?_
    refine T_iconst dX9_readEnding_18 (inr rfl) ?_
    refine T_iconst dX9_readEnding_19 (inr rfl) ?_
    refine TT_Vw dX9_readEnding_20 (n2) kX9_78 (by decide) (by first | decide | omega) (by first | assumption | rfl) rfl (leb rfl) ?_
    refine T_istoren dX9_readEnding_23 rfl (by decide) rfl ?_
    refine T_aloadn dX9_readEnding_24 rfl rfl ?_
    refine TT_Vv dX9_readEnding_25 (n3) kX9_82 (by decide) (by first | decide | omega) (by first | assumption | rfl) rfl (leb rfl) ?_
    refine T_aloadn dX9_readEnding_28 rfl rfl ?_
    refine T_getv dX9_readEnding_29 fX9_15 (by first | assumption | rfl) (by first | decide | omega) rfl tx4 ?_
    refine T_if_ne (tgt := 40) dX9_readEnding_32 rfl (fun b32 => ?_) (fun b32 => ?_)
    · refine TT_rv dX9_readEnding_40 trivial ?_
      refine ⟨rfl, c, rfl, ?_, ?_, FRF.refl⟩
      · rw [if_neg b32]; exact hR
      · rw [if_neg b32]; exact hD
    · refine T_aloadn dX9_readEnding_35 rfl rfl ?_
      refine T_iloadn dX9_readEnding_36 rfl rfl ?_
      have z2 := edS_z (e3 ▸ b32)
      have z1 := nuS_z (e2 ▸ z2)
      have z0 := wdS_z (e1 ▸ z1.1)
      obtain ⟨k, hk⟩ : ∃ k : Nat, D 0 3 = (k : Int) := ⟨(D 0 3).toNat, by omega⟩
      have hadd := c_addEnding (txs c s3) hg k (by omega) ((s_at (by omega)).trans (r3.trans hk)) (nuV (c 3) n s1.1)
      rw [s_up (by omega), s_up (by omega)] at hadd
      refine TT_Vv dX9_readEnding_37 (hadd) kX9_98 (by decide) (by first | decide | omega) (by first | assumption | rfl) rfl (leb rfl) ?_
      refine TT_rv dX9_readEnding_40 trivial ?_
      refine ⟨rfl, _, rfl, ?_, ?_, (FRF.refl.up (by omega)).up (by omega)⟩
      · rw [if_pos b32]; exact RD_e hk hR
      · rw [if_pos b32]; exact DV_e hD z0.2 z1.2
  · refine T_iconst dX9_readEnding_9 (inr rfl) ?_
    refine T_goto (tgt := 14) dX9_readEnding_10 rfl ?_
    refine TT_Vv dX9_readEnding_14 (wt (by rw [if_pos (by omega)])) kX9_74 (by decide) (by first | decide | omega) (by first | assumption | rfl) rfl (leb rfl) ?_
    refine T_aloadn dX9_readEnding_17 rfl rfl ?_
    refine T_iconst dX9_readEnding_18 (inr rfl) ?_
    refine T_iconst dX9_readEnding_19 (inr rfl) ?_
    refine TT_Vw dX9_readEnding_20 (n2) kX9_78 (by decide) (by first | decide | omega) (by first | assumption | rfl) rfl (leb rfl) ?_
    refine T_istoren dX9_readEnding_23 rfl (by decide) rfl ?_
    refine T_aloadn dX9_readEnding_24 rfl rfl ?_
    refine TT_Vv dX9_readEnding_25 (n3) kX9_82 (by decide) (by first | decide | omega) (by first | assumption | rfl) rfl (leb rfl) ?_
    refine T_aloadn dX9_readEnding_28 rfl rfl ?_
    refine T_getv dX9_readEnding_29 fX9_15 (by first | assumption | rfl) (by first | decide | omega) rfl tx4 ?_
    refine T_if_ne (tgt := 40) dX9_readEnding_32 rfl (fun b32 => ?_) (fun b32 => ?_)
    · refine TT_rv dX9_readEnding_40 trivial ?_
      refine ⟨rfl, c, rfl, ?_, ?_, FRF.refl⟩
      · rw [if_neg b32]; exact hR
      · rw [if_neg b32]; exact hD
    · refine T_aloadn dX9_readEnding_35 rfl rfl ?_
      refine T_iloadn dX9_readEnding_36 rfl rfl ?_
      have z2 := edS_z (e3 ▸ b32)
      have z1 := nuS_z (e2 ▸ z2)
      have z0 := wdS_z (e1 ▸ z1.1)
      obtain ⟨k, hk⟩ : ∃ k : Nat, D 0 3 = (k : Int) := ⟨(D 0 3).toNat, by omega⟩
      have hadd := c_addEnding (txs c s3) hg k (by omega) ((s_at (by omega)).trans (r3.trans hk)) (nuV (c 3) n s1.1)
      rw [s_up (by omega), s_up (by omega)] at hadd
      refine TT_Vv dX9_readEnding_37 (hadd) kX9_98 (by decide) (by first | decide | omega) (by first | assumption | rfl) rfl (leb rfl) ?_
      refine TT_rv dX9_readEnding_40 trivial ?_
      refine ⟨rfl, _, rfl, ?_, ?_, (FRF.refl.up (by omega)).up (by omega)⟩
      · rw [if_pos b32]; exact RD_e hk hR
      · rw [if_pos b32]; exact DV_e hD z0.2 z1.2
set_option maxHeartbeats 4000000 in
set_option maxRecDepth 100000 in
theorem c_readSpeaker (c D : HC) {f : Nat} (hf : f = 88 ∨ f = 101) (hD : DV D) (hR : RD f c D) {n : Nat} (hn : c 2 1 = (n : Int)) (hn2 : n ≤ 250) (s : TS) (ha : s.1 ≤ 255) : CC mX9_readSpeaker 2 (txs c s) [vr 2, vr (f + 8)] (fun v h => v = none ∧ CLP f c (cP (c 3) n D s) h) := by
  obtain ⟨f0, fs, ff0, ff1, hg, hf2⟩ := fK hf
  obtain ⟨g0, gs, gs1, gs2, gs3, gs4, gs5, gs6, gf0, gf1, gf2, gf3, gf4, gf5⟩ := gK hg
  obtain ⟨s0, ss, ss1, ss2, ss3, ss4, sf0, sf1, sf2, sf3⟩ := sK hf2
  obtain ⟨⟨r0, r1, r2, r3, r4, r5⟩, q1, q2, q3, q4⟩ := id hR
  obtain ⟨⟨v0, v1, v2, v3, v4, v5⟩, u1, u2, u4⟩ := id hD
  obtain ⟨s1, e1⟩ : ∃ x, x = wdS s (rm (D 0 4 < 10)) := ⟨_, rfl⟩
  have a1 : s1.1 ≤ 300 := by rw [e1, wd1]; omega
  have wt := s_word (c := c) s (by omega) 1 (D 0 4 < 10)
  have wf := s_word (c := c) s (by omega) 0 (D 0 4 < 10)
  rw [← e1] at wt wf
  obtain ⟨s2, e2⟩ : ∃ x, x = nuS (c 3) n 0 1 s1 := ⟨_, rfl⟩
  have a2 : s2.1 ≤ 300 := by rw [e2]; have := nu1 (t := c 3) (n := n) (lo := 0) (hi := 1) (s := s1); omega
  have n2 := s_num hn hn2 0 1 s1 (by omega)
  rw [← e2] at n2
  obtain ⟨s3, e3⟩ : ∃ x, x = nuS (c 3) n 1 40 s2 := ⟨_, rfl⟩
  have a3 : s3.1 ≤ 300 := by rw [e3]; have := nu1 (t := c 3) (n := n) (lo := 1) (hi := 40) (s := s2); omega
  have n3 := s_num hn hn2 1 40 s2 (by omega)
  rw [← e3] at n3
  obtain ⟨s4, e4⟩ : ∃ x, x = nuS (c 3) n 0 99 s3 := ⟨_, rfl⟩
  have a4 : s4.1 ≤ 300 := by rw [e4]; have := nu1 (t := c 3) (n := n) (lo := 0) (hi := 99) (s := s3); omega
  have n4 := s_num hn hn2 0 99 s3 (by omega)
  rw [← e4] at n4
  obtain ⟨s5, e5⟩ : ∃ x, x = nuS (c 3) n 0 100 s4 := ⟨_, rfl⟩
  have a5 : s5.1 ≤ 300 := by rw [e5]; have := nu1 (t := c 3) (n := n) (lo := 0) (hi := 100) (s := s4); omega
  have n5 := s_num hn hn2 0 100 s4 (by omega)
  rw [← e5] at n5
  obtain ⟨s6, e6⟩ : ∃ x, x = edS (c 3) n s5 := ⟨_, rfl⟩
  have n6 := s_end hn hn2 s5 (by omega)
  rw [← e6] at n6
  have hres : cP (c 3) n D s = (if s6.2.2.1 = 0 then up2 (up2 (up2 (up2 (up2 D 4 (D 0 4).toNat (nuV (c 3) n s1.1)) 5 (D 0 4).toNat (nuV (c 3) n s2.1)) 6 (D 0 4).toNat (nuV (c 3) n s3.1)) 7 (D 0 4).toNat (nuV (c 3) n s4.1)) 0 4 (D 0 4 + 1) else D, s6) := by subst e6 e5 e4 e3 e2 e1; rfl
  rw [hres]
  refine CC.of (by decide +kernel) (leb rfl) (fun hok => ?_)
  refine T_aloadn dX9_readSpeaker_0 rfl rfl ?_
  refine T_aloadn dX9_readSpeaker_1 rfl rfl ?_
  refine T_getv dX9_readSpeaker_2 fX9_101 (by first | assumption | rfl) (by first | decide | omega) rfl ((s_at (by omega)).trans r4) ?_
  refine T_bipush dX9_readSpeaker_5 (bp8 rfl) (inr rfl) ?_
  refine T_icmp_ge (tgt := 14) dX9_readSpeaker_7 rfl (fun b7 => ?_) (fun b7 => ?_)
  · refine T_iconst dX9_readSpeaker_14 (inr rfl) ?_
    refine TT_Vv dX9_readSpeaker_15 (wf (by rw [if_neg (by omega)])) kX9_74 (by decide) (by first | decide | omega) (by first | assumption | rfl) rfl (leb rfl) ?_
    refine T_aloadn dX9_readSpeaker_18 rfl rfl ?_
    refine T_iconst dX9_readSpeaker_19 (inr rfl) ?_
    refine T_iconst dX9_readSpeaker_20 (inr rfl) ?_
    refine TT_Vw dX9_readSpeaker_21 (n2) kX9_78 (by decide) (by first | decide | omega) (by first | assumption | rfl) rfl (leb rfl) ?_
    refine T_istoren dX9_readSpeaker_24 rfl (by decide) rfl ?_
    refine T_aloadn dX9_readSpeaker_25 rfl rfl ?_
    refine T_iconst dX9_readSpeaker_26 (inr rfl) ?_
    refine T_bipush dX9_readSpeaker_27 (bp8 rfl) (inr rfl) ?_
    refine TT_Vw dX9_readSpeaker_29 (n3) kX9_78 (by decide) (by first | decide | omega) (by first | assumption | rfl) rfl (leb rfl) ?_
    refine T_istoren dX9_readSpeaker_32 rfl (by decide) rfl ?_
    refine T_aloadn dX9_readSpeaker_33 rfl rfl ?_
    refine T_iconst dX9_readSpeaker_34 (inr rfl) ?_
    refine T_bipush dX9_readSpeaker_35 (bp8 rfl) (inr rfl) ?_
    refine TT_Vw dX9_readSpeaker_37 (n4) kX9_78 (by decide) (by first | decide | omega) (by first | assumption | rfl) rfl (leb rfl) ?_
    refine T_istore dX9_readSpeaker_40 (by decide) rfl ?_
    refine T_aloadn dX9_readSpeaker_42 rfl rfl ?_
    refine T_iconst dX9_readSpeaker_43 (inr rfl) ?_
    refine T_bipush dX9_readSpeaker_44 (bp8 rfl) (inr rfl) ?_
    refine TT_Vw dX9_readSpeaker_46 (n5) kX9_78 (by decide) (by first | decide | omega) (by first | assumption | rfl) rfl (leb rfl) ?_
    refine T_istore dX9_readSpeaker_49 (by decide) rfl ?_
    refine T_aloadn dX9_readSpeaker_51 rfl rfl ?_
    refine TT_Vv dX9_readSpeaker_52 (n6) kX9_82 (by decide) (by first | decide | omega) (by first | assumption | rfl) rfl (leb rfl) ?_
    refine T_aloadn dX9_readSpeaker_55 rfl rfl ?_
    refine T_getv dX9_readSpeaker_56 fX9_15 (by first | assumption | rfl) (by first | decide | omega) rfl tx4 ?_
    refine T_if_ne (tgt := 72) dX9_readSpeaker_59 rfl (fun b59 => ?_) (fun b59 => ?_)
    · refine TT_rv dX9_readSpeaker_72 trivial ?_
      refine ⟨rfl, c, rfl, ?_, ?_, FRF.refl⟩
      · rw [if_neg b59]; exact hR
      · rw [if_neg b59]; exact hD
    · refine T_aloadn dX9_readSpeaker_62 rfl rfl ?_
      refine T_iloadn dX9_readSpeaker_63 rfl rfl ?_
      refine T_iloadn dX9_readSpeaker_64 rfl rfl ?_
      refine T_iload dX9_readSpeaker_65 rfl ?_
      refine T_iload dX9_readSpeaker_67 rfl ?_
      have z5 := edS_z (e6 ▸ b59)
      have z4 := nuS_z (e5 ▸ z5)
      have z3 := nuS_z (e4 ▸ z4.1)
      have z2 := nuS_z (e3 ▸ z3.1)
      have z1 := nuS_z (e2 ▸ z2.1)
      have z0 := wdS_z (e1 ▸ z1.1)
      obtain ⟨k, hk⟩ : ∃ k : Nat, D 0 4 = (k : Int) := ⟨(D 0 4).toNat, by omega⟩
      have hadd := c_addSp (txs c s6) hf2 k (by omega) ((s_at (by omega)).trans (r4.trans hk)) (nuV (c 3) n s1.1) (nuV (c 3) n s2.1) (nuV (c 3) n s3.1) (nuV (c 3) n s4.1)
      rw [s_up (by omega), s_up (by omega), s_up (by omega), s_up (by omega), s_up (by omega)] at hadd
      refine TT_Vv dX9_readSpeaker_69 (hadd) kX9_106 (by decide) (by first | decide | omega) (by first | assumption | rfl) rfl (leb rfl) ?_
      refine TT_rv dX9_readSpeaker_72 trivial ?_
      refine ⟨rfl, _, rfl, ?_, ?_, ((((FRF.refl.up (by omega)).up (by omega)).up (by omega)).up (by omega)).up (by omega)⟩
      · rw [if_pos b59]; exact RD_p hk hR
      · rw [if_pos b59]; exact DV_p hD z0.2 z1.2 z2.2 z3.2 z4.2
  · refine T_iconst dX9_readSpeaker_10 (inr rfl) ?_
    refine T_goto (tgt := 15) dX9_readSpeaker_11 rfl ?_
    refine TT_Vv dX9_readSpeaker_15 (wt (by rw [if_pos (by omega)])) kX9_74 (by decide) (by first | decide | omega) (by first | assumption | rfl) rfl (leb rfl) ?_
    refine T_aloadn dX9_readSpeaker_18 rfl rfl ?_
    refine T_iconst dX9_readSpeaker_19 (inr rfl) ?_
    refine T_iconst dX9_readSpeaker_20 (inr rfl) ?_
    refine TT_Vw dX9_readSpeaker_21 (n2) kX9_78 (by decide) (by first | decide | omega) (by first | assumption | rfl) rfl (leb rfl) ?_
    refine T_istoren dX9_readSpeaker_24 rfl (by decide) rfl ?_
    refine T_aloadn dX9_readSpeaker_25 rfl rfl ?_
    refine T_iconst dX9_readSpeaker_26 (inr rfl) ?_
    refine T_bipush dX9_readSpeaker_27 (bp8 rfl) (inr rfl) ?_
    refine TT_Vw dX9_readSpeaker_29 (n3) kX9_78 (by decide) (by first | decide | omega) (by first | assumption | rfl) rfl (leb rfl) ?_
    refine T_istoren dX9_readSpeaker_32 rfl (by decide) rfl ?_
    refine T_aloadn dX9_readSpeaker_33 rfl rfl ?_
    refine T_iconst dX9_readSpeaker_34 (inr rfl) ?_
    refine T_bipush dX9_readSpeaker_35 (bp8 rfl) (inr rfl) ?_
    refine TT_Vw dX9_readSpeaker_37 (n4) kX9_78 (by decide) (by first | decide | omega) (by first | assumption | rfl) rfl (leb rfl) ?_
    refine T_istore dX9_readSpeaker_40 (by decide) rfl ?_
    refine T_aloadn dX9_readSpeaker_42 rfl rfl ?_
    refine T_iconst dX9_readSpeaker_43 (inr rfl) ?_
    refine T_bipush dX9_readSpeaker_44 (bp8 rfl) (inr rfl) ?_
    refine TT_Vw dX9_readSpeaker_46 (n5) kX9_78 (by decide) (by first | decide | omega) (by first | assumption | rfl) rfl (leb rfl) ?_
    refine T_istore dX9_readSpeaker_49 (by decide) rfl ?_
    refine T_aloadn dX9_readSpeaker_51 rfl rfl ?_
    refine TT_Vv dX9_readSpeaker_52 (n6) kX9_82 (by decide) (by first | decide | omega) (by first | assumption | rfl) rfl (leb rfl) ?_
    refine T_aloadn dX9_readSpeaker_55 rfl rfl ?_
    refine T_getv dX9_readSpeaker_56 fX9_15 (by first | assumption | rfl) (by first | decide | omega) rfl tx4 ?_
    refine T_if_ne (tgt := 72) dX9_readSpeaker_59 rfl (fun b59 => ?_) (fun b59 => ?_)
    · refine TT_rv dX9_readSpeaker_72 trivial ?_
      refine ⟨rfl, c, rfl, ?_, ?_, FRF.refl⟩
      · rw [if_neg b59]; exact hR
      · rw [if_neg b59]; exact hD
    · refine T_aloadn dX9_readSpeaker_62 rfl rfl ?_
      refine T_iloadn dX9_readSpeaker_63 rfl rfl ?_
      refine T_iloadn dX9_readSpeaker_64 rfl rfl ?_
      refine T_iload dX9_readSpeaker_65 rfl ?_
      refine T_iload dX9_readSpeaker_67 rfl ?_
      have z5 := edS_z (e6 ▸ b59)
      have z4 := nuS_z (e5 ▸ z5)
      have z3 := nuS_z (e4 ▸ z4.1)
      have z2 := nuS_z (e3 ▸ z3.1)
      have z1 := nuS_z (e2 ▸ z2.1)
      have z0 := wdS_z (e1 ▸ z1.1)
      obtain ⟨k, hk⟩ : ∃ k : Nat, D 0 4 = (k : Int) := ⟨(D 0 4).toNat, by omega⟩
      have hadd := c_addSp (txs c s6) hf2 k (by omega) ((s_at (by omega)).trans (r4.trans hk)) (nuV (c 3) n s1.1) (nuV (c 3) n s2.1) (nuV (c 3) n s3.1) (nuV (c 3) n s4.1)
      rw [s_up (by omega), s_up (by omega), s_up (by omega), s_up (by omega), s_up (by omega)] at hadd
      refine TT_Vv dX9_readSpeaker_69 (hadd) kX9_106 (by decide) (by first | decide | omega) (by first | assumption | rfl) rfl (leb rfl) ?_
      refine TT_rv dX9_readSpeaker_72 trivial ?_
      refine ⟨rfl, _, rfl, ?_, ?_, ((((FRF.refl.up (by omega)).up (by omega)).up (by omega)).up (by omega)).up (by omega)⟩
      · rw [if_pos b59]; exact RD_p hk hR
      · rw [if_pos b59]; exact DV_p hD z0.2 z1.2 z2.2 z3.2 z4.2
set_option maxHeartbeats 4000000 in
set_option maxRecDepth 100000 in
theorem c_readBar (c D : HC) {f : Nat} (hf : f = 88 ∨ f = 101) (hD : DV D) (hR : RD f c D) {n : Nat} (hn : c 2 1 = (n : Int)) (hn2 : n ≤ 250) (s : TS) (ha : s.1 ≤ 255) : CC mX9_readBar 2 (txs c s) [vr 2, vr (f + 1)] (fun v h => v = none ∧ CLP f c (cN (c 3) n D s) h) := by
  obtain ⟨f0, fs, ff0, ff1, hg, hf2⟩ := fK hf
  obtain ⟨g0, gs, gs1, gs2, gs3, gs4, gs5, gs6, gf0, gf1, gf2, gf3, gf4, gf5⟩ := gK hg
  obtain ⟨s0, ss, ss1, ss2, ss3, ss4, sf0, sf1, sf2, sf3⟩ := sK hf2
  obtain ⟨⟨r0, r1, r2, r3, r4, r5⟩, q1, q2, q3, q4⟩ := id hR
  obtain ⟨⟨v0, v1, v2, v3, v4, v5⟩, u1, u2, u4⟩ := id hD
  obtain ⟨s1, e1⟩ : ∃ x, x = wdS s (rm (D 0 5 < 6)) := ⟨_, rfl⟩
  have a1 : s1.1 ≤ 300 := by rw [e1, wd1]; omega
  have wt := s_word (c := c) s (by omega) 1 (D 0 5 < 6)
  have wf := s_word (c := c) s (by omega) 0 (D 0 5 < 6)
  rw [← e1] at wt wf
  obtain ⟨s2, e2⟩ : ∃ x, x = nuS (c 3) n 0 (D 0 2 - 1) s1 := ⟨_, rfl⟩
  have a2 : s2.1 ≤ 300 := by rw [e2]; have := nu1 (t := c 3) (n := n) (lo := 0) (hi := D 0 2 - 1) (s := s1); omega
  have n2 := s_num hn hn2 0 (D 0 2 - 1) s1 (by omega)
  rw [← e2] at n2
  obtain ⟨s3, e3⟩ : ∃ x, x = nuS (c 3) n 0 (D 0 2 - 1) s2 := ⟨_, rfl⟩
  have a3 : s3.1 ≤ 300 := by rw [e3]; have := nu1 (t := c 3) (n := n) (lo := 0) (hi := D 0 2 - 1) (s := s2); omega
  have n3 := s_num hn hn2 0 (D 0 2 - 1) s2 (by omega)
  rw [← e3] at n3
  obtain ⟨x1, ex1⟩ : ∃ x, x = nuV (c 3) n s1.1 := ⟨_, rfl⟩
  obtain ⟨x2, ex2⟩ : ∃ x, x = nuV (c 3) n s2.1 := ⟨_, rfl⟩
  obtain ⟨s4, e4⟩ : ∃ x, x = if s3.2.2.1 = 0 ∧ bitI (D 3 x1.toNat) x2 = 1 then flS s3 4 s3.2.1 else s3 := ⟨_, rfl⟩
  have a4 : s4.1 ≤ 300 := by
    rw [e4]
    split
    · exact a3
    · exact a3
  obtain ⟨s5, e5⟩ : ∃ x, x = edS (c 3) n s4 := ⟨_, rfl⟩
  have n5 := s_end hn hn2 s4 (by omega)
  rw [← e5] at n5
  have hres : cN (c 3) n D s = (if s5.2.2.1 = 0 then up2 (up2 D 3 x1.toNat (bor (D 3 x1.toNat) (wr (1 * 2 ^ x2.toNat)))) 0 5 (D 0 5 + 1) else D, s5) := by subst e5 e4 ex2 ex1 e3 e2 e1; rfl
  rw [hres]
  rw [← ex1] at n2
  rw [← ex2] at n3
  have hz : s3.2.2.1 = 0 → (0 ≤ x1 ∧ x1 ≤ D 0 2 - 1) ∧ (0 ≤ x2 ∧ x2 ≤ D 0 2 - 1) ∧ D 0 5 < 6 := fun z => by
    have z2 := nuS_z (e3 ▸ z)
    have z1 := nuS_z (e2 ▸ z2.1)
    have z0 := wdS_z (e1 ▸ z1.1)
    exact ⟨ex1 ▸ z1.2, ex2 ▸ z2.2, z0.2⟩
  refine CC.of (by decide +kernel) (leb rfl) (fun hok => ?_)
  refine T_aloadn dX9_readBar_0 rfl rfl ?_
  refine T_aloadn dX9_readBar_1 rfl rfl ?_
  refine T_getv dX9_readBar_2 fX9_110 (by first | assumption | rfl) (by first | decide | omega) rfl ((s_at (by omega)).trans r5) ?_
  refine T_bipush dX9_readBar_5 (bp8 rfl) (inr rfl) ?_
  refine T_icmp_ge (tgt := 14) dX9_readBar_7 rfl (fun b7 => ?_) (fun b7 => ?_)
  · refine T_iconst dX9_readBar_14 (inr rfl) ?_
    refine TT_Vv dX9_readBar_15 (wf (by rw [if_neg (by omega)])) kX9_74 (by decide) (by first | decide | omega) (by first | assumption | rfl) rfl (leb rfl) ?_
    refine T_aloadn dX9_readBar_18 rfl rfl ?_
    refine T_iconst dX9_readBar_19 (inr rfl) ?_
    refine T_aloadn dX9_readBar_20 rfl rfl ?_
    refine T_getv dX9_readBar_21 fX9_88 (by first | assumption | rfl) (by first | decide | omega) rfl ((s_at (by omega)).trans r2) ?_
    refine T_iconst dX9_readBar_24 (inr rfl) ?_
    first | refine T_isubN dX9_readBar_25 (by omega) ?_ | refine T_isub dX9_readBar_25 ?_
    refine TT_Vw dX9_readBar_26 (n2) kX9_78 (by decide) (by first | decide | omega) (by first | assumption | rfl) rfl (leb rfl) ?_
    refine T_istoren dX9_readBar_29 rfl (by decide) rfl ?_
    refine T_aloadn dX9_readBar_30 rfl rfl ?_
    refine T_iconst dX9_readBar_31 (inr rfl) ?_
    refine T_aloadn dX9_readBar_32 rfl rfl ?_
    refine T_getv dX9_readBar_33 fX9_88 (by first | assumption | rfl) (by first | decide | omega) rfl ((s_at (by omega)).trans r2) ?_
    refine T_iconst dX9_readBar_36 (inr rfl) ?_
    first | refine T_isubN dX9_readBar_37 (by omega) ?_ | refine T_isub dX9_readBar_37 ?_
    refine TT_Vw dX9_readBar_38 (n3) kX9_78 (by decide) (by first | decide | omega) (by first | assumption | rfl) rfl (leb rfl) ?_
    refine T_istoren dX9_readBar_41 rfl (by decide) rfl ?_
    refine T_aloadn dX9_readBar_42 rfl rfl ?_
    refine T_getv dX9_readBar_43 fX9_15 (by first | assumption | rfl) (by first | decide | omega) rfl tx4 ?_
    refine T_if_ne (tgt := 67) dX9_readBar_46 rfl (fun b46 => ?_) (fun b46 => ?_)
    · rw [if_neg (fun q => b46 q.1)] at e4
      subst e4
      refine T_aloadn dX9_readBar_67 rfl rfl ?_
      refine TT_Vv dX9_readBar_68 (n5) kX9_82 (by decide) (by first | decide | omega) (by first | assumption | rfl) rfl (leb rfl) ?_
      refine T_aloadn dX9_readBar_71 rfl rfl ?_
      refine T_getv dX9_readBar_72 fX9_15 (by first | assumption | rfl) (by first | decide | omega) rfl tx4 ?_
      refine T_if_ne (tgt := 84) dX9_readBar_75 rfl (fun b75 => ?_) (fun b75 => ?_)
      · refine TT_rv dX9_readBar_84 trivial ?_
        refine ⟨rfl, c, rfl, ?_, ?_, FRF.refl⟩
        · rw [if_neg b75]; exact hR
        · rw [if_neg b75]; exact hD
      · exact absurd (edS_z (e5 ▸ b75)) b46
    · refine T_aloadn dX9_readBar_49 rfl rfl ?_
      refine T_iloadn dX9_readBar_50 rfl rfl ?_
      refine T_iloadn dX9_readBar_51 rfl rfl ?_
      obtain ⟨y1, y2, y3⟩ := hz b46
      have hib := c_isBarred (txs c s3) hg x1 x2 (by omega) (by omega) (by omega) (by omega)
      rw [s_at (by omega), q3 _ (by omega)] at hib
      refine TT_Vi dX9_readBar_52 (hib) kX9_113 (by decide) (by first | decide | omega) (by first | assumption | rfl) rfl (leb rfl) ?_
      refine T_if_eq (tgt := 67) dX9_readBar_55 rfl (fun b55 => ?_) (fun b55 => ?_)
      · rw [if_neg (fun q => by have h1 := q.2; rw [b55] at h1; exact absurd h1 (by decide))] at e4
        subst e4
        refine T_aloadn dX9_readBar_67 rfl rfl ?_
        refine TT_Vv dX9_readBar_68 (n5) kX9_82 (by decide) (by first | decide | omega) (by first | assumption | rfl) rfl (leb rfl) ?_
        refine T_aloadn dX9_readBar_71 rfl rfl ?_
        refine T_getv dX9_readBar_72 fX9_15 (by first | assumption | rfl) (by first | decide | omega) rfl tx4 ?_
        refine T_if_ne (tgt := 84) dX9_readBar_75 rfl (fun b75 => ?_) (fun b75 => ?_)
        · refine TT_rv dX9_readBar_84 trivial ?_
          refine ⟨rfl, c, rfl, ?_, ?_, FRF.refl⟩
          · rw [if_neg b75]; exact hR
          · rw [if_neg b75]; exact hD
        · have hbr := c_bar (txs c s5) hg (D 0 5) (by omega) ((s_at (by omega)).trans r5) x1 x2 (by omega) (by omega)
          rw [s_at (by omega), q3 _ (by omega), s_up (by omega), s_up (by omega)] at hbr
          refine T_aloadn dX9_readBar_78 rfl rfl ?_
          refine T_iloadn dX9_readBar_79 rfl rfl ?_
          refine T_iloadn dX9_readBar_80 rfl rfl ?_
          refine TT_Vv dX9_readBar_81 (hbr) kX9_120 (by decide) (by first | decide | omega) (by first | assumption | rfl) rfl (leb rfl) ?_
          refine TT_rv dX9_readBar_84 trivial ?_
          refine ⟨rfl, _, rfl, ?_, ?_, (FRF.refl.up (by omega)).up (by omega)⟩
          · rw [if_pos b75]; exact RD_n rfl hR
          · rw [if_pos b75]; exact DV_n hD y3
      · refine T_aloadn dX9_readBar_58 rfl rfl ?_
        refine T_iconst dX9_readBar_59 (inr rfl) ?_
        refine T_aloadn dX9_readBar_60 rfl rfl ?_
        refine T_getv dX9_readBar_61 fX9_117 (by first | assumption | rfl) (by first | decide | omega) rfl tx3 ?_
        have hfl := s_fail (c := c) s3 4 s3.2.1 (by decide)
        refine TT_Vv dX9_readBar_64 (hfl) kX9_49 (by decide) (by first | decide | omega) (by first | assumption | rfl) rfl (leb rfl) ?_
        rw [if_pos ⟨b46, bit1 b55⟩] at e4
        rw [← e4]
        refine T_aloadn dX9_readBar_67 rfl rfl ?_
        refine TT_Vv dX9_readBar_68 (n5) kX9_82 (by decide) (by first | decide | omega) (by first | assumption | rfl) rfl (leb rfl) ?_
        refine T_aloadn dX9_readBar_71 rfl rfl ?_
        refine T_getv dX9_readBar_72 fX9_15 (by first | assumption | rfl) (by first | decide | omega) rfl tx4 ?_
        refine T_if_ne (tgt := 84) dX9_readBar_75 rfl (fun b75 => ?_) (fun b75 => ?_)
        · refine TT_rv dX9_readBar_84 trivial ?_
          refine ⟨rfl, c, rfl, ?_, ?_, FRF.refl⟩
          · rw [if_neg b75]; exact hR
          · rw [if_neg b75]; exact hD
        · have hbr := c_bar (txs c s5) hg (D 0 5) (by omega) ((s_at (by omega)).trans r5) x1 x2 (by omega) (by omega)
          rw [s_at (by omega), q3 _ (by omega), s_up (by omega), s_up (by omega)] at hbr
          refine T_aloadn dX9_readBar_78 rfl rfl ?_
          refine T_iloadn dX9_readBar_79 rfl rfl ?_
          refine T_iloadn dX9_readBar_80 rfl rfl ?_
          refine TT_Vv dX9_readBar_81 (hbr) kX9_120 (by decide) (by first | decide | omega) (by first | assumption | rfl) rfl (leb rfl) ?_
          refine TT_rv dX9_readBar_84 trivial ?_
          refine ⟨rfl, _, rfl, ?_, ?_, (FRF.refl.up (by omega)).up (by omega)⟩
          · rw [if_pos b75]; exact RD_n rfl hR
          · rw [if_pos b75]; exact DV_n hD y3
  · refine T_iconst dX9_readBar_10 (inr rfl) ?_
    refine T_goto (tgt := 15) dX9_readBar_11 rfl ?_
    refine TT_Vv dX9_readBar_15 (wt (by rw [if_pos (by omega)])) kX9_74 (by decide) (by first | decide | omega) (by first | assumption | rfl) rfl (leb rfl) ?_
    refine T_aloadn dX9_readBar_18 rfl rfl ?_
    refine T_iconst dX9_readBar_19 (inr rfl) ?_
    refine T_aloadn dX9_readBar_20 rfl rfl ?_
    refine T_getv dX9_readBar_21 fX9_88 (by first | assumption | rfl) (by first | decide | omega) rfl ((s_at (by omega)).trans r2) ?_
    refine T_iconst dX9_readBar_24 (inr rfl) ?_
    first | refine T_isubN dX9_readBar_25 (by omega) ?_ | refine T_isub dX9_readBar_25 ?_
    refine TT_Vw dX9_readBar_26 (n2) kX9_78 (by decide) (by first | decide | omega) (by first | assumption | rfl) rfl (leb rfl) ?_
    refine T_istoren dX9_readBar_29 rfl (by decide) rfl ?_
    refine T_aloadn dX9_readBar_30 rfl rfl ?_
    refine T_iconst dX9_readBar_31 (inr rfl) ?_
    refine T_aloadn dX9_readBar_32 rfl rfl ?_
    refine T_getv dX9_readBar_33 fX9_88 (by first | assumption | rfl) (by first | decide | omega) rfl ((s_at (by omega)).trans r2) ?_
    refine T_iconst dX9_readBar_36 (inr rfl) ?_
    first | refine T_isubN dX9_readBar_37 (by omega) ?_ | refine T_isub dX9_readBar_37 ?_
    refine TT_Vw dX9_readBar_38 (n3) kX9_78 (by decide) (by first | decide | omega) (by first | assumption | rfl) rfl (leb rfl) ?_
    refine T_istoren dX9_readBar_41 rfl (by decide) rfl ?_
    refine T_aloadn dX9_readBar_42 rfl rfl ?_
    refine T_getv dX9_readBar_43 fX9_15 (by first | assumption | rfl) (by first | decide | omega) rfl tx4 ?_
    refine T_if_ne (tgt := 67) dX9_readBar_46 rfl (fun b46 => ?_) (fun b46 => ?_)
    · rw [if_neg (fun q => b46 q.1)] at e4
      subst e4
      refine T_aloadn dX9_readBar_67 rfl rfl ?_
      refine TT_Vv dX9_readBar_68 (n5) kX9_82 (by decide) (by first | decide | omega) (by first | assumption | rfl) rfl (leb rfl) ?_
      refine T_aloadn dX9_readBar_71 rfl rfl ?_
      refine T_getv dX9_readBar_72 fX9_15 (by first | assumption | rfl) (by first | decide | omega) rfl tx4 ?_
      refine T_if_ne (tgt := 84) dX9_readBar_75 rfl (fun b75 => ?_) (fun b75 => ?_)
      · refine TT_rv dX9_readBar_84 trivial ?_
        refine ⟨rfl, c, rfl, ?_, ?_, FRF.refl⟩
        · rw [if_neg b75]; exact hR
        · rw [if_neg b75]; exact hD
      · exact absurd (edS_z (e5 ▸ b75)) b46
    · refine T_aloadn dX9_readBar_49 rfl rfl ?_
      refine T_iloadn dX9_readBar_50 rfl rfl ?_
      refine T_iloadn dX9_readBar_51 rfl rfl ?_
      obtain ⟨y1, y2, y3⟩ := hz b46
      have hib := c_isBarred (txs c s3) hg x1 x2 (by omega) (by omega) (by omega) (by omega)
      rw [s_at (by omega), q3 _ (by omega)] at hib
      refine TT_Vi dX9_readBar_52 (hib) kX9_113 (by decide) (by first | decide | omega) (by first | assumption | rfl) rfl (leb rfl) ?_
      refine T_if_eq (tgt := 67) dX9_readBar_55 rfl (fun b55 => ?_) (fun b55 => ?_)
      · rw [if_neg (fun q => by have h1 := q.2; rw [b55] at h1; exact absurd h1 (by decide))] at e4
        subst e4
        refine T_aloadn dX9_readBar_67 rfl rfl ?_
        refine TT_Vv dX9_readBar_68 (n5) kX9_82 (by decide) (by first | decide | omega) (by first | assumption | rfl) rfl (leb rfl) ?_
        refine T_aloadn dX9_readBar_71 rfl rfl ?_
        refine T_getv dX9_readBar_72 fX9_15 (by first | assumption | rfl) (by first | decide | omega) rfl tx4 ?_
        refine T_if_ne (tgt := 84) dX9_readBar_75 rfl (fun b75 => ?_) (fun b75 => ?_)
        · refine TT_rv dX9_readBar_84 trivial ?_
          refine ⟨rfl, c, rfl, ?_, ?_, FRF.refl⟩
          · rw [if_neg b75]; exact hR
          · rw [if_neg b75]; exact hD
        · have hbr := c_bar (txs c s5) hg (D 0 5) (by omega) ((s_at (by omega)).trans r5) x1 x2 (by omega) (by omega)
          rw [s_at (by omega), q3 _ (by omega), s_up (by omega), s_up (by omega)] at hbr
          refine T_aloadn dX9_readBar_78 rfl rfl ?_
          refine T_iloadn dX9_readBar_79 rfl rfl ?_
          refine T_iloadn dX9_readBar_80 rfl rfl ?_
          refine TT_Vv dX9_readBar_81 (hbr) kX9_120 (by decide) (by first | decide | omega) (by first | assumption | rfl) rfl (leb rfl) ?_
          refine TT_rv dX9_readBar_84 trivial ?_
          refine ⟨rfl, _, rfl, ?_, ?_, (FRF.refl.up (by omega)).up (by omega)⟩
          · rw [if_pos b75]; exact RD_n rfl hR
          · rw [if_pos b75]; exact DV_n hD y3
      · refine T_aloadn dX9_readBar_58 rfl rfl ?_
        refine T_iconst dX9_readBar_59 (inr rfl) ?_
        refine T_aloadn dX9_readBar_60 rfl rfl ?_
        refine T_getv dX9_readBar_61 fX9_117 (by first | assumption | rfl) (by first | decide | omega) rfl tx3 ?_
        have hfl := s_fail (c := c) s3 4 s3.2.1 (by decide)
        refine TT_Vv dX9_readBar_64 (hfl) kX9_49 (by decide) (by first | decide | omega) (by first | assumption | rfl) rfl (leb rfl) ?_
        rw [if_pos ⟨b46, bit1 b55⟩] at e4
        rw [← e4]
        refine T_aloadn dX9_readBar_67 rfl rfl ?_
        refine TT_Vv dX9_readBar_68 (n5) kX9_82 (by decide) (by first | decide | omega) (by first | assumption | rfl) rfl (leb rfl) ?_
        refine T_aloadn dX9_readBar_71 rfl rfl ?_
        refine T_getv dX9_readBar_72 fX9_15 (by first | assumption | rfl) (by first | decide | omega) rfl tx4 ?_
        refine T_if_ne (tgt := 84) dX9_readBar_75 rfl (fun b75 => ?_) (fun b75 => ?_)
        · refine TT_rv dX9_readBar_84 trivial ?_
          refine ⟨rfl, c, rfl, ?_, ?_, FRF.refl⟩
          · rw [if_neg b75]; exact hR
          · rw [if_neg b75]; exact hD
        · have hbr := c_bar (txs c s5) hg (D 0 5) (by omega) ((s_at (by omega)).trans r5) x1 x2 (by omega) (by omega)
          rw [s_at (by omega), q3 _ (by omega), s_up (by omega), s_up (by omega)] at hbr
          refine T_aloadn dX9_readBar_78 rfl rfl ?_
          refine T_iloadn dX9_readBar_79 rfl rfl ?_
          refine T_iloadn dX9_readBar_80 rfl rfl ?_
          refine TT_Vv dX9_readBar_81 (hbr) kX9_120 (by decide) (by first | decide | omega) (by first | assumption | rfl) rfl (leb rfl) ?_
          refine TT_rv dX9_readBar_84 trivial ?_
          refine ⟨rfl, _, rfl, ?_, ?_, (FRF.refl.up (by omega)).up (by omega)⟩
          · rw [if_pos b75]; exact RD_n rfl hR
          · rw [if_pos b75]; exact DV_n hD y3
