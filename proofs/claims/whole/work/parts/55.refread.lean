/-! the reference: the text read; what the clauses keep -/
theorem enF_ge (t : Nat → Int) (n a : Nat) : a ≤ enF t n a := by
  have h1 := skF_bd t n a
  have h2 := dgE_bd t (n - skF t n a) (skF t n a)
  unfold enF
  omega
theorem edS_gt {t : Nat → Int} {n : Nat} {s : TS} : s.1 < (edS t n s).1 := by
  have h1 := skF_bd t n s.1
  show s.1 < skF t n s.1 + 1
  omega
theorem DZ_0 {D D2 : HC} (h : DZ D) (h2 : D2 0 2 = D 0 2) (h3 : D2 3 = D 3) : DZ D2 := by
  intro j hj
  rw [h3]
  exact h j (by omega)
def CO (D : HC) (a : Nat) (r : HC × TS) : Prop := r.2.2.2.1 = 0 → DV r.1 ∧ DZ r.1 ∧ a < r.2.1
section CLO
variable {t : Nat → Int} {n a : Nat} {D : HC} {N0 P : Int} (hD : DV D) (hz : DZ D)
theorem cG_ok (hD : DV D) (hz : DZ D) : CO D a (cG t n D (a, N0, 0, P)) := by
  intro h
  by_cases hr : D 0 0 = 0
  · rw [cG_room hr] at h ⊢
    have e1 := edS_z h
    have e2 := nuS_z e1
    have e3 := nuS_z e2.1
    rw [if_pos h]
    have g1 := enF_ge t n (a + 1)
    have g2 := enF_ge t n (enF t n (a + 1))
    have g3 := edS_gt (t := t) (n := n) (s := nuS t n 0 9 (nuS t n 1 4 (a + 1, N0, 0, P)))
    refine ⟨DV_g hD e3.2 e2.2, DZ_0 hz (by simp [up2_g]) (by funext j; simp [up2_g]), ?_⟩
    have e4 : (nuS t n 0 9 (nuS t n 1 4 (a + 1, N0, 0, P))).1 = enF t n (enF t n (a + 1)) := rfl
    dsimp only
    omega
  · rw [(cG_full hr).1] at h
    exact absurd h (by decide)
theorem cS_ok (hD : DV D) (hz : DZ D) : CO D a (cS t n D (a, N0, 0, P)) := by
  intro h
  by_cases hr : D 0 2 < 6
  · rw [cS_room hr] at h ⊢
    have e1 := edS_z h
    have e2 := nuS_z e1
    rw [if_pos h]
    have g1 := enF_ge t n (a + 1)
    have g3 := edS_gt (t := t) (n := n) (s := nuS t n 1 9 (a + 1, N0, 0, P))
    refine ⟨DV_s hD hr e2.2, ?_, ?_⟩
    · intro j hj
      have hj2 : D 0 2 + 1 ≤ (j : Int) := by simpa [up2_g] using hj
      have := hz j (by omega)
      simpa [up2_g] using this
    · have e4 : (nuS t n 1 9 (a + 1, N0, 0, P)).1 = enF t n (a + 1) := rfl
      dsimp only
      omega
  · rw [(cS_full hr).1] at h
    exact absurd h (by decide)
theorem cE_ok (hD : DV D) (hz : DZ D) : CO D a (cE t n D (a, N0, 0, P)) := by
  intro h
  by_cases hr : D 0 3 < 4
  · rw [cE_room hr] at h ⊢
    have e1 := edS_z h
    have e2 := nuS_z e1
    rw [if_pos h]
    have g1 := enF_ge t n (a + 1)
    have g3 := edS_gt (t := t) (n := n) (s := nuS t n 1 5 (a + 1, N0, 0, P))
    refine ⟨DV_e hD hr e2.2, DZ_0 hz (by simp [up2_g]) (by funext j; simp [up2_g]), ?_⟩
    have e4 : (nuS t n 1 5 (a + 1, N0, 0, P)).1 = enF t n (a + 1) := rfl
    dsimp only
    omega
  · rw [(cE_full hr).1] at h
    exact absurd h (by decide)
theorem cP_ok (hD : DV D) (hz : DZ D) : CO D a (cP t n D (a, N0, 0, P)) := by
  intro h
  by_cases hr : D 0 4 < 10
  · rw [cP_room hr] at h ⊢
    have e1 := edS_z h
    have e2 := nuS_z e1
    have e3 := nuS_z e2.1
    have e4 := nuS_z e3.1
    have e5 := nuS_z e4.1
    rw [if_pos h]
    have g1 := enF_ge t n (a + 1)
    have g2 := enF_ge t n (enF t n (a + 1))
    have g4 := enF_ge t n (enF t n (enF t n (a + 1)))
    have g5 := enF_ge t n (enF t n (enF t n (enF t n (a + 1))))
    have g3 := edS_gt (t := t) (n := n) (s := nuS t n 0 100 (nuS t n 0 99 (nuS t n 1 40 (nuS t n 0 1 (a + 1, N0, 0, P)))))
    refine ⟨DV_p hD hr e5.2 e4.2 e3.2 e2.2, DZ_0 hz (by simp [up2_g]) (by funext j; simp [up2_g]), ?_⟩
    have e6 : (nuS t n 0 100 (nuS t n 0 99 (nuS t n 1 40 (nuS t n 0 1 (a + 1, N0, 0, P))))).1 = enF t n (enF t n (enF t n (enF t n (a + 1)))) := rfl
    dsimp only
    omega
  · rw [(cP_full hr).1] at h
    exact absurd h (by decide)
theorem cN_ok (hD : DV D) (hz : DZ D) : CO D a (cN t n D (a, N0, 0, P)) := by
  intro h
  by_cases hr : D 0 5 < 6
  · rw [cN_room hr] at h ⊢
    have e1 := edS_z h
    rw [if_pos h]
    have hns : ¬ ((nuS t n 0 (D 0 2 - 1) (nuS t n 0 (D 0 2 - 1) (a + 1, N0, 0, P))).2.2.1 = 0 ∧ bitI (D 3 (nuV t n (a + 1)).toNat) (nuV t n (enF t n (a + 1))) = 1) := by
      intro z
      rw [if_pos z] at e1
      have e9 : (flS (nuS t n 0 (D 0 2 - 1) (nuS t n 0 (D 0 2 - 1) (a + 1, N0, 0, P))) 4 (nuS t n 0 (D 0 2 - 1) (nuS t n 0 (D 0 2 - 1) (a + 1, N0, 0, P))).2.1).2.2.1 = fF (nuS t n 0 (D 0 2 - 1) (nuS t n 0 (D 0 2 - 1) (a + 1, N0, 0, P))).2.2.1 4 := rfl
      rw [e9, z.1, fF_0] at e1
      exact absurd e1 (by decide)
    rw [if_neg hns] at e1 ⊢
    have e2 := nuS_z e1
    have e3 := nuS_z e2.1
    have g1 := enF_ge t n (a + 1)
    have g2 := enF_ge t n (enF t n (a + 1))
    have g3 := edS_gt (t := t) (n := n) (s := nuS t n 0 (D 0 2 - 1) (nuS t n 0 (D 0 2 - 1) (a + 1, N0, 0, P)))
    have e5 : 0 ≤ nuV t n (a + 1) ∧ nuV t n (a + 1) ≤ D 0 2 - 1 := e3.2
    refine ⟨DV_n hD hr, ?_, ?_⟩
    · intro j hj
      have hj2 : D 0 2 ≤ (j : Int) := by simpa [up2_g] using hj
      have := hz j hj2
      have hne : ¬ j = (nuV t n (a + 1)).toNat := by omega
      simpa [up2_g, hne] using this
    · have e6 : (nuS t n 0 (D 0 2 - 1) (nuS t n 0 (D 0 2 - 1) (a + 1, N0, 0, P))).1 = enF t n (enF t n (a + 1)) := rfl
      dsimp only
      omega
  · rw [(cN_full hr).1] at h
    exact absurd h (by decide)
theorem cl_no : CO D a (D, flS (a, N0, 0, P) 1 (a : Int)) := by
  intro h
  have e : (D, flS (a, N0, 0, P) 1 (a : Int)).2.2.2.1 = fF 0 1 := rfl
  rw [e, fF_0] at h
  exact absurd h (by decide)
theorem cl_ok (hD : DV D) (hz : DZ D) : CO D a (clF t n D (a, N0, 0, P)) := by
  unfold clF
  split
  · exact cl_no
  · split
    · exact cG_ok hD hz
    · split
      · exact cS_ok hD hz
      · split
        · exact cE_ok hD hz
        · split
          · exact cP_ok hD hz
          · split
            · exact cN_ok hD hz
            · exact cl_no
end CLO
theorem rdL_out {t : Nat → Int} {n : Nat} {r : HC × TS} (h : ¬ (r.2.1 < n ∧ r.2.2.2.1 = 0)) : ∀ k, rdL t n k r = r
  | 0 => rfl
  | k + 1 => by
    unfold rdL
    rw [if_neg h]
set_option maxHeartbeats 4000000 in
set_option maxRecDepth 100000 in
theorem yl_read (c0 : HC) {n : Nat} (hn2 : n ≤ 250) (t : Nat → Int) (ht : ∀ j, 0 ≤ t j) (Q : Option PV → HC → Prop) : ∀ (k : Nat) (c D : HC) (a : Nat) (V N N0 P : Int), FRX c0 c → c 122 15 = (n : Int) → c 131 = t → DV D → DZ D → RR c D → n - skF t n a ≤ k → a ≤ 1500 →
    (∀ (cc : HC) (A : Nat) (V2 N2 : Int), FRX c0 cc → ((rdL t n k (D, (skF t n a, N0, 0, P))).2.2.2.1 = 0 → RR cc (rdL t n k (D, (skF t n a, N0, 0, P))).1 ∧ DV (rdL t n k (D, (skF t n a, N0, 0, P))).1) → TT mX11_feast 5 65 [(0, vr 122), (1, vi (rdL t n k (D, (skF t n a, N0, 0, P))).2.2.2.1)] [] (rt cc (A : Int) V2 N2 (rdL t n k (D, (skF t n a, N0, 0, P))).2.2.2.2) Q) →
    TT mX11_feast 5 46 [(0, vr 122), (1, vi 0)] [] (rt c (a : Int) V N P) Q := by
  intro k
  induction k with
  | zero =>
    intro c D a V N N0 P hf hn h131 hD hz hR hk ha hK
    have hh := r_here c hn hn2 V N P a (by omega)
    have e0 : hereF (c 131) n a = -1 := by unfold hereF; rw [h131, if_neg (by omega)]
    rw [e0, h131] at hh
    have h := hK c (skF t n a) V N hf (fun _ => ⟨hR, hD⟩)
    refine T_iloadn dX11_feast_46 rfl rfl ?_
    refine T_if_ne (tgt := 65) dX11_feast_47 rfl (fun b47 => absurd rfl b47) (fun b47 => ?_)
    refine T_aloadn dX11_feast_50 rfl rfl ?_
    refine TT_Vw dX11_feast_51 (hh) kX11_114 (by decide) (by first | decide | omega) (by first | assumption | rfl) rfl (leb rfl) ?_
    refine T_if_lt (tgt := 65) dX11_feast_54 rfl (fun b54 => ?_) (fun b54 => absurd (show (-1 : Int) < 0 by decide) (by omega))
    exact h
  | succ k ih =>
    intro c D a V N N0 P hf hn h131 hD hz hR hk ha hK
    have hh := r_here c hn hn2 V N P a (by omega)
    by_cases hlt : skF t n a < n
    · have e0 : hereF (c 131) n a = t (skF t n a) := by unfold hereF; rw [h131, if_pos hlt]
      rw [e0, h131] at hh
      have htj := ht (skF t n a)
      have hcl := r_clause c D hn hn2 hD hz hR V N N0 P (skF t n a) hlt (by rw [h131]; exact skF_skF)
      rw [h131] at hcl
      have hco := cl_ok (t := t) (n := n) (a := skF t n a) (N0 := N0) (P := P) hD hz
      have er : rdL t n (k + 1) (D, (skF t n a, N0, 0, P)) = rdL t n k ((clF t n D (skF t n a, N0, 0, P)).1, skS t n (clF t n D (skF t n a, N0, 0, P)).2) := by
        rw [rdL.eq_2]
        exact if_pos ⟨hlt, rfl⟩
      rw [er] at hK
      generalize hr : clF t n D (skF t n a, N0, 0, P) = r at *
      refine T_iloadn dX11_feast_46 rfl rfl ?_
      refine T_if_ne (tgt := 65) dX11_feast_47 rfl (fun b47 => absurd rfl b47) (fun b47 => ?_)
      refine T_aloadn dX11_feast_50 rfl rfl ?_
      refine TT_Vw dX11_feast_51 (hh) kX11_114 (by decide) (by first | decide | omega) (by first | assumption | rfl) rfl (leb rfl) ?_
      refine T_if_lt (tgt := 65) dX11_feast_54 rfl (fun b54 => absurd htj (by omega)) (fun b54 => ?_)
      refine T_aloadn dX11_feast_57 rfl rfl ?_
      refine TT_V dX11_feast_58 (hcl) kX11_185 (by decide) (by first | decide | omega) (by first | assumption | rfl) rfl (leb rfl) (fun v c1 hq => ?_)
      obtain ⟨rfl, cc, A, V2, N2, rfl, hf2, hA, hz2⟩ := hq
      by_cases hF : r.2.2.2.1 = 0
      · obtain ⟨hR2, hA2⟩ := hz2 hF
        obtain ⟨hD2, hZ2, hgt⟩ := hco hF
        have hsk := skF_bd t n A
        have es : skS t n r.2 = (skF t n A, r.2.2.1, 0, r.2.2.2.2) := by
          unfold skS
          rw [hA2, ← hF]
        rw [es] at hK
        have h := ih cc r.1 A V2 N2 r.2.2.1 r.2.2.2.2 (hf.tr hf2) ((hf2.2 15 (by decide) (by decide) (by decide) (by decide)).trans hn) ((hf2.1 131 (by decide) (by decide)).trans h131) hD2 hZ2 hR2 (by omega) hA hK
        rw [hF]
        refine T_istoren dX11_feast_61 rfl (by decide) rfl ?_
        refine T_goto (tgt := 46) dX11_feast_62 rfl ?_
        exact h
      · have es : (skS t n r.2).2.2.1 ≠ 0 := hF
        have eo := rdL_out (t := t) (n := n) (r := (r.1, skS t n r.2)) (fun z => es z.2) k
        rw [eo] at hK
        have h := hK cc A V2 N2 (hf.tr hf2) (fun z => absurd z es)
        refine T_istoren dX11_feast_61 rfl (by decide) rfl ?_
        refine T_goto (tgt := 46) dX11_feast_62 rfl ?_
        refine T_iloadn dX11_feast_46 rfl rfl ?_
        refine T_if_ne (tgt := 65) dX11_feast_47 rfl (fun b47 => ?_) (fun b47 => absurd b47 hF)
        exact h
    · have e0 : hereF (c 131) n a = -1 := by unfold hereF; rw [h131, if_neg hlt]
      rw [e0, h131] at hh
      have eo := rdL_out (t := t) (n := n) (r := (D, (skF t n a, N0, 0, P))) (fun z => hlt z.1) (k + 1)
      rw [eo] at hK
      have h := hK c (skF t n a) V N hf (fun _ => ⟨hR, hD⟩)
      refine T_iloadn dX11_feast_46 rfl rfl ?_
      refine T_if_ne (tgt := 65) dX11_feast_47 rfl (fun b47 => absurd rfl b47) (fun b47 => ?_)
      refine T_aloadn dX11_feast_50 rfl rfl ?_
      refine TT_Vw dX11_feast_51 (hh) kX11_114 (by decide) (by first | decide | omega) (by first | assumption | rfl) rfl (leb rfl) ?_
      refine T_if_lt (tgt := 65) dX11_feast_54 rfl (fun b54 => ?_) (fun b54 => absurd (show (-1 : Int) < 0 by decide) (by omega))
      exact h
