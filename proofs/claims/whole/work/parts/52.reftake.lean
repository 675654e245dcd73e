/-! the reference: what a clause holds -/
def RR (c D : HC) : Prop := (c 132 0 = D 0 0 ∧ c 132 1 = D 0 1 ∧ c 122 21 = D 0 2 ∧ c 122 23 = D 0 3 ∧ c 122 25 = D 0 4 ∧ c 122 30 = D 0 5) ∧ (∀ j : Nat, (j : Int) < D 0 2 → c 133 j = D 1 j ∧ c 139 j = D 3 j) ∧ (∀ j : Nat, (j : Int) < D 0 3 → c 134 j = D 2 j) ∧ (∀ j : Nat, (j : Int) < D 0 4 → c 135 j = D 4 j ∧ c 136 j = D 5 j ∧ c 137 j = D 6 j ∧ c 138 j = D 7 j)
def DZ (D : HC) : Prop := ∀ j : Nat, D 0 2 ≤ (j : Int) → D 3 j = 0
def FRX (c c1 : HC) : Prop := (∀ x, x ≠ 122 → (x < 132 ∨ 139 < x) → c1 x = c x) ∧ ∀ k, k ≠ 21 → k ≠ 23 → k ≠ 25 → k ≠ 30 → c1 122 k = c 122 k
theorem FRX.refl {c : HC} : FRX c c := ⟨fun _ _ _ => rfl, fun _ _ _ _ _ => rfl⟩
theorem FRX.tr {c c1 c2 : HC} (h : FRX c c1) (h2 : FRX c1 c2) : FRX c c2 := ⟨fun x a b => (h2.1 x a b).trans (h.1 x a b), fun k a b d e => (h2.2 k a b d e).trans (h.2 k a b d e)⟩
theorem FRX.up {c c1 : HC} {x y : Nat} {z : Int} (h : FRX c c1) (hx : 132 ≤ x ∧ x ≤ 139) : FRX c (up2 c1 x y z) := ⟨fun u a b => (up2_row _ _ _ _ (by omega)).trans (h.1 u a b), fun k a b d e => (up2_a _ _ (by omega)).trans (h.2 k a b d e)⟩
theorem FRX.upf {c c1 : HC} {y : Nat} {z : Int} (h : FRX c c1) (hy : y = 21 ∨ y = 23 ∨ y = 25 ∨ y = 30) : FRX c (up2 c1 122 y z) := ⟨fun u a b => (up2_row _ _ _ _ a).trans (h.1 u a b), fun k a b d e => (up2_k _ _ (by omega)).trans (h.2 k a b d e)⟩
def TKP (c : HC) (s : TS) (DX : HC) (v : Option PV) (h : HC) : Prop := v = some (vi s.2.2.1) ∧ ∃ (cc : HC) (A : Nat) (V N : Int), h = rt cc (A : Int) V N s.2.2.2 ∧ FRX c cc ∧ A ≤ 1000 ∧ (s.2.2.1 = 0 → RR cc DX ∧ A = s.1)
theorem tk_fail {c : HC} {s : TS} {DX cc : HC} {k V N Pp : Int} {A : Nat} (hF : s.2.2.1 = k) (hk : k ≠ 0) (hP : s.2.2.2 = Pp) (hf : FRX c cc) (hA : A ≤ 1000) : TKP c s DX (some (vi k)) (rt cc (A : Int) V N Pp) := ⟨by rw [hF], cc, A, V, N, by rw [hP], hf, hA, fun z => absurd (hF.symm.trans z) hk⟩
theorem tk_ok {c : HC} {s : TS} {DX cc : HC} {k V N Pp : Int} {A : Nat} (hF : s.2.2.1 = 0) (hk : k = 0) (hP : s.2.2.2 = Pp) (hf : FRX c cc) (hA : A ≤ 1000) (hR : RR cc DX) (hs : s.1 = A) : TKP c s DX (some (vi k)) (rt cc (A : Int) V N Pp) := ⟨by rw [hF, hk], cc, A, V, N, by rw [hP], hf, hA, fun _ => ⟨hR, hs.symm⟩⟩
theorem nuS_0 {t : Nat → Int} {n a : Nat} {lo hi N P : Int} (h : nuK t n a lo hi = 0) : nuS t n lo hi (a, N, 0, P) = (enF t n a, ((skF t n a : Nat) : Int), 0, P) := by
  unfold nuS
  simp only [h, fF_0, fP_0z]
theorem nuS_1 {t : Nat → Int} {n a : Nat} {lo hi N P : Int} : (nuS t n lo hi (a, N, 0, P)).2.2.1 = nuK t n a lo hi ∧ (nuS t n lo hi (a, N, 0, P)).2.2.2 = fP 0 (nuK t n a lo hi) P ((skF t n a : Nat) : Int) := by
  unfold nuS
  simp only [fF_0]
  exact ⟨trivial, trivial⟩
theorem nuS_n {t : Nat → Int} {n : Nat} {lo hi : Int} {s : TS} (h : s.2.2.1 ≠ 0) : (nuS t n lo hi s).2.2.1 = s.2.2.1 ∧ (nuS t n lo hi s).2.2.2 = s.2.2.2 := by
  unfold nuS
  exact ⟨fF_n h, fP_n h⟩
theorem nuK_3 (t : Nat → Int) (n a : Nat) (lo hi : Int) : nuK t n a lo hi = 0 ∨ nuK t n a lo hi = 1 ∨ nuK t n a lo hi = 2 := by
  unfold nuK
  split
  · exact Or.inr (Or.inl rfl)
  · split
    · exact Or.inr (Or.inr rfl)
    · exact Or.inl rfl
theorem enF_1k {t : Nat → Int} {n a : Nat} (h : a ≤ 600) (hn : n ≤ 250) : enF t n a ≤ 600 := by
  have := enF_bd t n a
  omega
section RRs
variable {c D : HC}
theorem RR_g {v w : Int} (h : RR c D) : RR (up2 (up2 c 132 0 v) 132 1 w) (up2 (up2 D 0 0 v) 0 1 w) := by
  obtain ⟨⟨r0, r1, r2, r3, r4, r5⟩, q1, q2, q4⟩ := h
  refine ⟨⟨by simp [up2_g], by simp [up2_g], by simp [up2_g, r2], by simp [up2_g, r3], by simp [up2_g, r4], by simp [up2_g, r5]⟩, fun j hj => ?_, fun j hj => ?_, fun j hj => ?_⟩
  · have := q1 j (by simpa [up2_g] using hj)
    simpa [up2_g] using this
  · have := q2 j (by simpa [up2_g] using hj)
    simpa [up2_g] using this
  · have := q4 j (by simpa [up2_g] using hj)
    simpa [up2_g] using this
theorem RR_s {v : Int} {k : Nat} (hk : D 0 2 = (k : Int)) (hz : DZ D) (h : RR c D) : RR (up2 (up2 (up2 c 139 k 0) 122 21 ((k : Int) + 1)) 133 k v) (up2 (up2 D 1 (D 0 2).toNat v) 0 2 (D 0 2 + 1)) := by
  obtain ⟨⟨r0, r1, r2, r3, r4, r5⟩, q1, q2, q4⟩ := h
  have e : (D 0 2).toNat = k := by omega
  have hz2 := hz k (by omega)
  rw [e, hk]
  refine ⟨⟨by simp [up2_g, r0], by simp [up2_g, r1], by simp [up2_g], by simp [up2_g, r3], by simp [up2_g, r4], by simp [up2_g, r5]⟩, fun j hj => ?_, fun j hj => ?_, fun j hj => ?_⟩
  · by_cases ej : j = k
    · subst ej; simp [up2_g, hz2]
    · have hj2 : (j : Int) < (k : Int) + 1 := by simpa [up2_g] using hj
      have := q1 j (by omega)
      simpa [up2_g, ej] using this
  · have := q2 j (by simpa [up2_g] using hj)
    simpa [up2_g] using this
  · have := q4 j (by simpa [up2_g] using hj)
    simpa [up2_g] using this
theorem RR_e {v : Int} {k : Nat} (hk : D 0 3 = (k : Int)) (h : RR c D) : RR (up2 (up2 c 122 23 ((k : Int) + 1)) 134 k v) (up2 (up2 D 2 (D 0 3).toNat v) 0 3 (D 0 3 + 1)) := by
  obtain ⟨⟨r0, r1, r2, r3, r4, r5⟩, q1, q2, q4⟩ := h
  have e : (D 0 3).toNat = k := by omega
  rw [e, hk]
  refine ⟨⟨by simp [up2_g, r0], by simp [up2_g, r1], by simp [up2_g, r2], by simp [up2_g], by simp [up2_g, r4], by simp [up2_g, r5]⟩, fun j hj => ?_, fun j hj => ?_, fun j hj => ?_⟩
  · have := q1 j (by simpa [up2_g] using hj)
    simpa [up2_g] using this
  · by_cases ej : j = k
    · subst ej; simp [up2_g]
    · have hj2 : (j : Int) < (k : Int) + 1 := by simpa [up2_g] using hj
      have := q2 j (by omega)
      simpa [up2_g, ej] using this
  · have := q4 j (by simpa [up2_g] using hj)
    simpa [up2_g] using this
theorem RR_n {v : Int} {a : Nat} {k : Int} (hk : D 0 5 = k) (h : RR c D) : RR (up2 (up2 c 122 30 (k + 1)) 139 a v) (up2 (up2 D 3 a v) 0 5 (D 0 5 + 1)) := by
  obtain ⟨⟨r0, r1, r2, r3, r4, r5⟩, q1, q2, q4⟩ := h
  rw [hk]
  refine ⟨⟨by simp [up2_g, r0], by simp [up2_g, r1], by simp [up2_g, r2], by simp [up2_g, r3], by simp [up2_g, r4], by simp [up2_g]⟩, fun j hj => ?_, fun j hj => ?_, fun j hj => ?_⟩
  · have := q1 j (by simpa [up2_g] using hj)
    by_cases ej : j = a
    · subst ej; simpa [up2_g] using this.1
    · simpa [up2_g, ej] using this
  · have := q2 j (by simpa [up2_g] using hj)
    simpa [up2_g] using this
  · have := q4 j (by simpa [up2_g] using hj)
    simpa [up2_g] using this
theorem RR_p {x y z w : Int} {k : Nat} (hk : D 0 4 = (k : Int)) (h : RR c D) : RR (up2 (up2 (up2 (up2 (up2 c 122 25 ((k : Int) + 1)) 135 k x) 136 k y) 137 k z) 138 k w) (up2 (up2 (up2 (up2 (up2 D 4 (D 0 4).toNat x) 5 (D 0 4).toNat y) 6 (D 0 4).toNat z) 7 (D 0 4).toNat w) 0 4 (D 0 4 + 1)) := by
  obtain ⟨⟨r0, r1, r2, r3, r4, r5⟩, q1, q2, q4⟩ := h
  have e : (D 0 4).toNat = k := by omega
  rw [e, hk]
  refine ⟨⟨by simp [up2_g, r0], by simp [up2_g, r1], by simp [up2_g, r2], by simp [up2_g, r3], by simp [up2_g], by simp [up2_g, r5]⟩, fun j hj => ?_, fun j hj => ?_, fun j hj => ?_⟩
  · have := q1 j (by simpa [up2_g] using hj)
    simpa [up2_g] using this
  · have := q2 j (by simpa [up2_g] using hj)
    simpa [up2_g] using this
  · by_cases ej : j = k
    · subst ej; simp [up2_g]
    · have hj2 : (j : Int) < (k : Int) + 1 := by simpa [up2_g] using hj
      have := q4 j (by omega)
      simpa [up2_g, ej] using this
end RRs
set_option maxHeartbeats 4000000 in
set_option maxRecDepth 100000 in
theorem r_takeGrammar (c D : HC) {n : Nat} (hn : c 122 15 = (n : Int)) (hn2 : n ≤ 250) (hD : DV D) (hz : DZ D) (hR : RR c D) (V N N0 P : Int) (a : Nat) (ha : a ≤ 300) : CC mX11_takeGrammar 3 (rt c (a : Int) V N P) [vr 122] (TKP c (nuS (c 131) n 0 9 (nuS (c 131) n 1 4 (a, N0, 0, P))) (up2 (up2 D 0 0 (nuV (c 131) n a)) 0 1 (nuV (c 131) n (enF (c 131) n a)))) := by
  have k3 := nuK_3 (c 131) n a 1 4
  have b1 := enF_1k (t := (c 131)) (show a ≤ 600 by omega) hn2
  refine CC.of (by decide +kernel) (leb rfl) (fun hok => ?_)
  refine T_aloadn dX11_takeGrammar_0 rfl rfl ?_
  refine T_aloadn dX11_takeGrammar_1 rfl rfl ?_
  refine T_getfin dX11_takeGrammar_2 fX11_41 (by first | assumption | rfl) (by first | decide | omega) rfl (by first | assumption | rfl) ?_
  refine T_iconst dX11_takeGrammar_5 (inr rfl) ?_
  refine T_iconst dX11_takeGrammar_6 (inr rfl) ?_
  refine T_iconst dX11_takeGrammar_7 (inr rfl) ?_
  refine TT_V dX11_takeGrammar_8 (r_into c hn hn2 V N P 1 4 a (by omega) 132 2 0 rfl (by decide) (by decide) (by decide) (by decide)) kX11_135 (by decide) (by first | decide | omega) (by first | assumption | rfl) rfl (leb rfl) (fun v c1 hq => ?_)
  obtain ⟨rfl, V2, N2, rfl, hz2⟩ := hq
  refine T_istoren dX11_takeGrammar_11 rfl (by decide) rfl ?_
  refine T_iloadn dX11_takeGrammar_12 rfl rfl ?_
  refine T_if_le (tgt := 20) dX11_takeGrammar_13 rfl (fun b13 => ?_) (fun b13 => ?_)
  · have e1 : nuK (c 131) n a 1 4 = 0 := by omega
    rw [e1, fP_0z]
    have hi2 := r_into (up2 c 132 0 V2) ((up2_a _ _ (by decide)).trans hn) hn2 V2 N2 P 0 9 (enF (c 131) n a) (by omega) 132 2 1 rfl (by decide) (by decide) (by decide) (by decide)
    rw [up2_row _ _ _ _ (x := 131) (by decide)] at hi2
    refine T_aloadn dX11_takeGrammar_20 rfl rfl ?_
    refine T_aloadn dX11_takeGrammar_21 rfl rfl ?_
    refine T_getfin dX11_takeGrammar_22 fX11_41 (by first | assumption | rfl) (by first | decide | omega) rfl (by first | assumption | rfl) ?_
    refine T_iconst dX11_takeGrammar_25 (inr rfl) ?_
    refine T_iconst dX11_takeGrammar_26 (inr rfl) ?_
    refine T_bipush dX11_takeGrammar_27 (bp8 rfl) (inr rfl) ?_
    refine TT_V dX11_takeGrammar_29 (hi2) kX11_135 (by decide) (by first | decide | omega) (by first | assumption | rfl) rfl (leb rfl) (fun v2 c2 hq2 => ?_)
    obtain ⟨rfl, V3, N3, rfl, hz3⟩ := hq2
    refine TT_ri dX11_takeGrammar_32 trivial ?_
    have e1 : nuK (c 131) n a 1 4 = 0 := by omega
    have b2 := enF_1k (t := (c 131)) b1 hn2
    rw [nuS_0 e1]
    by_cases e2 : nuK (c 131) n (enF (c 131) n a) 0 9 = 0
    · have hv1 := (hz2 e1).1
      have hv2 := (hz3 e2).1
      subst hv1
      subst hv2
      rw [nuS_0 e2]
      exact tk_ok rfl e2 (by rw [e2, fP_0z]) (FRX.up (FRX.up FRX.refl (by decide)) (by decide)) (by omega) (RR_g hR) rfl
    · exact tk_fail nuS_1.1 e2 nuS_1.2 (FRX.up (FRX.up FRX.refl (by decide)) (by decide)) (by omega)
  · refine T_iloadn dX11_takeGrammar_16 rfl rfl ?_
    refine T_goto (tgt := 32) dX11_takeGrammar_17 rfl ?_
    refine TT_ri dX11_takeGrammar_32 trivial ?_
    have e1 : nuK (c 131) n a 1 4 ≠ 0 := by omega
    have e2 : (nuS (c 131) n 1 4 (a, N0, 0, P)).2.2.1 ≠ 0 := by rw [nuS_1.1]; exact e1
    exact tk_fail ((nuS_n e2).1.trans nuS_1.1) e1 ((nuS_n e2).2.trans nuS_1.2) (FRX.up FRX.refl (by decide)) (by omega)
set_option maxHeartbeats 4000000 in
set_option maxRecDepth 100000 in
theorem r_takeStem (c D : HC) {n : Nat} (hn : c 122 15 = (n : Int)) (hn2 : n ≤ 250) (hD : DV D) (hz : DZ D) (hR : RR c D) (V N N0 P : Int) (a : Nat) (ha : a ≤ 300) (k : Nat) (hk : D 0 2 = (k : Int)) (hk6 : k < 6) : CC mX11_takeStem 3 (rt c (a : Int) V N P) [vr 122] (TKP c (nuS (c 131) n 1 9 (a, N0, 0, P)) (up2 (up2 D 1 (D 0 2).toNat (nuV (c 131) n a)) 0 2 (D 0 2 + 1))) := by
  have b1 := enF_1k (t := (c 131)) (show a ≤ 600 by omega) hn2
  have hc : c 122 21 = (k : Int) := hR.1.2.2.1.trans hk
  have hi := r_into (up2 (up2 c 139 k 0) 122 21 ((k : Int) + 1)) ((up2_k _ _ (by decide)).trans ((up2_a _ _ (by decide)).trans hn)) hn2 V N P 1 9 a (by omega) 133 6 k rfl (by decide) hk6 (by decide) (by omega)
  rw [up2_row _ _ _ _ (x := 131) (by decide), up2_row _ _ _ _ (x := 131) (by decide)] at hi
  refine CC.of (by decide +kernel) (leb rfl) (fun hok => ?_)
  refine T_aloadn dX11_takeStem_0 rfl rfl ?_
  refine T_getfin dX11_takeStem_1 fX11_62 (by first | assumption | rfl) (by first | decide | omega) rfl (by first | assumption | rfl) ?_
  refine T_aloadn dX11_takeStem_4 rfl rfl ?_
  refine T_getv dX11_takeStem_5 fX11_139 (by first | assumption | rfl) (by first | decide | omega) rfl ((rt_f (by omega)).trans hc) ?_
  refine T_iconst dX11_takeStem_8 (inr rfl) ?_
  refine T_iast (j := k) dX11_takeStem_9 (by first | assumption | rfl) (by first | decide | omega) (by omega) (by omega) ?_
  rw [rt_up (by decide)]
  refine T_aloadn dX11_takeStem_10 rfl rfl ?_
  refine T_dup dX11_takeStem_11 rfl ?_
  refine T_getv dX11_takeStem_12 fX11_139 (by first | assumption | rfl) (by first | decide | omega) rfl ((rt_f (by omega)).trans ((up2_a _ _ (by decide)).trans hc)) ?_
  refine T_iconst dX11_takeStem_15 (inr rfl) ?_
  first | refine T_iaddN dX11_takeStem_16 (by omega) ?_ | refine T_iadd dX11_takeStem_16 ?_
  refine T_puti dX11_takeStem_17 fX11_139 (by first | assumption | rfl) (by first | decide | omega) rfl rfl ?_
  rw [rt_upf (by omega)]
  refine T_aloadn dX11_takeStem_20 rfl rfl ?_
  refine T_aloadn dX11_takeStem_21 rfl rfl ?_
  refine T_getfin dX11_takeStem_22 fX11_44 (by first | assumption | rfl) (by first | decide | omega) rfl (by first | assumption | rfl) ?_
  refine T_aloadn dX11_takeStem_25 rfl rfl ?_
  refine T_getv dX11_takeStem_26 fX11_139 (by first | assumption | rfl) (by first | decide | omega) rfl ((rt_f (by omega)).trans (up2_s _ _ _ _)) ?_
  refine T_iconst dX11_takeStem_29 (inr rfl) ?_
  first | refine T_isubN dX11_takeStem_30 (by omega) ?_ | refine T_isub dX11_takeStem_30 ?_
  rw [show (k : Int) + 1 - 1 = (k : Int) by omega]
  refine T_iconst dX11_takeStem_31 (inr rfl) ?_
  refine T_bipush dX11_takeStem_32 (bp8 rfl) (inr rfl) ?_
  refine TT_V dX11_takeStem_34 (hi) kX11_135 (by decide) (by first | decide | omega) (by first | assumption | rfl) rfl (leb rfl) (fun v c1 hq => ?_)
  obtain ⟨rfl, V2, N2, rfl, hz2⟩ := hq
  refine TT_ri dX11_takeStem_37 trivial ?_
  by_cases e1 : nuK (c 131) n a 1 9 = 0
  · have hv1 := (hz2 e1).1
    subst hv1
    rw [nuS_0 e1]
    exact tk_ok rfl e1 (by rw [e1, fP_0z]) (FRX.up (FRX.upf (FRX.up FRX.refl (by decide)) (by decide)) (by decide)) (by omega) (RR_s hk hz hR) rfl
  · exact tk_fail nuS_1.1 e1 nuS_1.2 (FRX.up (FRX.upf (FRX.up FRX.refl (by decide)) (by decide)) (by decide)) (by omega)
set_option maxHeartbeats 4000000 in
set_option maxRecDepth 100000 in
theorem r_takeEnding (c D : HC) {n : Nat} (hn : c 122 15 = (n : Int)) (hn2 : n ≤ 250) (hD : DV D) (hz : DZ D) (hR : RR c D) (V N N0 P : Int) (a : Nat) (ha : a ≤ 300) (k : Nat) (hk : D 0 3 = (k : Int)) (hk6 : k < 4) : CC mX11_takeEnding 3 (rt c (a : Int) V N P) [vr 122] (TKP c (nuS (c 131) n 1 5 (a, N0, 0, P)) (up2 (up2 D 2 (D 0 3).toNat (nuV (c 131) n a)) 0 3 (D 0 3 + 1))) := by
  have b1 := enF_1k (t := (c 131)) (show a ≤ 600 by omega) hn2
  have hc : c 122 23 = (k : Int) := hR.1.2.2.2.1.trans hk
  have hi := r_into (up2 c 122 23 ((k : Int) + 1)) ((up2_k _ _ (by decide)).trans hn) hn2 V N P 1 5 a (by omega) 134 4 k rfl (by decide) hk6 (by decide) (by omega)
  rw [up2_row _ _ _ _ (x := 131) (by decide)] at hi
  refine CC.of (by decide +kernel) (leb rfl) (fun hok => ?_)
  refine T_aloadn dX11_takeEnding_0 rfl rfl ?_
  refine T_dup dX11_takeEnding_1 rfl ?_
  refine T_getv dX11_takeEnding_2 fX11_142 (by first | assumption | rfl) (by first | decide | omega) rfl ((rt_f (by omega)).trans hc) ?_
  refine T_iconst dX11_takeEnding_5 (inr rfl) ?_
  first | refine T_iaddN dX11_takeEnding_6 (by omega) ?_ | refine T_iadd dX11_takeEnding_6 ?_
  refine T_puti dX11_takeEnding_7 fX11_142 (by first | assumption | rfl) (by first | decide | omega) rfl rfl ?_
  rw [rt_upf (by omega)]
  refine T_aloadn dX11_takeEnding_10 rfl rfl ?_
  refine T_aloadn dX11_takeEnding_11 rfl rfl ?_
  refine T_getfin dX11_takeEnding_12 fX11_47 (by first | assumption | rfl) (by first | decide | omega) rfl (by first | assumption | rfl) ?_
  refine T_aloadn dX11_takeEnding_15 rfl rfl ?_
  refine T_getv dX11_takeEnding_16 fX11_142 (by first | assumption | rfl) (by first | decide | omega) rfl ((rt_f (by omega)).trans (up2_s _ _ _ _)) ?_
  refine T_iconst dX11_takeEnding_19 (inr rfl) ?_
  first | refine T_isubN dX11_takeEnding_20 (by omega) ?_ | refine T_isub dX11_takeEnding_20 ?_
  rw [show (k : Int) + 1 - 1 = (k : Int) by omega]
  refine T_iconst dX11_takeEnding_21 (inr rfl) ?_
  refine T_iconst dX11_takeEnding_22 (inr rfl) ?_
  refine TT_V dX11_takeEnding_23 (hi) kX11_135 (by decide) (by first | decide | omega) (by first | assumption | rfl) rfl (leb rfl) (fun v c1 hq => ?_)
  obtain ⟨rfl, V2, N2, rfl, hz2⟩ := hq
  refine TT_ri dX11_takeEnding_26 trivial ?_
  by_cases e1 : nuK (c 131) n a 1 5 = 0
  · have hv1 := (hz2 e1).1
    subst hv1
    rw [nuS_0 e1]
    exact tk_ok rfl e1 (by rw [e1, fP_0z]) (FRX.up (FRX.upf FRX.refl (by decide)) (by decide)) (by omega) (RR_e hk hR) rfl
  · exact tk_fail nuS_1.1 e1 nuS_1.2 (FRX.up (FRX.upf FRX.refl (by decide)) (by decide)) (by omega)
set_option maxHeartbeats 4000000 in
set_option maxRecDepth 100000 in
theorem r_takeSpeaker (c D : HC) {n : Nat} (hn : c 122 15 = (n : Int)) (hn2 : n ≤ 250) (hD : DV D) (hz : DZ D) (hR : RR c D) (V N N0 P : Int) (a : Nat) (ha : a ≤ 300) (k : Nat) (hk : D 0 4 = (k : Int)) (hk6 : k < 10) : CC mX11_takeSpeaker 3 (rt c (a : Int) V N P) [vr 122] (TKP c (nuS (c 131) n 0 100 (nuS (c 131) n 0 99 (nuS (c 131) n 1 40 (nuS (c 131) n 0 1 (a, N0, 0, P))))) (up2 (up2 (up2 (up2 (up2 D 4 (D 0 4).toNat (nuV (c 131) n a)) 5 (D 0 4).toNat (nuV (c 131) n (enF (c 131) n a))) 6 (D 0 4).toNat (nuV (c 131) n (enF (c 131) n (enF (c 131) n a)))) 7 (D 0 4).toNat (nuV (c 131) n (enF (c 131) n (enF (c 131) n (enF (c 131) n a))))) 0 4 (D 0 4 + 1))) := by
  have b1 := enF_1k (t := (c 131)) (show a ≤ 600 by omega) hn2
  have b2 := enF_1k (t := (c 131)) b1 hn2
  have b3 := enF_1k (t := (c 131)) b2 hn2
  have b4 := enF_1k (t := (c 131)) b3 hn2
  have j0 := nuK_3 (c 131) n a 0 1
  have j1 := nuK_3 (c 131) n (enF (c 131) n a) 1 40
  have j2 := nuK_3 (c 131) n (enF (c 131) n (enF (c 131) n a)) 0 99
  have hc : c 122 25 = (k : Int) := hR.1.2.2.2.2.1.trans hk
  have hi0 := r_into (up2 c 122 25 ((k : Int) + 1)) ((up2_k _ _ (by decide)).trans hn) hn2 V N P 0 1 a (by omega) 135 10 k rfl (by decide) hk6 (by decide) (by omega)
  rw [up2_row _ _ _ _ (x := 131) (by decide)] at hi0
  refine CC.of (by decide +kernel) (leb rfl) (fun hok => ?_)
  refine T_aloadn dX11_takeSpeaker_0 rfl rfl ?_
  refine T_getv dX11_takeSpeaker_1 fX11_145 (by first | assumption | rfl) (by first | decide | omega) rfl ((rt_f (by omega)).trans hc) ?_
  refine T_istoren dX11_takeSpeaker_4 rfl (by decide) rfl ?_
  refine T_aloadn dX11_takeSpeaker_5 rfl rfl ?_
  refine T_dup dX11_takeSpeaker_6 rfl ?_
  refine T_getv dX11_takeSpeaker_7 fX11_145 (by first | assumption | rfl) (by first | decide | omega) rfl ((rt_f (by omega)).trans hc) ?_
  refine T_iconst dX11_takeSpeaker_10 (inr rfl) ?_
  first | refine T_iaddN dX11_takeSpeaker_11 (by omega) ?_ | refine T_iadd dX11_takeSpeaker_11 ?_
  refine T_puti dX11_takeSpeaker_12 fX11_145 (by first | assumption | rfl) (by first | decide | omega) rfl rfl ?_
  rw [rt_upf (by omega)]
  refine T_aloadn dX11_takeSpeaker_15 rfl rfl ?_
  refine T_aloadn dX11_takeSpeaker_16 rfl rfl ?_
  refine T_getfin dX11_takeSpeaker_17 fX11_50 (by first | assumption | rfl) (by first | decide | omega) rfl (by first | assumption | rfl) ?_
  refine T_iloadn dX11_takeSpeaker_20 rfl rfl ?_
  refine T_iconst dX11_takeSpeaker_21 (inr rfl) ?_
  refine T_iconst dX11_takeSpeaker_22 (inr rfl) ?_
  refine TT_V dX11_takeSpeaker_23 (hi0) kX11_135 (by decide) (by first | decide | omega) (by first | assumption | rfl) rfl (leb rfl) (fun v c1 hq => ?_)
  obtain ⟨rfl, V2, N2, rfl, hz0⟩ := hq
  refine T_istoren dX11_takeSpeaker_26 rfl (by decide) rfl ?_
  refine T_iloadn dX11_takeSpeaker_27 rfl rfl ?_
  refine T_if_le (tgt := 35) dX11_takeSpeaker_28 rfl (fun b28 => ?_) (fun b28 => ?_)
  · have e0 : nuK (c 131) n a 0 1 = 0 := by omega
    rw [e0, fP_0z]
    have hi1 := r_into (up2 (up2 c 122 25 ((k : Int) + 1)) 135 k V2) ((up2_a _ _ (by decide)).trans ((up2_k _ _ (by decide)).trans hn)) hn2 V2 N2 P 1 40 (enF (c 131) n a) (by omega) 136 10 k rfl (by decide) hk6 (by decide) (by omega)
    rw [up2_row _ _ _ _ (x := 131) (by decide), up2_row _ _ _ _ (x := 131) (by decide)] at hi1
    refine T_aloadn dX11_takeSpeaker_35 rfl rfl ?_
    refine T_aloadn dX11_takeSpeaker_36 rfl rfl ?_
    refine T_getfin dX11_takeSpeaker_37 fX11_53 (by first | assumption | rfl) (by first | decide | omega) rfl (by first | assumption | rfl) ?_
    refine T_iloadn dX11_takeSpeaker_40 rfl rfl ?_
    refine T_iconst dX11_takeSpeaker_41 (inr rfl) ?_
    refine T_bipush dX11_takeSpeaker_42 (bp8 rfl) (inr rfl) ?_
    refine TT_V dX11_takeSpeaker_44 (hi1) kX11_135 (by decide) (by first | decide | omega) (by first | assumption | rfl) rfl (leb rfl) (fun v1 c1 hq1 => ?_)
    obtain ⟨rfl, V3, N3, rfl, hz1⟩ := hq1
    refine T_istoren dX11_takeSpeaker_47 rfl (by decide) rfl ?_
    refine T_iloadn dX11_takeSpeaker_48 rfl rfl ?_
    refine T_if_le (tgt := 56) dX11_takeSpeaker_49 rfl (fun b49 => ?_) (fun b49 => ?_)
    · have e1 : nuK (c 131) n (enF (c 131) n a) 1 40 = 0 := by omega
      rw [e1, fP_0z]
      have hi2 := r_into (up2 (up2 (up2 c 122 25 ((k : Int) + 1)) 135 k V2) 136 k V3) ((up2_a _ _ (by decide)).trans ((up2_a _ _ (by decide)).trans ((up2_k _ _ (by decide)).trans hn))) hn2 V3 N3 P 0 99 (enF (c 131) n (enF (c 131) n a)) (by omega) 137 10 k rfl (by decide) hk6 (by decide) (by omega)
      rw [up2_row _ _ _ _ (x := 131) (by decide), up2_row _ _ _ _ (x := 131) (by decide), up2_row _ _ _ _ (x := 131) (by decide)] at hi2
      refine T_aloadn dX11_takeSpeaker_56 rfl rfl ?_
      refine T_aloadn dX11_takeSpeaker_57 rfl rfl ?_
      refine T_getfin dX11_takeSpeaker_58 fX11_56 (by first | assumption | rfl) (by first | decide | omega) rfl (by first | assumption | rfl) ?_
      refine T_iloadn dX11_takeSpeaker_61 rfl rfl ?_
      refine T_iconst dX11_takeSpeaker_62 (inr rfl) ?_
      refine T_bipush dX11_takeSpeaker_63 (bp8 rfl) (inr rfl) ?_
      refine TT_V dX11_takeSpeaker_65 (hi2) kX11_135 (by decide) (by first | decide | omega) (by first | assumption | rfl) rfl (leb rfl) (fun v2 c2 hq2 => ?_)
      obtain ⟨rfl, V4, N4, rfl, hz2⟩ := hq2
      refine T_istoren dX11_takeSpeaker_68 rfl (by decide) rfl ?_
      refine T_iloadn dX11_takeSpeaker_69 rfl rfl ?_
      refine T_if_le (tgt := 77) dX11_takeSpeaker_70 rfl (fun b70 => ?_) (fun b70 => ?_)
      · have e2 : nuK (c 131) n (enF (c 131) n (enF (c 131) n a)) 0 99 = 0 := by omega
        rw [e2, fP_0z]
        have hi3 := r_into (up2 (up2 (up2 (up2 c 122 25 ((k : Int) + 1)) 135 k V2) 136 k V3) 137 k V4) ((up2_a _ _ (by decide)).trans ((up2_a _ _ (by decide)).trans ((up2_a _ _ (by decide)).trans ((up2_k _ _ (by decide)).trans hn)))) hn2 V4 N4 P 0 100 (enF (c 131) n (enF (c 131) n (enF (c 131) n a))) (by omega) 138 10 k rfl (by decide) hk6 (by decide) (by omega)
        rw [up2_row _ _ _ _ (x := 131) (by decide), up2_row _ _ _ _ (x := 131) (by decide), up2_row _ _ _ _ (x := 131) (by decide), up2_row _ _ _ _ (x := 131) (by decide)] at hi3
        refine T_aloadn dX11_takeSpeaker_77 rfl rfl ?_
        refine T_aloadn dX11_takeSpeaker_78 rfl rfl ?_
        refine T_getfin dX11_takeSpeaker_79 fX11_59 (by first | assumption | rfl) (by first | decide | omega) rfl (by first | assumption | rfl) ?_
        refine T_iloadn dX11_takeSpeaker_82 rfl rfl ?_
        refine T_iconst dX11_takeSpeaker_83 (inr rfl) ?_
        refine T_bipush dX11_takeSpeaker_84 (bp8 rfl) (inr rfl) ?_
        refine TT_V dX11_takeSpeaker_86 (hi3) kX11_135 (by decide) (by first | decide | omega) (by first | assumption | rfl) rfl (leb rfl) (fun v3 c3 hq3 => ?_)
        obtain ⟨rfl, V5, N5, rfl, hz3⟩ := hq3
        refine TT_ri dX11_takeSpeaker_89 trivial ?_
        by_cases e3 : nuK (c 131) n (enF (c 131) n (enF (c 131) n (enF (c 131) n a))) 0 100 = 0
        · have hv0 := (hz0 e0).1
          have hv1 := (hz1 e1).1
          have hv2 := (hz2 e2).1
          have hv3 := (hz3 e3).1
          subst hv0
          subst hv1
          subst hv2
          subst hv3
          rw [nuS_0 e0, nuS_0 e1, nuS_0 e2, nuS_0 e3]
          exact tk_ok rfl e3 (by rw [e3, fP_0z]) (FRX.up (FRX.up (FRX.up (FRX.up (FRX.upf FRX.refl (by decide)) (by decide)) (by decide)) (by decide)) (by decide)) (by omega) (RR_p hk hR) rfl
        · have f3 : nuK (c 131) n (enF (c 131) n (enF (c 131) n (enF (c 131) n a))) 0 100 ≠ 0 := e3
          rw [nuS_0 e0, nuS_0 e1, nuS_0 e2]
          have g3 : (nuS (c 131) n 0 100 ((enF (c 131) n (enF (c 131) n (enF (c 131) n a))), ((skF (c 131) n (enF (c 131) n (enF (c 131) n a)) : Nat) : Int), 0, P)).2.2.1 ≠ 0 := by rw [nuS_1.1]; exact f3
          exact tk_fail nuS_1.1 f3 nuS_1.2 (FRX.up (FRX.up (FRX.up (FRX.up (FRX.upf FRX.refl (by decide)) (by decide)) (by decide)) (by decide)) (by decide)) (by omega)
      · refine T_iloadn dX11_takeSpeaker_73 rfl rfl ?_
        refine T_goto (tgt := 89) dX11_takeSpeaker_74 rfl ?_
        refine TT_ri dX11_takeSpeaker_89 trivial ?_
        have f2 : nuK (c 131) n (enF (c 131) n (enF (c 131) n a)) 0 99 ≠ 0 := by omega
        rw [nuS_0 e0, nuS_0 e1]
        have g2 : (nuS (c 131) n 0 99 ((enF (c 131) n (enF (c 131) n a)), ((skF (c 131) n (enF (c 131) n a) : Nat) : Int), 0, P)).2.2.1 ≠ 0 := by rw [nuS_1.1]; exact f2
        have g3 : (nuS (c 131) n 0 100 (nuS (c 131) n 0 99 ((enF (c 131) n (enF (c 131) n a)), ((skF (c 131) n (enF (c 131) n a) : Nat) : Int), 0, P))).2.2.1 ≠ 0 := by rw [(nuS_n g2).1]; exact g2
        exact tk_fail ((nuS_n g2).1.trans nuS_1.1) f2 ((nuS_n g2).2.trans nuS_1.2) (FRX.up (FRX.up (FRX.up (FRX.upf FRX.refl (by decide)) (by decide)) (by decide)) (by decide)) (by omega)
    · refine T_iloadn dX11_takeSpeaker_52 rfl rfl ?_
      refine T_goto (tgt := 68) dX11_takeSpeaker_53 rfl ?_
      refine T_istoren dX11_takeSpeaker_68 rfl (by decide) rfl ?_
      refine T_iloadn dX11_takeSpeaker_69 rfl rfl ?_
      refine T_if_le (tgt := 77) dX11_takeSpeaker_70 rfl (fun b70 => absurd b70 (by omega)) (fun b70 => ?_)
      refine T_iloadn dX11_takeSpeaker_73 rfl rfl ?_
      refine T_goto (tgt := 89) dX11_takeSpeaker_74 rfl ?_
      refine TT_ri dX11_takeSpeaker_89 trivial ?_
      have f1 : nuK (c 131) n (enF (c 131) n a) 1 40 ≠ 0 := by omega
      rw [nuS_0 e0]
      have g1 : (nuS (c 131) n 1 40 ((enF (c 131) n a), ((skF (c 131) n a : Nat) : Int), 0, P)).2.2.1 ≠ 0 := by rw [nuS_1.1]; exact f1
      have g2 : (nuS (c 131) n 0 99 (nuS (c 131) n 1 40 ((enF (c 131) n a), ((skF (c 131) n a : Nat) : Int), 0, P))).2.2.1 ≠ 0 := by rw [(nuS_n g1).1]; exact g1
      have g3 : (nuS (c 131) n 0 100 (nuS (c 131) n 0 99 (nuS (c 131) n 1 40 ((enF (c 131) n a), ((skF (c 131) n a : Nat) : Int), 0, P)))).2.2.1 ≠ 0 := by rw [(nuS_n g2).1]; exact g2
      exact tk_fail ((nuS_n g2).1.trans ((nuS_n g1).1.trans nuS_1.1)) f1 ((nuS_n g2).2.trans ((nuS_n g1).2.trans nuS_1.2)) (FRX.up (FRX.up (FRX.upf FRX.refl (by decide)) (by decide)) (by decide)) (by omega)
  · refine T_iloadn dX11_takeSpeaker_31 rfl rfl ?_
    refine T_goto (tgt := 47) dX11_takeSpeaker_32 rfl ?_
    refine T_istoren dX11_takeSpeaker_47 rfl (by decide) rfl ?_
    refine T_iloadn dX11_takeSpeaker_48 rfl rfl ?_
    refine T_if_le (tgt := 56) dX11_takeSpeaker_49 rfl (fun b49 => absurd b49 (by omega)) (fun b49 => ?_)
    refine T_iloadn dX11_takeSpeaker_52 rfl rfl ?_
    refine T_goto (tgt := 68) dX11_takeSpeaker_53 rfl ?_
    refine T_istoren dX11_takeSpeaker_68 rfl (by decide) rfl ?_
    refine T_iloadn dX11_takeSpeaker_69 rfl rfl ?_
    refine T_if_le (tgt := 77) dX11_takeSpeaker_70 rfl (fun b70 => absurd b70 (by omega)) (fun b70 => ?_)
    refine T_iloadn dX11_takeSpeaker_73 rfl rfl ?_
    refine T_goto (tgt := 89) dX11_takeSpeaker_74 rfl ?_
    refine TT_ri dX11_takeSpeaker_89 trivial ?_
    have f0 : nuK (c 131) n a 0 1 ≠ 0 := by omega
    skip
    have g0 : (nuS (c 131) n 0 1 (a, N0, 0, P)).2.2.1 ≠ 0 := by rw [nuS_1.1]; exact f0
    have g1 : (nuS (c 131) n 1 40 (nuS (c 131) n 0 1 (a, N0, 0, P))).2.2.1 ≠ 0 := by rw [(nuS_n g0).1]; exact g0
    have g2 : (nuS (c 131) n 0 99 (nuS (c 131) n 1 40 (nuS (c 131) n 0 1 (a, N0, 0, P)))).2.2.1 ≠ 0 := by rw [(nuS_n g1).1]; exact g1
    have g3 : (nuS (c 131) n 0 100 (nuS (c 131) n 0 99 (nuS (c 131) n 1 40 (nuS (c 131) n 0 1 (a, N0, 0, P))))).2.2.1 ≠ 0 := by rw [(nuS_n g2).1]; exact g2
    exact tk_fail ((nuS_n g2).1.trans ((nuS_n g1).1.trans ((nuS_n g0).1.trans nuS_1.1))) f0 ((nuS_n g2).2.trans ((nuS_n g1).2.trans ((nuS_n g0).2.trans nuS_1.2))) (FRX.up (FRX.upf FRX.refl (by decide)) (by decide)) (by omega)
