/-! standings beside each other -/
theorem EQR_ext {n : Nat} {R S R2 S2 : Nat → Int} (hn : n ≤ 10) (h12 : R 12 ≤ 40) (h1 : ∀ k, k < 53 → R2 k = R k) (h2 : ∀ k, k < 53 → S2 k = S k) (h : EQR n R S) : EQR n R2 S2 := by
  obtain ⟨a0, a1, a2, a3, a4⟩ := h
  refine ⟨?_, ?_, ?_, fun j hj => ?_, fun j hj => ?_⟩
  · rw [h1 0 (by decide), h2 0 (by decide)]; exact a0
  · rw [h1 1 (by decide), h2 1 (by decide)]; exact a1
  · rw [h1 12 (by decide), h2 12 (by decide)]; exact a2
  · rw [h1 _ (by omega), h2 _ (by omega)]; exact a3 j hj
  · rw [h1 12 (by decide)] at hj
    rw [h1 _ (by omega), h2 _ (by omega)]; exact a4 j hj
theorem RV_ext {n : Nat} {bt bt2 R R2 : Nat → Int} (hn : n ≤ 10) (hb : ∀ j, j < n → bt2 j = bt j) (h1 : ∀ k, k < 53 → R2 k = R k) (h : RV bt n R) : RV bt2 n R2 := by
  obtain ⟨a0, a1, a2, a3⟩ := h
  unfold RV
  rw [h1 0 (by decide), h1 1 (by decide), h1 12 (by decide)]
  exact ⟨a0, a1, a2, fun j hj => by rw [h1 _ (by omega), hb j hj]; exact a3 j hj⟩
theorem RV_eq {n : Nat} {bt bt2 R S : Nat → Int} (hb : ∀ j, j < n → bt2 j = bt j) (he : EQR n R S) (h : RV bt n S) : RV bt2 n R := by
  obtain ⟨a0, a1, a2, a3⟩ := h
  unfold RV
  rw [he.1, he.2.1, he.2.2.1]
  exact ⟨a0, a1, a2, fun j hj => by rw [he.2.2.2.1 j hj, hb j hj]; exact a3 j hj⟩
theorem EQR_up {n : Nat} {R S : Nat → Int} (h : EQR n R S) (k : Nat) (v : Int) (hk : k ≠ 12) : EQR n (up1 R k v) (up1 S k v) := by
  obtain ⟨a0, a1, a2, a3, a4⟩ := h
  have e : ∀ j, R j = S j → up1 R k v j = up1 S k v j := fun j hj => by
    unfold up1
    split
    · rfl
    · exact hj
  refine ⟨e 0 a0, e 1 a1, e 12 a2, fun j hj => e _ (a3 j hj), fun j hj => e _ (a4 j ?_)⟩
  rw [up1_n (Ne.symm hk)] at hj
  exact hj
theorem EQR_rest {n : Nat} {bt bt2 R S : Nat → Int} (p q : Int) (hn : n ≤ 10) (hb : ∀ j, j < n → bt j = bt2 j) (h : EQR n R S) : EQR n (restR bt p q R n) (restR bt2 p q S n) := by
  obtain ⟨a0, a1, a2, a3, a4⟩ := h
  refine ⟨?_, ?_, ?_, fun j hj => ?_, fun j hj => ?_⟩
  · rw [restR_lo (by omega), restR_lo (by omega)]; exact a0
  · rw [restR_lo (by omega), restR_lo (by omega)]; exact a1
  · rw [restR_lo (by omega), restR_lo (by omega)]; exact a2
  · unfold restR
    rw [show 2 + j - 2 = j by omega, a3 j hj, hb j hj]
  · rw [restR_lo (by omega)] at hj
    rw [restR_lo (by omega), restR_lo (by omega)]; exact a4 j hj
theorem EQR_say {n : Nat} {R S : Nat → Int} (hn : n ≤ 10) (h0 : 0 ≤ R 12) (h40 : R 12 ≤ 40) (w : Int) (h : EQR n R S) : EQR n (sayR R w) (sayR S w) := by
  obtain ⟨a0, a1, a2, a3, a4⟩ := id h
  unfold sayR
  by_cases hw : w = -1
  · rw [if_pos hw, if_pos hw]; exact h
  · rw [if_neg hw, if_neg hw]
    by_cases hl : R 12 < 40
    · rw [if_pos hl, if_pos (by omega), ← a2]
      refine ⟨?_, ?_, ?_, fun j hj => ?_, fun j hj => ?_⟩
      · rw [up1_n (by decide), up1_n (by omega), up1_n (by decide), up1_n (by omega)]; exact a0
      · rw [up1_n (by decide), up1_n (by omega), up1_n (by decide), up1_n (by omega)]; exact a1
      · rw [up1_s, up1_s]
      · rw [up1_n (by omega), up1_n (by omega), up1_n (by omega), up1_n (by omega)]; exact a3 j hj
      · rw [up1_s] at hj
        rw [up1_n (k := 12) (by omega), up1_n (k := 12) (by omega)]
        by_cases e : j = (R 12).toNat
        · subst e; rw [up1_s, up1_s]
        · rw [up1_n (by omega), up1_n (by omega)]; exact a4 j (by omega)
    · rw [if_neg hl, if_neg (by omega)]
      have sh : ∀ Q : Nat → Int, ∀ k, k < 12 → shR Q k = Q k := fun Q k hk => by
        unfold shR
        rw [up1_n (by omega), if_neg (by omega)]
      have sw : ∀ Q : Nat → Int, ∀ j, j < 39 → shR Q (13 + j) = Q (13 + (j + 1)) := fun Q j hj => by
        unfold shR
        rw [up1_n (by omega), if_pos (by omega), show 13 + j + 1 = 13 + (j + 1) by omega]
      refine ⟨?_, ?_, ?_, fun j hj => ?_, fun j hj => ?_⟩
      · rw [up1_n (by decide), up1_n (by decide), up1_n (by decide), up1_n (by decide), sh _ 0 (by decide), sh _ 0 (by decide)]; exact a0
      · rw [up1_n (by decide), up1_n (by decide), up1_n (by decide), up1_n (by decide), sh _ 1 (by decide), sh _ 1 (by decide)]; exact a1
      · rw [up1_s, up1_s]
      · rw [up1_n (by omega), up1_n (by omega), up1_n (by omega), up1_n (by omega), sh _ _ (by omega), sh _ _ (by omega)]; exact a3 j hj
      · rw [up1_s] at hj
        rw [up1_n (k := 12) (by omega), up1_n (k := 12) (by omega)]
        by_cases e : j = 39
        · subst e; rw [up1_s, up1_s]
        · rw [up1_n (by omega), up1_n (by omega), sw _ j (by omega), sw _ j (by omega)]; exact a4 (j + 1) (by omega)
theorem EQR_play {n : Nat} {bt bt2 R S : Nat → Int} (hn : n ≤ 10) (hb : ∀ j, j < n → bt j = bt2 j) (h0 : 0 ≤ R 12) (h40 : R 12 ≤ 40) (way a b v w : Int) {p q : Int} (hp : 0 ≤ p ∧ p < n) (hq : 0 ≤ q ∧ q < n) (h : EQR n R S) : EQR n (playR bt n way a b p v q w R) (playR bt2 n way a b p v q w S) := by
  obtain ⟨a0, a1, a2, a3, a4⟩ := id h
  unfold playR
  rw [← a0, ← a1, ← a3 p.toNat (by omega), ← a3 q.toNat (by omega)]
  refine EQR_up ?_ 1 _ (by decide)
  have k1 := EQR_up (EQR_up (EQR_up h 0 (ropeR (R 0) way) (by decide)) (2 + p.toNat) (R (2 + p.toNat) - a) (by omega)) (2 + q.toNat) (R (2 + q.toNat) - b) (by omega)
  have k2 := EQR_rest (if v = -1 then -1 else p) (if w = -1 then -1 else q) hn hb k1
  have e12 : restR bt (if v = -1 then -1 else p) (if w = -1 then -1 else q) (up1 (up1 (up1 R 0 (ropeR (R 0) way)) (2 + p.toNat) (R (2 + p.toNat) - a)) (2 + q.toNat) (R (2 + q.toNat) - b)) n 12 = R 12 := by
    rw [restR_lo (by omega), up1_n (by omega), up1_n (by omega), up1_n (by omega)]
  have s12 := sayR_12 (R := restR bt (if v = -1 then -1 else p) (if w = -1 then -1 else q) (up1 (up1 (up1 R 0 (ropeR (R 0) way)) (2 + p.toNat) (R (2 + p.toNat) - a)) (2 + q.toNat) (R (2 + q.toNat) - b)) n) (w := v) (by omega) (by omega)
  exact EQR_say hn s12.1 s12.2 w (EQR_say hn (by omega) (by omega) v k2)
theorem put_row {c : HC} {s : Nat} {R : Nat → Int} {x : Nat} (h : x < s ∨ s + 2 < x) : putR c s R x = c x := pro_row h
theorem st_put {c : HC} {s : Nat} {R : Nat → Int} : ∀ k, k < 53 → stR (putR c s R) s k = R k := fun k hk => stR_put hk
section ST2
variable {c : HC}
theorem keepC_f {i : Nat} (hi : i < 2) : (∀ x, x ≠ 7 → (x < 114 + 4 * i ∨ 117 + 4 * i < x) → keepC c (i : Int) x = c x) ∧ keepC c (i : Int) 7 1 = 0 ∧ keepC c (i : Int) 7 2 = 0 ∧ keepC c (i : Int) (114 + 4 * i) 1 = c 87 0 ∧ keepC c (i : Int) (114 + 4 * i) 2 = 1 ∧ ∀ k, k < 53 → stR (keepC c (i : Int)) (115 + 4 * i) k = stR c 4 k := by
  have e : keepC c (i : Int) = forgF (up2 (up2 (putR c (115 + 4 * i) (stR c 4)) (114 + 4 * i) 1 (c 87 0)) (114 + 4 * i) 2 1) := by
    unfold keepC
    rw [if_neg (by omega), Int.toNat_natCast]
  rw [e]
  refine ⟨fun x h1 h2 => ?_, ?_, ?_, ?_, ?_, fun k hk => ?_⟩
  · rw [forg_row h1, up2_row _ _ _ _ (by omega), up2_row _ _ _ _ (by omega), put_row (by omega)]
  · unfold forgF; rw [up2_k _ _ (by decide), up2_s]
  · unfold forgF; rw [up2_s]
  · rw [forg_row (by omega), up2_k _ _ (by decide), up2_s]
  · rw [forg_row (by omega), up2_s]
  · rw [stR_row (c := putR c (115 + 4 * i) (stR c 4)) (by rw [forg_row (by omega), up2_row _ _ _ _ (by omega), up2_row _ _ _ _ (by omega)]) (by rw [forg_row (by omega), up2_row _ _ _ _ (by omega), up2_row _ _ _ _ (by omega)]) (by rw [forg_row (by omega), up2_row _ _ _ _ (by omega), up2_row _ _ _ _ (by omega)])]
    exact st_put k hk
theorem s_keep (hI : INV c) (x : Int) : STEP mX10_keep mX11_keep 2 1 [vi x] c := by
  obtain ⟨f, fn, n, fi, cn, m, k, nt, M, hW, hG, hS, hP, hII, hD, hM, hT, hY⟩ := id hI
  have hfo := hW.o.1
  have hfn := hW.o.2
  by_cases h1 : x < 0 ∨ 2 ≤ x
  · refine step_rw (x_keep c x) (y_keep (keepC c x) x) rfl ?_
    rw [show keepC c x = c by unfold keepC; rw [if_pos h1], show kpR c x = c by unfold kpR; rw [if_pos h1]]
    exact hI
  · refine step_rw (x_keep c x) (y_keep (keepC c x) x) rfl ?_
    obtain ⟨i, rfl⟩ := Int.eq_ofNat_of_zero_le (show 0 ≤ x by omega)
    have hi : i < 2 := by omega
    obtain ⟨k1, k2, k3, k4, k5, k6⟩ := keepC_f (c := c) hi
    generalize hc1 : keepC c (i : Int) = c1 at *
    have ek : kpR c1 (i : Int) = up2 (up2 (up2 (cpI c1 i 53) 147 (54 * i + 53) (c1 122 13)) 148 i 1) 122 34 0 := by
      unfold kpR
      rw [if_neg h1, Int.toNat_natCast]
    rw [ek]
    generalize hc2 : up2 (up2 (up2 (cpI c1 i 53) 147 (54 * i + 53) (c1 122 13)) 148 i 1) 122 34 0 = c2
    have eo1 : ∀ u : Nat, u ≠ 147 → u ≠ 148 → u ≠ 122 → c2 u = c1 u := fun u a1 a2 a3 => by
      rw [← hc2, up2_row _ _ _ _ a3, up2_row _ _ _ _ a2, up2_row _ _ _ _ a1]
      funext w
      exact cpI_o a1
    have e122 : ∀ w : Nat, w ≠ 34 → c2 122 w = c 122 w := fun w a1 => by
      rw [← hc2, up2_k _ _ a1, up2_a _ _ (by decide), up2_a _ _ (by decide), cpI_o (by decide), k1 122 (by decide) (by omega)]
    have e34 : c2 122 34 = 0 := by rw [← hc2, up2_s]
    have e148 : ∀ j, c2 148 j = if j = i then 1 else c 148 j := fun j => by
      rw [← hc2, up2_a _ _ (by decide), up2_g]
      by_cases e : j = i
      · rw [if_pos ⟨rfl, e⟩, if_pos e]
      · rw [if_neg (fun z => e z.2), if_neg e, up2_a _ _ (by decide), cpI_o (by decide), k1 148 (by decide) (by omega)]
    have e147 : ∀ y, c2 147 y = if y = 54 * i + 53 then c 122 13 else if 54 * i ≤ y ∧ y < 54 * i + 53 then c 130 (y - 54 * i) else c 147 y := fun y => by
      rw [← hc2, up2_a _ _ (by decide), up2_a _ _ (by decide), up2_g, k1 122 (by decide) (by omega)]
      by_cases e : y = 54 * i + 53
      · rw [if_pos ⟨rfl, e⟩, if_pos e]
      · rw [if_neg (fun z => e z.2), if_neg e]
        unfold cpI
        by_cases e2 : 54 * i ≤ y ∧ y < 54 * i + 53
        · rw [if_pos ⟨rfl, e2⟩, if_pos e2, k1 130 (by decide) (by omega)]
        · rw [if_neg (fun z => e2 z.2), if_neg e2, k1 147 (by decide) (by omega)]
    have eo : ∀ u : Nat, u ≠ 7 → (u < 114 ∨ 121 < u) → u ≠ 147 → u ≠ 148 → u ≠ 122 → c2 u = c u := fun u a0 a1 a2 a3 a4 => (eo1 u a2 a3 a4).trans (k1 u a0 (by omega))
    have hn10 := hG.2.1.2.1
    have s12 : stR c 4 12 ≤ 40 := by rw [hS.1.2.2.1]; exact hS.2.2.2.1.2
    refine ⟨f, fn, n, 0, 0, m, k, nt, M, IW_row (congrFun (eo 1 (by decide) (by decide) (by decide) (by decide) (by decide)) 10) (congrFun (eo 1 (by decide) (by decide) (by decide) (by decide) (by decide)) 11) (congrFun (eo (fn + 1 + 6) (by omega) (by omega) (by omega) (by omega) (by omega)) 0) hW, IG_row (fun x hx => eo x (by omega) (by omega) (by omega) (by omega) (by omega)) (fun k hk => e122 k (by omega)) hG, IS_row (fun x hx => eo x (by omega) (by omega) (by omega) (by omega) (by omega)) hS, ?_, ?_, ID_row (congrFun (eo 87 (by decide) (by decide) (by decide) (by decide) (by decide)) 0) (e122 13 (by decide)) hD, IM_row (fun x hx => eo x (by omega) (by omega) (by omega) (by omega) (by omega)) ⟨congrFun (eo 1 (by decide) (by decide) (by decide) (by decide) (by decide)) 12, congrFun (eo 1 (by decide) (by decide) (by decide) (by decide) (by decide)) 13⟩ ⟨e122 37 (by decide), e122 39 (by decide)⟩ hM, IT_row (eo 3 (by decide) (by decide) (by decide) (by decide) (by decide)) (eo 131 (by decide) (by decide) (by decide) (by decide) (by decide)) ⟨congrFun (eo 2 (by decide) (by decide) (by decide) (by decide) (by decide)) 1, congrFun (eo 2 (by decide) (by decide) (by decide) (by decide) (by decide)) 5⟩ ⟨e122 15 (by decide), e122 16 (by decide)⟩ hT, GI_row (fun x hx => eo x (by omega) (by omega) (by omega) (by omega) (by omega)) hY⟩
    · refine ⟨?_, ?_, by decide, by decide, e34, fun i hi => by omega⟩
      · rw [eo1 7 (by decide) (by decide) (by decide)]; exact k2
      · rw [eo1 7 (by decide) (by decide) (by decide)]; exact k3
    · intro j hj
      rw [e148 j, eo 126 (by decide) (by decide) (by decide) (by decide) (by decide), eo1 (114 + 4 * j) (by omega) (by omega) (by omega), stR_row (c := c1) (eo1 (115 + 4 * j) (by omega) (by omega) (by omega)) (eo1 (115 + 4 * j + 1) (by omega) (by omega) (by omega)) (eo1 (115 + 4 * j + 2) (by omega) (by omega) (by omega))]
      by_cases e : j = i
      · subst e
        rw [if_pos rfl]
        refine ⟨⟨k5, Or.inr rfl⟩, fun _ => ⟨EQR_ext hn10 s12 k6 (fun y hy => ?_) hS.1, RV_ext hn10 (fun _ _ => rfl) (fun y hy => ?_) hS.2, ?_, ?_, ?_⟩⟩
        · rw [e147, if_neg (by omega), if_pos (by omega), show 54 * j + y - 54 * j = y by omega]
        · rw [e147, if_neg (by omega), if_pos (by omega), show 54 * j + y - 54 * j = y by omega]
        · rw [e147, if_pos rfl, k4]; exact hD.1
        · rw [e147, if_pos rfl]; exact hD.2.1
        · rw [e147, if_pos rfl]; exact hD.2.2
      · have z := hII j hj
        rw [if_neg e, k1 (114 + 4 * j) (by omega) (by omega), stR_row (c := c) (k1 (115 + 4 * j) (by omega) (by omega)) (k1 (115 + 4 * j + 1) (by omega) (by omega)) (k1 (115 + 4 * j + 2) (by omega) (by omega))]
        have e147b : ∀ y, y ≤ 53 → c2 147 (54 * j + y) = c 147 (54 * j + y) := fun y hy => by rw [e147, if_neg (by omega), if_neg (by omega)]
        refine ⟨z.1, fun hne => ?_⟩
        obtain ⟨z1, z2, z3, z4, z5⟩ := z.2 hne
        refine ⟨EQR_ext hn10 (by rw [z1.2.2.1]; exact z2.2.2.1.2) (fun _ _ => rfl) (fun y hy => e147b y (by omega)) z1, RV_ext hn10 (fun _ _ => rfl) (fun y hy => e147b y (by omega)) z2, ?_, ?_, ?_⟩
        · rw [e147b 53 (by decide)]; exact z3
        · rw [e147b 53 (by decide)]; exact z4
        · rw [e147b 53 (by decide)]; exact z5
theorem s_goBack (hI : INV c) (x : Int) : STEP mX10_goBack mX11_goBack 2 1 [vi x] c := by
  obtain ⟨f, fn, n, fi, cn, m, k, nt, M, hW, hG, hS, hP, hII, hD, hM, hT, hY⟩ := id hI
  have hfo := hW.o.1
  have hfn := hW.o.2
  have hn10 := hG.2.1.2.1
  by_cases h1 : x < 0 ∨ 2 ≤ x
  · refine step_rw (x_goBack c x) (y_goBack (goC c x) x) (by unfold goF; rw [if_pos h1, if_pos h1]) ?_
    rw [show goC c x = c by unfold goC; rw [if_pos h1], show gbR c x = c by unfold gbR; rw [if_pos h1]]
    exact hI
  · obtain ⟨i, rfl⟩ := Int.eq_ofNat_of_zero_le (show 0 ≤ x by omega)
    have hi : i < 2 := by omega
    have z := hII i hi
    by_cases h0 : c 148 i = 0
    · have ec : goC c (i : Int) = c := by unfold goC; rw [if_neg h1, Int.toNat_natCast, if_pos (z.1.1.trans h0)]
      refine step_rw (x_goBack c (i : Int)) (y_goBack (goC c (i : Int)) (i : Int)) (by rw [ec, Int.toNat_natCast, z.1.1]) ?_
      rw [ec, show gbR c (i : Int) = c by unfold gbR; rw [if_neg h1, Int.toNat_natCast, if_pos h0]]
      exact hI
    · obtain ⟨z1, z2, z3, z4, z5⟩ := z.2 h0
      have ec : goC c (i : Int) = forgF (up2 (putR c 4 (stR c (115 + 4 * i))) 87 0 (c (114 + 4 * i) 1)) := by
        unfold goC
        rw [if_neg h1, Int.toNat_natCast, if_neg (by rw [z.1.1]; exact h0)]
      have k1 : ∀ u, u ≠ 7 → (u < 4 ∨ 6 < u) → u ≠ 87 → goC c (i : Int) u = c u := fun u a1 a2 a3 => by
        rw [ec, forg_row a1, up2_row _ _ _ _ a3, put_row (by omega)]
      have k2 : goC c (i : Int) 7 1 = 0 := by rw [ec]; unfold forgF; rw [up2_k _ _ (by decide), up2_s]
      have k3 : goC c (i : Int) 7 2 = 0 := by rw [ec]; unfold forgF; rw [up2_s]
      have k4 : goC c (i : Int) 87 0 = c (114 + 4 * i) 1 := by rw [ec, forg_row (by decide), up2_s]
      have k6 : ∀ k, k < 53 → stR (goC c (i : Int)) 4 k = stR c (115 + 4 * i) k := fun k hk => by
        rw [ec, stR_row (c := putR c 4 (stR c (115 + 4 * i))) (by rw [forg_row (by decide), up2_row _ _ _ _ (by decide)]) (by rw [forg_row (by decide), up2_row _ _ _ _ (by decide)]) (by rw [forg_row (by decide), up2_row _ _ _ _ (by decide)])]
        exact st_put k hk
      refine step_rw (x_goBack c (i : Int)) (y_goBack (goC c (i : Int)) (i : Int)) (by rw [Int.toNat_natCast, k1 148 (by decide) (by decide) (by decide), z.1.1]) ?_
      generalize hc1 : goC c (i : Int) = c1 at *
      have ek : gbR c1 (i : Int) = up2 (up2 (nowP c1 (fun k => c1 147 (54 * i + k))) 122 13 (c1 147 (54 * i + 53))) 122 34 0 := by
        unfold gbR
        rw [if_neg h1, Int.toNat_natCast, if_neg (by rw [k1 148 (by decide) (by decide) (by decide)]; exact h0)]
      rw [ek, k1 147 (by decide) (by decide) (by decide)]
      generalize hc2 : up2 (up2 (nowP c1 (fun k => c 147 (54 * i + k))) 122 13 (c 147 (54 * i + 53))) 122 34 0 = c2
      have eo1 : ∀ u : Nat, u ≠ 130 → u ≠ 122 → c2 u = c1 u := fun u a1 a2 => by rw [← hc2, up2_row _ _ _ _ a2, up2_row _ _ _ _ a2, nowP_row a1]
      have e122 : ∀ w : Nat, w ≠ 34 → w ≠ 13 → c2 122 w = c 122 w := fun w a1 a2 => by rw [← hc2, up2_k _ _ a1, up2_k _ _ a2, nowP_o (by decide), k1 122 (by decide) (by decide) (by decide)]
      have e34 : c2 122 34 = 0 := by rw [← hc2, up2_s]
      have e13 : c2 122 13 = c 147 (54 * i + 53) := by rw [← hc2, up2_k _ _ (by decide), up2_s]
      have e130 : ∀ y, y < 53 → c2 130 y = c 147 (54 * i + y) := fun y hy => by rw [← hc2, up2_a _ _ (by decide), up2_a _ _ (by decide), nowP_at hy]
      have eo : ∀ u : Nat, u ≠ 7 → (u < 4 ∨ 6 < u) → u ≠ 87 → u ≠ 130 → u ≠ 122 → c2 u = c u := fun u a0 a1 a2 a3 a4 => (eo1 u a3 a4).trans (k1 u a0 a1 a2)
      refine ⟨f, fn, n, 0, 0, m, k, nt, M, IW_row (congrFun (eo 1 (by decide) (by decide) (by decide) (by decide) (by decide)) 10) (congrFun (eo 1 (by decide) (by decide) (by decide) (by decide) (by decide)) 11) (congrFun (eo (fn + 1 + 6) (by omega) (by omega) (by omega) (by omega) (by omega)) 0) hW, IG_row (fun x hx => eo x (by omega) (by omega) (by omega) (by omega) (by omega)) (fun k hk => e122 k (by omega) (by omega)) hG, ?_, ?_, II_row (fun x hx => eo x (by omega) (by omega) (by omega) (by omega) (by omega)) hII, ?_, IM_row (fun x hx => eo x (by omega) (by omega) (by omega) (by omega) (by omega)) ⟨congrFun (eo 1 (by decide) (by decide) (by decide) (by decide) (by decide)) 12, congrFun (eo 1 (by decide) (by decide) (by decide) (by decide) (by decide)) 13⟩ ⟨e122 37 (by decide) (by decide), e122 39 (by decide) (by decide)⟩ hM, IT_row (eo 3 (by decide) (by decide) (by decide) (by decide) (by decide)) (eo 131 (by decide) (by decide) (by decide) (by decide) (by decide)) ⟨congrFun (eo 2 (by decide) (by decide) (by decide) (by decide) (by decide)) 1, congrFun (eo 2 (by decide) (by decide) (by decide) (by decide) (by decide)) 5⟩ ⟨e122 15 (by decide) (by decide), e122 16 (by decide) (by decide)⟩ hT, GI_row (fun x hx => eo x (by omega) (by omega) (by omega) (by omega) (by omega)) hY⟩
      · unfold IS
        rw [eo 126 (by decide) (by decide) (by decide) (by decide) (by decide), stR_row (c := c1) (eo1 4 (by decide) (by decide)) (eo1 5 (by decide) (by decide)) (eo1 6 (by decide) (by decide))]
        exact ⟨EQR_ext hn10 (by rw [z1.2.2.1]; exact z2.2.2.1.2) k6 e130 z1, RV_ext hn10 (fun _ _ => rfl) e130 z2⟩
      · refine ⟨?_, ?_, by decide, by decide, e34, fun i hi => by omega⟩
        · rw [eo1 7 (by decide) (by decide)]; exact k2
        · rw [eo1 7 (by decide) (by decide)]; exact k3
      · refine ⟨?_, ?_, ?_⟩
        · rw [e13, eo1 87 (by decide) (by decide), k4]; exact z3
        · rw [e13]; exact z4
        · rw [e13]; exact z5
theorem s_undo (hI : INV c) : STEP mX10_undo mX11_undo 3 0 [] c := by
  obtain ⟨f, fn, n, fi, cn, m, k, nt, M, hW, hG, hS, hP, hII, hD, hM, hT, hY⟩ := id hI
  have hfo := hW.o.1
  have hfn := hW.o.2
  have hn10 := hG.2.1.2.1
  obtain ⟨p1, p2, p3, p4, p5, p6⟩ := id hP
  by_cases h0 : cn = 0
  · have ec : undoC c fi cn = c := by unfold undoC; rw [if_pos h0]
    refine step_rw (x_undo c fi cn p1 p2 p3 p4) (y_undo (undoC c fi cn) cn (by rw [ec]; exact p5) p4) rfl ?_
    rw [ec, show unR c cn = c by unfold unR; rw [if_pos h0]]
    exact hI
  · obtain ⟨z1, z2⟩ := p6 (cn - 1) (by omega)
    have hs : 9 + 3 * ((fi + (cn - 1)) % 20) ≤ 66 := by omega
    have ec : undoC c fi cn = putR (up2 c 7 2 ((cn : Int) - 1)) 4 (stR c (9 + 3 * ((fi + (cn - 1)) % 20))) := by unfold undoC popF; rw [if_neg h0]
    have k1 : ∀ u, u ≠ 7 → (u < 4 ∨ 6 < u) → undoC c fi cn u = c u := fun u a1 a2 => by rw [ec, put_row (by omega), up2_row _ _ _ _ a1]
    have k2 : undoC c fi cn 7 1 = (fi : Int) := by rw [ec, put_row (by omega), up2_k _ _ (by decide)]; exact p1
    have k3 : undoC c fi cn 7 2 = ((cn - 1 : Nat) : Int) := by rw [ec, put_row (by omega), up2_s]; omega
    have k6 : ∀ k, k < 53 → stR (undoC c fi cn) 4 k = stR c (9 + 3 * ((fi + (cn - 1)) % 20)) k := fun k hk => by rw [ec]; exact st_put k hk
    refine step_rw (x_undo c fi cn p1 p2 p3 p4) (y_undo (undoC c fi cn) cn (by rw [k1 122 (by decide) (by decide)]; exact p5) p4) rfl ?_
    generalize hc1 : undoC c fi cn = c1 at *
    have ek : unR c1 cn = nowP (up2 c1 122 34 ((cn : Int) - 1)) (fun k => c 142 (53 * (cn - 1) + k)) := by unfold unR; rw [if_neg h0, k1 142 (by decide) (by decide)]
    rw [ek]
    generalize hc2 : nowP (up2 c1 122 34 ((cn : Int) - 1)) (fun k => c 142 (53 * (cn - 1) + k)) = c2
    have eo1 : ∀ u : Nat, u ≠ 130 → u ≠ 122 → c2 u = c1 u := fun u a1 a2 => by rw [← hc2, nowP_row a1, up2_row _ _ _ _ a2]
    have e122 : ∀ w : Nat, w ≠ 34 → c2 122 w = c 122 w := fun w a1 => by rw [← hc2, nowP_o (by decide), up2_k _ _ a1, k1 122 (by decide) (by decide)]
    have e34 : c2 122 34 = ((cn - 1 : Nat) : Int) := by rw [← hc2, nowP_o (by decide), up2_s]; omega
    have e130 : ∀ y, y < 53 → c2 130 y = c 142 (53 * (cn - 1) + y) := fun y hy => by rw [← hc2, nowP_at hy]
    have eo : ∀ u : Nat, u ≠ 7 → (u < 4 ∨ 6 < u) → u ≠ 130 → u ≠ 122 → c2 u = c u := fun u a0 a1 a3 a4 => (eo1 u a3 a4).trans (k1 u a0 a1)
    refine ⟨f, fn, n, fi, cn - 1, m, k, nt, M, IW_row (congrFun (eo 1 (by decide) (by decide) (by decide) (by decide)) 10) (congrFun (eo 1 (by decide) (by decide) (by decide) (by decide)) 11) (congrFun (eo (fn + 1 + 6) (by omega) (by omega) (by omega) (by omega)) 0) hW, IG_row (fun x hx => eo x (by omega) (by omega) (by omega) (by omega)) (fun k hk => e122 k (by omega)) hG, ?_, ?_, II_row (fun x hx => eo x (by omega) (by omega) (by omega) (by omega)) hII, ID_row (congrFun (eo 87 (by decide) (by decide) (by decide) (by decide)) 0) (e122 13 (by decide)) hD, IM_row (fun x hx => eo x (by omega) (by omega) (by omega) (by omega)) ⟨congrFun (eo 1 (by decide) (by decide) (by decide) (by decide)) 12, congrFun (eo 1 (by decide) (by decide) (by decide) (by decide)) 13⟩ ⟨e122 37 (by decide), e122 39 (by decide)⟩ hM, IT_row (eo 3 (by decide) (by decide) (by decide) (by decide)) (eo 131 (by decide) (by decide) (by decide) (by decide)) ⟨congrFun (eo 2 (by decide) (by decide) (by decide) (by decide)) 1, congrFun (eo 2 (by decide) (by decide) (by decide) (by decide)) 5⟩ ⟨e122 15 (by decide), e122 16 (by decide)⟩ hT, GI_row (fun x hx => eo x (by omega) (by omega) (by omega) (by omega)) hY⟩
    · unfold IS
      rw [eo 126 (by decide) (by decide) (by decide) (by decide), stR_row (c := c1) (eo1 4 (by decide) (by decide)) (eo1 5 (by decide) (by decide)) (eo1 6 (by decide) (by decide))]
      exact ⟨EQR_ext hn10 (by rw [z1.2.2.1]; exact z2.2.2.1.2) k6 e130 z1, RV_ext hn10 (fun _ _ => rfl) e130 z2⟩
    · refine ⟨?_, ?_, p3, by omega, e34, fun i hi => ?_⟩
      · rw [eo1 7 (by decide) (by decide)]; exact k2
      · rw [eo1 7 (by decide) (by decide)]; exact k3
      · rw [eo 126 (by decide) (by decide) (by decide) (by decide), eo 142 (by decide) (by decide) (by decide) (by decide), stR_row (c := c) (eo _ (by omega) (by omega) (by omega) (by omega)) (eo _ (by omega) (by omega) (by omega) (by omega)) (eo _ (by omega) (by omega) (by omega) (by omega))]
        exact p6 i (by omega)
end ST2
