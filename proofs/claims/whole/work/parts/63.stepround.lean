/-! round and drift, both sides -/
theorem rem142a {c : HC} {u : Nat} (h : u ≠ 20) (y : Nat) : remR c u 142 y = if 53 * u ≤ y ∧ y < 53 * u + 53 then c 130 (y - 53 * u) else c 142 y := by
  unfold remR
  rw [if_neg h, up2_a _ _ (by decide)]
  unfold cpP
  by_cases e : 53 * u ≤ y ∧ y < 53 * u + 53
  · rw [if_pos ⟨rfl, e⟩, if_pos e]
  · rw [if_neg (fun z => e z.2), if_neg e]
theorem rem142b {c : HC} (y : Nat) : remR c 20 142 y = if 1007 ≤ y ∧ y < 1060 then c 130 (y - 1007) else if y + 53 < 1060 then c 142 (y + 53) else c 142 y := by
  unfold remR
  rw [if_pos rfl, up2_a _ _ (by decide)]
  unfold cpP
  by_cases e : 1007 ≤ y ∧ y < 1060
  · rw [if_pos ⟨rfl, by omega⟩, if_pos e, up2_a _ _ (by decide), shP_o (by decide)]
  · rw [if_neg (fun z => e (by omega)), if_neg e, up2_a _ _ (by decide)]
    unfold shP
    by_cases e2 : y + 53 < 1060
    · rw [if_pos ⟨rfl, e2⟩, if_pos e2]
    · rw [if_neg (fun z => e2 z.2), if_neg e2]
theorem rem34 {c : HC} {u : Nat} : remR c u 122 34 = if u = 20 then 20 else (u : Int) + 1 := by
  unfold remR
  split
  · rw [up2_s]
  · rw [up2_s]
theorem IP_push {c c1 c2 : HC} {n fi cn : Nat} (hP : IP c n fi cn) (hS : IS c n) (hn : n ≤ 10) (h1 : ∀ x, 7 ≤ x → x ≤ 68 → c2 x = pushF c fi cn x) (ha : c1 130 = c 130) (hb : c1 142 = c 142) (h2 : c2 142 = remR c1 cn 142) (h3 : c2 122 34 = remR c1 cn 122 34) (h4 : c2 126 = c 126) : ∃ fi2 cn2, IP c2 n fi2 cn2 := by
  obtain ⟨p1, p2, p3, p4, p5, p6⟩ := hP
  have s12 : stR c 4 12 ≤ 40 := by rw [hS.1.2.2.1]; exact hS.2.2.2.1.2
  rw [rem34] at h3
  by_cases hc : cn < 20
  · have ep : pushF c fi cn = up2 (putR c (9 + 3 * ((fi + cn) % 20)) (stR c 4)) 7 2 ((cn : Int) + 1) := by unfold pushF; rw [if_pos hc]
    rw [if_neg (by omega)] at h3
    have st : ∀ s, 9 ≤ s → s ≤ 66 → stR c2 s = stR (putR c (9 + 3 * ((fi + cn) % 20)) (stR c 4)) s := fun s a1 a2 => by
      refine stR_row ?_ ?_ ?_
      · rw [h1 s (by omega) (by omega), ep, up2_row _ _ _ _ (by omega)]
      · rw [h1 (s + 1) (by omega) (by omega), ep, up2_row _ _ _ _ (by omega)]
      · rw [h1 (s + 2) (by omega) (by omega), ep, up2_row _ _ _ _ (by omega)]
    have e142 : ∀ y, c2 142 y = if 53 * cn ≤ y ∧ y < 53 * cn + 53 then c 130 (y - 53 * cn) else c 142 y := fun y => by rw [h2, rem142a (by omega), ha, hb]
    refine ⟨fi, cn + 1, ?_, ?_, p3, by omega, by rw [h3]; omega, fun i hi => ?_⟩
    · rw [h1 7 (by decide) (by decide), ep, up2_k _ _ (by decide), put_row (by omega)]; exact p1
    · rw [h1 7 (by decide) (by decide), ep, up2_s]; omega
    · rw [st _ (by omega) (by omega), h4]
      by_cases e : i = cn
      · subst e
        refine ⟨EQR_ext hn s12 st_put (fun y hy => ?_) hS.1, RV_ext hn (fun _ _ => rfl) (fun y hy => ?_) hS.2⟩
        · rw [e142, if_pos (by omega), show 53 * i + y - 53 * i = y by omega]
        · rw [e142, if_pos (by omega), show 53 * i + y - 53 * i = y by omega]
      · obtain ⟨z1, z2⟩ := p6 i (by omega)
        refine ⟨EQR_ext hn (by rw [z1.2.2.1]; exact z2.2.2.1.2) (fun y hy => stR_off (by omega)) (fun y hy => ?_) z1, RV_ext hn (fun _ _ => rfl) (fun y hy => ?_) z2⟩
        · rw [e142, if_neg (by omega)]
        · rw [e142, if_neg (by omega)]
  · have ec : cn = 20 := by omega
    subst ec
    have ep : pushF c fi 20 = up2 (putR c (9 + 3 * ((fi + 20) % 20)) (stR c 4)) 7 1 (((fi : Int) + 1) % 20) := by unfold pushF; rw [if_neg hc]
    rw [if_pos rfl] at h3
    have st : ∀ s, 9 ≤ s → s ≤ 66 → stR c2 s = stR (putR c (9 + 3 * ((fi + 20) % 20)) (stR c 4)) s := fun s a1 a2 => by
      refine stR_row ?_ ?_ ?_
      · rw [h1 s (by omega) (by omega), ep, up2_row _ _ _ _ (by omega)]
      · rw [h1 (s + 1) (by omega) (by omega), ep, up2_row _ _ _ _ (by omega)]
      · rw [h1 (s + 2) (by omega) (by omega), ep, up2_row _ _ _ _ (by omega)]
    have e142 : ∀ y, c2 142 y = if 1007 ≤ y ∧ y < 1060 then c 130 (y - 1007) else if y + 53 < 1060 then c 142 (y + 53) else c 142 y := fun y => by rw [h2, rem142b, ha, hb]
    refine ⟨(fi + 1) % 20, 20, ?_, ?_, by omega, by decide, by rw [h3]; rfl, fun i hi => ?_⟩
    · rw [h1 7 (by decide) (by decide), ep, up2_s]; omega
    · rw [h1 7 (by decide) (by decide), ep, up2_k _ _ (by decide), put_row (by omega)]; exact p2
    · rw [st _ (by omega) (by omega), h4]
      by_cases e : i = 19
      · subst e
        rw [show ((fi + 1) % 20 + 19) % 20 = (fi + 20) % 20 by omega]
        refine ⟨EQR_ext hn s12 st_put (fun y hy => ?_) hS.1, RV_ext hn (fun _ _ => rfl) (fun y hy => ?_) hS.2⟩
        · rw [e142, if_pos (by omega), show 53 * 19 + y - 1007 = y by omega]
        · rw [e142, if_pos (by omega), show 53 * 19 + y - 1007 = y by omega]
      · obtain ⟨z1, z2⟩ := p6 (i + 1) (by omega)
        rw [show ((fi + 1) % 20 + i) % 20 = (fi + (i + 1)) % 20 by omega]
        refine ⟨EQR_ext hn (by rw [z1.2.2.1]; exact z2.2.2.1.2) (fun y hy => stR_off (by omega)) (fun y hy => ?_) z1, RV_ext hn (fun _ _ => rfl) (fun y hy => ?_) z2⟩
        · rw [e142, if_neg (by omega), if_pos (by omega), show 53 * i + y + 53 = 53 * (i + 1) + y by omega]
        · rw [e142, if_neg (by omega), if_pos (by omega), show 53 * i + y + 53 = 53 * (i + 1) + y by omega]
/-- behind a round or a drift -/
theorem INV_played {c c1 c2 : HC} {f fn n fi cn m k nt M : Nat} (hW : IW c f fn) (hG : IG c f n) (hS : IS c n) (hP : IP c n fi cn) (hII : II c n) (hM : IM c m k) (hT : IT c nt) (hY : GI c M) (R S : Nat → Int)
    (hx : ∀ x, 69 ≤ x → x ≠ 87 → c1 x = c x) (hr : ∀ x, 7 ≤ x → x ≤ 68 → c1 x = pushF c fi cn x) (hl : ∀ x, x < 4 → c1 x = c x) (hs : ∀ k, k < 53 → stR c1 4 k = R k)
    (eo : ∀ u, u ≠ 130 → u ≠ 142 → u ≠ 122 → c2 u = c1 u) (e122 : ∀ k, k ≠ 34 → k ≠ 13 → c2 122 k = c 122 k) (e142 : c2 142 = remR c1 cn 142) (e34 : c2 122 34 = remR c1 cn 122 34) (e130 : ∀ k, k < 53 → c2 130 k = S k)
    (hE : EQR n R S) (hV : RV (c 126) n S) (hD : ID c2) : INV c2 := by
  have hfo := hW.o.1
  have hfn := hW.o.2
  have hn10 := hG.2.1.2.1
  have eu : ∀ u, (u < 4 ∨ 68 < u) → u ≠ 87 → u ≠ 130 → u ≠ 142 → u ≠ 122 → c2 u = c u := fun u a1 a2 a3 a4 a5 => by
    rw [eo u a3 a4 a5]
    rcases a1 with a1 | a1
    · exact hl u a1
    · exact hx u (by omega) a2
  have e126 : c2 126 = c 126 := eu 126 (by decide) (by decide) (by decide) (by decide) (by decide)
  obtain ⟨fi2, cn2, hP2⟩ := IP_push (c2 := c2) hP hS hn10 (fun x a1 a2 => (eo x (by omega) (by omega) (by omega)).trans (hr x a1 a2)) (hx 130 (by decide) (by decide)) (hx 142 (by decide) (by decide)) e142 e34 e126
  refine ⟨f, fn, n, fi2, cn2, m, k, nt, M, IW_row (congrFun (eu 1 (by decide) (by decide) (by decide) (by decide) (by decide)) 10) (congrFun (eu 1 (by decide) (by decide) (by decide) (by decide) (by decide)) 11) (congrFun (eu (fn + 1 + 6) (by omega) (by omega) (by omega) (by omega) (by omega)) 0) hW, IG_row (fun x hx => eu x (by omega) (by omega) (by omega) (by omega) (by omega)) (fun k hk => e122 k (by omega) (by omega)) hG, ?_, hP2, II_row (fun x hx => eu x (by omega) (by omega) (by omega) (by omega) (by omega)) hII, hD, IM_row (fun x hx => eu x (by omega) (by omega) (by omega) (by omega) (by omega)) ⟨congrFun (eu 1 (by decide) (by decide) (by decide) (by decide) (by decide)) 12, congrFun (eu 1 (by decide) (by decide) (by decide) (by decide) (by decide)) 13⟩ ⟨e122 37 (by decide) (by decide), e122 39 (by decide) (by decide)⟩ hM, IT_row (eu 3 (by decide) (by decide) (by decide) (by decide) (by decide)) (eu 131 (by decide) (by decide) (by decide) (by decide) (by decide)) ⟨congrFun (eu 2 (by decide) (by decide) (by decide) (by decide) (by decide)) 1, congrFun (eu 2 (by decide) (by decide) (by decide) (by decide) (by decide)) 5⟩ ⟨e122 15 (by decide) (by decide), e122 16 (by decide) (by decide)⟩ hT, GI_row (fun x hx => eu x (by omega) (by omega) (by omega) (by omega) (by omega)) hY⟩
  unfold IS
  rw [e126, stR_row (c := c1) (eo 4 (by decide) (by decide) (by decide)) (eo 5 (by decide) (by decide) (by decide)) (eo 6 (by decide) (by decide) (by decide))]
  have r12 : R 12 ≤ 40 := by rw [hE.2.2.1]; exact hV.2.2.1.2
  exact ⟨EQR_ext hn10 r12 hs e130 hE, RV_ext hn10 (fun _ _ => rfl) e130 hV⟩
theorem may_cg {c : HC} {f n nw : Nat} (hG : IG c f n) (hS : IS c n) (hw : c 130 12 = (nw : Int)) {p : Int} (hp : p.toNat < n) (v : Int) : mayF (lenG c (f + 1) v) (c 5 p.toNat) (saidL (stR c 4) v nw 0) v = mayF (lenR c v) (c 130 (2 + p.toNat)) (saidL (c 130) v nw 0) v := by
  rw [len_GR hG.2.2.2.2.1, (IS_b hS hG.2.1.2.1 hp).1, saidL_ext (R := stR c 4) (R2 := c 130) nw 0 (fun j _ h2 => hS.1.2.2.2.2 j (by rw [hS.1.2.2.1]; omega))]
theorem s_round {c : HC} (hI : INV c) (p v q w : Int) : STEP mX10_round mX11_round 4 4 [vi p, vi v, vi q, vi w] c := by
  obtain ⟨f, fn, n, fi, cn, m, k, nt, M, hW, hG, hS, hP, hII, hD, hM, hT, hY⟩ := id hI
  have hfo := hW.o.1
  have hfn := hW.o.2
  obtain ⟨a1, a2, a3, a4, a5, a6, a7⟩ := id hG
  obtain ⟨p1, p2, p3, p4, p5, p6⟩ := id hP
  have hn10 := a2.2.1
  have h12 : c 4 2 = c 130 12 := hS.1.2.2.1
  have hb12 := hS.2.2.2.1
  obtain ⟨nw, hnw⟩ := Int.eq_ofNat_of_zero_le hb12.1
  have hnw2 : c 4 2 = (nw : Int) := h12.trans hnw
  have hRc : RV (c (f + 8 + 2)) n (stR c 4) := RV_eq (fun j hj => (a6 j hj).2.1) hS.1 hS.2
  have hx := x_round c hfo hW.2.1 a1 a2 hRc nw fi cn hnw2 (by omega) p1 p2 p3 p4 p v q w
  rw [op_cg (fun j hj => (a6 j hj).1)] at hx
  by_cases e : opF n (c 125) p q = 0
  · have hy := y_round c a3 a4 hS.2 nw cn hnw (by omega) p5 p4 p v q w
    unfold rndF rndC at hx hy
    rw [if_pos e, if_pos e] at hx hy
    exact step_rw hx hy rfl hI
  · have z := op_in e
    rw [may_cg hG hS hnw z.1, may_cg hG hS hnw z.2, show c 4 4 = c 130 1 from hS.1.2.1] at hx
    by_cases e2 : mayF (lenR c v) (c 130 (2 + p.toNat)) (saidL (c 130) v nw 0) v = 0 ∨ mayF (lenR c w) (c 130 (2 + q.toNat)) (saidL (c 130) w nw 0) w = 0 ∨ (v = w ∧ v ≠ -1)
    · have hy := y_round c a3 a4 hS.2 nw cn hnw (by omega) p5 p4 p v q w
      unfold rndF rndC at hx hy
      rw [if_neg e, if_pos e2, if_neg e, if_pos e2] at hx hy
      exact step_rw hx hy rfl hI
    · by_cases e3 : 90000 < c 130 1
      · have hy := y_round c a3 a4 hS.2 nw cn hnw (by omega) p5 p4 p v q w
        unfold rndF rndC at hx hy
        rw [if_neg e, if_neg e2, if_pos e3, if_neg e, if_neg e2, if_pos e3] at hx hy
        exact step_rw hx hy rfl hI
      · unfold rndF rndC at hx
        rw [if_neg e, if_neg e2, if_neg e3, if_neg e, if_neg e2, if_neg e3] at hx
        have hw1 : wayG c f p v q w = wayRR c p v q w := by
          unfold wayG wayRR
          rw [syl_GR a5, syl_GR a5, a5.1.2.1, way_cg (a6 _ z.1).2.2.1 (a6 _ z.2).2.2.1]
        rw [show c 4 3 = c 130 0 from hS.1.1, hw1] at hx
        generalize hc1 : putR (pushF c fi cn) 4 (playG c f n p v q w (stR c 4)) = c1 at hx
        have k1 : ∀ x, 69 ≤ x → c1 x = c x := fun x hx => by rw [← hc1, put_row (by omega), pushF_row (by omega)]
        have lenc : ∀ w, lenR c1 w = lenR c w := fun w => lenR_row (fun k _ => by rw [k1 122 (by decide)]) (k1 _ (by decide)) (k1 _ (by decide)) (k1 _ (by decide)) w
        have sylc : ∀ w, sylR c1 w = sylR c w := sylR_row (fun k _ => by rw [k1 122 (by decide)]) (k1 _ (by decide)) (k1 _ (by decide)) (k1 _ (by decide))
        have hy := y_round c1 (RGV_row (fun k _ => by rw [k1 122 (by decide)]) (k1 _ (by decide)) (k1 _ (by decide)) a3) (RSV_row (by rw [k1 122 (by decide)]) (k1 _ (by decide)) (k1 _ (by decide)) (k1 _ (by decide)) (k1 _ (by decide)) a4) (by rw [k1 126 (by decide), k1 130 (by decide)]; exact hS.2) nw cn (by rw [k1 130 (by decide)]; exact hnw) (by omega) (by rw [k1 122 (by decide)]; exact p5) p4 p v q w
        unfold rndF rndC wayRR playRR at hy
        rw [lenc, lenc, sylc, sylc, k1 125 (by decide), k1 126 (by decide), k1 127 (by decide), k1 130 (by decide), k1 122 (by decide)] at hy
        rw [if_neg e, if_neg e2, if_neg e3, if_neg e, if_neg e2, if_neg e3] at hy
        refine step_rw hx hy rfl ?_
        have m1 : mayF (lenR c v) (c 130 (2 + p.toNat)) (saidL (c 130) v nw 0) v ≠ 0 := fun h => e2 (Or.inl h)
        have m2 : mayF (lenR c w) (c 130 (2 + q.toNat)) (saidL (c 130) w nw 0) w ≠ 0 := fun h => e2 (Or.inr (Or.inl h))
        have s1 := may_syl a3 m1 (IS_b hS hn10 z.1).2.1
        have s2 := may_syl a3 m2 (IS_b hS hn10 z.2).2.1
        obtain ⟨o1, o2, o3⟩ := opF_in e
        have hpl := RV_play (bt := c 126) (n := n) (way := wayF (c 122 1) (c 127) p (sylR c v) q (sylR c w)) (v := v) (w := w) hn10 hS.2 (by omega) (fun j hj => by have := (a4.2.2 j hj).2.1; omega) (p := p) (q := q) (by omega) (by omega) o3 s1 s2
        have hEq := EQR_play (bt := c (f + 8 + 2)) (bt2 := c 126) hn10 (fun j hj => (a6 j hj).2.1) (by rw [hS.1.2.2.1]; exact hb12.1) (by rw [hS.1.2.2.1]; exact hb12.2) (wayRR c p v q w) (sylR c v) (sylR c w) v w (p := p) (q := q) (by omega) (by omega) hS.1
        have hgp : playG c f n p v q w (stR c 4) = playR (c (f + 8 + 2)) n (wayRR c p v q w) (sylR c v) (sylR c w) p v q w (stR c 4) := by
          unfold playG
          rw [hw1, syl_GR a5, syl_GR a5]
        rw [← hgp] at hEq
        refine INV_played (c1 := c1) hW hG hS hP hII hM hT hY _ _ (fun x hx _ => k1 x hx) (fun x h1 h2 => by rw [← hc1, put_row (by omega)]) (fun x h1 => by rw [← hc1, put_row (by omega), pushF_row (by omega)]) (fun k hk => by rw [← hc1]; exact st_put k hk) (fun u b1 b2 b3 => by rw [nowP_row b1, rem_row b2 b3]) (fun k b1 b2 => by rw [nowP_o (by decide), rem_f b1, k1 122 (by decide)]) (nowP_row (by decide)) (nowP_o (by decide)) (fun k hk => nowP_at hk) hEq hpl.1 ?_
        refine ⟨?_, ?_, ?_⟩
        · rw [nowP_o (by decide), rem_o (by decide) (by decide), nowP_o (by decide), rem_f (by decide), k1 87 (by decide), k1 122 (by decide)]; exact hD.1
        · rw [nowP_o (by decide), rem_f (by decide), k1 122 (by decide)]; exact hD.2.1
        · rw [nowP_o (by decide), rem_f (by decide), k1 122 (by decide)]; exact hD.2.2
theorem nth_df {sd : Nat → Int} {s df df2 : Int} : ∀ (m p : Nat) (left : Int), 0 ≤ left → left < cntU sd s (p + m) - cntU sd s p → nthL sd s df m p left = nthL sd s df2 m p left
  | 0, p, left, h0, h1 => by
    rw [Nat.add_zero] at h1
    omega
  | m + 1, p, left, h0, h1 => by
    rw [show p + (m + 1) = (p + 1) + m by omega] at h1
    rw [nthL.eq_2, nthL.eq_2]
    have e : cntU sd s (p + 1) = if sd p = s then cntU sd s p + 1 else cntU sd s p := rfl
    by_cases hs : sd p = s
    · rw [if_pos hs, if_pos hs]
      rw [if_pos hs] at e
      by_cases hl : left = 0
      · rw [if_pos hl, if_pos hl]
      · rw [if_neg hl, if_neg hl]
        exact nth_df m (p + 1) (left - 1) (by omega) (by omega)
    · rw [if_neg hs, if_neg hs]
      rw [if_neg hs] at e
      exact nth_df m (p + 1) left h0 (by omega)
theorem nth_GR {c : HC} {f n : Nat} {s sd : Int} (hq : SPQ c f n) (h : 0 < cntU (c 125) sd n) : nthG c f n s sd = nthR c n s sd := by
  have hd := drawF_bd (s := s) h
  have ec : cntU (c (f + 8 + 1)) sd n = cntU (c 125) sd n := cnt_cg sd n (fun j hj => (hq j hj).1)
  unfold nthG nthR
  rw [ec, nth_cg (sd := c (f + 8 + 1)) (sd2 := c 125) sd 0 n 0 _ (fun j _ h2 => (hq j (by omega)).1)]
  exact nth_df n 0 _ hd.1 (by rw [Nat.zero_add]; show drawF s (cntU (c 125) sd n) < cntU (c 125) sd n - 0; omega)
theorem dw_GR {c : HC} {f n : Nat} {R S : Nat → Int} (hG : IG c f n) (hE : EQR n R S) (hV : RV (c 126) n S) (s ot : Int) {r : Nat} (hr : r < n) : dwG c f (R 12).toNat R s (r : Int) ot = dwR c (S 12).toNat S s (r : Int) ot := by
  obtain ⟨a1, a2, a3, a4, a5, a6, a7⟩ := hG
  have h12 := hV.2.2.1
  have e12 := hE.2.2.1
  unfold dwG dwR
  rw [Int.toNat_natCast, hE.2.2.2.1 r hr, (a6 r hr).2.2.2, wd_TB a7 (hV.2.2.2 r hr).1, e12, saidL_ext (R := R) (R2 := S) _ 0 (fun j _ h2 => hE.2.2.2.2 j (by omega))]
theorem it_GR {c : HC} {f n : Nat} (hG : IG c f n) (h0 : 0 < cntU (c 125) 0 n) (h1 : 0 < cntU (c 125) 1 n) (x y : Int × (Nat → Int)) (hs : x.1 = y.1) (hE : EQR n x.2 y.2) (hV : RV (c 126) n y.2) : (itG c f n x).1 = (itR c n y).1 ∧ EQR n (itG c f n x).2 (itR c n y).2 := by
  obtain ⟨a1, a2, a3, a4, a5, a6, a7⟩ := id hG
  have hn10 := a2.2.1
  obtain ⟨p, hp, hpn, _⟩ := nthR_in (s := y.1) h0
  obtain ⟨q, hq, hqn, _⟩ := nthR_in (s := drw (drw y.1)) h1
  unfold itG itR
  rw [hs, nth_GR a6 h0, nth_GR a6 h1, hp, hq, dw_GR hG hE hV _ _ hpn, dw_GR hG hE hV _ _ hqn]
  refine ⟨rfl, ?_⟩
  have h12 := hV.2.2.1
  have e12 := hE.2.2.1
  generalize dwR c (y.2 12).toNat y.2 (drw y.1) (p : Int) (-1) = V
  generalize dwR c (y.2 12).toNat y.2 (drw (drw (drw y.1))) (q : Int) V = U
  have hw1 : wayG c f (p : Int) V (q : Int) U = wayRR c (p : Int) V (q : Int) U := by
    unfold wayG wayRR
    rw [syl_GR a5, syl_GR a5, a5.1.2.1, way_cg (p := (p : Int)) (q := (q : Int)) (a6 _ hpn).2.2.1 (a6 _ hqn).2.2.1]
  show EQR n (playR (c (f + 8 + 2)) n (wayG c f (p : Int) V (q : Int) U) (sylG c (f + 1) V) (sylG c (f + 1) U) (p : Int) V (q : Int) U x.2) (playR (c 126) n (wayRR c (p : Int) V (q : Int) U) (sylR c V) (sylR c U) (p : Int) V (q : Int) U y.2)
  rw [hw1, syl_GR a5, syl_GR a5]
  exact EQR_play hn10 (fun j hj => (a6 j hj).2.1) (by omega) (by omega) _ _ _ V U (by omega) (by omega) hE
theorem itU_GR {c : HC} {f n : Nat} (hG : IG c f n) (h0 : 0 < cntU (c 125) 0 n) (h1 : 0 < cntU (c 125) 1 n) (x y : Int × (Nat → Int)) (hs : x.1 = y.1) (hsy : 0 ≤ y.1 ∧ y.1 ≤ 2147483647) (hE : EQR n x.2 y.2) (hV : RV (c 126) n y.2) (hr : y.2 1 ≤ 90000) : ∀ k, k ≤ 100 → (itU c f n x k).1 = (itV c n y k).1 ∧ EQR n (itU c f n x k).2 (itV c n y k).2
  | 0, _ => ⟨hs, hE⟩
  | k + 1, hk => by
    have ih := itU_GR hG h0 h1 x y hs hsy hE hV hr k (by omega)
    have ok := itV_ok hG.2.2.1 hG.2.2.2.1 hG.2.2.2.2.2.2.2.2 h0 h1 y hsy hV hr k (by omega)
    exact it_GR hG h0 h1 _ _ ih.1 ih.2 ok.1
theorem s_drift {c : HC} (hI : INV c) (x : Int) : STEP mX10_drift mX11_drift 4 4 [vi x] c := by
  obtain ⟨f, fn, n, fi, cn, m, k, nt, M, hW, hG, hS, hP, hII, hDD, hM, hT, hY⟩ := id hI
  have hfo := hW.o.1
  have hfn := hW.o.2
  obtain ⟨a1, a2, a3, a4, a5, a6, a7⟩ := id hG
  obtain ⟨p1, p2, p3, p4, p5, p6⟩ := id hP
  have hn10 := a2.2.1
  have c0 := cntU_bd (c 125) 0 n
  have c1b := cntU_bd (c 125) 1 n
  have hRc : RV (c (f + 8 + 2)) n (stR c 4) := RV_eq (fun j hj => (a6 j hj).2.1) hS.1 hS.2
  have hx := x_drift c hfo hW.2.1 a1 a2 (TBV_of hG) hRc (by rw [hDD.1]; exact hDD.2) fi cn p1 p2 p3 p4 x
  rw [cnt_cg 0 n (fun j hj => (a6 j hj).1), cnt_cg 1 n (fun j hj => (a6 j hj).1), show c 4 4 = c 130 1 from hS.1.2.1] at hx
  by_cases e : x < 1 ∨ 99 < x
  · have hy := y_drift c a3 a4 a7.2.2 hS.2 hDD.2 cn p5 p4 x
    unfold drfF drfC at hx hy
    rw [if_pos e, if_pos e] at hx hy
    exact step_rw hx hy rfl hI
  · by_cases e2 : cntU (c 125) 0 n = 0 ∨ cntU (c 125) 1 n = 0
    · have hy := y_drift c a3 a4 a7.2.2 hS.2 hDD.2 cn p5 p4 x
      unfold drfF drfC at hx hy
      rw [if_neg e, if_pos e2, if_neg e, if_pos e2] at hx hy
      exact step_rw hx hy rfl hI
    · by_cases e3 : 90000 < c 130 1
      · have hy := y_drift c a3 a4 a7.2.2 hS.2 hDD.2 cn p5 p4 x
        unfold drfF drfC at hx hy
        rw [if_neg e, if_neg e2, if_pos e3, if_neg e, if_neg e2, if_pos e3] at hx hy
        exact step_rw hx hy rfl hI
      · unfold drfF drfC at hx
        rw [if_neg e, if_neg e2, if_neg e3, if_neg e, if_neg e2, if_neg e3] at hx
        have g0 : 0 < cntU (c 125) 0 n := by omega
        have g1 : 0 < cntU (c 125) 1 n := by omega
        have hit := itU_GR hG g0 g1 (c 87 0, stR c 4) (c 122 13, c 130) hDD.1 hDD.2 hS.1 hS.2 (show c 130 1 ≤ 90000 by omega) x.toNat (by omega)
        have hok := itV_ok a3 a4 a7.2.2 g0 g1 (c 122 13, c 130) hDD.2 hS.2 (show c 130 1 ≤ 90000 by omega) x.toNat (by omega)
        generalize hU : itU c f n (c 87 0, stR c 4) x.toNat = U at hx hit
        generalize hc1 : hD (pushF c fi cn) U.1 U.2 = c1 at hx
        have k1 : ∀ x, 69 ≤ x → x ≠ 87 → c1 x = c x := fun x h1 h2 => by rw [← hc1, hD_row (by omega) h2, pushF_row (by omega)]
        have k87 : c1 87 0 = U.1 := by rw [← hc1, hD_seed]
        have sylc : ∀ w, sylR c1 w = sylR c w := sylR_row (fun k _ => by rw [k1 122 (by decide) (by decide)]) (k1 _ (by decide) (by decide)) (k1 _ (by decide) (by decide)) (k1 _ (by decide) (by decide))
        have hitc : ∀ x, itR c1 n x = itR c n x := fun x => by
          unfold itR playRR nthR dwR
          simp only [sylc, k1 122 (by decide) (by decide), k1 125 (by decide) (by decide), k1 126 (by decide) (by decide), k1 127 (by decide) (by decide), k1 128 (by decide) (by decide), k1 140 (by decide) (by decide), k1 141 (by decide) (by decide)]
        have hitV : ∀ x k, itV c1 n x k = itV c n x k := fun x k => by
          induction k with
          | zero => rfl
          | succ k ih => rw [itV.eq_2, itV.eq_2, ih, hitc]
        have htb : TBR c1 := fun l hl => by
          rw [k1 141 (by decide) (by decide), k1 140 (by decide) (by decide), lenR_row (c := c) (fun k hk => by rw [k1 122 (by decide) (by decide)]) (k1 _ (by decide) (by decide)) (k1 _ (by decide) (by decide)) (k1 _ (by decide) (by decide))]
          exact a7.2.2 l hl
        have hy := y_drift c1 (RGV_row (fun k _ => by rw [k1 122 (by decide) (by decide)]) (k1 _ (by decide) (by decide)) (k1 _ (by decide) (by decide)) a3) (RSV_row (by rw [k1 122 (by decide) (by decide)]) (k1 _ (by decide) (by decide)) (k1 _ (by decide) (by decide)) (k1 _ (by decide) (by decide)) (k1 _ (by decide) (by decide)) a4) htb (by rw [k1 126 (by decide) (by decide), k1 130 (by decide) (by decide)]; exact hS.2) (by rw [k1 122 (by decide) (by decide)]; exact hDD.2) cn (by rw [k1 122 (by decide) (by decide)]; exact p5) p4 x
        rw [hitV, k1 125 (by decide) (by decide), k1 130 (by decide) (by decide), k1 122 (by decide) (by decide)] at hy
        unfold drfF drfC at hy
        rw [if_neg e, if_neg e2, if_neg e3, if_neg e, if_neg e2, if_neg e3] at hy
        generalize hV : itV c n (c 122 13, c 130) x.toNat = VV at hy hit hok
        refine step_rw hx hy (by rw [hit.2.1]) ?_
        refine INV_played (c1 := c1) hW hG hS hP hII hM hT hY U.2 VV.2 k1 (fun x h1 h2 => by rw [← hc1, hD_row (by omega) (by omega)]) (fun x h1 => by rw [← hc1, hD_row (by omega) (by omega), pushF_row (by omega)]) (fun k hk => by rw [← hc1]; exact st_put k hk) (fun u b1 b2 b3 => by rw [hRR_row b1 b3, rem_row b2 b3]) (fun k b1 b2 => by rw [hRR_f b2, rem_f b1, k1 122 (by decide) (by decide)]) (hRR_row (by decide) (by decide)) (hRR_f (by decide)) (fun k hk => hRR_at hk) hit.2 hok.1 ?_
        refine ⟨?_, ?_, ?_⟩
        · rw [hRR_row (by decide) (by decide), rem_row (by decide) (by decide), hRR_seed, k87]; exact hit.1
        · rw [hRR_seed]; exact hok.2.2.1
        · rw [hRR_seed]; exact hok.2.2.2
