/-! game and order, both sides -/
theorem s_game {c : HC} (hI : INV c) (a x l : Int) : STEP mX10_game mX11_game 5 1 [vi a, vi x, vi l] c := by
  obtain ⟨f, fn, n, fi, cn, m, k, nt, M, hW, hG, hS, hP, hII, hD, hM, hT, hY⟩ := id hI
  have hfo := hW.o.1
  have hfn := hW.o.2
  refine CC.mono (x_game c M hY a x l) (fun v c1 h => ?_)
  obtain ⟨rfl, hF, M2, hM2⟩ := h
  refine ⟨_, rfl, CC.mono (y_game c1 a x l) (fun w c2 h2 => ?_)⟩
  obtain ⟨rfl, hF2⟩ := h2
  refine ⟨rfl, ?_⟩
  have eo : ∀ u, u < 70 ∨ 73 < u → u ≠ 143 → c2 u = c u := fun u h1 h2 => (hF2 u h2).trans (hF u h1)
  refine ⟨f, fn, n, fi, cn, m, k, nt, M2, IW_row (congrFun (eo 1 (by decide) (by decide)) 10) (congrFun (eo 1 (by decide) (by decide)) 11) (congrFun (eo (fn + 1 + 6) (by omega) (by omega)) 0) hW, IG_row (fun x hx => eo x (by omega) (by omega)) (fun k hk => congrFun (eo 122 (by decide) (by decide)) k) hG, IS_row (fun x hx => eo x (by omega) (by omega)) hS, IP_row (fun x hx => eo x (by omega) (by omega)) (congrFun (eo 122 (by decide) (by decide)) 34) hP, II_row (fun x hx => eo x (by omega) (by omega)) hII, ID_row (congrFun (eo 87 (by decide) (by decide)) 0) (congrFun (eo 122 (by decide) (by decide)) 13) hD, IM_row (fun x hx => eo x (by omega) (by omega)) ⟨congrFun (eo 1 (by decide) (by decide)) 12, congrFun (eo 1 (by decide) (by decide)) 13⟩ ⟨congrFun (eo 122 (by decide) (by decide)) 37, congrFun (eo 122 (by decide) (by decide)) 39⟩ hM, IT_row (eo 3 (by decide) (by decide)) (eo 131 (by decide) (by decide)) ⟨congrFun (eo 2 (by decide) (by decide)) 1, congrFun (eo 2 (by decide) (by decide)) 5⟩ ⟨congrFun (eo 122 (by decide) (by decide)) 15, congrFun (eo 122 (by decide) (by decide)) 16⟩ hT, GI_row (fun x hx => hF2 x (by omega)) hM2⟩
theorem s_order {c : HC} (hI : INV c) (s v i : Int) : STEP mX10_order mX11_order 4 3 [vi s, vi v, vi i] c := by
  obtain ⟨f, fn, n, fi, cn, m, k, nt, M, hW, hG, hS, hP, hII, hD, hM, hT, hY⟩ := id hI
  have hfo := hW.o.1
  have hfn := hW.o.2
  obtain ⟨a1, a2, a3, a4, a5, a6, a7⟩ := id hG
  have hn10 := a2.2.1
  have hl : ∀ k, k < 42 → 0 ≤ c (f + 1 + 6) k ∧ c (f + 1 + 6) k ≤ 41 := fun k hk => by have := TB_bd a7 k hk; omega
  have hb : ∀ p, p < n → c 5 p = c 130 (2 + p) ∧ 0 ≤ c 130 (2 + p) ∧ c 130 (2 + p) ≤ 40 ∧ (1 ≤ c 126 p ∧ c 126 p ≤ 40) := fun p hp => by
    have z := IS_b hS hn10 hp
    have y := (a4.2.2 p hp).2.1
    exact ⟨z.1, z.2.1, by omega, y⟩
  have hcnt : cntU (c (f + 8 + 1)) s n = cntU (c 125) s n := cnt_cg s n (fun j hj => (a6 j hj).1)
  refine CC.mono (x_order c hfo hW.2.1 a1 a2 hl (fun p hp => by rw [(hb p hp).1]; exact ⟨(hb p hp).2.1, (hb p hp).2.2.1⟩) s v i) (fun v_ c1 h => ?_)
  obtain ⟨rfl, hF⟩ := h
  have k1 : ∀ x, 83 < x → c1 x = c x := fun x hx => hF x (by omega)
  have hy := y_order c1 (np := n) (RSV_row (by rw [k1 122 (by decide)]) (k1 _ (by decide)) (k1 _ (by decide)) (k1 _ (by decide)) (k1 _ (by decide)) a4) (fun p hp => by rw [k1 130 (by decide)]; exact ⟨(hb p hp).2.1, (hb p hp).2.2.1⟩) s v i (mbF c f n s) (prF c f n s v) (fun q hq hv => prF_bd a1 a2 hl hv (by rw [hcnt, ← k1 125 (by decide)]; exact hq)) (fun q hq hv j hj => by
    rw [k1 125 (by decide)] at hq ⊢
    obtain ⟨r, h1, h2, h3⟩ := nthL_in (sd := c 125) (s := s) (df := -1) n 0 (j : Int) (by omega) (by rw [Nat.zero_add, hq]; show (j : Int) < (q : Int) - 0; omega)
    have hmb : mbF c f n s j = (r : Int) := by
      unfold mbF
      rw [nth_cg (sd := c (f + 8 + 1)) (sd2 := c 125) s 0 n 0 _ (fun j _ h2 => (a6 j (by omega)).1), ← h1]
      exact nth_df n 0 _ (by omega) (by rw [Nat.zero_add, hq]; show (j : Int) < (q : Int) - 0; omega)
    have hr : r < n := by omega
    refine ⟨r, h1, hr, hmb, fun y hy => ?_⟩
    have z := hb r hr
    unfold prF prQ pR
    rw [hmb, Int.toNat_natCast, k1 122 (by decide), k1 126 (by decide), k1 127 (by decide), k1 130 (by decide), k1 141 (by decide), a5.1.2.1, (a6 r hr).2.1, (a6 r hr).2.2.1, z.1, lw_TB a7]
    unfold imin
    split <;> omega)
  rw [k1 125 (by decide), ← hcnt] at hy
  refine ⟨_, rfl, CC.mono hy (fun w c2 h2 => ?_)⟩
  obtain ⟨rfl, rfl⟩ := h2
  refine ⟨rfl, ?_⟩
  have eo : ∀ u, u < 74 ∨ 83 < u → c2 u = c u := hF
  exact ⟨f, fn, n, fi, cn, m, k, nt, M, IW_row (congrFun (eo 1 (by decide)) 10) (congrFun (eo 1 (by decide)) 11) (congrFun (eo (fn + 1 + 6) (by omega)) 0) hW, IG_row (fun x hx => eo x (by omega)) (fun k hk => congrFun (eo 122 (by decide)) k) hG, IS_row (fun x hx => eo x (by omega)) hS, IP_row (fun x hx => eo x (by omega)) (congrFun (eo 122 (by decide)) 34) hP, II_row (fun x hx => eo x (by omega)) hII, ID_row (congrFun (eo 87 (by decide)) 0) (congrFun (eo 122 (by decide)) 13) hD, IM_row (fun x hx => eo x (by omega)) ⟨congrFun (eo 1 (by decide)) 12, congrFun (eo 1 (by decide)) 13⟩ ⟨congrFun (eo 122 (by decide)) 37, congrFun (eo 122 (by decide)) 39⟩ hM, IT_row (eo 3 (by decide)) (eo 131 (by decide)) ⟨congrFun (eo 2 (by decide)) 1, congrFun (eo 2 (by decide)) 5⟩ ⟨congrFun (eo 122 (by decide)) 15, congrFun (eo 122 (by decide)) 16⟩ hT, GI_row (fun x hx => eo x (by omega)) hY⟩
