/-! calls that change a few fields -/
section ST
variable {c : HC}
theorem s_feed (hI : INV c) (x : Int) : STEP mX10_feed mX11_feed 1 1 [vi x] c := by
  obtain ⟨f, fn, n, fi, cn, m, k, nt, M, hW, hG, hS, hP, hII, hD, hM, hT, hY⟩ := id hI
  have hfo := hW.o.1
  have hfn := hW.o.2
  obtain ⟨t1, t2, t3, t4, t5, t6⟩ := id hT
  by_cases h1 : x < 0 ∨ 255 < x
  · have e1 : fdC c nt x = c := by unfold fdC; rw [if_pos h1]
    have e2 : fdR c nt x = c := by unfold fdR; rw [if_pos h1]
    refine step_rw (x_feed c nt t1 t3 x) (y_feed (fdC c nt x) nt (by rw [e1]; exact t2) t3 x) rfl ?_
    rw [e1, e2]
    exact hI
  · by_cases h2 : 250 ≤ nt
    · have e1 : fdC c nt x = c := by unfold fdC; rw [if_neg h1, if_pos h2]
      have e2 : fdR c nt x = c := by unfold fdR; rw [if_neg h1, if_pos h2]
      refine step_rw (x_feed c nt t1 t3 x) (y_feed (fdC c nt x) nt (by rw [e1]; exact t2) t3 x) rfl ?_
      rw [e1, e2]
      exact hI
    · have e1 : fdC c nt x = up2 (up2 c 3 nt x) 2 1 ((nt : Int) + 1) := by unfold fdC; rw [if_neg h1, if_neg h2]
      refine step_rw (x_feed c nt t1 t3 x) (y_feed (fdC c nt x) nt (by rw [e1, up2_a _ _ (by decide), up2_a _ _ (by decide)]; exact t2) t3 x) rfl ?_
      rw [e1]
      unfold fdR
      rw [if_neg h1, if_neg h2]
      have eo : ∀ u : Nat, u ≠ 3 → u ≠ 131 → u ≠ 2 → u ≠ 122 → (up2 (up2 (up2 (up2 c 3 nt x) 2 1 ((nt : Int) + 1)) 131 nt x) 122 15 ((nt : Int) + 1)) u = c u := by
        intro u hh3 hh131 hh2 hh122
        funext w
        simp [up2_g, hh3, hh131, hh2, hh122]
      have e2 : ∀ w : Nat, w ≠ 1 → (up2 (up2 (up2 (up2 c 3 nt x) 2 1 ((nt : Int) + 1)) 131 nt x) 122 15 ((nt : Int) + 1)) 2 w = c 2 w := by
        intro w hh1
        simp [up2_g, hh1]
      have e122 : ∀ w : Nat, w ≠ 15 → (up2 (up2 (up2 (up2 c 3 nt x) 2 1 ((nt : Int) + 1)) 131 nt x) 122 15 ((nt : Int) + 1)) 122 w = c 122 w := by
        intro w hh15
        simp [up2_g, hh15]
      refine ⟨f, fn, n, fi, cn, m, k, nt + 1, M, IW_row (congrFun (eo 1 (by decide) (by decide) (by decide) (by decide)) 10) (congrFun (eo 1 (by decide) (by decide) (by decide) (by decide)) 11) (congrFun (eo (fn + 1 + 6) (by omega) (by omega) (by omega) (by omega)) 0) hW, IG_row (fun x hx => eo x (by omega) (by omega) (by omega) (by omega)) (fun k hk => e122 k (by omega)) hG, IS_row (fun x hx => eo x (by omega) (by omega) (by omega) (by omega)) hS, IP_row (fun x hx => eo x (by omega) (by omega) (by omega) (by omega)) (e122 34 (by decide)) hP, II_row (fun x hx => eo x (by omega) (by omega) (by omega) (by omega)) hII, ID_row (congrFun (eo 87 (by decide) (by decide) (by decide) (by decide)) 0) (e122 13 (by decide)) hD, IM_row (fun x hx => eo x (by omega) (by omega) (by omega) (by omega)) ⟨(congrFun (eo 1 (by decide) (by decide) (by decide) (by decide)) 12), (congrFun (eo 1 (by decide) (by decide) (by decide) (by decide)) 13)⟩ ⟨(e122 37 (by decide)), (e122 39 (by decide))⟩ hM, ?_, GI_row (fun x hx => eo x (by omega) (by omega) (by omega) (by omega)) hY⟩
      refine ⟨by simp [up2_g], by simp [up2_g], by omega, ?_, ?_, ?_⟩
      · funext j
        have z := congrFun t4 j
        by_cases e : j = nt
        · simp [up2_g, e]
        · simpa [up2_g, e] using z
      · intro j
        by_cases e : j = nt
        · simp [up2_g, e]; omega
        · simpa [up2_g, e] using t5 j
      · simpa [up2_g] using t6
theorem s_mark (hI : INV c) (x : Int) : STEP mX10_mark mX11_mark 0 1 [vi x] c := by
  obtain ⟨f, fn, n, fi, cn, m, k, nt, M, hW, hG, hS, hP, hII, hD, hM, hT, hY⟩ := id hI
  have hfo := hW.o.1
  have hfn := hW.o.2
  by_cases h1 : x < -99 ∨ 99 < x
  · have e1 : mkC c m x = c := by unfold mkC; rw [if_pos h1]
    have e2 : mkR c m x = c := by unfold mkR; rw [if_pos h1]
    refine step_rw (x_mark c m hM.1.1 hM.1.2.2.1 x) (y_mark (mkC c m x) m (by rw [e1]; exact hM.1.2.1) hM.1.2.2.1 x) rfl ?_
    rw [e1, e2]
    exact hI
  · by_cases h2 : 8 ≤ m
    · have e1 : mkC c m x = c := by unfold mkC; rw [if_neg h1, if_pos h2]
      have e2 : mkR c m x = c := by unfold mkR; rw [if_neg h1, if_pos h2]
      refine step_rw (x_mark c m hM.1.1 hM.1.2.2.1 x) (y_mark (mkC c m x) m (by rw [e1]; exact hM.1.2.1) hM.1.2.2.1 x) rfl ?_
      rw [e1, e2]
      exact hI
    · have e1 : mkC c m x = up2 (up2 c 84 m x) 1 12 ((m : Int) + 1) := by unfold mkC; rw [if_neg h1, if_neg h2]
      refine step_rw (x_mark c m hM.1.1 hM.1.2.2.1 x) (y_mark (mkC c m x) m (by rw [e1]; simpa [up2_g] using hM.1.2.1) hM.1.2.2.1 x) rfl ?_
      rw [e1]
      unfold mkR
      rw [if_neg h1, if_neg h2]
      have eo : ∀ u : Nat, u ≠ 84 → u ≠ 144 → u ≠ 1 → u ≠ 122 → (up2 (up2 (up2 (up2 c 84 m x) 1 12 ((m : Int) + 1)) 144 m x) 122 37 ((m : Int) + 1)) u = c u := by
        intro u hh84 hh144 hh1 hh122
        funext w
        simp [up2_g, hh84, hh144, hh1, hh122]
      have e1 : ∀ w : Nat, w ≠ 12 → (up2 (up2 (up2 (up2 c 84 m x) 1 12 ((m : Int) + 1)) 144 m x) 122 37 ((m : Int) + 1)) 1 w = c 1 w := by
        intro w hh12
        simp [up2_g, hh12]
      have e122 : ∀ w : Nat, w ≠ 37 → (up2 (up2 (up2 (up2 c 84 m x) 1 12 ((m : Int) + 1)) 144 m x) 122 37 ((m : Int) + 1)) 122 w = c 122 w := by
        intro w hh37
        simp [up2_g, hh37]
      refine ⟨f, fn, n, fi, cn, m + 1, k, nt, M, IW_row (e1 10 (by decide)) (e1 11 (by decide)) (congrFun (eo (fn + 1 + 6) (by omega) (by omega) (by omega) (by omega)) 0) hW, IG_row (fun x hx => eo x (by omega) (by omega) (by omega) (by omega)) (fun k hk => e122 k (by omega)) hG, IS_row (fun x hx => eo x (by omega) (by omega) (by omega) (by omega)) hS, IP_row (fun x hx => eo x (by omega) (by omega) (by omega) (by omega)) (e122 34 (by decide)) hP, II_row (fun x hx => eo x (by omega) (by omega) (by omega) (by omega)) hII, ID_row (congrFun (eo 87 (by decide) (by decide) (by decide) (by decide)) 0) (e122 13 (by decide)) hD, ?_, IT_row (eo 3 (by decide) (by decide) (by decide) (by decide)) (eo 131 (by decide) (by decide) (by decide) (by decide)) ⟨(congrFun (eo 2 (by decide) (by decide) (by decide) (by decide)) 1), (congrFun (eo 2 (by decide) (by decide) (by decide) (by decide)) 5)⟩ ⟨(e122 15 (by decide)), (e122 16 (by decide))⟩ hT, GI_row (fun x hx => eo x (by omega) (by omega) (by omega) (by omega)) hY⟩
      obtain ⟨⟨q1, q2, q3, q4⟩, r1, r2, r3, r4⟩ := hM
      refine ⟨⟨by simp [up2_g], by simp [up2_g], by omega, fun j hj => ?_⟩, by simpa [up2_g] using r1, by simpa [up2_g] using r2, r3, fun j hj => by simpa [up2_g] using r4 j hj⟩
      by_cases e : j = m
      · simp [up2_g, e]; omega
      · simpa [up2_g, e] using q4 j (by omega)
theorem s_write (hI : INV c) (x y : Int) : STEP mX10_write mX11_write 0 1 [vi x, vi y] c := by
  obtain ⟨f, fn, n, fi, cn, m, k, nt, M, hW, hG, hS, hP, hII, hD, hM, hT, hY⟩ := id hI
  have hfo := hW.o.1
  have hfn := hW.o.2
  by_cases h1 : (x < 0 ∨ 999 < x) ∨ (y < -500 ∨ 500 < y)
  · have e1 : wtC c k x y = c := by unfold wtC; rw [if_pos h1]
    have e2 : wtR c k x y = c := by unfold wtR; rw [if_pos h1]
    refine step_rw (x_write c k hM.2.1 hM.2.2.2.1 x y) (y_write (wtC c k x y) k (by rw [e1]; exact hM.2.2.1) hM.2.2.2.1 x y) rfl ?_
    rw [e1, e2]
    exact hI
  · by_cases h2 : 15 ≤ k
    · have e1 : wtC c k x y = c := by unfold wtC; rw [if_neg h1, if_pos h2]
      have e2 : wtR c k x y = c := by unfold wtR; rw [if_neg h1, if_pos h2]
      refine step_rw (x_write c k hM.2.1 hM.2.2.2.1 x y) (y_write (wtC c k x y) k (by rw [e1]; exact hM.2.2.1) hM.2.2.2.1 x y) rfl ?_
      rw [e1, e2]
      exact hI
    · have e1 : wtC c k x y = up2 (up2 (up2 c 85 k x) 86 k y) 1 13 ((k : Int) + 1) := by unfold wtC; rw [if_neg h1, if_neg h2]
      refine step_rw (x_write c k hM.2.1 hM.2.2.2.1 x y) (y_write (wtC c k x y) k (by rw [e1]; simpa [up2_g] using hM.2.2.1) hM.2.2.2.1 x y) rfl ?_
      rw [e1]
      unfold wtR
      rw [if_neg h1, if_neg h2]
      have eo : ∀ u : Nat, u ≠ 85 → u ≠ 86 → u ≠ 145 → u ≠ 146 → u ≠ 1 → u ≠ 122 → (up2 (up2 (up2 (up2 (up2 (up2 c 85 k x) 86 k y) 1 13 ((k : Int) + 1)) 145 k x) 146 k y) 122 39 ((k : Int) + 1)) u = c u := by
        intro u hh85 hh86 hh145 hh146 hh1 hh122
        funext w
        simp [up2_g, hh85, hh86, hh145, hh146, hh1, hh122]
      have e1 : ∀ w : Nat, w ≠ 13 → (up2 (up2 (up2 (up2 (up2 (up2 c 85 k x) 86 k y) 1 13 ((k : Int) + 1)) 145 k x) 146 k y) 122 39 ((k : Int) + 1)) 1 w = c 1 w := by
        intro w hh13
        simp [up2_g, hh13]
      have e122 : ∀ w : Nat, w ≠ 39 → (up2 (up2 (up2 (up2 (up2 (up2 c 85 k x) 86 k y) 1 13 ((k : Int) + 1)) 145 k x) 146 k y) 122 39 ((k : Int) + 1)) 122 w = c 122 w := by
        intro w hh39
        simp [up2_g, hh39]
      refine ⟨f, fn, n, fi, cn, m, k + 1, nt, M, IW_row (e1 10 (by decide)) (e1 11 (by decide)) (congrFun (eo (fn + 1 + 6) (by omega) (by omega) (by omega) (by omega) (by omega) (by omega)) 0) hW, IG_row (fun x hx => eo x (by omega) (by omega) (by omega) (by omega) (by omega) (by omega)) (fun k hk => e122 k (by omega)) hG, IS_row (fun x hx => eo x (by omega) (by omega) (by omega) (by omega) (by omega) (by omega)) hS, IP_row (fun x hx => eo x (by omega) (by omega) (by omega) (by omega) (by omega) (by omega)) (e122 34 (by decide)) hP, II_row (fun x hx => eo x (by omega) (by omega) (by omega) (by omega) (by omega) (by omega)) hII, ID_row (congrFun (eo 87 (by decide) (by decide) (by decide) (by decide) (by decide) (by decide)) 0) (e122 13 (by decide)) hD, ?_, IT_row (eo 3 (by decide) (by decide) (by decide) (by decide) (by decide) (by decide)) (eo 131 (by decide) (by decide) (by decide) (by decide) (by decide) (by decide)) ⟨(congrFun (eo 2 (by decide) (by decide) (by decide) (by decide) (by decide) (by decide)) 1), (congrFun (eo 2 (by decide) (by decide) (by decide) (by decide) (by decide) (by decide)) 5)⟩ ⟨(e122 15 (by decide)), (e122 16 (by decide))⟩ hT, GI_row (fun x hx => eo x (by omega) (by omega) (by omega) (by omega) (by omega) (by omega)) hY⟩
      obtain ⟨⟨q1, q2, q3, q4⟩, r1, r2, r3, r4⟩ := hM
      refine ⟨⟨by simpa [up2_g] using q1, by simpa [up2_g] using q2, q3, fun j hj => by simpa [up2_g] using q4 j hj⟩, by simp [up2_g], by simp [up2_g], by omega, fun j hj => ?_⟩
      by_cases e : j = k
      · simp [up2_g, e]
      · simpa [up2_g, e] using r4 j (by omega)
theorem s_tear (hI : INV c) : STEP mX10_tear mX11_tear 0 0 [] c := by
  obtain ⟨f, fn, n, fi, cn, m, k, nt, M, hW, hG, hS, hP, hII, hD, hM, hT, hY⟩ := id hI
  have hfo := hW.o.1
  have hfn := hW.o.2
  obtain ⟨⟨q1, q2, q3, q4⟩, r1, r2, r3, r4⟩ := id hM
  refine step_rw (x_tear c m k q1 r1 q3 r3) (y_tear (up2 (up2 c 1 12 0) 1 13 0) m k (by simpa [up2_g] using q2) (by simpa [up2_g] using r2) q3 r3) rfl ?_
  have eo : ∀ u : Nat, u ≠ 1 → u ≠ 122 → (up2 (up2 (up2 (up2 c 1 12 0) 1 13 0) 122 37 0) 122 39 0) u = c u := by
    intro u hh1 hh122
    funext w
    simp [up2_g, hh1, hh122]
  have e1 : ∀ w : Nat, w ≠ 12 → w ≠ 13 → (up2 (up2 (up2 (up2 c 1 12 0) 1 13 0) 122 37 0) 122 39 0) 1 w = c 1 w := by
    intro w hh12 hh13
    simp [up2_g, hh12, hh13]
  have e122 : ∀ w : Nat, w ≠ 37 → w ≠ 39 → (up2 (up2 (up2 (up2 c 1 12 0) 1 13 0) 122 37 0) 122 39 0) 122 w = c 122 w := by
    intro w hh37 hh39
    simp [up2_g, hh37, hh39]
  exact ⟨f, fn, n, fi, cn, 0, 0, nt, M, IW_row (e1 10 (by decide) (by decide)) (e1 11 (by decide) (by decide)) (congrFun (eo (fn + 1 + 6) (by omega) (by omega)) 0) hW, IG_row (fun x hx => eo x (by omega) (by omega)) (fun k hk => e122 k (by omega) (by omega)) hG, IS_row (fun x hx => eo x (by omega) (by omega)) hS, IP_row (fun x hx => eo x (by omega) (by omega)) (e122 34 (by decide) (by decide)) hP, II_row (fun x hx => eo x (by omega) (by omega)) hII, ID_row (congrFun (eo 87 (by decide) (by decide)) 0) (e122 13 (by decide) (by decide)) hD, ⟨⟨by simp [up2_g], by simp [up2_g], by decide, fun j hj => by omega⟩, by simp [up2_g], by simp [up2_g], by decide, fun j hj => by omega⟩, IT_row (eo 3 (by decide) (by decide)) (eo 131 (by decide) (by decide)) ⟨(congrFun (eo 2 (by decide) (by decide)) 1), (congrFun (eo 2 (by decide) (by decide)) 5)⟩ ⟨(e122 15 (by decide) (by decide)), (e122 16 (by decide) (by decide))⟩ hT, GI_row (fun x hx => eo x (by omega) (by omega)) hY⟩
theorem s_seed (hI : INV c) (x : Int) (hx : x ≤ 2147483647) : STEP mX10_seed mX11_seed 0 0 [vi x] c := by
  obtain ⟨f, fn, n, fi, cn, m, k, nt, M, hW, hG, hS, hP, hII, hD, hM, hT, hY⟩ := id hI
  have hfo := hW.o.1
  have hfn := hW.o.2
  by_cases h1 : x < 0
  · refine step_rw (x_seed c x) (y_seed (if x < 0 then c else up2 c 87 0 x) x) (by rw [if_pos h1, if_pos h1]) ?_
    rw [if_pos h1, if_pos h1]
    exact hI
  · refine step_rw (x_seed c x) (y_seed (if x < 0 then c else up2 c 87 0 x) x) (by rw [if_neg h1, if_neg h1, if_neg h1, up2_a _ _ (by decide)]; exact hD.1) ?_
    rw [if_neg h1, if_neg h1]
    have eo : ∀ u : Nat, u ≠ 87 → u ≠ 122 → (up2 (up2 c 87 0 x) 122 13 x) u = c u := by
      intro u hh87 hh122
      funext w
      simp [up2_g, hh87, hh122]
    have e122 : ∀ w : Nat, w ≠ 13 → (up2 (up2 c 87 0 x) 122 13 x) 122 w = c 122 w := by
      intro w hh13
      simp [up2_g, hh13]
    exact ⟨f, fn, n, fi, cn, m, k, nt, M, IW_row (congrFun (eo 1 (by decide) (by decide)) 10) (congrFun (eo 1 (by decide) (by decide)) 11) (congrFun (eo (fn + 1 + 6) (by omega) (by omega)) 0) hW, IG_row (fun x hx => eo x (by omega) (by omega)) (fun k hk => e122 k (by omega)) hG, IS_row (fun x hx => eo x (by omega) (by omega)) hS, IP_row (fun x hx => eo x (by omega) (by omega)) (e122 34 (by decide)) hP, II_row (fun x hx => eo x (by omega) (by omega)) hII, ⟨by simp [up2_g], by simp [up2_g]; omega, by simp [up2_g]; omega⟩, IM_row (fun x hx => eo x (by omega) (by omega)) ⟨(congrFun (eo 1 (by decide) (by decide)) 12), (congrFun (eo 1 (by decide) (by decide)) 13)⟩ ⟨(e122 37 (by decide)), (e122 39 (by decide))⟩ hM, IT_row (eo 3 (by decide) (by decide)) (eo 131 (by decide) (by decide)) ⟨(congrFun (eo 2 (by decide) (by decide)) 1), (congrFun (eo 2 (by decide) (by decide)) 5)⟩ ⟨(e122 15 (by decide)), (e122 16 (by decide))⟩ hT, GI_row (fun x hx => eo x (by omega) (by omega)) hY⟩
end ST
