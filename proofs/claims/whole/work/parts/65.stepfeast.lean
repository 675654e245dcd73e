/-! feast, both sides -/
theorem lenL_pos {ns : Int} {sy br : Nat → Int} (h : ∀ i : Nat, (i : Int) < ns → 1 ≤ sy i) : ∀ (n : Nat) (rest bh syl : Int), 0 < rest → lenL ns sy br n rest bh syl = -1 ∨ syl + 1 ≤ lenL ns sy br n rest bh syl
  | 0, rest, bh, syl, hr => by
    unfold lenL
    rw [if_neg (by omega)]
    exact Or.inl rfl
  | n + 1, rest, bh, syl, hr => by
    unfold lenL
    rw [if_neg (by omega)]
    by_cases hb : rest % 10 - 1 < 0 ∨ ns ≤ rest % 10 - 1 ∨ (bh ≠ -1 ∧ bitI (br (rest % 10 - 1).toNat) bh = 1)
    · rw [if_pos hb]; exact Or.inl rfl
    · rw [if_neg hb]
      have hs := h (rest % 10 - 1).toNat (by omega)
      by_cases h0 : rest / 10 = 0
      · rw [h0]
        have e : lenL ns sy br n 0 (rest % 10 - 1) (syl + sy (rest % 10 - 1).toNat) = syl + sy (rest % 10 - 1).toNat := by
          cases n with
          | zero => unfold lenL; rw [if_pos rfl]
          | succ j => unfold lenL; rw [if_pos (Int.le_refl _), if_pos rfl]
        rw [e]
        omega
      · rcases lenL_pos h n (rest / 10) (rest % 10 - 1) (syl + sy (rest % 10 - 1).toNat) (by omega) with z | z
        · exact Or.inl z
        · exact Or.inr (by omega)
theorem lenR_n0 {c : HC} (hg : RGV c) (w : Int) : lenR c w ≠ 0 := by
  obtain ⟨g1, g2, g3, g4, g5, g6⟩ := hg
  unfold lenR lenF
  split
  · decide
  · split
    · decide
    · have he : 0 ≤ (if w % 10 = 0 then 0 else c 124 (w % 10 - 1).toNat) := by
        split
        · omega
        · have := g6 (w % 10 - 1).toNat (by omega)
          omega
      rcases lenL_pos (ns := c 122 2) (sy := c 123) (br := c 129) (fun i hi => (g5 i hi).1) (c 122 0).toNat (w / 10) (-1) (if w % 10 = 0 then 0 else c 124 (w % 10 - 1).toNat) (by omega) with z | z <;> omega
theorem lb_cg {W W2 : Nat → Int} {z : Int} : ∀ b, (∀ l, l ≤ b → W l = W2 l) → lbF W z b = lbF W2 z b
  | 0, _ => rfl
  | b + 1, h => by
    rw [lbF.eq_2, lbF.eq_2, h (b + 1) (Nat.le_refl _), lb_cg b (fun l hl => h l (by omega))]
theorem sr_fun {F G : Nat → Int} (a m : Nat) (h : ∀ w, F w = G w) : sr F a m = sr G a m := by
  rw [show F = G from funext h]
theorem cw4 {c : HC} {g l : Nat} : cwC c g (g + 4) l = (wdT c g).1 l := by
  unfold cwC
  rw [rC_row (by omega), tb4]
theorem cw5 {c : HC} {g l : Nat} : cwC c g (g + 5) l = (wdT c g).2 l := by
  unfold cwC
  rw [rC_row (by omega), tb5]
theorem cw6 {c : HC} {g l : Nat} (h : l < 42) : cwC c g (g + 6) l = lbF (wdT c g).1 (c (g + 6) 0) l := by
  unfold cwC
  rw [rC_in h]
/-- the tables of both sides -/
theorem TBQ_of {h c2 : HC} {fn : Nat} (hgv : GV h (fn + 1)) (hg : RGV c2) (hlen : ∀ w : Nat, lnC h (fn + 1) w = lenR c2 (w : Int)) (hz : h (fn + 1 + 6) 0 = 0) (h4 : ∀ l, c2 (fn + 1 + 4) l = cwC h (fn + 1) (fn + 1 + 4) l) (h5 : ∀ l, c2 (fn + 1 + 5) l = cwC h (fn + 1) (fn + 1 + 5) l) (h6 : ∀ l, c2 (fn + 1 + 6) l = cwC h (fn + 1) (fn + 1 + 6) l) (hL : ∀ l, l < 42 → LW c2 c2 66660 l) : TBQ c2 fn := by
  have hW : ∀ l, l < 42 → (wdT h (fn + 1)).1 l = c2 141 l := fun l hl => by
    rw [wd_W hgv hl, (hL l hl).1]
    refine sr_fun _ _ (fun w => ?_)
    unfold FWC FW FL1 pL
    have e := hlen w
    unfold lnC at e
    rw [e]
    by_cases e2 : lenR c2 (w : Int) = (l : Int)
    · rw [if_pos e2, if_pos ⟨by omega, by rw [decide_eq_true_eq]; omega⟩]
    · rw [if_neg e2, if_neg (fun z => e2 (by have z2 := z.2; rw [decide_eq_true_eq] at z2; omega))]
  have h0 : c2 141 0 = 0 := by
    rw [(hL 0 (by decide)).1]
    have e := sr_zero (F := FL1 c2 0) (a := 10) (m := 0) 66660 (fun i _ _ => by unfold FL1; exact if_neg (lenR_n0 hg _))
    rw [Nat.zero_add] at e
    exact e
  have hnn : ∀ l, l < 42 → 0 ≤ c2 141 l := fun l hl => by
    rw [(hL l hl).1]
    exact (sr_bd (FL1_bd c2 l) 10 66660).1
  refine ⟨fun l hl => ⟨?_, ?_, fun hp => ?_⟩, h0, fun l hl => ⟨hnn l hl, fun hp => ?_⟩⟩
  · rw [h4, cw4, hW l hl]
  · rw [h6, cw6 hl, hz]
    exact lb_cg l (fun k hk => hW k (by omega))
  · rw [h5, cw5]
    rcases (hL l hl).2 with ⟨q, _⟩ | ⟨_, v, q1, q2, q3, q4, q5⟩
    · omega
    · rcases wd_L hgv hl with ⟨_, w2⟩ | ⟨w, w1, w2, w3, w4⟩
      · exact absurd ⟨⟨q2, by omega⟩, (hlen v).trans q4⟩ (w2 v)
      · have le := w4 v ⟨⟨q2, by omega⟩, (hlen v).trans q4⟩
        have hw : lenR c2 (w : Int) = (l : Int) := (hlen w).symm.trans w1.2
        have ge : ¬ w < v := fun z => q5 w w1.1.1 z hw
        rw [w2, q1]
        omega
  · rcases (hL l hl).2 with ⟨q, _⟩ | ⟨_, v, q1, q2, q3, q4, q5⟩
    · omega
    · rw [q1]
      exact ⟨q4, by omega⟩
def fsH (c : HC) (s : TS) (f fn : Nat) : HC := up2 (up2 (up2 (txs c s) 2 1 0) 1 10 (fn : Int)) 1 11 (f : Int)
theorem fsH_o {c : HC} {s : TS} {f fn x : Nat} (h : x ≠ 1) (h2 : x ≠ 2) : fsH c s f fn x = c x := by
  unfold fsH
  rw [up2_row _ _ _ _ h, up2_row _ _ _ _ h, up2_row _ _ _ _ h2, s_row h2]
theorem fsC_eq {c : HC} {s : TS} {f fn : Nat} : fsC c s f fn = up2 (up2 (forgF (up2 (up2 (putR (cwC (fsH c s f fn) (fn + 1)) 4 (begR (cwC (fsH c s f fn) (fn + 1) (fn + 8 + 2)) (stR (cwC (fsH c s f fn) (fn + 1)) 4))) 1 12 0) 1 13 0)) 114 2 0) 118 2 0 := rfl
theorem fsC_o {c : HC} {s : TS} {f fn x : Nat} (h1 : x ≠ 1) (h7 : x ≠ 7) (h4 : x < 4 ∨ 6 < x) (ha : x ≠ 114) (hb : x ≠ 118) : fsC c s f fn x = cwC (fsH c s f fn) (fn + 1) x := by
  rw [fsC_eq, up2_row _ _ _ _ hb, up2_row _ _ _ _ ha, forg_row h7, up2_row _ _ _ _ h1, up2_row _ _ _ _ h1, put_row (by omega)]
theorem fsC_p {c : HC} {s : TS} {f fn x : Nat} (hfn : fn = 88 ∨ fn = 101) (h1 : x ≠ 1) (h2 : x ≠ 2) (h7 : x ≠ 7) (h4 : x < 4 ∨ 6 < x) (ha : x ≠ 114) (hb : x ≠ 118) (ht : x < fn + 5 ∨ fn + 7 < x) : fsC c s f fn x = c x := by
  rw [fsC_o h1 h7 h4 ha hb, cwC_row (by omega), fsH_o h1 h2]
theorem fsC_1 {c : HC} {s : TS} {f fn : Nat} (hfn : fn = 88 ∨ fn = 101) : fsC c s f fn 1 10 = (fn : Int) ∧ fsC c s f fn 1 11 = (f : Int) ∧ fsC c s f fn 1 12 = 0 ∧ fsC c s f fn 1 13 = 0 ∧ fsC c s f fn 7 1 = 0 ∧ fsC c s f fn 7 2 = 0 ∧ fsC c s f fn 114 2 = 0 ∧ fsC c s f fn 118 2 = 0 ∧ fsC c s f fn 2 1 = 0 ∧ fsC c s f fn 2 5 = s.2.2.2 := by
  rw [fsC_eq]
  have e1 : cwC (fsH c s f fn) (fn + 1) 1 = fsH c s f fn 1 := cwC_row (by omega)
  have e2 : cwC (fsH c s f fn) (fn + 1) 2 = fsH c s f fn 2 := cwC_row (by omega)
  refine ⟨?_, ?_, ?_, ?_, ?_, ?_, ?_, ?_, ?_, ?_⟩
  · rw [up2_a _ _ (by decide), up2_a _ _ (by decide), forg_row (by decide), up2_k _ _ (by decide), up2_k _ _ (by decide), put_row (by decide), e1]
    unfold fsH
    rw [up2_k _ _ (by decide), up2_s]
  · rw [up2_a _ _ (by decide), up2_a _ _ (by decide), forg_row (by decide), up2_k _ _ (by decide), up2_k _ _ (by decide), put_row (by decide), e1]
    unfold fsH
    rw [up2_s]
  · rw [up2_a _ _ (by decide), up2_a _ _ (by decide), forg_row (by decide), up2_k _ _ (by decide), up2_s]
  · rw [up2_a _ _ (by decide), up2_a _ _ (by decide), forg_row (by decide), up2_s]
  · rw [up2_a _ _ (by decide), up2_a _ _ (by decide)]; unfold forgF; rw [up2_k _ _ (by decide), up2_s]
  · rw [up2_a _ _ (by decide), up2_a _ _ (by decide)]; unfold forgF; rw [up2_s]
  · rw [up2_a _ _ (by decide), up2_s]
  · rw [up2_s]
  · rw [up2_a _ _ (by decide), up2_a _ _ (by decide), forg_row (by decide), up2_a _ _ (by decide), up2_a _ _ (by decide), put_row (by decide), e2]
    unfold fsH
    rw [up2_a _ _ (by decide), up2_a _ _ (by decide), up2_s]
  · rw [up2_a _ _ (by decide), up2_a _ _ (by decide), forg_row (by decide), up2_a _ _ (by decide), up2_a _ _ (by decide), put_row (by decide), e2]
    unfold fsH
    rw [up2_a _ _ (by decide), up2_a _ _ (by decide), up2_k _ _ (by decide)]
    rfl
theorem fsC_st {c : HC} {s : TS} {f fn : Nat} (hfn : fn = 88 ∨ fn = 101) : ∀ k, k < 53 → stR (fsC c s f fn) 4 k = begR (c (fn + 8 + 2)) (stR (cwC (fsH c s f fn) (fn + 1)) 4) k := fun k hk => by
  have er : ∀ x, 4 ≤ x → x ≤ 6 → fsC c s f fn x = putR (cwC (fsH c s f fn) (fn + 1)) 4 (begR (cwC (fsH c s f fn) (fn + 1) (fn + 8 + 2)) (stR (cwC (fsH c s f fn) (fn + 1)) 4)) x := fun x h1 h2 => by
    rw [fsC_eq, up2_row _ _ _ _ (by omega), up2_row _ _ _ _ (by omega), forg_row (by omega), up2_row _ _ _ _ (by omega), up2_row _ _ _ _ (by omega)]
  rw [stR_row (er 4 (by decide) (by decide)) (er 5 (by decide) (by decide)) (er 6 (by decide) (by decide)), st_put k hk, cwC_row (by omega), fsH_o (by omega) (by omega)]
theorem s_feast {c : HC} (hI : INV c) : STEP mX10_feast mX11_feast 7 5 [] c := by
  obtain ⟨f, fn, n, fi, cn, m, k, nt, M, hW, hG, hS, hP, hII, hD, hM, hT, hY⟩ := id hI
  have hfo := hW.o.1
  have hfn := hW.o.2
  have hff := hW.1
  obtain ⟨t1, t2, t3, t4, t5, t6⟩ := id hT
  refine CC.mono (x_feast c (n := nt) hfo hfn hW.2.1 hW.2.2.1 t1 t3) (fun v c1 h => ?_)
  rw [t4] at h
  obtain ⟨r, hr⟩ : ∃ r, r = parse (c 131) nt (c 2 3) := ⟨_, rfl⟩
  rw [← hr] at h
  rcases h with ⟨hF, rfl, c3, rfl, hFr⟩ | ⟨hF, rfl, c3, hRD, hDV, hFr, rfl⟩
  · have k1 : ∀ u, u ≠ 2 → (u < fn ∨ fn + 13 ≤ u ∨ u = fn + 7) → up2 (txs c3 r.2) 2 1 0 u = c u := fun u h1 h2 => by rw [up2_row _ _ _ _ h1, s_row h1]; exact hFr u h2
    have hy := y_feast (up2 (txs c3 r.2) 2 1 0) (n := nt) (by rw [k1 122 (by decide) (by omega)]; exact t2) t3 (by rw [k1 131 (by decide) (by omega)]; exact t5) (c 2 3)
    rw [k1 131 (by decide) (by omega), ← hr] at hy
    refine ⟨_, rfl, CC.mono hy (fun w c2 h2 => ?_)⟩
    rcases h2 with ⟨_, rfl, z1, z2, z3, z4⟩ | ⟨h0, _⟩
    · refine ⟨rfl, ?_⟩
      have eo : ∀ u, u ≠ 2 → u ≠ 122 → (u < 132 ∨ 139 < u) → (u < fn ∨ fn + 13 ≤ u ∨ u = fn + 7) → c2 u = c u := fun u a1 a2 a3 a4 => (z1 u a2 a3).trans (k1 u a1 a4)
      have e122 : ∀ k, (k < 15 ∨ 30 < k) → c2 122 k = c 122 k := fun k hk => by rw [z4 k hk, k1 122 (by decide) (by omega)]
      refine ⟨f, fn, n, fi, cn, m, k, 0, M, IW_row (congrFun (eo 1 (by decide) (by decide) (by decide) (by omega)) 10) (congrFun (eo 1 (by decide) (by decide) (by decide) (by omega)) 11) (congrFun (eo (fn + 1 + 6) (by omega) (by omega) (by omega) (by omega)) 0) hW, IG_row (fun x hx => eo x (by omega) (by omega) (by omega) (by omega)) (fun k hk => e122 k (by omega)) hG, IS_row (fun x hx => eo x (by omega) (by omega) (by omega) (by omega)) hS, IP_row (fun x hx => eo x (by omega) (by omega) (by omega) (by omega)) (e122 34 (by decide)) hP, II_row (fun x hx => eo x (by omega) (by omega) (by omega) (by omega)) hII, ID_row (congrFun (eo 87 (by decide) (by decide) (by decide) (by omega)) 0) (e122 13 (by decide)) hD, IM_row (fun x hx => eo x (by omega) (by omega) (by omega) (by omega)) ⟨congrFun (eo 1 (by decide) (by decide) (by decide) (by omega)) 12, congrFun (eo 1 (by decide) (by decide) (by decide) (by omega)) 13⟩ ⟨e122 37 (by decide), e122 39 (by decide)⟩ hM, ?_, GI_row (fun x hx => eo x (by omega) (by omega) (by omega) (by omega)) hY⟩
      refine ⟨?_, z2, by decide, ?_, ?_, ?_⟩
      · rw [z1 2 (by decide) (by decide), up2_s]; rfl
      · rw [eo 3 (by decide) (by decide) (by decide) (by omega), eo 131 (by decide) (by decide) (by decide) (by omega)]; exact t4
      · rw [eo 131 (by decide) (by decide) (by decide) (by omega)]; exact t5
      · rw [z3, z1 2 (by decide) (by decide), up2_k _ _ (by decide)]; rfl
    · exact absurd h0 hF
  · have k1 : ∀ u, u ≠ 1 → u ≠ 2 → u ≠ 7 → (u < 4 ∨ 6 < u) → u ≠ 114 → u ≠ 118 → (u < fn ∨ fn + 13 ≤ u) → fsC c3 r.2 f fn u = c u := fun u a1 a2 a3 a4 a5 a6 a7 => (fsC_p hfn a1 a2 a3 a4 a5 a6 (by omega)).trans (hFr u (by omega))
    have hy := y_feast (fsC c3 r.2 f fn) (n := nt) (by rw [k1 122 (by decide) (by decide) (by decide) (by omega) (by omega) (by omega) (by omega)]; exact t2) t3 (by rw [k1 131 (by decide) (by decide) (by decide) (by omega) (by omega) (by omega) (by omega)]; exact t5) (c 2 3)
    rw [k1 131 (by decide) (by decide) (by decide) (by omega) (by omega) (by omega) (by omega), ← hr] at hy
    refine ⟨_, rfl, CC.mono hy (fun w c2 h2 => ?_)⟩
    rcases h2 with ⟨h0, _⟩ | ⟨_, rfl, _, z1, z2, z3, z4, z5, z6, z7, z8, z9, z10, z11⟩
    · exact absurd hF h0
    refine ⟨rfl, ?_⟩
    obtain ⟨f1, f2, f3, f4, f5, f6, f7, f8, f9, f10⟩ := fsC_1 (c := c3) (s := r.2) (f := f) hfn
    have hst := fsC_st (c := c3) (s := r.2) (f := f) hfn
    have kp : ∀ u, u ≠ 1 → u ≠ 2 → u ≠ 7 → (u < 4 ∨ 6 < u) → u ≠ 114 → u ≠ 118 → (u < fn + 5 ∨ fn + 7 < u) → fsC c3 r.2 f fn u = c3 u := fun u a1 a2 a3 a4 a5 a6 a7 => fsC_p hfn a1 a2 a3 a4 a5 a6 a7
    have kt : ∀ u, fn + 5 ≤ u → u ≤ fn + 7 → fsC c3 r.2 f fn u = cwC (fsH c3 r.2 f fn) (fn + 1) u := fun u a1 a2 => fsC_o (by omega) (by omega) (by omega) (by omega) (by omega)
    have hgv3 : GV c3 (fn + 1) := GV_of hRD hDV
    have hsv3 : SV c3 (fn + 8) (r.1 0 4).toNat := SV_of hRD hDV
    have hgvh : GV (fsH c3 r.2 f fn) (fn + 1) := GV_cg hgv3 (fun x h1 h2 => fsH_o (by omega) (by omega))
    have hRG : RGV c2 := RGV_D hDV z1 z2 z3
    have hRS : RSV c2 (r.1 0 4).toNat := RSV_D hDV z1.2.2.2.2 z4
    have er : ∀ x, fn ≤ x → x ≤ fn + 12 → (x < fn + 5 ∨ fn + 7 < x) → c2 x = c3 x := fun x a1 a2 a3 => by rw [z11 x (by omega)]; exact kp x (by omega) (by omega) (by omega) (by omega) (by omega) (by omega) a3
    have d4 := hDV.1.2.2.2.2.1
    obtain ⟨⟨q0, q1, q2, q3, q4, q5⟩, qa, qb, qc, qd⟩ := id hRD
    have hGRQ : GRQ c2 fn := by
      refine ⟨⟨?_, ?_, ?_, ?_⟩, fun j hj => ⟨?_, ?_⟩, fun j hj => ?_⟩
      · rw [er (fn + 1) (by omega) (by omega) (by omega), z1.1]; exact q0
      · rw [er (fn + 1) (by omega) (by omega) (by omega), z1.2.1]; exact q1
      · rw [er (fn + 1) (by omega) (by omega) (by omega), z1.2.2.1]; exact q2
      · rw [er (fn + 1) (by omega) (by omega) (by omega), z1.2.2.2.1]; exact q3
      · rw [z1.2.2.1] at hj
        rw [er (fn + 1 + 1) (by omega) (by omega) (by omega), (z2 j hj).1]; exact qa j hj
      · rw [z1.2.2.1] at hj
        have hd := hDV.1.2.2.1
        rw [er (fn + 1 + 3) (by omega) (by omega) (by omega), (z2 j hj).2]; exact qc j (by omega)
      · rw [z1.2.2.2.1] at hj
        rw [er (fn + 1 + 2) (by omega) (by omega) (by omega), z3 j hj]; exact qb j hj
    have hlen : ∀ w : Nat, lnC (fsH c3 r.2 f fn) (fn + 1) w = lenR c2 (w : Int) := fun w => by
      rw [← len_GR hGRQ]
      unfold lnC lnN lenG
      have hx : ∀ x, fn + 1 ≤ x → x ≤ fn + 4 → fsH c3 r.2 f fn x = c2 x := fun x a1 a2 => by rw [fsH_o (by omega) (by omega), er x (by omega) (by omega) (by omega)]
      rw [hx (fn + 1) (by omega) (by omega), hx (fn + 1 + 1) (by omega) (by omega), hx (fn + 1 + 2) (by omega) (by omega), hx (fn + 1 + 3) (by omega) (by omega)]
      obtain ⟨⟨g1, _⟩, _, ⟨g3, _⟩, ⟨g4, _⟩, _⟩ := id hgvh
      rw [hx (fn + 1) (by omega) (by omega)] at g1 g3 g4
      rw [Int.toNat_of_nonneg g1, Int.toNat_of_nonneg g3, Int.toNat_of_nonneg g4]
    have hTB : TBQ c2 fn := TBQ_of hgvh hRG hlen (by rw [fsH_o (by omega) (by omega), hFr (fn + 1 + 6) (by omega)]; exact hW.2.2.2) (fun l => by rw [z11 _ (by omega), kt _ (by omega) (by omega)]) (fun l => by rw [z11 _ (by omega), kt _ (by omega) (by omega)]) (fun l => by rw [z11 _ (by omega), kt _ (by omega) (by omega)]) z6
    have eo : ∀ u, u ≠ 1 → u ≠ 2 → u ≠ 7 → (u < 4 ∨ 6 < u) → u ≠ 114 → u ≠ 118 → (u < fn ∨ fn + 13 ≤ u) → u < 122 → c2 u = c u := fun u a1 a2 a3 a4 a5 a6 a7 a8 => (z11 u a8).trans (k1 u a1 a2 a3 a4 a5 a6 a7)
    obtain ⟨y1, y2, y3, y4, y5, y6⟩ := z7
    refine ⟨fn, f, (r.1 0 4).toNat, 0, 0, 0, 0, 0, M, ⟨by omega, ?_, ?_, ?_⟩, ⟨GV_cg hgv3 (fun x h1 h2 => er x (by omega) (by omega) (by omega)), SV_congr (er _ (by omega) (by omega) (by omega)) (er _ (by omega) (by omega) (by omega)) (er _ (by omega) (by omega) (by omega)) (er _ (by omega) (by omega) (by omega)) (er _ (by omega) (by omega) (by omega)) hsv3, hRG, hRS, hGRQ, fun j hj => ?_, hTB⟩, ⟨?_, ?_⟩, ⟨?_, ?_, by decide, by decide, y4, fun i hi => by omega⟩, fun i hi => ?_, ⟨?_, ?_, ?_⟩, ⟨⟨?_, y5, by decide, fun j hj => by omega⟩, ?_, y6, by decide, fun j hj => by omega⟩, ⟨?_, y2, by decide, ?_, ?_, ?_⟩, GI_row (fun x hx => eo x (by omega) (by omega) (by omega) (by omega) (by omega) (by omega) (by omega) (by omega)) hY⟩
    · rw [z11 1 (by decide)]; exact f1
    · rw [z11 1 (by decide)]; exact f2
    · rw [eo (f + 1 + 6) (by omega) (by omega) (by omega) (by omega) (by omega) (by omega) (by omega) (by omega)]
      have z := (hG.2.2.2.2.2.2.1 0 (by decide)).2.1
      rw [z]; rfl
    · have w := qd j (by omega)
      have w2 := z4 j (by omega)
      rw [er (fn + 8 + 1) (by omega) (by omega) (by omega), er (fn + 8 + 2) (by omega) (by omega) (by omega), er (fn + 8 + 3) (by omega) (by omega) (by omega), er (fn + 8 + 4) (by omega) (by omega) (by omega), w2.1, w2.2.1, w2.2.2.1, w2.2.2.2]
      exact w
    · have es : ∀ k, k < 53 → stR c2 4 k = begR (c3 (fn + 8 + 2)) (stR (cwC (fsH c3 r.2 f fn) (fn + 1)) 4) k := fun k hk => by
        rw [stR_row (c := fsC c3 r.2 f fn) (z11 4 (by decide)) (z11 5 (by decide)) (z11 6 (by decide))]
        exact hst k hk
      have b0 : ∀ k, k < 2 ∨ k = 12 → stR c2 4 k = 0 := fun k hk => by
        rw [es k (by omega)]
        unfold begR
        rcases hk with hk | hk
        · by_cases e1 : k = 1
          · subst e1; rw [up1_s]
          · rw [up1_n e1, show k = 0 by omega, up1_s]
        · subst hk; rw [up1_n (by decide), up1_n (by decide), up1_s]
      have g0 : ∀ k, k < 2 ∨ k = 12 → c2 130 k = 0 := fun k hk => by
        rw [z5 k (by omega)]
        unfold bgN
        rw [if_neg (by omega)]
      refine ⟨by rw [b0 0 (by decide), g0 0 (by decide)], by rw [b0 1 (by decide), g0 1 (by decide)], by rw [b0 12 (by decide), g0 12 (by decide)], fun j hj => ?_, fun j hj => ?_⟩
      · rw [es _ (by omega), z5 _ (by omega)]
        unfold begR bgN
        rw [up1_n (by omega), up1_n (by omega), up1_n (by omega), if_pos (by omega), if_pos (by omega), show 2 + j - 2 = j by omega, (z4 j (by omega)).2.1]
        exact (qd j (by omega)).2.1
      · rw [b0 12 (by decide)] at hj; omega
    · have g0 : ∀ k, k < 2 ∨ k = 12 → c2 130 k = 0 := fun k hk => by
        rw [z5 k (by omega)]
        unfold bgN
        rw [if_neg (by omega)]
      unfold RV
      rw [g0 0 (by decide), g0 1 (by decide), g0 12 (by decide)]
      refine ⟨by decide, by decide, by decide, fun j hj => ?_⟩
      have hb := (hRS.2.2 j hj).2.1
      rw [z5 _ (by omega)]
      unfold bgN
      rw [if_pos (by omega), show 2 + j - 2 = j by omega]
      omega
    · rw [z11 7 (by decide)]; exact f5
    · rw [z11 7 (by decide)]; exact f6
    · rcases (show i = 0 ∨ i = 1 by omega) with e | e
      · subst e
        exact ⟨⟨by rw [z11 _ (by decide)]; exact f7.trans z9.symm, Or.inl z9⟩, fun z => absurd z9 z⟩
      · subst e
        exact ⟨⟨by rw [z11 _ (by decide)]; exact f8.trans z10.symm, Or.inl z10⟩, fun z => absurd z10 z⟩
    · rw [y1, k1 122 (by decide) (by decide) (by decide) (by omega) (by omega) (by omega) (by omega), eo 87 (by decide) (by decide) (by decide) (by omega) (by omega) (by omega) (by omega) (by omega)]; exact hD.1
    · rw [y1, k1 122 (by decide) (by decide) (by decide) (by omega) (by omega) (by omega) (by omega)]; exact hD.2.1
    · rw [y1, k1 122 (by decide) (by decide) (by decide) (by omega) (by omega) (by omega) (by omega)]; exact hD.2.2
    · rw [z11 1 (by decide)]; exact f3
    · rw [z11 1 (by decide)]; exact f4
    · rw [z11 2 (by decide)]; exact f9
    · rw [z8, k1 131 (by decide) (by decide) (by decide) (by omega) (by omega) (by omega) (by omega), eo 3 (by decide) (by decide) (by decide) (by omega) (by omega) (by omega) (by omega) (by omega)]; exact t4
    · rw [z8, k1 131 (by decide) (by decide) (by decide) (by omega) (by omega) (by omega) (by omega)]; exact t5
    · rw [y3, z11 2 (by decide)]; exact f10
