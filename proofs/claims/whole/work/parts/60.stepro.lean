/-! calls that change nothing: both sides answer alike -/
def STEP (μx μy : MI) (dx dy : Nat) (As : List PV) (c : HC) : Prop := CC μx dx c (vr 1 :: As) (fun v c1 => ∃ z : Int, v = some (vi z) ∧ CC μy dy c1 (vr 122 :: As) (fun w c2 => w = some (vi z) ∧ INV c2))
theorem step_ro {μx μy : MI} {dx dy : Nat} {As : List PV} {c : HC} {z z2 : Int} (hI : INV c) (hx : RO μx dx c (vr 1 :: As) z) (hy : RO μy dy c (vr 122 :: As) z2) (e : z = z2) : STEP μx μy dx dy As c := by
  subst e
  refine CC.mono hx (fun v c1 h => ⟨z, h.1, ?_⟩)
  rw [h.2]
  exact CC.mono hy (fun w c2 h2 => ⟨h2.1, by rw [h2.2]; exact hI⟩)
theorem step_rw {μx μy : MI} {dx dy : Nat} {As : List PV} {c c1 c2 : HC} {z z2 : Int} (hx : RW μx dx c (vr 1 :: As) z c1) (hy : RW μy dy c1 (vr 122 :: As) z2 c2) (e : z = z2) (hI : INV c2) : STEP μx μy dx dy As c := by
  subst e
  refine CC.mono hx (fun v c1 h => ⟨z, h.1, ?_⟩)
  rw [h.2]
  exact CC.mono hy (fun w c2 h2 => ⟨h2.1, by rw [h2.2]; exact hI⟩)
theorem st_0 (c : HC) (s : Nat) : stR c s 0 = c s 3 := rfl
theorem st_1 (c : HC) (s : Nat) : stR c s 1 = c s 4 := rfl
theorem st_12 (c : HC) (s : Nat) : stR c s 12 = c s 2 := rfl
theorem st_b (c : HC) (s : Nat) {j : Nat} (h : j < 10) : stR c s (2 + j) = c (s + 1) j := by
  unfold stR
  rw [if_neg (by omega), if_neg (by omega), if_pos (by omega), show 2 + j - 2 = j by omega]
theorem st_w (c : HC) (s : Nat) (j : Nat) : stR c s (13 + j) = c (s + 2) j := by
  unfold stR
  rw [if_neg (by omega), if_neg (by omega), if_neg (by omega), if_neg (by omega), show 13 + j - 13 = j by omega]
theorem way_cg {mud : Int} {wt wt2 : Nat → Int} {p q a b : Int} (h : wt p.toNat = wt2 p.toNat) (h2 : wt q.toNat = wt2 q.toNat) : wayF mud wt p a q b = wayF mud wt2 p a q b := by
  unfold wayF
  rw [h, h2]
theorem gain_cg {mud : Int} {wt wt2 : Nat → Int} {p q a b : Int} (h : wt p.toNat = wt2 p.toNat) (h2 : wt q.toNat = wt2 q.toNat) : gainF mud wt a b p q = gainF mud wt2 a b p q := by
  funext s ch
  unfold gainF
  rw [way_cg h h2]
theorem lwS_cg {wo wo2 : Nat → Int} : ∀ n, (∀ l, l ≤ n → wo l = wo2 l) → lwS wo n = lwS wo2 n
  | 0, _ => rfl
  | n + 1, h => by
    rw [lwS.eq_2, lwS.eq_2, lwS_cg n (fun l hl => h l (by omega)), h (n + 1) (Nat.le_refl _)]
theorem cm_cg {mud : Int} {wt wt2 bt bt2 wo wo2 : Nat → Int} {p q : Int} {d : Int} (h1 : wt p.toNat = wt2 p.toNat ∧ bt p.toNat = bt2 p.toNat) (h2 : wt q.toNat = wt2 q.toNat ∧ bt q.toNat = bt2 q.toNat) (hw : ∀ l, l < 42 → wo l = wo2 l) (b1 : 0 ≤ bt p.toNat) (b2 : 0 ≤ bt q.toNat) : cmF mud wt bt wo p q d = cmF mud wt2 bt2 wo2 p q d := by
  unfold cmF
  by_cases h0 : d = 0
  · rw [if_pos h0, if_pos h0]
  · rw [if_neg h0, if_neg h0]
    have i1 := imin41 b1
    have i2 := imin41 b2
    by_cases hn : d ≤ 0
    · simp only [if_pos hn]
      rw [lwS_cg _ (fun l hl => hw l (by omega)), lwS_cg _ (fun l hl => hw l (by omega)), h1.1, h1.2, h2.2]
    · simp only [if_neg hn]
      rw [lwS_cg _ (fun l hl => hw l (by omega)), lwS_cg _ (fun l hl => hw l (by omega)), h2.1, h2.2, h1.2]
theorem spQ_cg {t t2 : Nat → Nat → Int} (i : Int) (p : Nat) : ∀ (k q : Nat) (fo : Int), (∀ r, q ≤ r → r < q + k → t p r = t2 p r) → spQ t i p k q fo = spQ t2 i p k q fo
  | 0, _, _, _ => rfl
  | k + 1, q, fo, h => by
    rw [spQ.eq_2, spQ.eq_2, h q (Nat.le_refl _) (by omega), spQ_cg i p k (q + 1) fo (fun r h1 h2 => h r (by omega) (by omega)), spQ_cg i p k (q + 1) (fo + 1) (fun r h1 h2 => h r (by omega) (by omega))]
theorem spP_cg {t t2 : Nat → Nat → Int} (i : Int) (n : Nat) : ∀ (k p : Nat) (fo : Int), p + k = n → (∀ p q, p < n → q < n → t p q = t2 p q) → spP t i n k p fo = spP t2 i n k p fo
  | 0, _, _, _, _ => rfl
  | k + 1, p, fo, hk, h => by
    unfold spP
    rw [spQ_cg i p n 0 fo (fun r _ h2 => h p r (by omega) (by omega))]
    cases spQ t2 i p n 0 fo with
    | inl fo2 => exact spP_cg i n k (p + 1) fo2 (by omega) h
    | inr r => rfl
section RD
variable {c : HC} (hI : INV c)
theorem s_fault (hI : INV c) : STEP mX10_fault mX11_fault 0 0 [] c := by
  obtain ⟨f, fn, n, fi, cn, m, k, nt, M, hW, hG, hS, hP, hII, hD, hM, hT, hY⟩ := id hI
  exact step_ro hI (x_fault c) (y_fault c) hT.2.2.2.2.2
theorem s_told (hI : INV c) (w : Int) : STEP mX10_told mX11_told 0 0 [vi w] c := by
  obtain ⟨f, fn, n, fi, cn, m, k, nt, M, hW, hG, hS, hP, hII, hD, hM, hT, hY⟩ := id hI
  obtain ⟨a1, a2, a3, a4, a5, a6, a7⟩ := hG
  refine step_ro hI (x_told c hW.o.1 hW.2.1 w) (y_told c w) ?_
  unfold toldC toldR
  rw [a5.1.1, a5.1.2.1, a5.1.2.2.1, a5.1.2.2.2, a2.1, a4.1, hT.1, hT.2.1, show c 4 3 = c 130 0 from hS.1.1, show c 4 4 = c 130 1 from hS.1.2.1, show c 4 2 = c 130 12 from hS.1.2.2.1, hM.1.1, hM.1.2.1, hM.2.1, hM.2.2.1, hP.2.1, hP.2.2.2.2.1]
theorem at_cg {n : Int} {r r2 : Nat → Int} {bad s : Int} (h : ∀ j : Nat, (j : Int) < n → r j = r2 j) : atF n r bad s = atF n r2 bad s := by
  unfold atF
  by_cases e : s < 0 ∨ n ≤ s
  · rw [if_pos e, if_pos e]
  · rw [if_neg e, if_neg e, h s.toNat (by omega)]
theorem s_stem (hI : INV c) (w : Int) : STEP mX10_stem mX11_stem 0 1 [vi w] c := by
  obtain ⟨f, fn, n, fi, cn, m, k, nt, M, hW, hG, hS, hP, hII, hD, hM, hT, hY⟩ := id hI
  obtain ⟨a1, a2, a3, a4, a5, a6, a7⟩ := hG
  refine step_ro hI (x_stem c hW.o.1 hW.2.1 a1 w) (y_stem c a3 w) ?_
  rw [a5.1.2.2.1]
  exact at_cg (fun j hj => (a5.2.1 j hj).1)
theorem s_ending (hI : INV c) (w : Int) : STEP mX10_ending mX11_ending 0 1 [vi w] c := by
  obtain ⟨f, fn, n, fi, cn, m, k, nt, M, hW, hG, hS, hP, hII, hD, hM, hT, hY⟩ := id hI
  obtain ⟨a1, a2, a3, a4, a5, a6, a7⟩ := hG
  refine step_ro hI (x_ending c hW.o.1 hW.2.1 a1 w) (y_ending c a3 w) ?_
  rw [a5.1.2.2.2]
  exact at_cg (fun j hj => a5.2.2 j hj)
theorem s_speaker (hI : INV c) (p w : Int) : STEP mX10_speaker mX11_speaker 0 2 [vi p, vi w] c := by
  obtain ⟨f, fn, n, fi, cn, m, k, nt, M, hW, hG, hS, hP, hII, hD, hM, hT, hY⟩ := id hI
  obtain ⟨a1, a2, a3, a4, a5, a6, a7⟩ := hG
  refine step_ro hI (x_speaker c hW.o.1 hW.2.1 a2 p w) (y_speaker c a4 p w) ?_
  unfold spkF
  by_cases e : p < 0 ∨ (n : Int) ≤ p
  · rw [if_pos e, if_pos e]
  · have z := a6 p.toNat (by omega)
    have y := hS.1.2.2.2.1 p.toNat (by omega)
    rw [st_b c 4 (by have := a2.2.1; omega)] at y
    rw [if_neg e, if_neg e, z.1, z.2.1, z.2.2.1, z.2.2.2, show c 5 p.toNat = c 130 (2 + p.toNat) from y]
theorem s_length (hI : INV c) (w : Int) : STEP mX10_length mX11_length 2 2 [vi w] c := by
  obtain ⟨f, fn, n, fi, cn, m, k, nt, M, hW, hG, hS, hP, hII, hD, hM, hT, hY⟩ := id hI
  obtain ⟨a1, a2, a3, a4, a5, a6, a7⟩ := hG
  exact step_ro hI (x_length c hW.o.1 hW.2.1 a1 w) (y_length c a3 w) (len_GR a5 w)
theorem s_said (hI : INV c) (w : Int) : STEP mX10_said mX11_said 0 1 [vi w] c := by
  obtain ⟨f, fn, n, fi, cn, m, k, nt, M, hW, hG, hS, hP, hII, hD, hM, hT, hY⟩ := id hI
  have h12 : c 4 2 = c 130 12 := hS.1.2.2.1
  have hb := hS.2.2.2.1
  refine step_ro hI (x_said c (by omega) w) (y_said c (by omega) w) ?_
  rw [h12]
  refine at_cg (fun j hj => ?_)
  have y := hS.1.2.2.2.2 j (by show (j : Int) < c 4 2; omega)
  rw [st_w] at y
  exact y
theorem s_longest (hI : INV c) (b w : Int) : STEP mX10_longest mX11_longest 2 1 [vi b, vi w] c := by
  obtain ⟨f, fn, n, fi, cn, m, k, nt, M, hW, hG, hS, hP, hII, hD, hM, hT, hY⟩ := id hI
  obtain ⟨a1, a2, a3, a4, a5, a6, a7⟩ := hG
  exact step_ro hI (x_longest c hW.o.1 hW.2.1 (fun k hk => by have := TB_bd a7 k hk; omega) b w) (y_longest c b w) (lgF_TB a7 b w)
theorem s_howMany (hI : INV c) (w : Int) : STEP mX10_howMany mX11_howMany 0 1 [vi w] c := by
  obtain ⟨f, fn, n, fi, cn, m, k, nt, M, hW, hG, hS, hP, hII, hD, hM, hT, hY⟩ := id hI
  obtain ⟨a1, a2, a3, a4, a5, a6, a7⟩ := hG
  refine step_ro hI (x_howMany c hW.o.1 hW.2.1 w) (y_howMany c w) ?_
  unfold hmF
  by_cases e : w < 0 ∨ 99 < w
  · rw [if_pos e, if_pos e]
  · rw [if_neg e, if_neg e]
    by_cases e2 : 41 < w
    · rw [if_pos e2, if_pos e2]
    · rw [if_neg e2, if_neg e2, (a7.1 w.toNat (by omega)).1]
theorem s_even (hI : INV c) (w : Int) : STEP mX10_even mX11_even 1 1 [vi w] c := by
  obtain ⟨f, fn, n, fi, cn, m, k, nt, M, hW, hG, hS, hP, hII, hD, hM, hT, hY⟩ := id hI
  obtain ⟨a1, a2, a3, a4, a5, a6, a7⟩ := hG
  refine step_ro hI (x_even c hW.o.1 hW.2.1 a2 w) (y_even c a4 w) ?_
  rw [ws_cg 0 n (fun j hj => ⟨(a6 j hj).1, (a6 j hj).2.2.1⟩), ws_cg 1 n (fun j hj => ⟨(a6 j hj).1, (a6 j hj).2.2.1⟩)]
theorem s_pick (hI : INV c) (w : Int) : STEP mX10_pick mX11_pick 3 1 [vi w] c := by
  obtain ⟨f, fn, n, fi, cn, m, k, nt, M, hW, hG, hS, hP, hII, hD, hM, hT, hY⟩ := id hI
  obtain ⟨a1, a2, a3, a4, a5, a6, a7⟩ := hG
  refine step_ro hI (x_pick c hW.o.1 hW.2.1 a2 w) (y_pick c a4 w) ?_
  unfold pickF
  rw [fr_cg (fun j hj => (a6 j hj).2.2.1), df_cg _ n (fun j hj => (a6 j hj).2.2.1)]
theorem s_coughs (hI : INV c) (w : Int) : STEP mX10_coughs mX11_coughs 1 1 [vi w] c := by
  obtain ⟨f, fn, n, fi, cn, m, k, nt, M, hW, hG, hS, hP, hII, hD, hM, hT, hY⟩ := id hI
  obtain ⟨a1, a2, a3, a4, a5, a6, a7⟩ := hG
  refine step_ro hI (x_coughs c hW.o.1 hW.2.1 a2 w) (y_coughs c a4 w) ?_
  unfold cghF
  rw [od_cg _ n (fun j hj => (a6 j hj).2.2.2)]
theorem s_keepBack (hI : INV c) (w : Int) : STEP mX10_keepBack mX11_keepBack 1 1 [vi w] c := by
  obtain ⟨f, fn, n, fi, cn, m, k, nt, M, hW, hG, hS, hP, hII, hD, hM, hT, hY⟩ := id hI
  obtain ⟨a1, a2, a3, a4, a5, a6, a7⟩ := hG
  refine step_ro hI (x_keepBack c hW.o.1 hW.2.1 a2 w) (y_keepBack c a4 w) ?_
  rw [lw_cg w n (fun j hj => ⟨(a6 j hj).1, (a6 j hj).2.2.1, (a6 j hj).2.2.2⟩)]
theorem s_judge (hI : INV c) : STEP mX10_judge mX11_judge 0 0 [] c := by
  obtain ⟨f, fn, n, fi, cn, m, k, nt, M, hW, hG, hS, hP, hII, hD, hM, hT, hY⟩ := id hI
  refine step_ro hI (x_judge c k hM.2.1 hM.2.2.2.1) (y_judge c k hM.2.2.1 hM.2.2.2.1) ?_
  rw [show c 4 3 = c 130 0 from hS.1.1, show c 4 4 = c 130 1 from hS.1.2.1]
  exact jd_cg _ _ k 0 (fun j _ h2 => hM.2.2.2.2 j (by omega))
theorem IS_b {n : Nat} (hS : IS c n) (hn : n ≤ 10) {j : Nat} (hj : j < n) : c 5 j = c 130 (2 + j) ∧ 0 ≤ c 130 (2 + j) ∧ c 130 (2 + j) ≤ c 126 j := by
  have y := hS.1.2.2.2.1 j hj
  rw [st_b c 4 (by omega)] at y
  exact ⟨y, hS.2.2.2.2 j hj⟩
theorem op_in {n : Nat} {sd : Nat → Int} {p q : Int} (h : opF n sd p q ≠ 0) : p.toNat < n ∧ q.toNat < n := by
  obtain ⟨h1, h2, _⟩ := opF_in h
  omega
theorem s_silence (hI : INV c) (p q : Int) : STEP mX10_silence mX11_silence 4 3 [vi p, vi q] c := by
  obtain ⟨f, fn, n, fi, cn, m, k, nt, M, hW, hG, hS, hP, hII, hD, hM, hT, hY⟩ := id hI
  obtain ⟨a1, a2, a3, a4, a5, a6, a7⟩ := hG
  have hn10 := a2.2.1
  refine step_ro hI (x_silence c hW.o.1 hW.2.1 a1 a2 (fun k hk => by have := TB_bd a7 k hk; omega) p q) (y_silence c a3 a4 (fun j hj => (IS_b hS hn10 hj).2.1) p q) ?_
  rw [op_cg (fun j hj => (a6 j hj).1)]
  unfold silF
  by_cases e : opF n (c 125) p q = 0
  · rw [if_pos e, if_pos e]
  · rw [if_neg e, if_neg e]
    have z := op_in e
    have b1 := IS_b hS hn10 z.1
    have b2 := IS_b hS hn10 z.2
    rw [b1.1, b2.1, lw_TB a7 b1.2.1, lw_TB a7 b2.2.1, a5.1.2.1, gain_cg (a6 _ z.1).2.2.1 (a6 _ z.2).2.2.1]
theorem s_spoke (hI : INV c) (p q : Int) : STEP mX10_spoke mX11_spoke 3 3 [vi p, vi q] c := by
  obtain ⟨f, fn, n, fi, cn, m, k, nt, M, hW, hG, hS, hP, hII, hD, hM, hT, hY⟩ := id hI
  obtain ⟨a1, a2, a3, a4, a5, a6, a7⟩ := hG
  have hn10 := a2.2.1
  refine step_ro hI (x_spoke c hW.o.1 hW.2.1 a2 m hM.1.1 hM.1.2.2.1 p q) (y_spoke c a4 m hM.1.2.1 hM.1.2.2.1 (fun j hj => (hM.1.2.2.2 j hj).2) p q) ?_
  unfold spkeF
  by_cases e : p < 0 ∨ (m : Int) ≤ p
  · rw [if_pos e, if_pos e]
  · rw [if_neg e, if_neg e]
    refine spP_cg q n n 0 0 (by omega) (fun u v hu hv => ?_)
    unfold tC
    rw [op_cg (fun j hj => (a6 j hj).1), a5.1.2.1, (hM.1.2.2.2 p.toNat (by omega)).1]
    have bu := (a4.2.2 u hu).2.1
    have bv := (a4.2.2 v hv).2.1
    rw [cm_cg (p := (u : Int)) (q := (v : Int)) ⟨(a6 u hu).2.2.1, (a6 u hu).2.1⟩ ⟨(a6 v hv).2.2.1, (a6 v hv).2.1⟩ (fun l hl => (a7.1 l hl).1) (by rw [Int.toNat_natCast, (a6 u hu).2.1]; omega) (by rw [Int.toNat_natCast, (a6 v hv).2.1]; omega)]
end RD
