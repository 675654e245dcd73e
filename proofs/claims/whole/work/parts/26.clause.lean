/-! Text: clauses. D is what was read: 0 the numbers (most, mud, stems, endings, speakers, bars), 1 stems, 2 endings, 3 bars, 4 .. 7 speakers -/
abbrev TS : Type := Nat × Int × Int × Int
def txs (c : HC) (s : TS) : HC := tx c (s.1 : Int) s.2.1 s.2.2.1 s.2.2.2
def flS (s : TS) (k p : Int) : TS := (s.1, s.2.1, fF s.2.2.1 k, fP s.2.2.1 k s.2.2.2 p)
def wdS (s : TS) (k : Int) : TS := (s.1 + 1, s.2.1, fF s.2.2.1 k, fP s.2.2.1 k s.2.2.2 (s.1 : Int))
def nuS (t : Nat → Int) (n : Nat) (lo hi : Int) (s : TS) : TS := (enF t n s.1, ((skF t n s.1 : Nat) : Int), fF s.2.2.1 (nuK t n s.1 lo hi), fP s.2.2.1 (nuK t n s.1 lo hi) s.2.2.2 ((skF t n s.1 : Nat) : Int))
def edS (t : Nat → Int) (n : Nat) (s : TS) : TS := (skF t n s.1 + 1, s.2.1, fF s.2.2.1 (edK t n s.1), fP s.2.2.1 (edK t n s.1) s.2.2.2 ((skF t n s.1 : Nat) : Int))
def skS (t : Nat → Int) (n : Nat) (s : TS) : TS := (skF t n s.1, s.2)
theorem fF_z {F k : Int} (h : fF F k = 0) : F = 0 ∧ k = 0 := by
  unfold fF at h
  split at h
  · exact ⟨by assumption, h⟩
  · exact absurd h (by assumption)
def rm (b : Prop) [Decidable b] : Int := if b then 0 else 3
def RD (f : Nat) (c D : HC) : Prop := (c (f + 1) 6 = D 0 0 ∧ c (f + 1) 7 = D 0 1 ∧ c (f + 1) 8 = D 0 2 ∧ c (f + 1) 9 = D 0 3 ∧ c (f + 8) 4 = D 0 4 ∧ c (f + 1) 10 = D 0 5) ∧ (∀ j : Nat, (j : Int) < D 0 2 → c (f + 1 + 1) j = D 1 j) ∧ (∀ j : Nat, (j : Int) < D 0 3 → c (f + 1 + 2) j = D 2 j) ∧ (∀ j : Nat, j < 6 → c (f + 1 + 3) j = D 3 j) ∧ (∀ j : Nat, (j : Int) < D 0 4 → c (f + 8 + 1) j = D 4 j ∧ c (f + 8 + 2) j = D 5 j ∧ c (f + 8 + 3) j = D 6 j ∧ c (f + 8 + 4) j = D 7 j)
def DV (D : HC) : Prop := ((0 ≤ D 0 0 ∧ D 0 0 ≤ 4) ∧ (0 ≤ D 0 1 ∧ D 0 1 ≤ 9) ∧ (0 ≤ D 0 2 ∧ D 0 2 ≤ 6) ∧ (0 ≤ D 0 3 ∧ D 0 3 ≤ 4) ∧ (0 ≤ D 0 4 ∧ D 0 4 ≤ 10) ∧ (0 ≤ D 0 5 ∧ D 0 5 ≤ 6)) ∧ (∀ j : Nat, (j : Int) < D 0 2 → 1 ≤ D 1 j ∧ D 1 j ≤ 9) ∧ (∀ j : Nat, (j : Int) < D 0 3 → 1 ≤ D 2 j ∧ D 2 j ≤ 5) ∧ (∀ j : Nat, (j : Int) < D 0 4 → (D 4 j = 0 ∨ D 4 j = 1) ∧ (1 ≤ D 5 j ∧ D 5 j ≤ 40) ∧ (0 ≤ D 6 j ∧ D 6 j ≤ 99) ∧ (0 ≤ D 7 j ∧ D 7 j ≤ 100))
def FRF (f : Nat) (c c1 : HC) : Prop := ∀ x, x < f ∨ f + 13 ≤ x ∨ x = f + 7 → c1 x = c x
theorem FRF.refl {f : Nat} {c : HC} : FRF f c c := fun _ _ => rfl
theorem FRF.tr {f : Nat} {c c1 c2 : HC} (h : FRF f c c1) (h2 : FRF f c1 c2) : FRF f c c2 := fun x hx => (h2 x hx).trans (h x hx)
theorem FRF.up {f x y : Nat} {c c1 : HC} {z : Int} (h : FRF f c c1) (hx : f ≤ x ∧ x < f + 13 ∧ x ≠ f + 7) : FRF f c (up2 c1 x y z) := fun u hu => by
  rw [up2_row _ _ _ _ (by omega)]
  exact h u hu
def CLP (f : Nat) (c : HC) (r : HC × TS) (h : HC) : Prop := ∃ c1, h = txs c1 r.2 ∧ RD f c1 r.1 ∧ DV r.1 ∧ FRF f c c1
/-- the clauses -/
def cG (t : Nat → Int) (n : Nat) (D : HC) (s : TS) : HC × TS :=
  let s1 := wdS s (rm (D 0 0 = 0))
  let s2 := nuS t n 1 4 s1
  let s3 := nuS t n 0 9 s2
  let s4 := edS t n s3
  (if s4.2.2.1 = 0 then up2 (up2 D 0 0 (nuV t n s1.1)) 0 1 (nuV t n s2.1) else D, s4)
def cS (t : Nat → Int) (n : Nat) (D : HC) (s : TS) : HC × TS :=
  let s1 := wdS s (rm (D 0 2 < 6))
  let s2 := nuS t n 1 9 s1
  let s3 := edS t n s2
  (if s3.2.2.1 = 0 then up2 (up2 D 1 (D 0 2).toNat (nuV t n s1.1)) 0 2 (D 0 2 + 1) else D, s3)
def cE (t : Nat → Int) (n : Nat) (D : HC) (s : TS) : HC × TS :=
  let s1 := wdS s (rm (D 0 3 < 4))
  let s2 := nuS t n 1 5 s1
  let s3 := edS t n s2
  (if s3.2.2.1 = 0 then up2 (up2 D 2 (D 0 3).toNat (nuV t n s1.1)) 0 3 (D 0 3 + 1) else D, s3)
def cP (t : Nat → Int) (n : Nat) (D : HC) (s : TS) : HC × TS :=
  let s1 := wdS s (rm (D 0 4 < 10))
  let s2 := nuS t n 0 1 s1
  let s3 := nuS t n 1 40 s2
  let s4 := nuS t n 0 99 s3
  let s5 := nuS t n 0 100 s4
  let s6 := edS t n s5
  (if s6.2.2.1 = 0 then up2 (up2 (up2 (up2 (up2 D 4 (D 0 4).toNat (nuV t n s1.1)) 5 (D 0 4).toNat (nuV t n s2.1)) 6 (D 0 4).toNat (nuV t n s3.1)) 7 (D 0 4).toNat (nuV t n s4.1)) 0 4 (D 0 4 + 1) else D, s6)
def cN (t : Nat → Int) (n : Nat) (D : HC) (s : TS) : HC × TS :=
  let s1 := wdS s (rm (D 0 5 < 6))
  let s2 := nuS t n 0 (D 0 2 - 1) s1
  let s3 := nuS t n 0 (D 0 2 - 1) s2
  let s4 := if s3.2.2.1 = 0 ∧ bitI (D 3 (nuV t n s1.1).toNat) (nuV t n s2.1) = 1 then flS s3 4 s3.2.1 else s3
  let s5 := edS t n s4
  (if s5.2.2.1 = 0 then up2 (up2 D 3 (nuV t n s1.1).toNat (bor (D 3 (nuV t n s1.1).toNat) (wr (1 * 2 ^ (nuV t n s2.1).toNat)))) 0 5 (D 0 5 + 1) else D, s5)
theorem enF_bd (t : Nat → Int) (n a : Nat) : enF t n a ≤ a ∨ enF t n a ≤ n := by
  have h := skF_bd t n a
  have h2 := dgE_bd t (n - skF t n a) (skF t n a)
  unfold enF
  omega
theorem nuV_bd (t : Nat → Int) (n a : Nat) : 0 ≤ nuV t n a ∧ nuV t n a ≤ 999 := by
  have h := dgV_ok t (skF t n a) (n - skF t n a) (skF t n a) 0 ⟨Nat.le_refl _, by omega, fun _ => rfl, by omega, by omega⟩
  exact h.2.1
theorem nuK_z {t : Nat → Int} {n a : Nat} {lo hi : Int} (h : nuK t n a lo hi = 0) : lo ≤ nuV t n a ∧ nuV t n a ≤ hi := by
  unfold nuK at h
  split at h
  · exact absurd h (by decide)
  · split at h
    · exact absurd h (by decide)
    · omega
theorem nuS_z {t : Nat → Int} {n : Nat} {lo hi : Int} {s : TS} (h : (nuS t n lo hi s).2.2.1 = 0) : s.2.2.1 = 0 ∧ lo ≤ nuV t n s.1 ∧ nuV t n s.1 ≤ hi := ⟨(fF_z h).1, nuK_z (fF_z h).2⟩
theorem edS_z {t : Nat → Int} {n : Nat} {s : TS} (h : (edS t n s).2.2.1 = 0) : s.2.2.1 = 0 := (fF_z h).1
theorem wdS_z {s : TS} {b : Prop} [Decidable b] (h : (wdS s (rm b)).2.2.1 = 0) : s.2.2.1 = 0 ∧ b := by
  obtain ⟨h1, h2⟩ := fF_z h
  refine ⟨h1, ?_⟩
  unfold rm at h2
  split at h2
  · assumption
  · exact absurd h2 (by decide)
section TXS
variable {c : HC} {n : Nat}
theorem s_word (s : TS) (ha : s.1 ≤ 1000) (r : Int) (b : Prop) [Decidable b] (hr : r = if b then 1 else 0) : VO mX9_readWord 1 (txs c s) [vr 2, vi r] (txs c (wdS s (rm b))) :=
  c_readWord c s.2.1 s.2.2.1 s.2.2.2 s.1 ha r (rm b) (by
    unfold rm
    by_cases h : b
    · rw [if_pos h] at hr ⊢
      omega
    · rw [if_neg h] at hr ⊢
      omega)
theorem s_num (hn : c 2 1 = (n : Int)) (hn2 : n ≤ 250) (lo hi : Int) (s : TS) (ha : s.1 ≤ 1000) : RW mX9_readNumber 1 (txs c s) [vr 2, vi lo, vi hi] (nuV (c 3) n s.1) (txs c (nuS (c 3) n lo hi s)) := c_readNumber c hn hn2 s.2.1 s.2.2.1 s.2.2.2 s.1 ha lo hi
theorem s_end (hn : c 2 1 = (n : Int)) (hn2 : n ≤ 250) (s : TS) (ha : s.1 ≤ 1000) : VO mX9_readEnd 1 (txs c s) [vr 2] (txs c (edS (c 3) n s)) := c_readEnd c hn hn2 s.2.1 s.2.2.1 s.2.2.2 s.1 ha
theorem s_skip (hn : c 2 1 = (n : Int)) (hn2 : n ≤ 250) (s : TS) : VO mX9_skipBlanks 0 (txs c s) [vr 2] (txs c (skS (c 3) n s)) := c_skip c hn hn2 s.2.1 s.2.2.1 s.2.2.2 s.1
theorem s_fail (s : TS) (k p : Int) (hk : k ≠ 0) : VO mX9_fail 0 (txs c s) [vr 2, vi k, vi p] (txs c (flS s k p)) := c_fail c s.1 s.2.1 s.2.2.1 s.2.2.2 k p hk
theorem s_row {s : TS} {x : Nat} (h : x ≠ 2) : txs c s x = c x := tx_row h
theorem s_at {s : TS} {x y : Nat} (h : x ≠ 2) : txs c s x y = c x y := congrFun (tx_row h) y
theorem s_up {s : TS} {x y : Nat} {z : Int} (h : x ≠ 2) : up2 (txs c s) x y z = txs (up2 c x y z) s := tx_up h
theorem wd1 {s : TS} {k : Int} : (wdS s k).1 = s.1 + 1 := rfl
theorem nu1 {t : Nat → Int} {lo hi : Int} {s : TS} : (nuS t n lo hi s).1 ≤ s.1 ∨ (nuS t n lo hi s).1 ≤ n := enF_bd t n s.1
end TXS
set_option maxHeartbeats 4000000 in
set_option maxRecDepth 100000 in
theorem c_addStem (c : HC) {g : Nat} (hg : g = 89 ∨ g = 102) (k : Nat) (hk : k < 6) (hc : c g 8 = (k : Int)) (v : Int) : VO mX3_addStem 0 c [vr g, vi v] (up2 (up2 c (g + 1) k v) g 8 ((k : Int) + 1)) := by
  obtain ⟨g0, gs, gs1, gs2, gs3, gs4, gs5, gs6, gf0, gf1, gf2, gf3, gf4, gf5⟩ := gK hg
  refine CC.of (by decide +kernel) (leb rfl) (fun hok => ?_)
  refine T_aloadn dX3_addStem_0 rfl rfl ?_
  first | refine T_getv dX3_addStem_1 fX3_37 (by first | assumption | rfl) (by first | decide | omega) rfl (by assumption) ?_ | refine T_geti dX3_addStem_1 fX3_37 (by first | assumption | rfl) (by first | decide | omega) rfl ?_
  refine T_bipush dX3_addStem_4 (bp8 rfl) (inr rfl) ?_
  refine T_icmp_ge (tgt := 29) dX3_addStem_6 rfl (fun b6 => absurd b6 (by omega)) (fun b6 => ?_)
  refine T_aloadn dX3_addStem_9 rfl rfl ?_
  refine T_getfin dX3_addStem_10 fX3_11 (by first | assumption | rfl) (by first | decide | omega) rfl (by first | assumption | rfl) ?_
  refine T_aloadn dX3_addStem_13 rfl rfl ?_
  first | refine T_getv dX3_addStem_14 fX3_37 (by first | assumption | rfl) (by first | decide | omega) rfl (by assumption) ?_ | refine T_geti dX3_addStem_14 fX3_37 (by first | assumption | rfl) (by first | decide | omega) rfl ?_
  refine T_iloadn dX3_addStem_17 rfl rfl ?_
  refine T_iast dX3_addStem_18 (by first | assumption | rfl) (by first | decide | omega) rfl (by omega) ?_
  refine T_aloadn dX3_addStem_19 rfl rfl ?_
  refine T_dup dX3_addStem_20 rfl ?_
  refine T_getv dX3_addStem_21 fX3_37 (by first | assumption | rfl) (by first | decide | omega) rfl ((up2_a _ _ (by omega)).trans hc) ?_
  refine T_iconst dX3_addStem_24 (inr rfl) ?_
  first | refine T_iaddN dX3_addStem_25 (by omega) ?_ | refine T_iadd dX3_addStem_25 ?_
  refine T_puti dX3_addStem_26 fX3_37 (by first | assumption | rfl) (by first | decide | omega) rfl rfl ?_
  refine TT_rv dX3_addStem_29 trivial ?_
  exact ⟨rfl, rfl⟩
set_option maxHeartbeats 4000000 in
set_option maxRecDepth 100000 in
theorem c_addEnding (c : HC) {g : Nat} (hg : g = 89 ∨ g = 102) (k : Nat) (hk : k < 4) (hc : c g 9 = (k : Int)) (v : Int) : VO mX3_addEnding 0 c [vr g, vi v] (up2 (up2 c (g + 2) k v) g 9 ((k : Int) + 1)) := by
  obtain ⟨g0, gs, gs1, gs2, gs3, gs4, gs5, gs6, gf0, gf1, gf2, gf3, gf4, gf5⟩ := gK hg
  refine CC.of (by decide +kernel) (leb rfl) (fun hok => ?_)
  refine T_aloadn dX3_addEnding_0 rfl rfl ?_
  first | refine T_getv dX3_addEnding_1 fX3_40 (by first | assumption | rfl) (by first | decide | omega) rfl (by assumption) ?_ | refine T_geti dX3_addEnding_1 fX3_40 (by first | assumption | rfl) (by first | decide | omega) rfl ?_
  refine T_iconst dX3_addEnding_4 (inr rfl) ?_
  refine T_icmp_ge (tgt := 28) dX3_addEnding_5 rfl (fun b5 => absurd b5 (by omega)) (fun b5 => ?_)
  refine T_aloadn dX3_addEnding_8 rfl rfl ?_
  refine T_getfin dX3_addEnding_9 fX3_15 (by first | assumption | rfl) (by first | decide | omega) rfl (by first | assumption | rfl) ?_
  refine T_aloadn dX3_addEnding_12 rfl rfl ?_
  first | refine T_getv dX3_addEnding_13 fX3_40 (by first | assumption | rfl) (by first | decide | omega) rfl (by assumption) ?_ | refine T_geti dX3_addEnding_13 fX3_40 (by first | assumption | rfl) (by first | decide | omega) rfl ?_
  refine T_iloadn dX3_addEnding_16 rfl rfl ?_
  refine T_iast dX3_addEnding_17 (by first | assumption | rfl) (by first | decide | omega) rfl (by omega) ?_
  refine T_aloadn dX3_addEnding_18 rfl rfl ?_
  refine T_dup dX3_addEnding_19 rfl ?_
  refine T_getv dX3_addEnding_20 fX3_40 (by first | assumption | rfl) (by first | decide | omega) rfl ((up2_a _ _ (by omega)).trans hc) ?_
  refine T_iconst dX3_addEnding_23 (inr rfl) ?_
  first | refine T_iaddN dX3_addEnding_24 (by omega) ?_ | refine T_iadd dX3_addEnding_24 ?_
  refine T_puti dX3_addEnding_25 fX3_40 (by first | assumption | rfl) (by first | decide | omega) rfl rfl ?_
  refine TT_rv dX3_addEnding_28 trivial ?_
  exact ⟨rfl, rfl⟩
set_option maxHeartbeats 4000000 in
set_option maxRecDepth 100000 in
theorem c_bar (c : HC) {g : Nat} (hg : g = 89 ∨ g = 102) (k : Int) (hk : 0 ≤ k ∧ k ≤ 6) (hc : c g 10 = k) (s t : Int) (hs : 0 ≤ s ∧ s < 6) (ht : 0 ≤ t ∧ t < 6) : VO mX3_bar 0 c [vr g, vi s, vi t] (up2 (up2 c (g + 3) s.toNat (bor (c (g + 3) s.toNat) (wr (1 * 2 ^ t.toNat)))) g 10 (k + 1)) := by
  obtain ⟨g0, gs, gs1, gs2, gs3, gs4, gs5, gs6, gf0, gf1, gf2, gf3, gf4, gf5⟩ := gK hg
  refine CC.of (by decide +kernel) (leb rfl) (fun hok => ?_)
  refine T_aloadn dX3_bar_0 rfl rfl ?_
  refine T_getfin dX3_bar_1 fX3_18 (by first | assumption | rfl) (by first | decide | omega) rfl (by first | assumption | rfl) ?_
  refine T_iloadn dX3_bar_4 rfl rfl ?_
  refine T_dup2 dX3_bar_5 rfl rfl ?_
  refine T_iald (j := s.toNat) dX3_bar_6 (by first | assumption | rfl) (by first | decide | omega) (by omega) (by omega) ?_
  refine T_iconst dX3_bar_7 (inr rfl) ?_
  refine T_iloadn dX3_bar_8 rfl rfl ?_
  refine T_ishl dX3_bar_9 (by omega) (by omega) ?_
  refine T_ior dX3_bar_10 ?_
  refine T_iast (j := s.toNat) dX3_bar_11 (by first | assumption | rfl) (by first | decide | omega) (by omega) (by omega) ?_
  refine T_aloadn dX3_bar_12 rfl rfl ?_
  refine T_dup dX3_bar_13 rfl ?_
  refine T_getv dX3_bar_14 fX3_43 (by first | assumption | rfl) (by first | decide | omega) rfl ((up2_a _ _ (by omega)).trans hc) ?_
  refine T_iconst dX3_bar_17 (inr rfl) ?_
  first | refine T_iaddN dX3_bar_18 (by omega) ?_ | refine T_iadd dX3_bar_18 ?_
  refine T_puti dX3_bar_19 fX3_43 (by first | assumption | rfl) (by first | decide | omega) rfl rfl ?_
  refine TT_rv dX3_bar_22 trivial ?_
  exact ⟨rfl, rfl⟩
set_option maxHeartbeats 4000000 in
set_option maxRecDepth 100000 in
theorem c_addSp (c : HC) {f : Nat} (hf : f = 96 ∨ f = 109) (k : Nat) (hk : k < 10) (hc : c f 4 = (k : Int)) (x y z w : Int) : VO mX7_add 0 c [vr f, vi x, vi y, vi z, vi w] (up2 (up2 (up2 (up2 (up2 c (f + 1) k x) (f + 2) k y) (f + 3) k z) (f + 4) k w) f 4 ((k : Int) + 1)) := by
  obtain ⟨s0, ss, ss1, ss2, ss3, ss4, sf0, sf1, sf2, sf3⟩ := sK hf
  refine CC.of (by decide +kernel) (leb rfl) (fun hok => ?_)
  refine T_aloadn dX7_add_0 rfl rfl ?_
  first | refine T_getv dX7_add_1 fX7_24 (by first | assumption | rfl) (by first | decide | omega) rfl (by assumption) ?_ | refine T_geti dX7_add_1 fX7_24 (by first | assumption | rfl) (by first | decide | omega) rfl ?_
  refine T_bipush dX7_add_4 (bp8 rfl) (inr rfl) ?_
  refine T_icmp_ge (tgt := 60) dX7_add_6 rfl (fun b6 => absurd b6 (by omega)) (fun b6 => ?_)
  refine T_aloadn dX7_add_9 rfl rfl ?_
  refine T_getfin dX7_add_10 fX7_9 (by first | assumption | rfl) (by first | decide | omega) rfl (by first | assumption | rfl) ?_
  refine T_aloadn dX7_add_13 rfl rfl ?_
  first | refine T_getv dX7_add_14 fX7_24 (by first | assumption | rfl) (by first | decide | omega) rfl (by assumption) ?_ | refine T_geti dX7_add_14 fX7_24 (by first | assumption | rfl) (by first | decide | omega) rfl ?_
  refine T_iloadn dX7_add_17 rfl rfl ?_
  refine T_iast dX7_add_18 (by first | assumption | rfl) (by first | decide | omega) rfl (by omega) ?_
  refine T_aloadn dX7_add_19 rfl rfl ?_
  refine T_getfin dX7_add_20 fX7_15 (by first | assumption | rfl) (by first | decide | omega) rfl (by first | assumption | rfl) ?_
  refine T_aloadn dX7_add_23 rfl rfl ?_
  refine T_getv dX7_add_24 fX7_24 (by first | assumption | rfl) (by first | decide | omega) rfl ((up2_a _ _ (by omega)).trans hc) ?_
  refine T_iloadn dX7_add_27 rfl rfl ?_
  refine T_iast dX7_add_28 (by first | assumption | rfl) (by first | decide | omega) rfl (by omega) ?_
  refine T_aloadn dX7_add_29 rfl rfl ?_
  refine T_getfin dX7_add_30 fX7_18 (by first | assumption | rfl) (by first | decide | omega) rfl (by first | assumption | rfl) ?_
  refine T_aloadn dX7_add_33 rfl rfl ?_
  refine T_getv dX7_add_34 fX7_24 (by first | assumption | rfl) (by first | decide | omega) rfl ((up2_a _ _ (by omega)).trans ((up2_a _ _ (by omega)).trans hc)) ?_
  refine T_iloadn dX7_add_37 rfl rfl ?_
  refine T_iast dX7_add_38 (by first | assumption | rfl) (by first | decide | omega) rfl (by omega) ?_
  refine T_aloadn dX7_add_39 rfl rfl ?_
  refine T_getfin dX7_add_40 fX7_21 (by first | assumption | rfl) (by first | decide | omega) rfl (by first | assumption | rfl) ?_
  refine T_aloadn dX7_add_43 rfl rfl ?_
  refine T_getv dX7_add_44 fX7_24 (by first | assumption | rfl) (by first | decide | omega) rfl ((up2_a _ _ (by omega)).trans ((up2_a _ _ (by omega)).trans ((up2_a _ _ (by omega)).trans hc))) ?_
  refine T_iload dX7_add_47 rfl ?_
  refine T_iast dX7_add_49 (by first | assumption | rfl) (by first | decide | omega) rfl (by omega) ?_
  refine T_aloadn dX7_add_50 rfl rfl ?_
  refine T_dup dX7_add_51 rfl ?_
  refine T_getv dX7_add_52 fX7_24 (by first | assumption | rfl) (by first | decide | omega) rfl ((up2_a _ _ (by omega)).trans ((up2_a _ _ (by omega)).trans ((up2_a _ _ (by omega)).trans ((up2_a _ _ (by omega)).trans hc)))) ?_
  refine T_iconst dX7_add_55 (inr rfl) ?_
  first | refine T_iaddN dX7_add_56 (by omega) ?_ | refine T_iadd dX7_add_56 ?_
  refine T_puti dX7_add_57 fX7_24 (by first | assumption | rfl) (by first | decide | omega) rfl rfl ?_
  refine TT_rv dX7_add_60 trivial ?_
  exact ⟨rfl, rfl⟩
