/-! the reference: feast -/
theorem fF_nn {F k : Int} (h : 0 ≤ F) (h2 : 0 ≤ k) : 0 ≤ fF F k := by unfold fF; split <;> omega
theorem nuS_nn {t : Nat → Int} {n : Nat} {lo hi : Int} {s : TS} (h : 0 ≤ s.2.2.1) : 0 ≤ (nuS t n lo hi s).2.2.1 := fF_nn h (by have := nuK_3 t n s.1 lo hi; omega)
theorem edS_nn {t : Nat → Int} {n : Nat} {s : TS} (h : 0 ≤ s.2.2.1) : 0 ≤ (edS t n s).2.2.1 := fF_nn h (by unfold edK; split <;> omega)
theorem wdS_nn {s : TS} {b : Prop} [Decidable b] (h : 0 ≤ s.2.2.1) : 0 ≤ (wdS s (rm b)).2.2.1 := fF_nn h (by unfold rm; split <;> omega)
theorem flS_nn {s : TS} {k p : Int} (h : 0 ≤ s.2.2.1) (hk : 0 ≤ k) : 0 ≤ (flS s k p).2.2.1 := fF_nn h hk
theorem clF_nn {t : Nat → Int} {n : Nat} {D : HC} {s : TS} (h : 0 ≤ s.2.2.1) : 0 ≤ (clF t n D s).2.2.2.1 := by
  unfold clF
  split
  · exact flS_nn h (by decide)
  · split
    · exact edS_nn (nuS_nn (nuS_nn (wdS_nn h)))
    · split
      · exact edS_nn (nuS_nn (wdS_nn h))
      · split
        · exact edS_nn (nuS_nn (wdS_nn h))
        · split
          · exact edS_nn (nuS_nn (nuS_nn (nuS_nn (nuS_nn (wdS_nn h)))))
          · split
            · refine edS_nn ?_
              split
              · exact flS_nn (nuS_nn (nuS_nn (wdS_nn h))) (by decide)
              · exact nuS_nn (nuS_nn (wdS_nn h))
            · exact flS_nn h (by decide)
theorem rdL_nn {t : Nat → Int} {n : Nat} : ∀ (k : Nat) (r : HC × TS), 0 ≤ r.2.2.2.1 → 0 ≤ (rdL t n k r).2.2.2.1
  | 0, r, h => h
  | k + 1, r, h => by
    unfold rdL
    split
    · exact rdL_nn k _ (clF_nn h)
    · exact h
theorem parse_nn (t : Nat → Int) (n : Nat) (N : Int) : 0 ≤ (parse t n N).2.2.2.1 := rdL_nn 250 _ (Int.le_refl 0)
def FZ (c c1 : HC) (P : Int) : Prop := (∀ x, x ≠ 122 → (x < 132 ∨ 139 < x) → c1 x = c x) ∧ c1 122 15 = 0 ∧ c1 122 16 = P ∧ ∀ k, (k < 15 ∨ 30 < k) → c1 122 k = c 122 k
def FS (c c1 D : HC) (P : Int) : Prop := (c1 122 0 = D 0 0 ∧ c1 122 1 = D 0 1 ∧ c1 122 2 = D 0 2 ∧ c1 122 4 = D 0 3 ∧ c1 122 6 = D 0 4) ∧ (∀ j : Nat, (j : Int) < D 0 2 → c1 123 j = D 1 j ∧ c1 129 j = D 3 j) ∧ (∀ j : Nat, (j : Int) < D 0 3 → c1 124 j = D 2 j) ∧ (∀ j : Nat, (j : Int) < D 0 4 → c1 125 j = D 4 j ∧ c1 126 j = D 5 j ∧ c1 127 j = D 6 j ∧ c1 128 j = D 7 j) ∧ (∀ k, k < 53 → c1 130 k = bgN (c1 126) (D 0 4).toNat k) ∧ (∀ l, l < 42 → LW c1 c1 66660 l) ∧ (c1 122 13 = c 122 13 ∧ c1 122 15 = 0 ∧ c1 122 16 = P ∧ c1 122 34 = 0 ∧ c1 122 37 = 0 ∧ c1 122 39 = 0) ∧ c1 131 = c 131 ∧ c1 148 0 = 0 ∧ c1 148 1 = 0 ∧ ∀ x, x < 122 → c1 x = c x
def fsI (c : HC) : HC := up2 (up2 (up2 (up2 (up2 (up2 (up2 (up2 c 122 16 (-1)) 122 17 0) 132 0 0) 132 1 0) 122 21 0) 122 23 0) 122 25 0) 122 30 0
theorem fsI_o {c : HC} {x : Nat} (h : x ≠ 122) (h2 : x ≠ 132) : fsI c x = c x := by
  unfold fsI
  rw [up2_row _ _ _ _ h, up2_row _ _ _ _ h, up2_row _ _ _ _ h, up2_row _ _ _ _ h, up2_row _ _ _ _ h2, up2_row _ _ _ _ h2, up2_row _ _ _ _ h, up2_row _ _ _ _ h]
theorem fsI_f {c : HC} {k : Nat} (h : k < 16 ∨ 30 < k) : fsI c 122 k = c 122 k := by
  unfold fsI
  rw [up2_k _ _ (by omega), up2_k _ _ (by omega), up2_k _ _ (by omega), up2_k _ _ (by omega), up2_a _ _ (by decide), up2_a _ _ (by decide), up2_k _ _ (by omega), up2_k _ _ (by omega)]
theorem fsI_RR {c : HC} : RR (fsI c) D0 := by
  unfold fsI D0
  refine ⟨⟨by simp [up2_g], by simp [up2_g], by simp [up2_g], by simp [up2_g], by simp [up2_g], by simp [up2_g]⟩, fun j hj => absurd (show (j : Int) < 0 from hj) (by omega), fun j hj => absurd (show (j : Int) < 0 from hj) (by omega), fun j hj => absurd (show (j : Int) < 0 from hj) (by omega)⟩
theorem fsI_1 {c : HC} : fsI c 122 16 = -1 ∧ fsI c 122 17 = 0 := by
  unfold fsI
  simp [up2_g]
theorem RR_rt {c D : HC} {A V N P : Int} (h : RR c D) : RR (up2 (rt c A V N P) 122 15 0) D := by
  obtain ⟨⟨r0, r1, r2, r3, r4, r5⟩, q1, q2, q4⟩ := h
  have eo : ∀ x, x ≠ 122 → up2 (rt c A V N P) 122 15 0 x = c x := fun x hx => (up2_row _ _ _ _ hx).trans (rt_row hx)
  have ef : ∀ k, 19 < k → up2 (rt c A V N P) 122 15 0 122 k = c 122 k := fun k hk => (up2_k _ _ (by omega)).trans (rt_f (Or.inr hk))
  unfold RR
  rw [eo 132 (by decide), eo 133 (by decide), eo 134 (by decide), eo 135 (by decide), eo 136 (by decide), eo 137 (by decide), eo 138 (by decide), eo 139 (by decide), ef 21 (by decide), ef 23 (by decide), ef 25 (by decide), ef 30 (by decide)]
  exact ⟨⟨r0, r1, r2, r3, r4, r5⟩, q1, q2, q4⟩
set_option maxHeartbeats 4000000 in
set_option maxRecDepth 100000 in
theorem y_feast (c : HC) {n : Nat} (hn : c 122 15 = (n : Int)) (hn2 : n ≤ 250) (ht : ∀ j, 0 ≤ c 131 j) (N0 : Int) : CC mX11_feast 5 c [vr 122] (fun v c1 => ((parse (c 131) n N0).2.2.2.1 ≠ 0 ∧ v = some (vi (wr (-10 - (parse (c 131) n N0).2.2.2.1))) ∧ FZ c c1 (parse (c 131) n N0).2.2.2.2) ∨ ((parse (c 131) n N0).2.2.2.1 = 0 ∧ v = some (vi ((parse (c 131) n N0).1 0 4)) ∧ DV (parse (c 131) n N0).1 ∧ FS c c1 (parse (c 131) n N0).1 (parse (c 131) n N0).2.2.2.2)) := by
  have hnn := parse_nn (c 131) n N0
  have hp : parse (c 131) n N0 = rdL (c 131) n 250 (D0, (skF (c 131) n 0, N0, 0, -1)) := rfl
  have hb := skF_bd (c 131) n 0
  refine CC.of (by decide +kernel) (leb rfl) (fun hok => ?_)
  refine T_aloadn dX11_feast_0 rfl rfl ?_
  refine T_iconst dX11_feast_1 (inr rfl) ?_
  refine T_puti dX11_feast_2 fX11_37 (by first | assumption | rfl) (by first | decide | omega) rfl rfl ?_
  refine T_aloadn dX11_feast_5 rfl rfl ?_
  refine T_iconst dX11_feast_6 (inr rfl) ?_
  refine T_puti dX11_feast_7 fX11_111 (by first | assumption | rfl) (by first | decide | omega) rfl rfl ?_
  refine T_aloadn dX11_feast_10 rfl rfl ?_
  refine T_getfin dX11_feast_11 fX11_41 (by first | assumption | rfl) (by first | decide | omega) rfl (by first | assumption | rfl) ?_
  refine T_iconst dX11_feast_14 (inr rfl) ?_
  refine T_iconst dX11_feast_15 (inr rfl) ?_
  refine T_iast (j := 0) dX11_feast_16 (by first | assumption | rfl) (by first | decide | omega) (by omega) (by omega) ?_
  refine T_aloadn dX11_feast_17 rfl rfl ?_
  refine T_getfin dX11_feast_18 fX11_41 (by first | assumption | rfl) (by first | decide | omega) rfl (by first | assumption | rfl) ?_
  refine T_iconst dX11_feast_21 (inr rfl) ?_
  refine T_iconst dX11_feast_22 (inr rfl) ?_
  refine T_iast (j := 1) dX11_feast_23 (by first | assumption | rfl) (by first | decide | omega) (by omega) (by omega) ?_
  refine T_aloadn dX11_feast_24 rfl rfl ?_
  refine T_iconst dX11_feast_25 (inr rfl) ?_
  refine T_puti dX11_feast_26 fX11_139 (by first | assumption | rfl) (by first | decide | omega) rfl rfl ?_
  refine T_aloadn dX11_feast_29 rfl rfl ?_
  refine T_iconst dX11_feast_30 (inr rfl) ?_
  refine T_puti dX11_feast_31 fX11_142 (by first | assumption | rfl) (by first | decide | omega) rfl rfl ?_
  refine T_aloadn dX11_feast_34 rfl rfl ?_
  refine T_iconst dX11_feast_35 (inr rfl) ?_
  refine T_puti dX11_feast_36 fX11_145 (by first | assumption | rfl) (by first | decide | omega) rfl rfl ?_
  refine T_aloadn dX11_feast_39 rfl rfl ?_
  refine T_iconst dX11_feast_40 (inr rfl) ?_
  refine T_puti dX11_feast_41 fX11_148 (by first | assumption | rfl) (by first | decide | omega) rfl rfl ?_
  refine T_iconst dX11_feast_44 (inr rfl) ?_
  refine T_istoren dX11_feast_45 rfl (by decide) rfl ?_
  refine T_c (show _ = rt (fsI c) ((0 : Nat) : Int) (fsI c 122 18) (fsI c 122 19) (-1) by
    have z := rt_self (c := fsI c)
    rw [fsI_1.1, fsI_1.2] at z
    exact z.symm) ?_
  refine yl_read (fsI c) hn2 (c 131) ht _ 250 (fsI c) D0 0 _ _ N0 (-1) FRX.refl ((fsI_f (by decide)).trans hn) (fsI_o (by decide) (by decide)) DV_0 (fun _ _ => rfl) fsI_RR (by omega) (by decide) (fun cc A V2 N2 hf hz => ?_)
  rw [← hp] at hz ⊢
  generalize hr : parse (c 131) n N0 = r at *
  have hx : ∀ x, x ≠ 122 → (x < 132 ∨ 139 < x) → cc x = c x := fun x h1 h2 => (hf.1 x h1 h2).trans (fsI_o h1 (by omega))
  have hk : ∀ k, (k < 16 ∨ 30 < k) → cc 122 k = c 122 k := fun k h1 => (hf.2 k (by omega) (by omega) (by omega) (by omega)).trans (fsI_f h1)
  refine T_aloadn dX11_feast_65 rfl rfl ?_
  refine T_iconst dX11_feast_66 (inr rfl) ?_
  refine T_puti dX11_feast_67 fX11_107 (by first | assumption | rfl) (by first | decide | omega) rfl rfl ?_
  refine T_iloadn dX11_feast_70 rfl rfl ?_
  refine T_if_le (tgt := 79) dX11_feast_71 rfl (fun b71 => ?_) (fun b71 => ?_)
  · have h0 : r.2.2.2.1 = 0 := by omega
    refine T_aloadn dX11_feast_79 rfl rfl ?_
    refine TT_V dX11_feast_80 (r_takeRead (up2 (rt cc (A : Int) V2 N2 r.2.2.2.2) 122 15 0) r.1 (RR_rt (hz h0).1) (hz h0).2) kX11_188 (by decide) (by first | decide | omega) (by first | assumption | rfl) rfl (leb rfl) (fun v c1 hq => ?_)
    obtain ⟨rfl, t1, t2, t3, t4, t5, t6, t7, t8⟩ := hq
    refine T_aloadn dX11_feast_83 rfl rfl ?_
    refine T_iconst dX11_feast_84 (inr rfl) ?_
    refine T_puti dX11_feast_85 fX11_191 (by first | assumption | rfl) (by first | decide | omega) rfl rfl ?_
    refine T_aloadn dX11_feast_88 rfl rfl ?_
    refine T_iconst dX11_feast_89 (inr rfl) ?_
    refine T_puti dX11_feast_90 fX11_194 (by first | assumption | rfl) (by first | decide | omega) rfl rfl ?_
    refine T_aloadn dX11_feast_93 rfl rfl ?_
    refine T_iconst dX11_feast_94 (inr rfl) ?_
    refine T_puti dX11_feast_95 fX11_197 (by first | assumption | rfl) (by first | decide | omega) rfl rfl ?_
    refine T_aloadn dX11_feast_98 rfl rfl ?_
    refine T_getfin dX11_feast_99 fX11_89 (by first | assumption | rfl) (by first | decide | omega) rfl (by first | assumption | rfl) ?_
    refine T_iconst dX11_feast_102 (inr rfl) ?_
    refine T_iconst dX11_feast_103 (inr rfl) ?_
    refine T_zast (j := 0) dX11_feast_104 (by first | assumption | rfl) (by first | decide | omega) (by omega) (by omega) (by first | exact Or.inl rfl | exact Or.inr rfl | assumption) ?_
    refine T_aloadn dX11_feast_105 rfl rfl ?_
    refine T_getfin dX11_feast_106 fX11_89 (by first | assumption | rfl) (by first | decide | omega) rfl (by first | assumption | rfl) ?_
    refine T_iconst dX11_feast_109 (inr rfl) ?_
    refine T_iconst dX11_feast_110 (inr rfl) ?_
    refine T_zast (j := 1) dX11_feast_111 (by first | assumption | rfl) (by first | decide | omega) (by omega) (by omega) (by first | exact Or.inl rfl | exact Or.inr rfl | assumption) ?_
    refine T_aloadn dX11_feast_112 rfl rfl ?_
    refine T_getv dX11_feast_113 fX11_93 (by first | assumption | rfl) (by first | decide | omega) rfl (show _ = r.1 0 4 by rw [up2_a _ _ (by decide), up2_a _ _ (by decide), up2_k _ _ (by decide), up2_k _ _ (by decide), up2_k _ _ (by decide)]; exact t1.2.2.2.2) ?_
    refine TT_ri dX11_feast_116 trivial ?_
    have eo : ∀ x, x ≠ 122 → x ≠ 148 → up2 (up2 (up2 (up2 (up2 c1 122 37 0) 122 39 0) 122 34 0) 148 0 0) 148 1 0 x = c1 x := fun x h1 h2 => by rw [up2_row _ _ _ _ h2, up2_row _ _ _ _ h2, up2_row _ _ _ _ h1, up2_row _ _ _ _ h1, up2_row _ _ _ _ h1]
    have ef : ∀ k, k < 34 → up2 (up2 (up2 (up2 (up2 c1 122 37 0) 122 39 0) 122 34 0) 148 0 0) 148 1 0 122 k = c1 122 k := fun k h1 => by rw [up2_a _ _ (by decide), up2_a _ _ (by decide), up2_k _ _ (by omega), up2_k _ _ (by omega), up2_k _ _ (by omega)]
    have el : ∀ w, lenR (up2 (up2 (up2 (up2 (up2 c1 122 37 0) 122 39 0) 122 34 0) 148 0 0) 148 1 0) w = lenR c1 w := fun w => lenR_row (fun k h1 => ef k (by omega)) (eo _ (by decide) (by decide)) (eo _ (by decide) (by decide)) (eo _ (by decide) (by decide)) w
    refine Or.inr ⟨h0, rfl, (hz h0).2, ?_, fun j hj => ?_, fun j hj => ?_, fun j hj => ?_, fun k h1 => ?_, fun l hl => ?_, ?_, ?_, ?_, ?_, fun x h1 => ?_⟩
    · rw [ef 0 (by decide), ef 1 (by decide), ef 2 (by decide), ef 4 (by decide), ef 6 (by decide)]; exact t1
    · rw [eo 123 (by decide) (by decide), eo 129 (by decide) (by decide)]; exact t2 j hj
    · rw [eo 124 (by decide) (by decide)]; exact t3 j hj
    · rw [eo 125 (by decide) (by decide), eo 126 (by decide) (by decide), eo 127 (by decide) (by decide), eo 128 (by decide) (by decide)]; exact t4 j hj
    · rw [eo 130 (by decide) (by decide), eo 126 (by decide) (by decide)]; exact t5 k h1
    · have z := t8 l hl
      unfold LW FL1 at z ⊢
      simp only [el]
      rw [eo 140 (by decide) (by decide), eo 141 (by decide) (by decide)]
      exact z
    · refine ⟨?_, ?_, ?_, ?_, ?_, ?_⟩
      · rw [ef 13 (by decide), t6 13 (by decide), up2_k _ _ (by decide), rt_f (by decide)]; exact hk 13 (by decide)
      · rw [ef 15 (by decide), t6 15 (by decide), up2_s]
      · rw [ef 16 (by decide), t6 16 (by decide), up2_k _ _ (by decide)]; rfl
      · rw [up2_a _ _ (by decide), up2_a _ _ (by decide), up2_s]
      · rw [up2_a _ _ (by decide), up2_a _ _ (by decide), up2_k _ _ (by decide), up2_k _ _ (by decide), up2_s]
      · rw [up2_a _ _ (by decide), up2_a _ _ (by decide), up2_k _ _ (by decide), up2_s]
    · rw [eo 131 (by decide) (by decide), t7 131 (by decide) (by decide) (by decide) (by decide), up2_row _ _ _ _ (by decide), rt_row (by decide)]; exact hx 131 (by decide) (by decide)
    · rw [up2_k _ _ (by decide), up2_s]
    · rw [up2_s]
    · rw [eo x (by omega) (by omega), t7 x (by omega) (by omega) (by omega) (by omega), up2_row _ _ _ _ (by omega), rt_row (by omega)]; exact hx x (by omega) (by omega)
  · refine T_bipush dX11_feast_74 (bp8 rfl) (inr rfl) ?_
    refine T_iloadn dX11_feast_76 rfl rfl ?_
    refine T_isub dX11_feast_77 ?_
    refine TT_ri dX11_feast_78 trivial ?_
    refine Or.inl ⟨by omega, rfl, fun x h1 h2 => ?_, up2_s _ _ _ _, (up2_k _ _ (by decide)).trans rt16, fun k h1 => ?_⟩
    · rw [up2_row _ _ _ _ h1, rt_row h1]; exact hx x h1 h2
    · rw [up2_k _ _ (by omega), rt_f (by omega)]; exact hk k (by omega)
