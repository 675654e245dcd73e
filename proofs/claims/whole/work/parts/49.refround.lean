/-! the reference: past, images, round, draws -/
def shP (c : HC) (j : Nat) : HC := fun x y => if x = 142 ∧ y + 53 < j then c 142 (y + 53) else c x y
def cpP (c : HC) (u j : Nat) : HC := fun x y => if x = 142 ∧ 53 * u ≤ y ∧ y < 53 * u + j then c 130 (y - 53 * u) else c x y
def cpI (c : HC) (u j : Nat) : HC := fun x y => if x = 147 ∧ 54 * u ≤ y ∧ y < 54 * u + j then c 130 (y - 54 * u) else c x y
def remR (c : HC) (u : Nat) : HC := if u = 20 then up2 (cpP (up2 (shP c 1060) 122 34 19) 19 53) 122 34 20 else up2 (cpP c u 53) 122 34 ((u : Int) + 1)
theorem shP_o {c : HC} {j x y : Nat} (h : x ≠ 142) : shP c j x y = c x y := by unfold shP; rw [if_neg (fun z => h z.1)]
theorem cpP_o {c : HC} {u j x y : Nat} (h : x ≠ 142) : cpP c u j x y = c x y := by unfold cpP; rw [if_neg (fun z => h z.1)]
theorem cpI_o {c : HC} {u j x y : Nat} (h : x ≠ 147) : cpI c u j x y = c x y := by unfold cpI; rw [if_neg (fun z => h z.1)]
theorem shP_53 {c : HC} : shP c 53 = c := by
  funext x y
  unfold shP
  rw [if_neg (by omega)]
theorem shP_s {c : HC} {j : Nat} (h : 53 ≤ j) : up2 (shP c j) 142 (j - 53) (c 142 j) = shP c (j + 1) := by
  funext x y
  rw [up2_g]
  unfold shP
  by_cases e : x = 142
  · subst e
    by_cases e2 : y = j - 53
    · subst e2
      rw [if_pos ⟨rfl, rfl⟩, if_pos ⟨rfl, by omega⟩, show j - 53 + 53 = j by omega]
    · rw [if_neg (show ¬ (142 = 142 ∧ y = j - 53) from fun z => e2 z.2)]
      by_cases e3 : y + 53 < j
      · rw [if_pos ⟨rfl, e3⟩, if_pos ⟨rfl, by omega⟩]
      · rw [if_neg (fun z => e3 z.2), if_neg (fun z => by omega)]
  · rw [if_neg (fun z => e z.1), if_neg (fun z => e z.1), if_neg (fun z => e z.1)]
theorem cpP_0 {c : HC} {u : Nat} : cpP c u 0 = c := by
  funext x y
  unfold cpP
  rw [if_neg (by omega)]
theorem cpI_0 {c : HC} {u : Nat} : cpI c u 0 = c := by
  funext x y
  unfold cpI
  rw [if_neg (by omega)]
theorem cpP_s {c : HC} {u j : Nat} : up2 (cpP c u j) 142 (53 * u + j) (c 130 j) = cpP c u (j + 1) := by
  funext x y
  rw [up2_g]
  unfold cpP
  by_cases e : x = 142
  · subst e
    by_cases e2 : y = 53 * u + j
    · subst e2
      rw [if_pos ⟨rfl, rfl⟩, if_pos ⟨rfl, by omega, by omega⟩, show 53 * u + j - 53 * u = j by omega]
    · rw [if_neg (show ¬ (142 = 142 ∧ y = 53 * u + j) from fun z => e2 z.2)]
      by_cases e3 : 53 * u ≤ y ∧ y < 53 * u + j
      · rw [if_pos ⟨rfl, e3⟩, if_pos ⟨rfl, by omega, by omega⟩]
      · rw [if_neg (fun z => e3 z.2), if_neg (fun z => by omega)]
  · rw [if_neg (fun z => e z.1), if_neg (fun z => e z.1), if_neg (fun z => e z.1)]
theorem cpI_s {c : HC} {u j : Nat} : up2 (cpI c u j) 147 (54 * u + j) (c 130 j) = cpI c u (j + 1) := by
  funext x y
  rw [up2_g]
  unfold cpI
  by_cases e : x = 147
  · subst e
    by_cases e2 : y = 54 * u + j
    · subst e2
      rw [if_pos ⟨rfl, rfl⟩, if_pos ⟨rfl, by omega, by omega⟩, show 54 * u + j - 54 * u = j by omega]
    · rw [if_neg (show ¬ (147 = 147 ∧ y = 54 * u + j) from fun z => e2 z.2)]
      by_cases e3 : 54 * u ≤ y ∧ y < 54 * u + j
      · rw [if_pos ⟨rfl, e3⟩, if_pos ⟨rfl, by omega, by omega⟩]
      · rw [if_neg (fun z => e3 z.2), if_neg (fun z => by omega)]
  · rw [if_neg (fun z => e z.1), if_neg (fun z => e z.1), if_neg (fun z => e z.1)]
set_option maxHeartbeats 4000000 in
set_option maxRecDepth 100000 in
theorem rl_rem2 (c : HC) (u : Nat) (hu : c 122 34 = (u : Int)) (h19 : u ≤ 19) : ∀ (k j : Nat), j + k = 53 → TT mX11_remember 0 52 [(0, vr 122), (1, vi (j : Int))] [] (cpP c u j) (fun v c1 => v = none ∧ c1 = up2 (cpP c u 53) 122 34 ((u : Int) + 1)) := by
  intro k
  induction k with
  | zero =>
    intro j hk
    have e : j = 53 := by omega
    subst e
    refine T_iloadn dX11_remember_52 rfl rfl ?_
    refine T_bipush dX11_remember_53 (bp8 rfl) (inr rfl) ?_
    refine T_icmp_ge (tgt := 84) dX11_remember_55 rfl (fun b55 => ?_) (fun b55 => absurd b55 (by decide))
    refine T_aloadn dX11_remember_84 rfl rfl ?_
    refine T_dup dX11_remember_85 rfl ?_
    refine T_getv dX11_remember_86 fX11_197 (by first | assumption | rfl) (by first | decide | omega) rfl ((cpP_o (by decide)).trans hu) ?_
    refine T_iconst dX11_remember_89 (inr rfl) ?_
    first | refine T_iaddN dX11_remember_90 (by omega) ?_ | refine T_iadd dX11_remember_90 ?_
    refine T_puti dX11_remember_91 fX11_197 (by first | assumption | rfl) (by first | decide | omega) rfl rfl ?_
    refine TT_rv dX11_remember_94 trivial ?_
    exact ⟨rfl, rfl⟩
  | succ k ih =>
    intro j hk
    have h := ih (j + 1) (by omega)
    refine T_iloadn dX11_remember_52 rfl rfl ?_
    refine T_bipush dX11_remember_53 (bp8 rfl) (inr rfl) ?_
    refine T_icmp_ge (tgt := 84) dX11_remember_55 rfl (fun b55 => absurd b55 (by omega)) (fun b55 => ?_)
    refine T_aloadn dX11_remember_58 rfl rfl ?_
    refine T_getfin dX11_remember_59 fX11_71 (by first | assumption | rfl) (by first | decide | omega) rfl (by first | assumption | rfl) ?_
    refine T_bipush dX11_remember_62 (bp8 rfl) (inr rfl) ?_
    refine T_aloadn dX11_remember_64 rfl rfl ?_
    refine T_getv dX11_remember_65 fX11_197 (by first | assumption | rfl) (by first | decide | omega) rfl ((cpP_o (by decide)).trans hu) ?_
    first | refine T_imulN dX11_remember_68 (by omega) ?_ | refine T_imul dX11_remember_68 ?_
    refine T_iloadn dX11_remember_69 rfl rfl ?_
    first | refine T_iaddN dX11_remember_70 (by omega) ?_ | refine T_iadd dX11_remember_70 ?_
    refine T_aloadn dX11_remember_71 rfl rfl ?_
    refine T_getfin dX11_remember_72 fX11_31 (by first | assumption | rfl) (by first | decide | omega) rfl (by first | assumption | rfl) ?_
    refine T_iloadn dX11_remember_75 rfl rfl ?_
    refine T_ialdv (j := j) dX11_remember_76 (by first | assumption | rfl) (by first | decide | omega) (by omega) (by omega) (cpP_o (by decide)) ?_
    refine T_iast (j := 53 * u + j) dX11_remember_77 (by first | assumption | rfl) (by first | decide | omega) (by omega) (by omega) ?_
    refine T_iincN dX11_remember_78 rfl (by decide) rfl (by omega) ?_
    refine T_goto (tgt := 52) dX11_remember_81 rfl ?_
    rw [cpP_s]
    exact h
set_option maxHeartbeats 4000000 in
set_option maxRecDepth 100000 in
theorem rl_rem1 (c : HC) (hu : c 122 34 = 20) (Q : Option PV → HC → Prop) (hq : TT mX11_remember 0 50 [(0, vr 122)] [] (up2 (shP c 1060) 122 34 19) Q) : ∀ (k j : Nat), j + k = 1060 → 53 ≤ j → TT mX11_remember 0 12 [(0, vr 122), (1, vi (j : Int))] [] (shP c j) Q := by
  intro k
  induction k with
  | zero =>
    intro j hk hj
    have e : j = 1060 := by omega
    subst e
    refine T_iloadn dX11_remember_12 rfl rfl ?_
    refine T_sipush dX11_remember_13 (bp16 rfl) (inr rfl) ?_
    refine T_icmp_ge (tgt := 40) dX11_remember_16 rfl (fun b16 => ?_) (fun b16 => absurd b16 (by decide))
    refine T_aloadn dX11_remember_40 rfl rfl ?_
    refine T_dup dX11_remember_41 rfl ?_
    refine T_getv dX11_remember_42 fX11_197 (by first | assumption | rfl) (by first | decide | omega) rfl ((shP_o (by decide)).trans hu) ?_
    refine T_iconst dX11_remember_45 (inr rfl) ?_
    first | refine T_isubN dX11_remember_46 (by omega) ?_ | refine T_isub dX11_remember_46 ?_
    refine T_puti dX11_remember_47 fX11_197 (by first | assumption | rfl) (by first | decide | omega) rfl rfl ?_
    refine T_keep [0] ?_
    rw [show (20 : Int) - 1 = 19 from rfl]
    exact hq
  | succ k ih =>
    intro j hk hj
    have h := ih (j + 1) (by omega) (by omega)
    refine T_iloadn dX11_remember_12 rfl rfl ?_
    refine T_sipush dX11_remember_13 (bp16 rfl) (inr rfl) ?_
    refine T_icmp_ge (tgt := 40) dX11_remember_16 rfl (fun b16 => absurd b16 (by omega)) (fun b16 => ?_)
    refine T_aloadn dX11_remember_19 rfl rfl ?_
    refine T_getfin dX11_remember_20 fX11_71 (by first | assumption | rfl) (by first | decide | omega) rfl (by first | assumption | rfl) ?_
    refine T_iloadn dX11_remember_23 rfl rfl ?_
    refine T_bipush dX11_remember_24 (bp8 rfl) (inr rfl) ?_
    first | refine T_isubN dX11_remember_26 (by omega) ?_ | refine T_isub dX11_remember_26 ?_
    refine T_aloadn dX11_remember_27 rfl rfl ?_
    refine T_getfin dX11_remember_28 fX11_71 (by first | assumption | rfl) (by first | decide | omega) rfl (by first | assumption | rfl) ?_
    refine T_iloadn dX11_remember_31 rfl rfl ?_
    refine T_ialdv (j := j) dX11_remember_32 (by first | assumption | rfl) (by first | decide | omega) (by omega) (by omega) (show shP c j 142 j = c 142 j by unfold shP; rw [if_neg (by omega)]) ?_
    refine T_iast (j := j - 53) dX11_remember_33 (by first | assumption | rfl) (by first | decide | omega) (by omega) (by omega) ?_
    refine T_iincN dX11_remember_34 rfl (by decide) rfl (by omega) ?_
    refine T_goto (tgt := 12) dX11_remember_37 rfl ?_
    rw [shP_s hj]
    exact h
set_option maxHeartbeats 4000000 in
set_option maxRecDepth 100000 in
theorem r_remember (c : HC) (u : Nat) (hu : c 122 34 = (u : Int)) (h20 : u ≤ 20) : VO mX11_remember 0 c [vr 122] (remR c u) := by
  refine CC.of (by decide +kernel) (leb rfl) (fun hok => ?_)
  unfold remR
  refine T_aloadn dX11_remember_0 rfl rfl ?_
  refine T_getv dX11_remember_1 fX11_197 (by first | assumption | rfl) (by first | decide | omega) rfl hu ?_
  refine T_bipush dX11_remember_4 (bp8 rfl) (inr rfl) ?_
  refine T_icmp_ne (tgt := 50) dX11_remember_6 rfl (fun b6 => ?_) (fun b6 => ?_)
  · refine T_iconst dX11_remember_50 (inr rfl) ?_
    refine T_istoren dX11_remember_51 rfl (by decide) rfl ?_
    rw [if_neg (by omega)]
    refine T_c (cpP_0 (u := u)).symm ?_
    exact rl_rem2 c u hu (by omega) 53 0 (by decide)
  · refine T_bipush dX11_remember_9 (bp8 rfl) (inr rfl) ?_
    refine T_istoren dX11_remember_11 rfl (by decide) rfl ?_
    have e : u = 20 := by omega
    subst e
    rw [if_pos rfl]
    refine T_c shP_53.symm ?_
    refine rl_rem1 c hu _ ?_ 1007 53 (by omega) (by omega)
    refine T_iconst dX11_remember_50 (inr rfl) ?_
    refine T_istoren dX11_remember_51 rfl (by decide) rfl ?_
    refine T_c (cpP_0 (u := 19)).symm ?_
    exact rl_rem2 (up2 (shP c 1060) 122 34 19) 19 (up2_s _ _ _ _) (by decide) 53 0 (by decide)
theorem rem_o {c : HC} {u x y : Nat} (h : x ≠ 142) (h2 : x ≠ 122) : remR c u x y = c x y := by
  unfold remR
  split
  · rw [up2_a _ _ h2, cpP_o h, up2_a _ _ h2, shP_o h]
  · rw [up2_a _ _ h2, cpP_o h]
theorem rem_row {c : HC} {u x : Nat} (h : x ≠ 142) (h2 : x ≠ 122) : remR c u x = c x := funext fun _ => rem_o h h2
theorem rem_f {c : HC} {u y : Nat} (h : y ≠ 34) : remR c u 122 y = c 122 y := by
  unfold remR
  split
  · rw [up2_k _ _ h, cpP_o (by decide), up2_k _ _ h, shP_o (by decide)]
  · rw [up2_k _ _ h, cpP_o (by decide)]
theorem RGV_rem {c : HC} {u : Nat} (h : RGV c) : RGV (remR c u) := RGV_row (fun k hk => rem_f (by omega)) (rem_row (by decide) (by decide)) (rem_row (by decide) (by decide)) h
theorem RSV_rem {c : HC} {u n : Nat} (h : RSV c n) : RSV (remR c u) n := RSV_row (rem_f (by decide)) (rem_row (by decide) (by decide)) (rem_row (by decide) (by decide)) (rem_row (by decide) (by decide)) (rem_row (by decide) (by decide)) h
theorem sylR_rem {c : HC} {u : Nat} (w : Int) : sylR (remR c u) w = sylR c w := by
  unfold sylR sylF
  split
  · rfl
  · exact lenR_row (fun k hk => rem_f (by omega)) (rem_row (by decide) (by decide)) (rem_row (by decide) (by decide)) (rem_row (by decide) (by decide)) w
def unR (c : HC) (u : Nat) : HC := if u = 0 then c else nowP (up2 c 122 34 ((u : Int) - 1)) (fun k => c 142 (53 * (u - 1) + k))
set_option maxHeartbeats 4000000 in
set_option maxRecDepth 100000 in
theorem yl_undo (c : HC) (u : Nat) (hu : c 122 34 = (u : Int)) (h19 : u ≤ 19) (Q : Nat → Int) (hQ : ∀ j, j < 53 → c 142 (53 * u + j) = Q j) : ∀ (k j : Nat), j + k = 53 → TT mX11_undo 0 22 [(0, vr 122), (1, vi (j : Int))] [] (rC c 130 Q j) (fun v c1 => v = some (vi (u : Int)) ∧ c1 = nowP c Q) := by
  intro k
  induction k with
  | zero =>
    intro j hk
    have e : j = 53 := by omega
    subst e
    refine T_iloadn dX11_undo_22 rfl rfl ?_
    refine T_bipush dX11_undo_23 (bp8 rfl) (inr rfl) ?_
    refine T_icmp_ge (tgt := 54) dX11_undo_25 rfl (fun b25 => ?_) (fun b25 => absurd b25 (by decide))
    refine T_aloadn dX11_undo_54 rfl rfl ?_
    refine T_getv dX11_undo_55 fX11_197 (by first | assumption | rfl) (by first | decide | omega) rfl ((congrFun (rC_row (by decide)) _).trans hu) ?_
    refine TT_ri dX11_undo_58 trivial ?_
    exact ⟨rfl, rfl⟩
  | succ k ih =>
    intro j hk
    have h := ih (j + 1) (by omega)
    refine T_iloadn dX11_undo_22 rfl rfl ?_
    refine T_bipush dX11_undo_23 (bp8 rfl) (inr rfl) ?_
    refine T_icmp_ge (tgt := 54) dX11_undo_25 rfl (fun b25 => absurd b25 (by omega)) (fun b25 => ?_)
    refine T_aloadn dX11_undo_28 rfl rfl ?_
    refine T_getfin dX11_undo_29 fX11_31 (by first | assumption | rfl) (by first | decide | omega) rfl (by first | assumption | rfl) ?_
    refine T_iloadn dX11_undo_32 rfl rfl ?_
    refine T_aloadn dX11_undo_33 rfl rfl ?_
    refine T_getfin dX11_undo_34 fX11_71 (by first | assumption | rfl) (by first | decide | omega) rfl (by first | assumption | rfl) ?_
    refine T_bipush dX11_undo_37 (bp8 rfl) (inr rfl) ?_
    refine T_aloadn dX11_undo_39 rfl rfl ?_
    refine T_getv dX11_undo_40 fX11_197 (by first | assumption | rfl) (by first | decide | omega) rfl ((congrFun (rC_row (by decide)) _).trans hu) ?_
    first | refine T_imulN dX11_undo_43 (by omega) ?_ | refine T_imul dX11_undo_43 ?_
    refine T_iloadn dX11_undo_44 rfl rfl ?_
    first | refine T_iaddN dX11_undo_45 (by omega) ?_ | refine T_iadd dX11_undo_45 ?_
    refine T_ialdv (j := 53 * u + j) dX11_undo_46 (by first | assumption | rfl) (by first | decide | omega) (by omega) (by omega) ((congrFun (rC_row (by decide)) _).trans (hQ j (by omega))) ?_
    refine T_iast (j := j) dX11_undo_47 (by first | assumption | rfl) (by first | decide | omega) (by omega) (by omega) ?_
    refine T_iincN dX11_undo_48 rfl (by decide) rfl (by omega) ?_
    refine T_goto (tgt := 22) dX11_undo_51 rfl ?_
    rw [rC_up]
    exact h
set_option maxHeartbeats 4000000 in
set_option maxRecDepth 100000 in
theorem y_undo (c : HC) (u : Nat) (hu : c 122 34 = (u : Int)) (h20 : u ≤ 20) : RW mX11_undo 0 c [vr 122] (undoF u) (unR c u) := by
  refine CC.of (by decide +kernel) (leb rfl) (fun hok => ?_)
  unfold undoF unR NOTN
  refine T_aloadn dX11_undo_0 rfl rfl ?_
  refine T_getv dX11_undo_1 fX11_197 (by first | assumption | rfl) (by first | decide | omega) rfl hu ?_
  refine T_if_ne (tgt := 10) dX11_undo_4 rfl (fun b4 => ?_) (fun b4 => ?_)
  · refine T_aloadn dX11_undo_10 rfl rfl ?_
    refine T_dup dX11_undo_11 rfl ?_
    refine T_getv dX11_undo_12 fX11_197 (by first | assumption | rfl) (by first | decide | omega) rfl hu ?_
    refine T_iconst dX11_undo_15 (inr rfl) ?_
    first | refine T_isubN dX11_undo_16 (by omega) ?_ | refine T_isub dX11_undo_16 ?_
    refine T_puti dX11_undo_17 fX11_197 (by first | assumption | rfl) (by first | decide | omega) rfl rfl ?_
    refine T_iconst dX11_undo_20 (inr rfl) ?_
    refine T_istoren dX11_undo_21 rfl (by decide) rfl ?_
    rw [if_neg (by omega), if_neg (by omega), show (u : Int) - 1 = ((u - 1 : Nat) : Int) by omega]
    refine T_c (rC_0 (a := 130) (Q := fun k => c 142 (53 * (u - 1) + k))).symm ?_
    exact yl_undo (up2 c 122 34 ((u - 1 : Nat) : Int)) (u - 1) (up2_s _ _ _ _) (by omega) _ (fun j _ => up2_a _ _ (by decide)) 53 0 (by decide)
  · refine T_ldc dX11_undo_7 cX11_237 (inr rfl) ?_
    refine TT_ri dX11_undo_9 trivial ?_
    exact ⟨by rw [if_pos (by omega)], by rw [if_pos (by omega)]⟩
def kpR (c : HC) (i : Int) : HC := if i < 0 ∨ 2 ≤ i then c else up2 (up2 (up2 (cpI c i.toNat 53) 147 (54 * i.toNat + 53) (c 122 13)) 148 i.toNat 1) 122 34 0
def gbR (c : HC) (i : Int) : HC := if i < 0 ∨ 2 ≤ i then c else if c 148 i.toNat = 0 then c else up2 (up2 (nowP c (fun k => c 147 (54 * i.toNat + k))) 122 13 (c 147 (54 * i.toNat + 53))) 122 34 0
set_option maxHeartbeats 4000000 in
set_option maxRecDepth 100000 in
theorem yl_keep (c : HC) (i : Nat) (hi : i < 2) : ∀ (k j : Nat), j + k = 53 → TT mX11_keep 1 15 [(0, vr 122), (1, vi (i : Int)), (2, vi (j : Int))] [] (cpI c i j) (fun v c1 => v = some (vi 1) ∧ c1 = up2 (up2 (up2 (cpI c i 53) 147 (54 * i + 53) (c 122 13)) 148 i 1) 122 34 0) := by
  intro k
  induction k with
  | zero =>
    intro j hk
    have e : j = 53 := by omega
    subst e
    refine T_iloadn dX11_keep_15 rfl rfl ?_
    refine T_bipush dX11_keep_16 (bp8 rfl) (inr rfl) ?_
    refine T_icmp_ge (tgt := 44) dX11_keep_18 rfl (fun b18 => ?_) (fun b18 => absurd b18 (by decide))
    refine T_aloadn dX11_keep_44 rfl rfl ?_
    refine T_getfin dX11_keep_45 fX11_86 (by first | assumption | rfl) (by first | decide | omega) rfl (by first | assumption | rfl) ?_
    refine T_bipush dX11_keep_48 (bp8 rfl) (inr rfl) ?_
    refine T_iloadn dX11_keep_50 rfl rfl ?_
    first | refine T_imulN dX11_keep_51 (by omega) ?_ | refine T_imul dX11_keep_51 ?_
    refine T_bipush dX11_keep_52 (bp8 rfl) (inr rfl) ?_
    first | refine T_iaddN dX11_keep_54 (by omega) ?_ | refine T_iadd dX11_keep_54 ?_
    refine T_aloadn dX11_keep_55 rfl rfl ?_
    refine T_getv dX11_keep_56 fX11_245 (by first | assumption | rfl) (by first | decide | omega) rfl (cpI_o (by decide)) ?_
    refine T_iast (j := 54 * i + 53) dX11_keep_59 (by first | assumption | rfl) (by first | decide | omega) (by omega) (by omega) ?_
    refine T_aloadn dX11_keep_60 rfl rfl ?_
    refine T_getfin dX11_keep_61 fX11_89 (by first | assumption | rfl) (by first | decide | omega) rfl (by first | assumption | rfl) ?_
    refine T_iloadn dX11_keep_64 rfl rfl ?_
    refine T_iconst dX11_keep_65 (inr rfl) ?_
    refine T_zast (j := i) dX11_keep_66 (by first | assumption | rfl) (by first | decide | omega) (by omega) (by omega) (by first | exact Or.inl rfl | exact Or.inr rfl | assumption) ?_
    refine T_aloadn dX11_keep_67 rfl rfl ?_
    refine T_iconst dX11_keep_68 (inr rfl) ?_
    refine T_puti dX11_keep_69 fX11_197 (by first | assumption | rfl) (by first | decide | omega) rfl rfl ?_
    refine T_iconst dX11_keep_72 (inr rfl) ?_
    refine TT_ri dX11_keep_73 trivial ?_
    exact ⟨rfl, rfl⟩
  | succ k ih =>
    intro j hk
    have h := ih (j + 1) (by omega)
    refine T_iloadn dX11_keep_15 rfl rfl ?_
    refine T_bipush dX11_keep_16 (bp8 rfl) (inr rfl) ?_
    refine T_icmp_ge (tgt := 44) dX11_keep_18 rfl (fun b18 => absurd b18 (by omega)) (fun b18 => ?_)
    refine T_aloadn dX11_keep_21 rfl rfl ?_
    refine T_getfin dX11_keep_22 fX11_86 (by first | assumption | rfl) (by first | decide | omega) rfl (by first | assumption | rfl) ?_
    refine T_bipush dX11_keep_25 (bp8 rfl) (inr rfl) ?_
    refine T_iloadn dX11_keep_27 rfl rfl ?_
    first | refine T_imulN dX11_keep_28 (by omega) ?_ | refine T_imul dX11_keep_28 ?_
    refine T_iloadn dX11_keep_29 rfl rfl ?_
    first | refine T_iaddN dX11_keep_30 (by omega) ?_ | refine T_iadd dX11_keep_30 ?_
    refine T_aloadn dX11_keep_31 rfl rfl ?_
    refine T_getfin dX11_keep_32 fX11_31 (by first | assumption | rfl) (by first | decide | omega) rfl (by first | assumption | rfl) ?_
    refine T_iloadn dX11_keep_35 rfl rfl ?_
    refine T_ialdv (j := j) dX11_keep_36 (by first | assumption | rfl) (by first | decide | omega) (by omega) (by omega) (cpI_o (by decide)) ?_
    refine T_iast (j := 54 * i + j) dX11_keep_37 (by first | assumption | rfl) (by first | decide | omega) (by omega) (by omega) ?_
    refine T_iincN dX11_keep_38 rfl (by decide) rfl (by omega) ?_
    refine T_goto (tgt := 15) dX11_keep_41 rfl ?_
    rw [cpI_s]
    exact h
set_option maxHeartbeats 4000000 in
set_option maxRecDepth 100000 in
theorem y_keep (c : HC) (i : Int) : RW mX11_keep 1 c [vr 122, vi i] (if i < 0 ∨ 2 ≤ i then UNK else 1) (kpR c i) := by
  refine CC.of (by decide +kernel) (leb rfl) (fun hok => ?_)
  unfold kpR UNK
  refine T_iloadn dX11_keep_0 rfl rfl ?_
  refine T_i2l dX11_keep_1 ?_
  refine T_lconst (z := 0) dX11_keep_2 rfl (inl rfl) ?_
  refine T_lconst (z := 1) dX11_keep_3 rfl (inl rfl) ?_
  refine TT_Si dX11_keep_4 (r_in c i 0 1) kX11_96 (by decide) rfl (leb rfl) ?_
  refine T_if_ne (tgt := 13) dX11_keep_7 rfl (fun b7 => ?_) (fun b7 => ?_)
  · refine T_iconst dX11_keep_13 (inr rfl) ?_
    refine T_istoren dX11_keep_14 rfl (by decide) rfl ?_
    have hi := inF_t b7
    rw [if_neg (by omega), if_neg (by omega)]
    obtain ⟨ii, rfl⟩ := Int.eq_ofNat_of_zero_le (show 0 ≤ i by omega)
    rw [Int.toNat_natCast]
    refine T_c (cpI_0 (u := ii)).symm ?_
    exact yl_keep c ii (by omega) 53 0 (by decide)
  · refine T_ldc dX11_keep_10 cX11_200 (inr rfl) ?_
    refine TT_ri dX11_keep_12 trivial ?_
    have hi := inF_f b7
    exact ⟨by rw [if_pos (by omega)], by rw [if_pos (by omega)]⟩
set_option maxHeartbeats 4000000 in
set_option maxRecDepth 100000 in
theorem yl_go (c : HC) (i : Nat) (hi : i < 2) (Q : Nat → Int) (hQ : ∀ j, c 147 (54 * i + j) = Q j) : ∀ (k j : Nat), j + k = 53 → TT mX11_goBack 1 27 [(0, vr 122), (1, vi (i : Int)), (2, vi (j : Int))] [] (rC c 130 Q j) (fun v c1 => v = some (vi 1) ∧ c1 = up2 (up2 (nowP c Q) 122 13 (Q 53)) 122 34 0) := by
  intro k
  induction k with
  | zero =>
    intro j hk
    have e : j = 53 := by omega
    subst e
    refine T_iloadn dX11_goBack_27 rfl rfl ?_
    refine T_bipush dX11_goBack_28 (bp8 rfl) (inr rfl) ?_
    refine T_icmp_ge (tgt := 56) dX11_goBack_30 rfl (fun b30 => ?_) (fun b30 => absurd b30 (by decide))
    refine T_aloadn dX11_goBack_56 rfl rfl ?_
    refine T_aloadn dX11_goBack_57 rfl rfl ?_
    refine T_getfin dX11_goBack_58 fX11_86 (by first | assumption | rfl) (by first | decide | omega) rfl (by first | assumption | rfl) ?_
    refine T_bipush dX11_goBack_61 (bp8 rfl) (inr rfl) ?_
    refine T_iloadn dX11_goBack_63 rfl rfl ?_
    first | refine T_imulN dX11_goBack_64 (by omega) ?_ | refine T_imul dX11_goBack_64 ?_
    refine T_bipush dX11_goBack_65 (bp8 rfl) (inr rfl) ?_
    first | refine T_iaddN dX11_goBack_67 (by omega) ?_ | refine T_iadd dX11_goBack_67 ?_
    refine T_ialdv (j := 54 * i + 53) dX11_goBack_68 (by first | assumption | rfl) (by first | decide | omega) (by omega) (by omega) ((congrFun (rC_row (by decide)) _).trans (hQ 53)) ?_
    refine T_puti dX11_goBack_69 fX11_245 (by first | assumption | rfl) (by first | decide | omega) rfl rfl ?_
    refine T_aloadn dX11_goBack_72 rfl rfl ?_
    refine T_iconst dX11_goBack_73 (inr rfl) ?_
    refine T_puti dX11_goBack_74 fX11_197 (by first | assumption | rfl) (by first | decide | omega) rfl rfl ?_
    refine T_iconst dX11_goBack_77 (inr rfl) ?_
    refine TT_ri dX11_goBack_78 trivial ?_
    exact ⟨rfl, rfl⟩
  | succ k ih =>
    intro j hk
    have h := ih (j + 1) (by omega)
    refine T_iloadn dX11_goBack_27 rfl rfl ?_
    refine T_bipush dX11_goBack_28 (bp8 rfl) (inr rfl) ?_
    refine T_icmp_ge (tgt := 56) dX11_goBack_30 rfl (fun b30 => absurd b30 (by omega)) (fun b30 => ?_)
    refine T_aloadn dX11_goBack_33 rfl rfl ?_
    refine T_getfin dX11_goBack_34 fX11_31 (by first | assumption | rfl) (by first | decide | omega) rfl (by first | assumption | rfl) ?_
    refine T_iloadn dX11_goBack_37 rfl rfl ?_
    refine T_aloadn dX11_goBack_38 rfl rfl ?_
    refine T_getfin dX11_goBack_39 fX11_86 (by first | assumption | rfl) (by first | decide | omega) rfl (by first | assumption | rfl) ?_
    refine T_bipush dX11_goBack_42 (bp8 rfl) (inr rfl) ?_
    refine T_iloadn dX11_goBack_44 rfl rfl ?_
    first | refine T_imulN dX11_goBack_45 (by omega) ?_ | refine T_imul dX11_goBack_45 ?_
    refine T_iloadn dX11_goBack_46 rfl rfl ?_
    first | refine T_iaddN dX11_goBack_47 (by omega) ?_ | refine T_iadd dX11_goBack_47 ?_
    refine T_ialdv (j := 54 * i + j) dX11_goBack_48 (by first | assumption | rfl) (by first | decide | omega) (by omega) (by omega) ((congrFun (rC_row (by decide)) _).trans (hQ j)) ?_
    refine T_iast (j := j) dX11_goBack_49 (by first | assumption | rfl) (by first | decide | omega) (by omega) (by omega) ?_
    refine T_iincN dX11_goBack_50 rfl (by decide) rfl (by omega) ?_
    refine T_goto (tgt := 27) dX11_goBack_53 rfl ?_
    rw [rC_up]
    exact h
set_option maxHeartbeats 4000000 in
set_option maxRecDepth 100000 in
theorem y_goBack (c : HC) (i : Int) : RW mX11_goBack 1 c [vr 122, vi i] (goF (c 148 i.toNat) i) (gbR c i) := by
  refine CC.of (by decide +kernel) (leb rfl) (fun hok => ?_)
  unfold gbR goF UNK NOTN
  refine T_iloadn dX11_goBack_0 rfl rfl ?_
  refine T_i2l dX11_goBack_1 ?_
  refine T_lconst (z := 0) dX11_goBack_2 rfl (inl rfl) ?_
  refine T_lconst (z := 1) dX11_goBack_3 rfl (inl rfl) ?_
  refine TT_Si dX11_goBack_4 (r_in c i 0 1) kX11_96 (by decide) rfl (leb rfl) ?_
  refine T_if_ne (tgt := 13) dX11_goBack_7 rfl (fun b7 => ?_) (fun b7 => ?_)
  · have hi := inF_t b7
    obtain ⟨ii, rfl⟩ := Int.eq_ofNat_of_zero_le (show 0 ≤ i by omega)
    rw [Int.toNat_natCast]
    refine T_aloadn dX11_goBack_13 rfl rfl ?_
    refine T_getfin dX11_goBack_14 fX11_89 (by first | assumption | rfl) (by first | decide | omega) rfl (by first | assumption | rfl) ?_
    refine T_iloadn dX11_goBack_17 rfl rfl ?_
    refine T_zald (j := ii) dX11_goBack_18 (by first | assumption | rfl) (by first | decide | omega) (by omega) (by omega) ?_
    refine T_if_ne (tgt := 25) dX11_goBack_19 rfl (fun b19 => ?_) (fun b19 => ?_)
    · refine T_iconst dX11_goBack_25 (inr rfl) ?_
      refine T_istoren dX11_goBack_26 rfl (by decide) rfl ?_
      rw [if_neg (show ¬ ((ii : Int) < 0 ∨ 2 ≤ (ii : Int)) by omega), if_neg (show ¬ ((ii : Int) < 0 ∨ 2 ≤ (ii : Int)) by omega), if_neg b19, if_neg b19]
      refine T_c (rC_0 (a := 130) (Q := fun k => c 147 (54 * ii + k))).symm ?_
      exact yl_go c ii (by omega) _ (fun _ => rfl) 53 0 (by decide)
    · refine T_ldc dX11_goBack_22 cX11_237 (inr rfl) ?_
      refine TT_ri dX11_goBack_24 trivial ?_
      exact ⟨by rw [if_neg (by omega), if_pos b19], by rw [if_neg (by omega), if_pos b19]⟩
  · refine T_ldc dX11_goBack_10 cX11_200 (inr rfl) ?_
    refine TT_ri dX11_goBack_12 trivial ?_
    have hi := inF_f b7
    exact ⟨by rw [if_pos (by omega)], by rw [if_pos (by omega)]⟩
abbrev playRR (c : HC) (n : Nat) (p v q w : Int) (R : Nat → Int) : Nat → Int := playR (c 126) n (wayF (c 122 1) (c 127) p (sylR c v) q (sylR c w)) (sylR c v) (sylR c w) p v q w R
abbrev wayRR (c : HC) (p v q w : Int) : Int := wayF (c 122 1) (c 127) p (sylR c v) q (sylR c w)
theorem may_syl {c : HC} {nb sd w : Int} (hg : RGV c) (h : mayF (lenR c w) nb sd w ≠ 0) (hb : 0 ≤ nb) : 0 ≤ sylR c w ∧ sylR c w ≤ nb := by
  have hl := lenR_bd hg w
  unfold mayF at h
  unfold sylR sylF
  by_cases e : w = -1
  · rw [if_pos e]; omega
  · rw [if_neg e] at h ⊢
    by_cases e2 : lenR c w = -1 ∨ nb < lenR c w ∨ sd ≠ 0
    · rw [if_pos e2] at h; exact absurd rfl h
    · have e3 : lenR c w = lenF (c 122 0) (c 122 2) (c 122 4) (c 123) (c 124) (c 129) w := rfl
      omega
set_option maxHeartbeats 4000000 in
set_option maxRecDepth 100000 in
theorem y_round (c : HC) {n : Nat} (hg : RGV c) (hv : RSV c n) (hR : RV (c 126) n (c 130)) (nw u : Nat) (hw : c 130 12 = (nw : Int)) (h40 : nw ≤ 40) (hu : c 122 34 = (u : Int)) (h20 : u ≤ 20) (p v q w : Int) : RW mX11_round 4 c [vr 122, vi p, vi v, vi q, vi w] (rndF (opF n (c 125) p q) (mayF (lenR c v) (c 130 (2 + p.toNat)) (saidL (c 130) v nw 0) v) (mayF (lenR c w) (c 130 (2 + q.toNat)) (saidL (c 130) w nw 0) w) v w (c 130 1) (ropeR (c 130 0) (wayRR c p v q w) - c 130 0)) (rndC (opF n (c 125) p q) (mayF (lenR c v) (c 130 (2 + p.toNat)) (saidL (c 130) v nw 0) v) (mayF (lenR c w) (c 130 (2 + q.toNat)) (saidL (c 130) w nw 0) w) v w (c 130 1) c (nowP (remR c u) (playRR c n p v q w (c 130)))) := by
  have hn10 := hv.2.1
  refine CC.of (by decide +kernel) (leb rfl) (fun hok => ?_)
  unfold rndF rndC opF UNK NOTN FUL
  refine T_aloadn dX11_round_0 rfl rfl ?_
  refine T_iloadn dX11_round_1 rfl rfl ?_
  refine T_iconst dX11_round_2 (inr rfl) ?_
  refine TT_Vi dX11_round_3 (r_isOf c hv p 0) kX11_231 (by decide) (by first | decide | omega) (by first | assumption | rfl) rfl (leb rfl) ?_
  refine T_if_eq (tgt := 18) dX11_round_6 rfl (fun b6 => ?_) (fun b6 => ?_)
  · refine T_ldc dX11_round_18 cX11_200 (inr rfl) ?_
    refine TT_ri dX11_round_20 trivial ?_
    exact ⟨by rw [if_pos b6, if_pos rfl], by rw [if_pos b6, if_pos rfl]⟩
  · refine T_aloadn dX11_round_9 rfl rfl ?_
    refine T_iloadn dX11_round_10 rfl rfl ?_
    refine T_iconst dX11_round_11 (inr rfl) ?_
    refine TT_Vi dX11_round_12 (r_isOf c hv q 1) kX11_231 (by decide) (by first | decide | omega) (by first | assumption | rfl) rfl (leb rfl) ?_
    refine T_if_ne (tgt := 21) dX11_round_15 rfl (fun b15 => ?_) (fun b15 => ?_)
    · rw [if_neg b6, if_neg b15, if_neg (show ¬ ((1 : Int) = 0) by decide), if_neg (show ¬ ((1 : Int) = 0) by decide)]
      obtain ⟨pp, rfl, hpp, hps⟩ := isOf_nz b6
      obtain ⟨qq, rfl, hqq, hqs⟩ := isOf_nz b15
      simp only [Int.toNat_natCast]
      refine T_aloadn dX11_round_21 rfl rfl ?_
      refine T_iloadn dX11_round_22 rfl rfl ?_
      refine T_iloadn dX11_round_23 rfl rfl ?_
      refine TT_Vi dX11_round_24 (r_canSay c hg nw hw h40 pp (by omega) v) kX11_234 (by decide) (by first | decide | omega) (by first | assumption | rfl) rfl (leb rfl) ?_
      refine T_if_eq (tgt := 51) dX11_round_27 rfl (fun b27 => ?_) (fun b27 => ?_)
      · refine T_ldc dX11_round_51 cX11_237 (inr rfl) ?_
        refine TT_ri dX11_round_53 trivial ?_
        exact ⟨by rw [if_pos (Or.inl b27)], by rw [if_pos (Or.inl b27)]⟩
      · refine T_aloadn dX11_round_30 rfl rfl ?_
        refine T_iloadn dX11_round_31 rfl rfl ?_
        refine T_iload dX11_round_32 rfl ?_
        refine TT_Vi dX11_round_34 (r_canSay c hg nw hw h40 qq (by omega) w) kX11_234 (by decide) (by first | decide | omega) (by first | assumption | rfl) rfl (leb rfl) ?_
        refine T_if_eq (tgt := 51) dX11_round_37 rfl (fun b37 => ?_) (fun b37 => ?_)
        · refine T_ldc dX11_round_51 cX11_237 (inr rfl) ?_
          refine TT_ri dX11_round_53 trivial ?_
          exact ⟨by rw [if_pos (Or.inr (Or.inl b37))], by rw [if_pos (Or.inr (Or.inl b37))]⟩
        · refine T_iloadn dX11_round_40 rfl rfl ?_
          refine T_iconst dX11_round_41 (inr rfl) ?_
          refine T_icmp_eq (tgt := 54) dX11_round_42 rfl (fun b42 => ?_) (fun b42 => ?_)
          · rw [if_neg (show ¬ ((mayF (lenR c v) (c 130 (2 + pp)) (saidL (c 130) v nw 0) v) = 0 ∨ (mayF (lenR c w) (c 130 (2 + qq)) (saidL (c 130) w nw 0) w) = 0 ∨ (v = w ∧ v ≠ -1)) by omega), if_neg (show ¬ ((mayF (lenR c v) (c 130 (2 + pp)) (saidL (c 130) v nw 0) v) = 0 ∨ (mayF (lenR c w) (c 130 (2 + qq)) (saidL (c 130) w nw 0) w) = 0 ∨ (v = w ∧ v ≠ -1)) by omega)]
            refine T_aloadn dX11_round_54 rfl rfl ?_
            refine T_getfin dX11_round_55 fX11_31 (by first | assumption | rfl) (by first | decide | omega) rfl (by first | assumption | rfl) ?_
            refine T_iconst dX11_round_58 (inr rfl) ?_
            refine T_iald (j := 1) dX11_round_59 (by first | assumption | rfl) (by first | decide | omega) (by omega) (by omega) ?_
            refine T_ldc dX11_round_60 cX11_238 (inr rfl) ?_
            refine T_icmp_le (tgt := 68) dX11_round_62 rfl (fun b62 => ?_) (fun b62 => ?_)
            · rw [if_neg (by omega), if_neg (by omega)]
              have s1 := may_syl hg b27 (hR.2.2.2 pp hpp).1
              have s2 := may_syl hg b37 (hR.2.2.2 qq hqq).1
              have hne : pp ≠ qq := fun z => by subst z; rw [hps] at hqs; exact absurd hqs (by decide)
              have e126 : remR c u 126 = c 126 := rem_row (by decide) (by decide)
              have hrn := r_roundNow (remR c u) (RGV_rem hg) (RSV_rem hv) (c 130) (by rw [e126]; exact hR) (by omega) pp qq v w hpp hqq hne (by rw [sylR_rem]; exact s1.1) (by rw [sylR_rem]; exact s2.1)
              rw [sylR_rem, sylR_rem, e126, rem_f (by decide), rem_row (x := 127) (by decide) (by decide), show nowP (remR c u) (c 130) = remR c u by
                have z := nowP_self (c := remR c u)
                rw [rem_row (x := 130) (by decide) (by decide)] at z
                exact z] at hrn
              refine T_aloadn dX11_round_68 rfl rfl ?_
              refine TT_Vv dX11_round_69 (r_remember c u hu h20) kX11_239 (by decide) (by first | decide | omega) (by first | assumption | rfl) rfl (leb rfl) ?_
              refine T_aloadn dX11_round_72 rfl rfl ?_
              refine T_iloadn dX11_round_73 rfl rfl ?_
              refine T_iloadn dX11_round_74 rfl rfl ?_
              refine T_iloadn dX11_round_75 rfl rfl ?_
              refine T_iload dX11_round_76 rfl ?_
              refine TT_Vw dX11_round_78 (hrn) kX11_242 (by decide) (by first | decide | omega) (by first | assumption | rfl) rfl (leb rfl) ?_
              refine TT_ri dX11_round_81 trivial ?_
              exact ⟨rfl, rfl⟩
            · refine T_ldc dX11_round_65 cX11_110 (inr rfl) ?_
              refine TT_ri dX11_round_67 trivial ?_
              exact ⟨by rw [if_pos (by omega)], by rw [if_pos (by omega)]⟩
          · refine T_iloadn dX11_round_45 rfl rfl ?_
            refine T_iload dX11_round_46 rfl ?_
            refine T_icmp_ne (tgt := 54) dX11_round_48 rfl (fun b48 => ?_) (fun b48 => ?_)
            · rw [if_neg (show ¬ ((mayF (lenR c v) (c 130 (2 + pp)) (saidL (c 130) v nw 0) v) = 0 ∨ (mayF (lenR c w) (c 130 (2 + qq)) (saidL (c 130) w nw 0) w) = 0 ∨ (v = w ∧ v ≠ -1)) by omega), if_neg (show ¬ ((mayF (lenR c v) (c 130 (2 + pp)) (saidL (c 130) v nw 0) v) = 0 ∨ (mayF (lenR c w) (c 130 (2 + qq)) (saidL (c 130) w nw 0) w) = 0 ∨ (v = w ∧ v ≠ -1)) by omega)]
              refine T_aloadn dX11_round_54 rfl rfl ?_
              refine T_getfin dX11_round_55 fX11_31 (by first | assumption | rfl) (by first | decide | omega) rfl (by first | assumption | rfl) ?_
              refine T_iconst dX11_round_58 (inr rfl) ?_
              refine T_iald (j := 1) dX11_round_59 (by first | assumption | rfl) (by first | decide | omega) (by omega) (by omega) ?_
              refine T_ldc dX11_round_60 cX11_238 (inr rfl) ?_
              refine T_icmp_le (tgt := 68) dX11_round_62 rfl (fun b62 => ?_) (fun b62 => ?_)
              · rw [if_neg (by omega), if_neg (by omega)]
                have s1 := may_syl hg b27 (hR.2.2.2 pp hpp).1
                have s2 := may_syl hg b37 (hR.2.2.2 qq hqq).1
                have hne : pp ≠ qq := fun z => by subst z; rw [hps] at hqs; exact absurd hqs (by decide)
                have e126 : remR c u 126 = c 126 := rem_row (by decide) (by decide)
                have hrn := r_roundNow (remR c u) (RGV_rem hg) (RSV_rem hv) (c 130) (by rw [e126]; exact hR) (by omega) pp qq v w hpp hqq hne (by rw [sylR_rem]; exact s1.1) (by rw [sylR_rem]; exact s2.1)
                rw [sylR_rem, sylR_rem, e126, rem_f (by decide), rem_row (x := 127) (by decide) (by decide), show nowP (remR c u) (c 130) = remR c u by
                  have z := nowP_self (c := remR c u)
                  rw [rem_row (x := 130) (by decide) (by decide)] at z
                  exact z] at hrn
                refine T_aloadn dX11_round_68 rfl rfl ?_
                refine TT_Vv dX11_round_69 (r_remember c u hu h20) kX11_239 (by decide) (by first | decide | omega) (by first | assumption | rfl) rfl (leb rfl) ?_
                refine T_aloadn dX11_round_72 rfl rfl ?_
                refine T_iloadn dX11_round_73 rfl rfl ?_
                refine T_iloadn dX11_round_74 rfl rfl ?_
                refine T_iloadn dX11_round_75 rfl rfl ?_
                refine T_iload dX11_round_76 rfl ?_
                refine TT_Vw dX11_round_78 (hrn) kX11_242 (by decide) (by first | decide | omega) (by first | assumption | rfl) rfl (leb rfl) ?_
                refine TT_ri dX11_round_81 trivial ?_
                exact ⟨rfl, rfl⟩
              · refine T_ldc dX11_round_65 cX11_110 (inr rfl) ?_
                refine TT_ri dX11_round_67 trivial ?_
                exact ⟨by rw [if_pos (by omega)], by rw [if_pos (by omega)]⟩
            · refine T_ldc dX11_round_51 cX11_237 (inr rfl) ?_
              refine TT_ri dX11_round_53 trivial ?_
              exact ⟨by rw [if_pos (Or.inr (Or.inr ⟨b48, b42⟩))], by rw [if_pos (Or.inr (Or.inr ⟨b48, b42⟩))]⟩
    · refine T_ldc dX11_round_18 cX11_200 (inr rfl) ?_
      refine TT_ri dX11_round_20 trivial ?_
      exact ⟨by rw [if_neg b6, if_pos b15, if_pos rfl], by rw [if_neg b6, if_pos b15, if_pos rfl]⟩
