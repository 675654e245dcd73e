/-! the reference: letters and numbers -/
def rt (c : HC) (A V N P : Int) : HC := fun x y => if x = 122 then (if y = 16 then P else if y = 17 then A else if y = 18 then V else if y = 19 then N else c x y) else c x y
section RT
variable {c : HC} {A V N P z : Int}
theorem rt16 : rt c A V N P 122 16 = P := rfl
theorem rt17 : rt c A V N P 122 17 = A := rfl
theorem rt18 : rt c A V N P 122 18 = V := rfl
theorem rt19 : rt c A V N P 122 19 = N := rfl
theorem rt_row {x : Nat} (h : x ≠ 122) : rt c A V N P x = c x := by
  funext y
  unfold rt
  rw [if_neg h]
theorem rt_o {x y : Nat} (h : x ≠ 122) : rt c A V N P x y = c x y := congrFun (rt_row h) y
theorem rt_f {y : Nat} (h : y < 16 ∨ 19 < y) : rt c A V N P 122 y = c 122 y := by
  unfold rt
  rw [if_pos rfl, if_neg (by omega), if_neg (by omega), if_neg (by omega), if_neg (by omega)]
theorem rt_self : rt c (c 122 17) (c 122 18) (c 122 19) (c 122 16) = c := by
  funext x y
  unfold rt
  by_cases e : x = 122
  · subst e
    rw [if_pos rfl]
    split
    · rename_i h; rw [h]
    · split
      · rename_i h; rw [h]
      · split
        · rename_i h; rw [h]
        · split
          · rename_i h; rw [h]
          · rfl
  · rw [if_neg e]
theorem rtu16 : up2 (rt c A V N P) 122 16 z = rt c A V N z := by
  funext x y
  rw [up2_g]
  unfold rt
  by_cases e : x = 122
  · by_cases e2 : y = 16
    · rw [if_pos ⟨e, e2⟩, if_pos e, if_pos e2]
    · rw [if_neg (fun w => e2 w.2), if_pos e, if_pos e, if_neg e2, if_neg e2]
  · rw [if_neg (fun w => e w.1), if_neg e, if_neg e]
theorem rtu17 : up2 (rt c A V N P) 122 17 z = rt c z V N P := by
  funext x y
  rw [up2_g]
  unfold rt
  by_cases e : x = 122
  · by_cases e2 : y = 17
    · rw [if_pos ⟨e, e2⟩, if_pos e, if_neg (by omega), if_pos e2]
    · rw [if_neg (fun w => e2 w.2), if_pos e, if_pos e, if_neg e2, if_neg e2]
  · rw [if_neg (fun w => e w.1), if_neg e, if_neg e]
theorem rtu18 : up2 (rt c A V N P) 122 18 z = rt c A z N P := by
  funext x y
  rw [up2_g]
  unfold rt
  by_cases e : x = 122
  · by_cases e2 : y = 18
    · rw [if_pos ⟨e, e2⟩, if_pos e, if_neg (by omega), if_neg (by omega), if_pos e2]
    · rw [if_neg (fun w => e2 w.2), if_pos e, if_pos e, if_neg e2, if_neg e2]
  · rw [if_neg (fun w => e w.1), if_neg e, if_neg e]
theorem rtu19 : up2 (rt c A V N P) 122 19 z = rt c A V z P := by
  funext x y
  rw [up2_g]
  unfold rt
  by_cases e : x = 122
  · by_cases e2 : y = 19
    · rw [if_pos ⟨e, e2⟩, if_pos e, if_neg (by omega), if_neg (by omega), if_neg (by omega), if_pos e2]
    · rw [if_neg (fun w => e2 w.2), if_pos e, if_pos e, if_neg e2, if_neg e2]
  · rw [if_neg (fun w => e w.1), if_neg e, if_neg e]
theorem rt_up {x y : Nat} (h : x ≠ 122) : up2 (rt c A V N P) x y z = rt (up2 c x y z) A V N P := by
  funext a b
  rw [up2_g]
  unfold rt
  by_cases e : a = 122
  · rw [if_neg (fun w => h (w.1.symm.trans e)), if_pos e, if_pos e, up2_a _ _ (fun w => h (w.symm.trans e))]
  · rw [if_neg e, if_neg e, up2_g]
theorem rt_upf {y : Nat} (h : y < 16 ∨ 19 < y) : up2 (rt c A V N P) 122 y z = rt (up2 c 122 y z) A V N P := by
  funext a b
  rw [up2_g]
  unfold rt
  by_cases e : a = 122
  · subst e
    by_cases e2 : b = y
    · subst e2
      rw [if_pos ⟨rfl, rfl⟩, if_pos rfl, if_neg (by omega), if_neg (by omega), if_neg (by omega), if_neg (by omega), up2_s]
    · rw [if_neg (fun w => e2 w.2), if_pos rfl, if_pos rfl, up2_k _ _ e2]
  · rw [if_neg (fun w => e w.1), if_neg e, if_neg e, up2_a _ _ e]
end RT
def hereF (t : Nat → Int) (n a : Nat) : Int := if skF t n a < n then t (skF t n a) else -1
theorem skF_s {t : Nat → Int} {n a : Nat} (h : a < n) (h2 : t a = 32) : skF t n a = skF t n (a + 1) := by
  unfold skF
  rw [show n - a = (n - (a + 1)) + 1 by omega]
  show (if t a = 32 then skL t (n - (a + 1)) (a + 1) else a) = _
  rw [if_pos h2]
theorem skF_n {t : Nat → Int} {n a : Nat} (h2 : n ≤ a ∨ t a ≠ 32) : skF t n a = a := by
  unfold skF
  by_cases h : n ≤ a
  · rw [show n - a = 0 by omega]; rfl
  · rw [show n - a = (n - (a + 1)) + 1 by omega]
    show (if t a = 32 then skL t (n - (a + 1)) (a + 1) else a) = _
    rw [if_neg (by omega)]
theorem skF_st {t : Nat → Int} {n a : Nat} : n ≤ skF t n a ∨ t (skF t n a) ≠ 32 := by
  unfold skF
  generalize hk : n - a = k
  induction k generalizing a with
  | zero => exact Or.inl (by show n ≤ a; omega)
  | succ k ih =>
    show n ≤ (if t a = 32 then skL t k (a + 1) else a) ∨ t (if t a = 32 then skL t k (a + 1) else a) ≠ 32
    by_cases e : t a = 32
    · rw [if_pos e]; exact ih (by omega)
    · rw [if_neg e]; exact Or.inr e
theorem skF_skF {t : Nat → Int} {n a : Nat} : skF t n (skF t n a) = skF t n a := skF_n skF_st
set_option maxHeartbeats 4000000 in
set_option maxRecDepth 100000 in
theorem rl_here (c : HC) {n : Nat} (hn : c 122 15 = (n : Int)) (hn2 : n ≤ 250) (V N P : Int) : ∀ (k a : Nat), n - a = k → a ≤ 2000 → TT mX11_here 0 0 [(0, vr 122)] [] (rt c (a : Int) V N P) (fun v c1 => v = some (vi (hereF (c 131) n a)) ∧ c1 = rt c ((skF (c 131) n a : Nat) : Int) V N P) := by
  intro k
  induction k with
  | zero =>
    intro a hk ha
    have e : skF (c 131) n a = a := skF_n (by omega)
    unfold hereF
    rw [e]
    refine T_aloadn dX11_here_0 rfl rfl ?_
    refine T_getv dX11_here_1 fX11_111 (by first | assumption | rfl) (by first | decide | omega) rfl rt17 ?_
    refine T_aloadn dX11_here_4 rfl rfl ?_
    refine T_getv dX11_here_5 fX11_107 (by first | assumption | rfl) (by first | decide | omega) rfl ((rt_f (by omega)).trans hn) ?_
    refine T_icmp_ge (tgt := 38) dX11_here_8 rfl (fun b8 => ?_) (fun b8 => absurd b8 (by omega))
    refine T_aloadn dX11_here_38 rfl rfl ?_
    refine T_getv dX11_here_39 fX11_111 (by first | assumption | rfl) (by first | decide | omega) rfl rt17 ?_
    refine T_aloadn dX11_here_42 rfl rfl ?_
    refine T_getv dX11_here_43 fX11_107 (by first | assumption | rfl) (by first | decide | omega) rfl ((rt_f (by omega)).trans hn) ?_
    refine T_icmp_ge (tgt := 61) dX11_here_46 rfl (fun b46 => ?_) (fun b46 => absurd b46 (by omega))
    refine T_iconst dX11_here_61 (inr rfl) ?_
    refine TT_ri dX11_here_62 trivial ?_
    exact ⟨by rw [if_neg (by omega)], rfl⟩
  | succ k ih =>
    intro a hk ha
    have h := ih (a + 1) (by omega) (by omega)
    unfold hereF at *
    refine T_aloadn dX11_here_0 rfl rfl ?_
    refine T_getv dX11_here_1 fX11_111 (by first | assumption | rfl) (by first | decide | omega) rfl rt17 ?_
    refine T_aloadn dX11_here_4 rfl rfl ?_
    refine T_getv dX11_here_5 fX11_107 (by first | assumption | rfl) (by first | decide | omega) rfl ((rt_f (by omega)).trans hn) ?_
    refine T_icmp_ge (tgt := 38) dX11_here_8 rfl (fun b8 => absurd b8 (by omega)) (fun b8 => ?_)
    refine T_aloadn dX11_here_11 rfl rfl ?_
    refine T_getfin dX11_here_12 fX11_34 (by first | assumption | rfl) (by first | decide | omega) rfl (by first | assumption | rfl) ?_
    refine T_aloadn dX11_here_15 rfl rfl ?_
    refine T_getv dX11_here_16 fX11_111 (by first | assumption | rfl) (by first | decide | omega) rfl rt17 ?_
    refine T_ialdv (j := a) dX11_here_19 (by first | assumption | rfl) (by first | decide | omega) (by omega) (by omega) (rt_o (by decide)) ?_
    refine T_bipush dX11_here_20 (bp8 rfl) (inr rfl) ?_
    refine T_icmp_ne (tgt := 38) dX11_here_22 rfl (fun b22 => ?_) (fun b22 => ?_)
    · refine T_aloadn dX11_here_38 rfl rfl ?_
      refine T_getv dX11_here_39 fX11_111 (by first | assumption | rfl) (by first | decide | omega) rfl rt17 ?_
      refine T_aloadn dX11_here_42 rfl rfl ?_
      refine T_getv dX11_here_43 fX11_107 (by first | assumption | rfl) (by first | decide | omega) rfl ((rt_f (by omega)).trans hn) ?_
      refine T_icmp_ge (tgt := 61) dX11_here_46 rfl (fun b46 => absurd b46 (by omega)) (fun b46 => ?_)
      refine T_aloadn dX11_here_49 rfl rfl ?_
      refine T_getfin dX11_here_50 fX11_34 (by first | assumption | rfl) (by first | decide | omega) rfl (by first | assumption | rfl) ?_
      refine T_aloadn dX11_here_53 rfl rfl ?_
      refine T_getv dX11_here_54 fX11_111 (by first | assumption | rfl) (by first | decide | omega) rfl rt17 ?_
      refine T_ialdv (j := a) dX11_here_57 (by first | assumption | rfl) (by first | decide | omega) (by omega) (by omega) (rt_o (by decide)) ?_
      refine T_goto (tgt := 62) dX11_here_58 rfl ?_
      refine TT_ri dX11_here_62 trivial ?_
      have e : skF (c 131) n a = a := skF_n (Or.inr b22)
      rw [e]
      exact ⟨by rw [if_pos (by omega)], rfl⟩
    · refine T_aloadn dX11_here_25 rfl rfl ?_
      refine T_dup dX11_here_26 rfl ?_
      refine T_getv dX11_here_27 fX11_111 (by first | assumption | rfl) (by first | decide | omega) rfl rt17 ?_
      refine T_iconst dX11_here_30 (inr rfl) ?_
      first | refine T_iaddN dX11_here_31 (by omega) ?_ | refine T_iadd dX11_here_31 ?_
      refine T_puti dX11_here_32 fX11_111 (by first | assumption | rfl) (by first | decide | omega) rfl rfl ?_
      refine T_goto (tgt := 0) dX11_here_35 rfl ?_
      rw [rtu17]
      rw [skF_s (show a < n by omega) b22]
      exact h
set_option maxHeartbeats 4000000 in
set_option maxRecDepth 100000 in
theorem r_here (c : HC) {n : Nat} (hn : c 122 15 = (n : Int)) (hn2 : n ≤ 250) (V N P : Int) (a : Nat) (ha : a ≤ 2000) : RW mX11_here 0 (rt c (a : Int) V N P) [vr 122] (hereF (c 131) n a) (rt c ((skF (c 131) n a : Nat) : Int) V N P) := by
  refine CC.of (by decide +kernel) (leb rfl) (fun hok => ?_)
  exact rl_here c hn hn2 V N P (n - a) a rfl ha
set_option maxHeartbeats 4000000 in
set_option maxRecDepth 100000 in
theorem r_fails (c : HC) (A V N P k p : Int) : RW mX11_fails 0 (rt c A V N P) [vr 122, vi k, vi p] k (rt c A V N p) := by
  refine CC.of (by decide +kernel) (leb rfl) (fun hok => ?_)
  refine T_aloadn dX11_fails_0 rfl rfl ?_
  refine T_iloadn dX11_fails_1 rfl rfl ?_
  refine T_puti dX11_fails_2 fX11_37 (by first | assumption | rfl) (by first | decide | omega) rfl rfl ?_
  refine T_iloadn dX11_fails_5 rfl rfl ?_
  refine TT_ri dX11_fails_6 trivial ?_
  exact ⟨rfl, rtu16⟩
def dgR (t : Nat → Int) : Nat → Nat → Int → Int
  | 0, _, v => v
  | k + 1, i, v => if 48 ≤ t i ∧ t i ≤ 57 then dgR t k (i + 1) (if 10000 < v then v else 10 * v + t i - 48) else v
theorem dgR_V (t : Nat → Int) (a : Nat) : ∀ k i v, okV a i v → dgE t k i ≤ a + 3 → dgR t k i v = dgV t a k i v
  | 0, _, _, _, _ => rfl
  | k + 1, i, v, h, he => by
    unfold dgR dgV
    unfold dgE at he
    by_cases hd : 48 ≤ t i ∧ t i ≤ 57
    · rw [if_pos hd] at he ⊢
      rw [if_pos hd]
      have hb := dgE_bd t k (i + 1)
      have hk := okV_s h hd
      rw [if_pos (show i < a + 3 by omega)] at hk ⊢
      have h9 := h.2.1
      rw [if_neg (by omega), show 10 * v + t i - 48 = v * 10 + t i - 48 by omega]
      exact dgR_V t a k (i + 1) _ hk he
    · rw [if_neg hd, if_neg hd]
set_option maxHeartbeats 4000000 in
set_option maxRecDepth 100000 in
theorem rl_num (c : HC) {n : Nat} (hn : c 122 15 = (n : Int)) (hn2 : n ≤ 250) (lo hi h3 : Int) (sk : Int) (P : Int) (Q : Option PV → HC → Prop) (E : Nat) (VV : Int) (hq : TT mX11_takeNumber 1 129 [(0, vr 122), (1, vi lo), (2, vi hi), (3, vi h3)] [] (rt c (E : Int) VV sk P) Q) : ∀ (k i : Nat) (v : Int), n - i = k → i ≤ 2000 → (0 ≤ v ∧ v ≤ 100009) → dgE (c 131) k i = E → dgR (c 131) k i v = VV → TT mX11_takeNumber 1 42 [(0, vr 122), (1, vi lo), (2, vi hi), (3, vi h3)] [] (rt c (i : Int) v sk P) Q := by
  intro k
  induction k with
  | zero =>
    intro i v hk hi2 hv hE hVV
    have e1 : i = E := hE
    have e2 : v = VV := hVV
    subst e1
    subst e2
    refine T_aloadn dX11_takeNumber_42 rfl rfl ?_
    refine T_getv dX11_takeNumber_43 fX11_111 (by first | assumption | rfl) (by first | decide | omega) rfl rt17 ?_
    refine T_aloadn dX11_takeNumber_46 rfl rfl ?_
    refine T_getv dX11_takeNumber_47 fX11_107 (by first | assumption | rfl) (by first | decide | omega) rfl ((rt_f (by omega)).trans hn) ?_
    refine T_icmp_ge (tgt := 129) dX11_takeNumber_50 rfl (fun b50 => ?_) (fun b50 => absurd b50 (by omega))
    exact hq
  | succ k ih =>
    intro i v hk hi2 hv hE hVV
    refine T_aloadn dX11_takeNumber_42 rfl rfl ?_
    refine T_getv dX11_takeNumber_43 fX11_111 (by first | assumption | rfl) (by first | decide | omega) rfl rt17 ?_
    refine T_aloadn dX11_takeNumber_46 rfl rfl ?_
    refine T_getv dX11_takeNumber_47 fX11_107 (by first | assumption | rfl) (by first | decide | omega) rfl ((rt_f (by omega)).trans hn) ?_
    refine T_icmp_ge (tgt := 129) dX11_takeNumber_50 rfl (fun b50 => absurd b50 (by omega)) (fun b50 => ?_)
    refine T_aloadn dX11_takeNumber_53 rfl rfl ?_
    refine T_getfin dX11_takeNumber_54 fX11_34 (by first | assumption | rfl) (by first | decide | omega) rfl (by first | assumption | rfl) ?_
    refine T_aloadn dX11_takeNumber_57 rfl rfl ?_
    refine T_getv dX11_takeNumber_58 fX11_111 (by first | assumption | rfl) (by first | decide | omega) rfl rt17 ?_
    refine T_ialdv (j := i) dX11_takeNumber_61 (by first | assumption | rfl) (by first | decide | omega) (by omega) (by omega) (rt_o (by decide)) ?_
    refine T_i2l dX11_takeNumber_62 ?_
    refine T_ldc2 dX11_takeNumber_63 clX11_118 (inl rfl) ?_
    refine T_ldc2 dX11_takeNumber_66 clX11_120 (inl rfl) ?_
    refine TT_Si dX11_takeNumber_69 (r_in _ (c 131 i) 48 57) kX11_96 (by decide) rfl (leb rfl) ?_
    refine T_if_eq (tgt := 129) dX11_takeNumber_72 rfl (fun b72 => ?_) (fun b72 => ?_)
    · have hdg := inF_f b72
      have e1 : i = E := by rw [← hE, dgE.eq_2, if_neg hdg]
      have e2 : v = VV := by rw [← hVV, dgR.eq_2, if_neg hdg]
      subst e1
      subst e2
      exact hq
    · have hdg := inF_t b72
      refine T_aloadn dX11_takeNumber_75 rfl rfl ?_
      refine T_aloadn dX11_takeNumber_76 rfl rfl ?_
      refine T_getv dX11_takeNumber_77 fX11_129 (by first | assumption | rfl) (by first | decide | omega) rfl rt18 ?_
      refine T_sipush dX11_takeNumber_80 (bp16 rfl) (inr rfl) ?_
      refine T_icmp_le (tgt := 93) dX11_takeNumber_83 rfl (fun b83 => ?_) (fun b83 => ?_)
      · refine T_bipush dX11_takeNumber_93 (bp8 rfl) (inr rfl) ?_
        refine T_aloadn dX11_takeNumber_95 rfl rfl ?_
        refine T_getv dX11_takeNumber_96 fX11_129 (by first | assumption | rfl) (by first | decide | omega) rfl rt18 ?_
        first | refine T_imulN dX11_takeNumber_99 (by omega) ?_ | refine T_imul dX11_takeNumber_99 ?_
        refine T_aloadn dX11_takeNumber_100 rfl rfl ?_
        refine T_getfin dX11_takeNumber_101 fX11_34 (by first | assumption | rfl) (by first | decide | omega) rfl (by first | assumption | rfl) ?_
        refine T_aloadn dX11_takeNumber_104 rfl rfl ?_
        refine T_getv dX11_takeNumber_105 fX11_111 (by first | assumption | rfl) (by first | decide | omega) rfl rt17 ?_
        refine T_ialdv (j := i) dX11_takeNumber_108 (by first | assumption | rfl) (by first | decide | omega) (by omega) (by omega) (rt_o (by decide)) ?_
        first | refine T_iaddN dX11_takeNumber_109 (by omega) ?_ | refine T_iadd dX11_takeNumber_109 ?_
        refine T_bipush dX11_takeNumber_110 (bp8 rfl) (inr rfl) ?_
        first | refine T_isubN dX11_takeNumber_112 (by omega) ?_ | refine T_isub dX11_takeNumber_112 ?_
        refine T_puti dX11_takeNumber_113 fX11_129 (by first | assumption | rfl) (by first | decide | omega) rfl rfl ?_
        refine T_aloadn dX11_takeNumber_116 rfl rfl ?_
        refine T_dup dX11_takeNumber_117 rfl ?_
        refine T_getv dX11_takeNumber_118 fX11_111 (by first | assumption | rfl) (by first | decide | omega) rfl ((up2_k _ _ (by decide)).trans rt17) ?_
        refine T_iconst dX11_takeNumber_121 (inr rfl) ?_
        first | refine T_iaddN dX11_takeNumber_122 (by omega) ?_ | refine T_iadd dX11_takeNumber_122 ?_
        refine T_puti dX11_takeNumber_123 fX11_111 (by first | assumption | rfl) (by first | decide | omega) rfl rfl ?_
        refine T_goto (tgt := 42) dX11_takeNumber_126 rfl ?_
        rw [rtu18, rtu17]
        refine T_keep [0, 1, 2, 3] ?_
        refine ih (i + 1) (10 * v + c 131 i - 48) (by omega) (by omega) (by omega) (by rw [← hE, dgE.eq_2, if_pos (inF_t b72)]) (by
          rw [← hVV, dgR.eq_2, if_pos (inF_t b72)]
          rw [if_neg (show ¬ (10000 < v) by omega)])
      · refine T_aloadn dX11_takeNumber_86 rfl rfl ?_
        refine T_getv dX11_takeNumber_87 fX11_129 (by first | assumption | rfl) (by first | decide | omega) rfl rt18 ?_
        refine T_goto (tgt := 113) dX11_takeNumber_90 rfl ?_
        refine T_puti dX11_takeNumber_113 fX11_129 (by first | assumption | rfl) (by first | decide | omega) rfl rfl ?_
        refine T_aloadn dX11_takeNumber_116 rfl rfl ?_
        refine T_dup dX11_takeNumber_117 rfl ?_
        refine T_getv dX11_takeNumber_118 fX11_111 (by first | assumption | rfl) (by first | decide | omega) rfl ((up2_k _ _ (by decide)).trans rt17) ?_
        refine T_iconst dX11_takeNumber_121 (inr rfl) ?_
        first | refine T_iaddN dX11_takeNumber_122 (by omega) ?_ | refine T_iadd dX11_takeNumber_122 ?_
        refine T_puti dX11_takeNumber_123 fX11_111 (by first | assumption | rfl) (by first | decide | omega) rfl rfl ?_
        refine T_goto (tgt := 42) dX11_takeNumber_126 rfl ?_
        rw [rtu18, rtu17]
        refine T_keep [0, 1, 2, 3] ?_
        refine ih (i + 1) v (by omega) (by omega) (by omega) (by rw [← hE, dgE.eq_2, if_pos (inF_t b72)]) (by
          rw [← hVV, dgR.eq_2, if_pos (inF_t b72)]
          rw [if_pos (show 10000 < v by omega)])
def PN (c : HC) (n a : Nat) (lo hi P : Int) (v : Option PV) (h : HC) : Prop := v = some (vi (nuK (c 131) n a lo hi)) ∧ ∃ V2 N2 : Int, h = rt c ((enF (c 131) n a : Nat) : Int) V2 N2 (fP 0 (nuK (c 131) n a lo hi) P ((skF (c 131) n a : Nat) : Int)) ∧ (nuK (c 131) n a lo hi = 0 → V2 = nuV (c 131) n a ∧ N2 = ((skF (c 131) n a : Nat) : Int))
theorem fP_0z {P p : Int} : fP 0 0 P p = P := by unfold fP; rw [if_neg (by omega)]
theorem fP_0n {k P p : Int} (h : k ≠ 0) : fP 0 k P p = p := by unfold fP; rw [if_pos ⟨rfl, h⟩]
theorem fP_n {F k P p : Int} (h : F ≠ 0) : fP F k P p = P := by unfold fP; rw [if_neg (fun z => h z.1)]
theorem fF_0 {k : Int} : fF 0 k = k := by unfold fF; rw [if_pos rfl]
theorem fF_n {F k : Int} (h : F ≠ 0) : fF F k = F := by unfold fF; rw [if_neg h]
set_option maxHeartbeats 4000000 in
set_option maxRecDepth 100000 in
theorem r_takeNumber (c : HC) {n : Nat} (hn : c 122 15 = (n : Int)) (hn2 : n ≤ 250) (V N P lo hi : Int) (a : Nat) (ha : a ≤ 1000) : CC mX11_takeNumber 1 (rt c (a : Int) V N P) [vr 122, vi lo, vi hi] (PN c n a lo hi P) := by
  have hsk := skF_bd (c 131) n a
  have hEb := dgE_bd (c 131) (n - skF (c 131) n a) (skF (c 131) n a)
  have hen : enF (c 131) n a = dgE (c 131) (n - skF (c 131) n a) (skF (c 131) n a) := rfl
  refine CC.of (by decide +kernel) (leb rfl) (fun hok => ?_)
  refine T_aloadn dX11_takeNumber_0 rfl rfl ?_
  refine TT_Vw dX11_takeNumber_1 (r_here c hn hn2 V N P a (by omega)) kX11_114 (by decide) (by first | decide | omega) (by first | assumption | rfl) rfl (leb rfl) ?_
  refine T_istoren dX11_takeNumber_4 rfl (by decide) rfl ?_
  refine T_iloadn dX11_takeNumber_5 rfl rfl ?_
  refine T_i2l dX11_takeNumber_6 ?_
  refine T_ldc2 dX11_takeNumber_7 clX11_118 (inl rfl) ?_
  refine T_ldc2 dX11_takeNumber_10 clX11_120 (inl rfl) ?_
  refine TT_Si dX11_takeNumber_13 (r_in _ (hereF (c 131) n a) 48 57) kX11_96 (by decide) rfl (leb rfl) ?_
  refine T_if_ne (tgt := 29) dX11_takeNumber_16 rfl (fun b16 => ?_) (fun b16 => ?_)
  · have hi2 := inF_t b16
    have hl : skF (c 131) n a < n := by
      unfold hereF at hi2
      by_cases hl : skF (c 131) n a < n
      · exact hl
      · rw [if_neg hl] at hi2; omega
    have hd : 48 ≤ c 131 (skF (c 131) n a) ∧ c 131 (skF (c 131) n a) ≤ 57 := by
      unfold hereF at hi2
      rw [if_pos hl] at hi2
      exact hi2
    have hgt : skF (c 131) n a < enF (c 131) n a := by
      rw [hen, show n - skF (c 131) n a = (n - skF (c 131) n a - 1) + 1 by omega, dgE.eq_2, if_pos hd]
      have := dgE_bd (c 131) (n - skF (c 131) n a - 1) (skF (c 131) n a + 1)
      omega
    have hRV : enF (c 131) n a ≤ skF (c 131) n a + 3 → dgR (c 131) (n - skF (c 131) n a) (skF (c 131) n a) 0 = nuV (c 131) n a := fun z => dgR_V (c 131) (skF (c 131) n a) _ _ 0 (by unfold okV; omega) z
    refine T_aloadn dX11_takeNumber_29 rfl rfl ?_
    refine T_aloadn dX11_takeNumber_30 rfl rfl ?_
    refine T_getv dX11_takeNumber_31 fX11_111 (by first | assumption | rfl) (by first | decide | omega) rfl rt17 ?_
    refine T_puti dX11_takeNumber_34 fX11_126 (by first | assumption | rfl) (by first | decide | omega) rfl rfl ?_
    refine T_aloadn dX11_takeNumber_37 rfl rfl ?_
    refine T_iconst dX11_takeNumber_38 (inr rfl) ?_
    refine T_puti dX11_takeNumber_39 fX11_129 (by first | assumption | rfl) (by first | decide | omega) rfl rfl ?_
    rw [rtu19, rtu18]
    refine rl_num c hn hn2 lo hi _ _ P _ (enF (c 131) n a) (dgR (c 131) (n - skF (c 131) n a) (skF (c 131) n a) 0) ?_ (n - skF (c 131) n a) (skF (c 131) n a) 0 rfl (by omega) (by omega) rfl rfl
    refine T_aloadn dX11_takeNumber_129 rfl rfl ?_
    refine T_getv dX11_takeNumber_130 fX11_111 (by first | assumption | rfl) (by first | decide | omega) rfl rt17 ?_
    refine T_aloadn dX11_takeNumber_133 rfl rfl ?_
    refine T_getv dX11_takeNumber_134 fX11_126 (by first | assumption | rfl) (by first | decide | omega) rfl rt19 ?_
    first | refine T_isubN dX11_takeNumber_137 (by omega) ?_ | refine T_isub dX11_takeNumber_137 ?_
    refine T_iconst dX11_takeNumber_138 (inr rfl) ?_
    refine T_icmp_gt (tgt := 157) dX11_takeNumber_139 rfl (fun b139 => ?_) (fun b139 => ?_)
    · refine T_aloadn dX11_takeNumber_157 rfl rfl ?_
      refine T_iconst dX11_takeNumber_158 (inr rfl) ?_
      refine T_aloadn dX11_takeNumber_159 rfl rfl ?_
      refine T_getv dX11_takeNumber_160 fX11_126 (by first | assumption | rfl) (by first | decide | omega) rfl rt19 ?_
      refine TT_Vw dX11_takeNumber_163 (r_fails c ((enF (c 131) n a : Nat) : Int) (dgR (c 131) (n - skF (c 131) n a) (skF (c 131) n a) 0) ((skF (c 131) n a : Nat) : Int) P 2 ((skF (c 131) n a : Nat) : Int)) kX11_122 (by decide) (by first | decide | omega) (by first | assumption | rfl) rfl (leb rfl) ?_
      refine T_goto (tgt := 170) dX11_takeNumber_166 rfl ?_
      refine TT_ri dX11_takeNumber_170 trivial ?_
      have e : nuK (c 131) n a lo hi = 2 := by
        unfold nuK
        rw [if_neg (by omega), if_pos (Or.inl (by omega))]
      refine ⟨by rw [e], dgR (c 131) (n - skF (c 131) n a) (skF (c 131) n a) 0, ((skF (c 131) n a : Nat) : Int), by rw [e, fP_0n (by decide)], fun z => ?_⟩
      rw [e] at z
      exact absurd z (by decide)
    · refine T_aloadn dX11_takeNumber_142 rfl rfl ?_
      refine T_getv dX11_takeNumber_143 fX11_129 (by first | assumption | rfl) (by first | decide | omega) rfl rt18 ?_
      refine T_i2l dX11_takeNumber_146 ?_
      refine T_iloadn dX11_takeNumber_147 rfl rfl ?_
      refine T_i2l dX11_takeNumber_148 ?_
      refine T_iloadn dX11_takeNumber_149 rfl rfl ?_
      refine T_i2l dX11_takeNumber_150 ?_
      refine TT_Si dX11_takeNumber_151 (r_in _ (dgR (c 131) (n - skF (c 131) n a) (skF (c 131) n a) 0) lo hi) kX11_96 (by decide) rfl (leb rfl) ?_
      refine T_if_ne (tgt := 169) dX11_takeNumber_154 rfl (fun b154 => ?_) (fun b154 => ?_)
      · refine T_iconst dX11_takeNumber_169 (inr rfl) ?_
        refine TT_ri dX11_takeNumber_170 trivial ?_
        have hi3 := inF_t b154
        have e : nuK (c 131) n a lo hi = 0 := by
          unfold nuK
          rw [hRV (by omega)] at hi3
          rw [if_neg (by omega), if_neg (by omega)]
        exact ⟨by rw [e], dgR (c 131) (n - skF (c 131) n a) (skF (c 131) n a) 0, ((skF (c 131) n a : Nat) : Int), by rw [e, fP_0z], fun z => ⟨hRV (by omega), rfl⟩⟩
      · refine T_aloadn dX11_takeNumber_157 rfl rfl ?_
        refine T_iconst dX11_takeNumber_158 (inr rfl) ?_
        refine T_aloadn dX11_takeNumber_159 rfl rfl ?_
        refine T_getv dX11_takeNumber_160 fX11_126 (by first | assumption | rfl) (by first | decide | omega) rfl rt19 ?_
        refine TT_Vw dX11_takeNumber_163 (r_fails c ((enF (c 131) n a : Nat) : Int) (dgR (c 131) (n - skF (c 131) n a) (skF (c 131) n a) 0) ((skF (c 131) n a : Nat) : Int) P 2 ((skF (c 131) n a : Nat) : Int)) kX11_122 (by decide) (by first | decide | omega) (by first | assumption | rfl) rfl (leb rfl) ?_
        refine T_goto (tgt := 170) dX11_takeNumber_166 rfl ?_
        refine TT_ri dX11_takeNumber_170 trivial ?_
        have e : nuK (c 131) n a lo hi = 2 := by
          unfold nuK
          rw [if_neg (by omega), if_pos (Or.inr (by have := inF_f b154; rw [hRV (by omega)] at this; omega))]
        refine ⟨by rw [e], dgR (c 131) (n - skF (c 131) n a) (skF (c 131) n a) 0, ((skF (c 131) n a : Nat) : Int), by rw [e, fP_0n (by decide)], fun z => ?_⟩
        rw [e] at z
        exact absurd z (by decide)
  · refine T_aloadn dX11_takeNumber_19 rfl rfl ?_
    refine T_iconst dX11_takeNumber_20 (inr rfl) ?_
    refine T_aloadn dX11_takeNumber_21 rfl rfl ?_
    refine T_getv dX11_takeNumber_22 fX11_111 (by first | assumption | rfl) (by first | decide | omega) rfl rt17 ?_
    refine TT_Vw dX11_takeNumber_25 (r_fails c ((skF (c 131) n a : Nat) : Int) V N P 1 ((skF (c 131) n a : Nat) : Int)) kX11_122 (by decide) (by first | decide | omega) (by first | assumption | rfl) rfl (leb rfl) ?_
    refine TT_ri dX11_takeNumber_28 trivial ?_
    have hi2 := inF_f b16
    have e0 : enF (c 131) n a = skF (c 131) n a := by
      rw [hen]
      by_cases hl : skF (c 131) n a < n
      · unfold hereF at hi2
        rw [if_pos hl] at hi2
        rw [show n - skF (c 131) n a = (n - skF (c 131) n a - 1) + 1 by omega, dgE.eq_2, if_neg hi2]
      · rw [show n - skF (c 131) n a = 0 by omega]; rfl
    have e : nuK (c 131) n a lo hi = 1 := by unfold nuK; rw [if_pos e0]
    refine ⟨by rw [e], V, N, by rw [e, fP_0n (by decide), e0], fun z => ?_⟩
    rw [e] at z
    exact absurd z (by decide)
set_option maxHeartbeats 4000000 in
set_option maxRecDepth 100000 in
theorem r_into (c : HC) {n : Nat} (hn : c 122 15 = (n : Int)) (hn2 : n ≤ 250) (V N P lo hi : Int) (a : Nat) (ha : a ≤ 1000) (row len k : Nat) (hrow : SH[row]? = some (1, len)) (h0 : 0 < row) (hk : k < len) (hne : row ≠ 122) (hk2 : (k : Int) ≤ 100) : CC mX11_into 2 (rt c (a : Int) V N P) [vr 122, vr row, vi (k : Int), vi lo, vi hi] (fun v h => v = some (vi (nuK (c 131) n a lo hi)) ∧ ∃ V2 N2 : Int, h = rt (up2 c row k V2) ((enF (c 131) n a : Nat) : Int) V2 N2 (fP 0 (nuK (c 131) n a lo hi) P ((skF (c 131) n a : Nat) : Int)) ∧ (nuK (c 131) n a lo hi = 0 → V2 = nuV (c 131) n a ∧ N2 = ((skF (c 131) n a : Nat) : Int))) := by
  refine CC.of (by decide +kernel) (leb rfl) (fun hok => ?_)
  refine T_aloadn dX11_into_0 rfl rfl ?_
  refine T_iloadn dX11_into_1 rfl rfl ?_
  refine T_iload dX11_into_2 rfl ?_
  refine TT_V dX11_into_4 (r_takeNumber c hn hn2 V N P lo hi a ha) kX11_132 (by decide) (by first | decide | omega) (by first | assumption | rfl) rfl (leb rfl) (fun v c1 hq => ?_)
  obtain ⟨rfl, V2, N2, rfl, hz⟩ := hq
  refine T_istore dX11_into_7 (by decide) rfl ?_
  refine T_aloadn dX11_into_9 rfl rfl ?_
  refine T_iloadn dX11_into_10 rfl rfl ?_
  refine T_aloadn dX11_into_11 rfl rfl ?_
  refine T_getv dX11_into_12 fX11_129 (by first | assumption | rfl) (by first | decide | omega) rfl rt18 ?_
  refine T_iast dX11_into_15 (by first | assumption | rfl) (by first | decide | omega) rfl (by omega) ?_
  refine T_iload dX11_into_16 rfl ?_
  refine TT_ri dX11_into_18 trivial ?_
  exact ⟨rfl, V2, N2, rt_up hne, hz⟩
