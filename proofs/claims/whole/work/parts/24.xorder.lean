/-! Row: its plan; order -/
def prQ (mud : Int) (lb : Nat → Int) (B b v w : Int) (y : Nat) : Int := pullF mud (lwF lb (imin B (b + y)) - imax 0 (v - y)) w
def rC (c : HC) (a : Nat) (Q : Nat → Int) (i : Nat) : HC := fun x y => if x = a ∧ y < i then Q y else c x y
theorem rC_up {c : HC} {a i : Nat} {Q : Nat → Int} : up2 (rC c a Q i) a i (Q i) = rC c a Q (i + 1) := by
  funext x y
  unfold up2 rC
  by_cases hx : x = a
  · subst hx
    by_cases hy : y = i
    · subst hy
      rw [if_pos (by simp), if_pos ⟨rfl, by omega⟩]
    · rw [if_neg (by simp [hy])]
      by_cases h2 : y < i
      · rw [if_pos ⟨rfl, h2⟩, if_pos ⟨rfl, by omega⟩]
      · rw [if_neg (by omega), if_neg (by omega)]
  · rw [if_neg (by simp [hx]), if_neg (fun q => hx q.1), if_neg (fun q => hx q.1)]
theorem rC_0 {c : HC} {a : Nat} {Q : Nat → Int} : rC c a Q 0 = c := by
  funext x y
  unfold rC
  rw [if_neg (by omega)]
theorem rC_row {c : HC} {a i x : Nat} {Q : Nat → Int} (h : x ≠ a) : rC c a Q i x = c x := by
  funext y
  unfold rC
  rw [if_neg (by omega)]
theorem imax_0 {x : Int} (h : x ≤ 40) : 0 ≤ imax 0 x ∧ imax 0 x ≤ 40 := by unfold imax; split <;> omega
set_option maxHeartbeats 4000000 in
set_option maxRecDepth 100000 in
theorem l_fillPulls (c : HC) {f : Nat} (hf : f = 88 ∨ f = 101) (hl : ∀ k, k < 42 → 0 ≤ c (f + 1 + 6) k ∧ c (f + 1 + 6) k ≤ 41) (p m : Nat) (hp : p < 10) (hm : m < 6) (hc : c 74 3 = (m : Int)) (hB : 1 ≤ c (f + 8 + 2) p ∧ c (f + 8 + 2) p ≤ 40) (b v : Int) (hb : 0 ≤ b ∧ b ≤ 40) (hv : 0 ≤ v ∧ v ≤ 40) (Q : Nat → Int) (hQ : Q = prQ (c (f + 1) 7) (c (f + 1 + 6)) (c (f + 8 + 2) p) b v (c (f + 8 + 3) p)) : ∀ (k i : Nat), i + k = 6 → TT mX6_fillPulls 2 3 [(0, vr 74), (1, vr f), (2, vi (p : Int)), (3, vi b), (4, vi v), (5, vi (i : Int))] [] (rC c (77 + m) Q i) (fun v c1 => v = none ∧ c1 = rC c (77 + m) Q 6) := by
  obtain ⟨f0, fs, ff0, ff1, hg, hf2⟩ := fK hf
  obtain ⟨g0, gs, gs1, gs2, gs3, gs4, gs5, gs6, gf0, gf1, gf2, gf3, gf4, gf5⟩ := gK hg
  obtain ⟨s0, ss, ss1, ss2, ss3, ss4, sf0, sf1, sf2, sf3⟩ := sK hf2
  obtain ⟨k1, k2, k3⟩ := rwK m hm
  intro k
  induction k with
  | zero =>
    intro i hk
    have e : i = 6 := by omega
    subst e
    refine T_iload dX6_fillPulls_3 rfl ?_
    refine T_bipush dX6_fillPulls_5 (bp8 rfl) (inr rfl) ?_
    refine T_icmp_ge (tgt := 89) dX6_fillPulls_7 rfl (fun b7 => ?_) (fun b7 => absurd b7 (by omega))
    refine TT_rv dX6_fillPulls_89 trivial ?_
    exact ⟨rfl, rfl⟩
  | succ k ih =>
    intro i hk
    have h := ih (i + 1) (by omega)
    have r1 : rC c (77 + m) Q i 74 3 = (m : Int) := by rw [rC_row (by omega)]; exact hc
    have r2 : rC c (77 + m) Q i (f + 8 + 2) p = c (f + 8 + 2) p := by rw [rC_row (by omega)]
    have r3 : rC c (77 + m) Q i (f + 8 + 3) p = c (f + 8 + 3) p := by rw [rC_row (by omega)]
    have hlw := c_longestWithin (rC c (77 + m) Q i) hg (imin (c (f + 8 + 2) p) (b + i))
    rw [rC_row (by omega)] at hlw
    have hpl := c_pullOf (rC c (77 + m) Q i) hg (lwF (c (f + 1 + 6)) (imin (c (f + 8 + 2) p) (b + i)) - imax 0 (v - i)) (c (f + 8 + 3) p)
    rw [rC_row (by omega)] at hpl
    have b1 := lwF_bd hl (imin (c (f + 8 + 2) p) (b + i))
    have b2 := imax_0 (x := v - i) (by omega)
    have hq : pullF (c (f + 1) 7) (lwF (c (f + 1 + 6)) (imin (c (f + 8 + 2) p) (b + i)) - imax 0 (v - i)) (c (f + 8 + 3) p) = Q i := by rw [hQ]; rfl
    rw [hq] at hpl
    refine T_iload dX6_fillPulls_3 rfl ?_
    refine T_bipush dX6_fillPulls_5 (bp8 rfl) (inr rfl) ?_
    refine T_icmp_ge (tgt := 89) dX6_fillPulls_7 rfl (fun b7 => absurd b7 (by omega)) (fun b7 => ?_)
    refine T_aloadn dX6_fillPulls_10 rfl rfl ?_
    refine T_getfin dX6_fillPulls_11 fX6_27 (by first | assumption | rfl) (by first | decide | omega) rfl (by first | assumption | rfl) ?_
    refine T_getfin dX6_fillPulls_14 fX6_52 (by first | assumption | rfl) (by first | decide | omega) rfl (by first | assumption | rfl) ?_
    refine T_iloadn dX6_fillPulls_17 rfl rfl ?_
    refine T_ialdv (j := p) dX6_fillPulls_18 (by first | assumption | rfl) (by first | decide | omega) (by omega) (by omega) r2 ?_
    refine T_iloadn dX6_fillPulls_19 rfl rfl ?_
    refine T_iload dX6_fillPulls_20 rfl ?_
    first | refine T_iaddN dX6_fillPulls_22 (by omega) ?_ | refine T_iadd dX6_fillPulls_22 ?_
    refine T_mmin dX6_fillPulls_23 kX6_53M (by decide) (leb rfl) ?_
    refine T_istore dX6_fillPulls_26 (by decide) rfl ?_
    refine T_aloadn dX6_fillPulls_28 rfl rfl ?_
    refine T_getfin dX6_fillPulls_29 fX6_59 (by first | assumption | rfl) (by first | decide | omega) rfl (by first | assumption | rfl) ?_
    refine T_iload dX6_fillPulls_32 rfl ?_
    refine TT_Vi dX6_fillPulls_34 (hlw) kX6_63 (by decide) (by first | decide | omega) (by first | assumption | rfl) rfl (leb rfl) ?_
    refine T_istore dX6_fillPulls_37 (by decide) rfl ?_
    refine T_iload dX6_fillPulls_39 rfl ?_
    refine T_iconst dX6_fillPulls_41 (inr rfl) ?_
    refine T_iload dX6_fillPulls_42 rfl ?_
    refine T_iload dX6_fillPulls_44 rfl ?_
    first | refine T_isubN dX6_fillPulls_46 (by omega) ?_ | refine T_isub dX6_fillPulls_46 ?_
    refine T_mmax dX6_fillPulls_47 kX6_68M (by decide) (leb rfl) ?_
    first | refine T_isubN dX6_fillPulls_50 (by omega) ?_ | refine T_isub dX6_fillPulls_50 ?_
    refine T_istore dX6_fillPulls_51 (by decide) rfl ?_
    refine T_aloadn dX6_fillPulls_53 rfl rfl ?_
    refine T_getfin dX6_fillPulls_54 fX6_17 (by first | assumption | rfl) (by first | decide | omega) rfl (by first | assumption | rfl) ?_
    refine T_aloadn dX6_fillPulls_57 rfl rfl ?_
    refine T_getv dX6_fillPulls_58 fX6_23 (by first | assumption | rfl) (by first | decide | omega) rfl r1 ?_
    refine T_aaldfin (j := m) dX6_fillPulls_61 (by first | assumption | rfl) (by decide) rfl (by first | decide | omega) (by omega) (by omega) k2 ?_
    refine T_iload dX6_fillPulls_62 rfl ?_
    refine T_aloadn dX6_fillPulls_64 rfl rfl ?_
    refine T_getfin dX6_fillPulls_65 fX6_59 (by first | assumption | rfl) (by first | decide | omega) rfl (by first | assumption | rfl) ?_
    refine T_iload dX6_fillPulls_68 rfl ?_
    refine T_aloadn dX6_fillPulls_70 rfl rfl ?_
    refine T_getfin dX6_fillPulls_71 fX6_27 (by first | assumption | rfl) (by first | decide | omega) rfl (by first | assumption | rfl) ?_
    refine T_getfin dX6_fillPulls_74 fX6_71 (by first | assumption | rfl) (by first | decide | omega) rfl (by first | assumption | rfl) ?_
    refine T_iloadn dX6_fillPulls_77 rfl rfl ?_
    refine T_ialdv (j := p) dX6_fillPulls_78 (by first | assumption | rfl) (by first | decide | omega) (by omega) (by omega) r3 ?_
    refine TT_Vi dX6_fillPulls_79 (hpl) kX6_74 (by decide) (by first | decide | omega) (by first | assumption | rfl) rfl (leb rfl) ?_
    refine T_iast (j := i) dX6_fillPulls_82 k1 (by first | decide | omega) (by omega) (by omega) ?_
    refine T_iincN dX6_fillPulls_83 rfl (by decide) rfl (by omega) ?_
    refine T_goto (tgt := 3) dX6_fillPulls_86 rfl ?_
    refine T_keep [0, 1, 2, 3, 4, 5] ?_
    rw [rC_up]
    exact h
set_option maxHeartbeats 4000000 in
set_option maxRecDepth 100000 in
theorem c_fillPulls (c : HC) {f : Nat} (hf : f = 88 ∨ f = 101) (hl : ∀ k, k < 42 → 0 ≤ c (f + 1 + 6) k ∧ c (f + 1 + 6) k ≤ 41) (p m : Nat) (hp : p < 10) (hm : m < 6) (hc : c 74 3 = (m : Int)) (hB : 1 ≤ c (f + 8 + 2) p ∧ c (f + 8 + 2) p ≤ 40) (b v : Int) (hb : 0 ≤ b ∧ b ≤ 40) (hv : 0 ≤ v ∧ v ≤ 40) : VO mX6_fillPulls 2 c [vr 74, vr f, vi (p : Int), vi b, vi v] (rC c (77 + m) (prQ (c (f + 1) 7) (c (f + 1 + 6)) (c (f + 8 + 2) p) b v (c (f + 8 + 3) p)) 6) := by
  refine CC.of (by decide +kernel) (leb rfl) (fun hok => ?_)
  refine T_iconst dX6_fillPulls_0 (inr rfl) ?_
  refine T_istore dX6_fillPulls_1 (by decide) rfl ?_
  have h := l_fillPulls c hf hl p m hp hm hc hB b v hb hv _ rfl 6 0 (by omega)
  rw [rC_0] at h
  exact h
def PI (c0 c : HC) (mb : Nat → Int) (P : Nat → Nat → Int) (m : Nat) : Prop := (∀ x, x < 74 ∨ 83 < x → c x = c0 x) ∧ c 74 3 = (m : Int) ∧ (∀ y, y < m → c 75 y = mb y) ∧ PC c P m
theorem PI_83 {c0 c : HC} {mb : Nat → Int} {P : Nat → Nat → Int} {m t : Nat} {z : Int} (hm : m ≤ 6) (h : PI c0 c mb P m) : PI c0 (up2 c 83 t z) mb P m := by
  obtain ⟨h1, h2, h3, h4⟩ := h
  refine ⟨fun x hx => ?_, ?_, fun y hy => ?_, fun j hj i hi => ?_⟩
  · rw [up2_row _ _ _ _ (by omega)]; exact h1 x hx
  · rw [up2_a _ _ (by decide)]; exact h2
  · rw [up2_a _ _ (by decide)]; exact h3 y hy
  · rw [up2_a _ _ (by omega)]; exact h4 j hj i hi
theorem PI_step {c0 c : HC} {mb : Nat → Int} {P : Nat → Nat → Int} {m p : Nat} {Q : Nat → Int} (hm : m < 6) (h : PI c0 c mb P m) (hb : mb m = (p : Int)) (hQ : ∀ i, i < 6 → Q i = P m i) : PI c0 (up2 (rC (up2 c 75 m (p : Int)) (77 + m) Q 6) 74 3 ((m : Int) + 1)) mb P (m + 1) := by
  obtain ⟨h1, h2, h3, h4⟩ := h
  refine ⟨fun x hx => ?_, ?_, fun y hy => ?_, fun j hj i hi => ?_⟩
  · rw [up2_row _ _ _ _ (by omega), rC_row (by omega), up2_row _ _ _ _ (by omega)]; exact h1 x hx
  · rw [up2_s]; rfl
  · rw [up2_a _ _ (by decide), rC_row (by omega)]
    by_cases e : y = m
    · subst e; rw [up2_s, hb]
    · rw [up2_k _ _ e]; exact h3 y (by omega)
  · rw [up2_a _ _ (by omega)]
    by_cases e : j = m
    · subst e
      unfold rC
      rw [if_pos ⟨rfl, hi⟩]
      exact hQ i hi
    · rw [rC_row (by omega), up2_a _ _ (by omega)]
      exact h4 j (by omega) i hi
set_option maxHeartbeats 4000000 in
set_option maxRecDepth 100000 in
theorem l_plan2 (c0 : HC) {mb : Nat → Int} {P : Nat → Nat → Int} {n : Nat} (hn : n < 7) (hB : PB P n) : ∀ (t : Nat) (c : HC), PI c0 c mb P n → TAB c P n t → t < 2 ^ n → TT mX6_plan 3 110 [(0, vr 74), (6, vi ((t : Int) - 1))] [] c (fun v c1 => v = none ∧ PI c0 c1 mb P n ∧ TAB c1 P n 0) := by
  have h64 := (rwP n hn).1
  intro t
  induction t with
  | zero =>
    intro c hI hT ht
    refine T_iload dX6_plan_110 rfl ?_
    refine T_if_lt (tgt := 134) dX6_plan_112 rfl (fun b112 => ?_) (fun b112 => absurd b112 (by omega))
    refine TT_rv dX6_plan_134 trivial ?_
    exact ⟨rfl, hI, hT⟩
  | succ t ih =>
    intro c hI hT ht
    have hpc := rwF n hn t (by omega)
    obtain ⟨m, hm⟩ : ∃ m, pcU t 6 + (m + 1) = n := ⟨n - pcU t 6 - 1, by omega⟩
    have hcm := c_mostBehind c hn (by omega) hm hB hI.2.2.2 hT hI.2.1
    have hT2 : TAB (up2 c 83 t (MV P n (m + 1) t)) P n t := fun u h1 h2 => by
      by_cases e : u = t
      · subst e
        rw [up2_s, show n - pcU u 6 = m + 1 by omega]
      · rw [up2_k _ _ e]
        exact hT u (by omega) h2
    have h := ih (up2 c 83 t (MV P n (m + 1) t)) (PI_83 (by omega) hI) hT2 (by omega)
    rw [show ((t + 1 : Nat) : Int) - 1 = (t : Int) by omega]
    refine T_iload dX6_plan_110 rfl ?_
    refine T_if_lt (tgt := 134) dX6_plan_112 rfl (fun b112 => absurd b112 (by omega)) (fun b112 => ?_)
    refine T_aloadn dX6_plan_115 rfl rfl ?_
    refine T_getfin dX6_plan_116 fX6_20 (by first | assumption | rfl) (by first | decide | omega) rfl (by first | assumption | rfl) ?_
    refine T_iload dX6_plan_119 rfl ?_
    refine T_aloadn dX6_plan_121 rfl rfl ?_
    refine T_iload dX6_plan_122 rfl ?_
    refine TT_Vi dX6_plan_124 (hcm) kX6_48 (by decide) (by first | decide | omega) (by first | assumption | rfl) rfl (leb rfl) ?_
    refine T_iast (j := t) dX6_plan_127 (by first | assumption | rfl) (by first | decide | omega) rfl (by omega) ?_
    refine T_iincN dX6_plan_128 rfl (by decide) rfl (by omega) ?_
    refine T_goto (tgt := 110) dX6_plan_131 rfl ?_
    refine T_keep [0, 6] ?_
    exact h
set_option maxHeartbeats 4000000 in
set_option maxRecDepth 100000 in
theorem l_plan3 (c0 c : HC) {mb : Nat → Int} {P : Nat → Nat → Int} {n : Nat} (hn : n < 7) (hB : PB P n) (hI : PI c0 c mb P n) : TT mX6_plan 3 86 [(0, vr 74)] [] c (fun v c1 => v = none ∧ PI c0 c1 mb P n ∧ TAB c1 P n 0) := by
  obtain ⟨h64, hpc⟩ := rwP n hn
  have hz : 0 < 2 ^ n := Nat.two_pow_pos n
  have hc := hI.2.1
  obtain ⟨A, hA⟩ : ∃ A, 2 ^ n = A + 1 := ⟨2 ^ n - 1, by omega⟩
  rw [hA] at hpc
  have hT : TAB (up2 c 83 A 0) P n A := fun u h1 h2 => by
    have e : u = A := by omega
    subst e
    rw [up2_s]
    have : n - pcU u 6 = 0 := by
      have hp2 : pcU u 6 = n := hpc
      omega
    rw [this]
    rfl
  have h := l_plan2 c0 hn hB A (up2 c 83 A 0) (PI_83 (by omega) hI) hT (by omega)
  refine T_iconst dX6_plan_86 (inr rfl) ?_
  refine T_aloadn dX6_plan_87 rfl rfl ?_
  first | refine T_getv dX6_plan_88 fX6_23 (by first | assumption | rfl) (by first | decide | omega) rfl (by assumption) ?_ | refine T_geti dX6_plan_88 fX6_23 (by first | assumption | rfl) (by first | decide | omega) rfl ?_
  refine T_ishl dX6_plan_91 (by omega) (by omega) ?_
  rw [shl1 (by omega), hA]
  refine T_iconst dX6_plan_92 (inr rfl) ?_
  first | refine T_isubN dX6_plan_93 (by omega) ?_ | refine T_isub dX6_plan_93 ?_
  rw [show ((A + 1 : Nat) : Int) - 1 = (A : Int) by omega]
  refine T_istore dX6_plan_94 (by decide) rfl ?_
  refine T_aloadn dX6_plan_96 rfl rfl ?_
  refine T_getfin dX6_plan_97 fX6_20 (by first | assumption | rfl) (by first | decide | omega) rfl (by first | assumption | rfl) ?_
  refine T_iload dX6_plan_100 rfl ?_
  refine T_iconst dX6_plan_102 (inr rfl) ?_
  refine T_iast (j := A) dX6_plan_103 (by first | assumption | rfl) (by first | decide | omega) rfl (by omega) ?_
  refine T_iload dX6_plan_104 rfl ?_
  refine T_iconst dX6_plan_106 (inr rfl) ?_
  first | refine T_isubN dX6_plan_107 (by omega) ?_ | refine T_isub dX6_plan_107 ?_
  refine T_istore dX6_plan_108 (by decide) rfl ?_
  refine T_keep [0, 6] ?_
  exact h
theorem cntU_mono {sd : Nat → Int} {s : Int} {p : Nat} : ∀ k, cntU sd s p ≤ cntU sd s (p + k)
  | 0 => Int.le_refl _
  | k + 1 => by
    have h := cntU_mono (sd := sd) (s := s) (p := p) k
    have e : cntU sd s (p + (k + 1)) = if sd (p + k) = s then cntU sd s (p + k) + 1 else cntU sd s (p + k) := rfl
    rw [e]
    split <;> omega
theorem nth_cnt {sd : Nat → Int} {s df : Int} {p : Nat} (hs : sd p = s) : ∀ m q, q ≤ p → p < q + m → nthL sd s df m q (cntU sd s p - cntU sd s q) = (p : Int)
  | 0, q, h1, h2 => by omega
  | m + 1, q, h1, h2 => by
    unfold nthL
    by_cases e : q = p
    · subst e
      rw [if_pos hs, if_pos (by omega)]
    · have hm := cntU_mono (sd := sd) (s := s) (p := q + 1) (p - (q + 1))
      rw [show q + 1 + (p - (q + 1)) = p by omega] at hm
      have ih := nth_cnt (df := df) hs m (q + 1) (by omega) (by omega)
      have e1 : cntU sd s (q + 1) = if sd q = s then cntU sd s q + 1 else cntU sd s q := rfl
      by_cases hq : sd q = s
      · rw [if_pos hq] at e1
        rw [if_pos hq, if_neg (by omega), show cntU sd s p - cntU sd s q - 1 = cntU sd s p - cntU sd s (q + 1) by omega]
        exact ih
      · rw [if_neg hq] at e1
        rw [if_neg hq, ← e1]
        exact ih
def mbF (c : HC) (f np : Nat) (s : Int) (y : Nat) : Int := nthL (c (f + 8 + 1)) s 0 np 0 (y : Int)
def prF (c : HC) (f np : Nat) (s v : Int) (j y : Nat) : Int := prQ (c (f + 1) 7) (c (f + 1 + 6)) (c (f + 8 + 2) (mbF c f np s j).toNat) (c 5 (mbF c f np s j).toNat) v (c (f + 8 + 3) (mbF c f np s j).toNat) y
theorem mbF_at {c : HC} {f np p m : Nat} {s : Int} (hp : p < np) (hs : c (f + 8 + 1) p = s) (hm : cntU (c (f + 8 + 1)) s p = (m : Int)) : mbF c f np s m = (p : Int) := by
  have h := nth_cnt (df := 0) hs np 0 (by omega) (by omega)
  unfold mbF
  rw [← hm, ← h]
  congr 1
  show _ = _ - cntU _ _ 0
  unfold cntU
  omega
theorem mbF_in {c : HC} {f np j n : Nat} {s : Int} (hn : cntU (c (f + 8 + 1)) s np = (n : Int)) (hj : j < n) : ∃ r : Nat, mbF c f np s j = (r : Int) ∧ r < np := by
  have h0 : cntU (c (f + 8 + 1)) s 0 = 0 := rfl
  obtain ⟨r, r1, r2, -⟩ := nthL_in (sd := c (f + 8 + 1)) (s := s) (df := 0) np 0 (j : Int) (by omega) (by rw [Nat.zero_add]; omega)
  exact ⟨r, r1, by omega⟩
theorem prF_bd {c : HC} {f np n : Nat} {s v : Int} (hgv : GV c (f + 1)) (hsv : SV c (f + 8) np) (hl : ∀ k, k < 42 → 0 ≤ c (f + 1 + 6) k ∧ c (f + 1 + 6) k ≤ 41) (hv : 0 ≤ v ∧ v ≤ 40) (hn : cntU (c (f + 8 + 1)) s np = (n : Int)) : PB (prF c f np s v) n := by
  intro j hj i hi
  obtain ⟨r, r1, r2⟩ := mbF_in hn hj
  unfold prF prQ
  rw [r1, Int.toNat_natCast]
  have hw := hsv.2.2 r r2
  have hx := lwF_bd hl (imin (c (f + 8 + 2) r) (c 5 r + i))
  have hy := imax_0 (x := v - i) (by omega)
  exact pullF_sm hgv.2.1 (by omega) hw.2.2.1
set_option maxHeartbeats 4000000 in
set_option maxRecDepth 100000 in
theorem l_plan1 (c0 : HC) {f np n : Nat} (hf : f = 88 ∨ f = 101) (hgv : GV c0 (f + 1)) (hsv : SV c0 (f + 8) np) (hl : ∀ k, k < 42 → 0 ≤ c0 (f + 1 + 6) k ∧ c0 (f + 1 + 6) k ≤ 41) (hbr : ∀ p, p < np → 0 ≤ c0 5 p ∧ c0 5 p ≤ 40) (s v : Int) (hv : 0 ≤ v ∧ v ≤ 40) (hn : cntU (c0 (f + 8 + 1)) s np = (n : Int)) (hn6 : n < 7) : ∀ (k i m : Nat) (c : HC), i + k = np → cntU (c0 (f + 8 + 1)) s i = (m : Int) → PI c0 c (mbF c0 f np s) (prF c0 f np s v) m → TT mX6_plan 3 8 [(0, vr 74), (1, vr f), (2, vr 4), (3, vi s), (4, vi v), (5, vi (i : Int))] [] c (fun v_ c1 => v_ = none ∧ PI c0 c1 (mbF c0 f np s) (prF c0 f np s v) n ∧ TAB c1 (prF c0 f np s v) n 0) := by
  obtain ⟨f0, fs, ff0, ff1, hg, hf2⟩ := fK hf
  obtain ⟨g0, gs, gs1, gs2, gs3, gs4, gs5, gs6, gf0, gf1, gf2, gf3, gf4, gf5⟩ := gK hg
  obtain ⟨s0, ss, ss1, ss2, ss3, ss4, sf0, sf1, sf2, sf3⟩ := sK hf2
  have hPB := prF_bd hgv hsv hl hv hn
  obtain ⟨hn1, hn2, hn3⟩ := id hsv
  intro k
  induction k with
  | zero =>
    intro i m c hk hm hI
    have e : i = np := by omega
    subst e
    have e2 : m = n := by omega
    subst e2
    have hcn : c (f + 8) 4 = (i : Int) := by rw [hI.1 _ (by omega)]; exact hn1
    refine T_iload dX6_plan_8 rfl ?_
    refine T_aloadn dX6_plan_10 rfl rfl ?_
    refine T_getfin dX6_plan_11 fX6_27 (by first | assumption | rfl) (by first | decide | omega) rfl (by first | assumption | rfl) ?_
    first | refine T_getv dX6_plan_14 fX6_33 (by first | assumption | rfl) (by first | decide | omega) rfl (by assumption) ?_ | refine T_geti dX6_plan_14 fX6_33 (by first | assumption | rfl) (by first | decide | omega) rfl ?_
    refine T_icmp_ge (tgt := 86) dX6_plan_17 rfl (fun b17 => ?_) (fun b17 => absurd b17 (by omega))
    refine T_keep [0] ?_
    exact l_plan3 c0 c hn6 hPB hI
  | succ k ih =>
    intro i m c hk hm hI
    have hcn : c (f + 8) 4 = (np : Int) := by rw [hI.1 _ (by omega)]; exact hn1
    have hcm : c 74 3 = (m : Int) := hI.2.1
    have hcs : c (f + 8 + 1) i = c0 (f + 8 + 1) i := by rw [hI.1 _ (by omega)]
    have hcb : c 5 i = c0 5 i := by rw [hI.1 _ (by omega)]
    have hmo := cntU_mono (sd := c0 (f + 8 + 1)) (s := s) (p := i) (np - i)
    rw [show i + (np - i) = np by omega] at hmo
    have e1 : cntU (c0 (f + 8 + 1)) s (i + 1) = if c0 (f + 8 + 1) i = s then cntU (c0 (f + 8 + 1)) s i + 1 else cntU (c0 (f + 8 + 1)) s i := rfl
    refine T_iload dX6_plan_8 rfl ?_
    refine T_aloadn dX6_plan_10 rfl rfl ?_
    refine T_getfin dX6_plan_11 fX6_27 (by first | assumption | rfl) (by first | decide | omega) rfl (by first | assumption | rfl) ?_
    first | refine T_getv dX6_plan_14 fX6_33 (by first | assumption | rfl) (by first | decide | omega) rfl (by assumption) ?_ | refine T_geti dX6_plan_14 fX6_33 (by first | assumption | rfl) (by first | decide | omega) rfl ?_
    refine T_icmp_ge (tgt := 86) dX6_plan_17 rfl (fun b17 => absurd b17 (by omega)) (fun b17 => ?_)
    refine T_aloadn dX6_plan_20 rfl rfl ?_
    first | refine T_getv dX6_plan_21 fX6_23 (by first | assumption | rfl) (by first | decide | omega) rfl (by assumption) ?_ | refine T_geti dX6_plan_21 fX6_23 (by first | assumption | rfl) (by first | decide | omega) rfl ?_
    refine T_bipush dX6_plan_24 (bp8 rfl) (inr rfl) ?_
    refine T_icmp_ge (tgt := 86) dX6_plan_26 rfl (fun b26 => ?_) (fun b26 => ?_)
    · have e2 : m = n := by omega
      subst e2
      refine T_keep [0] ?_
      exact l_plan3 c0 c hn6 hPB hI
    · refine T_aloadn dX6_plan_29 rfl rfl ?_
      refine T_getfin dX6_plan_30 fX6_27 (by first | assumption | rfl) (by first | decide | omega) rfl (by first | assumption | rfl) ?_
      refine T_getfin dX6_plan_33 fX6_36 (by first | assumption | rfl) (by first | decide | omega) rfl (by first | assumption | rfl) ?_
      refine T_iload dX6_plan_36 rfl ?_
      refine T_ialdv (j := i) dX6_plan_38 (by first | assumption | rfl) (by first | decide | omega) (by omega) (by omega) hcs ?_
      refine T_iloadn dX6_plan_39 rfl rfl ?_
      refine T_icmp_ne (tgt := 80) dX6_plan_40 rfl (fun b40 => ?_) (fun b40 => ?_)
      · refine T_iincN dX6_plan_80 rfl (by decide) rfl (by omega) ?_
        refine T_goto (tgt := 8) dX6_plan_83 rfl ?_
        refine T_keep [0, 1, 2, 3, 4, 5] ?_
        rw [if_neg b40] at e1
        exact ih (i + 1) m c (by omega) (by omega) hI
      · rw [if_pos b40] at e1
        have hmb := mbF_at (f := f) (np := np) (m := m) (by omega) b40 hm
        refine T_aloadn dX6_plan_43 rfl rfl ?_
        refine T_getfin dX6_plan_44 fX6_11 (by first | assumption | rfl) (by first | decide | omega) rfl (by first | assumption | rfl) ?_
        refine T_aloadn dX6_plan_47 rfl rfl ?_
        first | refine T_getv dX6_plan_48 fX6_23 (by first | assumption | rfl) (by first | decide | omega) rfl (by assumption) ?_ | refine T_geti dX6_plan_48 fX6_23 (by first | assumption | rfl) (by first | decide | omega) rfl ?_
        refine T_iload dX6_plan_51 rfl ?_
        refine T_iast (j := m) dX6_plan_53 (by first | assumption | rfl) (by first | decide | omega) (by omega) (by omega) ?_
        have er : ∀ x, x < 74 ∨ 83 < x → up2 c 75 m (i : Int) x = c0 x := fun x hx => by rw [up2_row _ _ _ _ (by omega)]; exact hI.1 x hx
        have hfp := c_fillPulls (up2 c 75 m (i : Int)) hf (by rw [er _ (by omega)]; exact hl) i m (by omega) (by omega) ((up2_a _ _ (by decide)).trans hcm) (by rw [er _ (by omega)]; exact (hn3 i (by omega)).2.1) (c0 5 i) v (hbr i (by omega)) hv
        have hst := PI_step (Q := prQ (up2 c 75 m (i : Int) (f + 1) 7) (up2 c 75 m (i : Int) (f + 1 + 6)) (up2 c 75 m (i : Int) (f + 8 + 2) i) (c0 5 i) v (up2 c 75 m (i : Int) (f + 8 + 3) i)) (by omega) hI hmb (fun y hy => by
          unfold prF
          rw [hmb, Int.toNat_natCast, er _ (by omega), er _ (by omega), er _ (by omega), er _ (by omega)])
        refine T_aloadn dX6_plan_54 rfl rfl ?_
        refine T_aloadn dX6_plan_55 rfl rfl ?_
        refine T_iload dX6_plan_56 rfl ?_
        refine T_aloadn dX6_plan_58 rfl rfl ?_
        refine T_getfin dX6_plan_59 fX6_39 (by first | assumption | rfl) (by first | decide | omega) rfl (by first | assumption | rfl) ?_
        refine T_iload dX6_plan_62 rfl ?_
        refine T_ialdv (j := i) dX6_plan_64 (by first | assumption | rfl) (by first | decide | omega) (by omega) (by omega) ((up2_a _ _ (by decide)).trans hcb) ?_
        refine T_iload dX6_plan_65 rfl ?_
        refine TT_Vv dX6_plan_67 (hfp) kX6_44 (by decide) (by first | decide | omega) (by first | assumption | rfl) rfl (leb rfl) ?_
        refine T_aloadn dX6_plan_70 rfl rfl ?_
        refine T_dup dX6_plan_71 rfl ?_
        refine T_getv dX6_plan_72 fX6_23 (by first | assumption | rfl) (by first | decide | omega) rfl (show rC (up2 c 75 m (i : Int)) (77 + m) _ 6 74 3 = (m : Int) by rw [rC_row (by omega), up2_a _ _ (by decide)]; exact hcm) ?_
        refine T_iconst dX6_plan_75 (inr rfl) ?_
        first | refine T_iaddN dX6_plan_76 (by omega) ?_ | refine T_iadd dX6_plan_76 ?_
        refine T_puti dX6_plan_77 fX6_23 (by first | assumption | rfl) (by first | decide | omega) rfl rfl ?_
        refine T_iincN dX6_plan_80 rfl (by decide) rfl (by omega) ?_
        refine T_goto (tgt := 8) dX6_plan_83 rfl ?_
        refine T_keep [0, 1, 2, 3, 4, 5] ?_
        exact ih (i + 1) (m + 1) _ (by omega) (by omega) hst
set_option maxHeartbeats 4000000 in
set_option maxRecDepth 100000 in
theorem c_plan (c0 : HC) {f np n : Nat} (hf : f = 88 ∨ f = 101) (hgv : GV c0 (f + 1)) (hsv : SV c0 (f + 8) np) (hl : ∀ k, k < 42 → 0 ≤ c0 (f + 1 + 6) k ∧ c0 (f + 1 + 6) k ≤ 41) (hbr : ∀ p, p < np → 0 ≤ c0 5 p ∧ c0 5 p ≤ 40) (s v : Int) (hv : 0 ≤ v ∧ v ≤ 40) (hn : cntU (c0 (f + 8 + 1)) s np = (n : Int)) (hn6 : n < 7) : CC mX6_plan 3 c0 [vr 74, vr f, vr 4, vi s, vi v] (fun v_ c1 => v_ = none ∧ PI c0 c1 (mbF c0 f np s) (prF c0 f np s v) n ∧ TAB c1 (prF c0 f np s v) n 0) := by
  refine CC.of (by decide +kernel) (leb rfl) (fun hok => ?_)
  refine T_aloadn dX6_plan_0 rfl rfl ?_
  refine T_iconst dX6_plan_1 (inr rfl) ?_
  refine T_puti dX6_plan_2 fX6_23 (by first | assumption | rfl) (by first | decide | omega) rfl rfl ?_
  refine T_iconst dX6_plan_5 (inr rfl) ?_
  refine T_istore dX6_plan_6 (by decide) rfl ?_
  refine l_plan1 c0 hf hgv hsv hl hbr s v hv hn hn6 np 0 0 _ (by omega) rfl ⟨fun x hx => up2_row _ _ _ _ (by omega), up2_s _ _ _ _, fun y hy => absurd hy (Nat.not_lt_zero _), fun j hj => absurd hj (Nat.not_lt_zero _)⟩
def ordF (mb : Nat → Int) (P : Nat → Nat → Int) (cn s v i : Int) : Int := if isSideF s = 0 then UNK else if v < 0 ∨ 40 < v then OUT else if 6 < cn then NOTN else if i = -1 then MV P cn.toNat cn.toNat 0 else if i < 0 ∨ cn ≤ i then -1 else mb (gJ P cn.toNat (cn.toNat - 1 - i.toNat) (gS P cn.toNat i.toNat))
def FRR (c c2 : HC) : Prop := ∀ x, x < 74 ∨ 83 < x → c2 x = c x
set_option maxHeartbeats 4000000 in
set_option maxRecDepth 100000 in
theorem x_order (c : HC) {f np : Nat} (hf : f = 88 ∨ f = 101) (hh : c 1 10 = (f : Int)) (hgv : GV c (f + 1)) (hsv : SV c (f + 8) np) (hl : ∀ k, k < 42 → 0 ≤ c (f + 1 + 6) k ∧ c (f + 1 + 6) k ≤ 41) (hbr : ∀ p, p < np → 0 ≤ c 5 p ∧ c 5 p ≤ 40) (s v i : Int) : CC mX10_order 4 c [vr 1, vi s, vi v, vi i] (fun v_ c1 => v_ = some (vi (ordF (mbF c f np s) (prF c f np s v) (cntU (c (f + 8 + 1)) s np) s v i)) ∧ FRR c c1) := by
  obtain ⟨f0, fs, ff0, ff1, hg, hf2⟩ := fK hf
  obtain ⟨g0, gs, gs1, gs2, gs3, gs4, gs5, gs6, gf0, gf1, gf2, gf3, gf4, gf5⟩ := gK hg
  obtain ⟨s0, ss, ss1, ss2, ss3, ss4, sf0, sf1, sf2, sf3⟩ := sK hf2
  refine CC.of (by decide +kernel) (leb rfl) (fun hok => ?_)
  unfold ordF UNK OUT NOTN
  have hnr : FRR c c := fun _ _ => rfl
  have hcb := cntU_bd (c (f + 8 + 1)) s np
  obtain ⟨n, hn⟩ : ∃ n : Nat, cntU (c (f + 8 + 1)) s np = (n : Int) := ⟨(cntU (c (f + 8 + 1)) s np).toNat, by omega⟩
  have hco := c_countOf c hf2 hsv s
  rw [hn] at hco ⊢
  rw [Int.toNat_natCast]
  refine T_iloadn dX10_order_0 rfl rfl ?_
  refine TT_Si dX10_order_1 (c_isSide c s) kX10_230 (by decide) rfl (leb rfl) ?_
  refine T_if_ne (tgt := 10) dX10_order_4 rfl (fun b4 => ?_) (fun b4 => ?_)
  · refine T_iloadn dX10_order_10 rfl rfl ?_
    refine T_if_lt (tgt := 20) dX10_order_11 rfl (fun b11 => ?_) (fun b11 => ?_)
    · refine T_ldc dX10_order_20 cX10_78 (inr rfl) ?_
      refine TT_ri dX10_order_22 trivial ?_
      exact ⟨by rw [if_neg b4, if_pos (by omega)], hnr⟩
    · refine T_iloadn dX10_order_14 rfl rfl ?_
      refine T_bipush dX10_order_15 (bp8 rfl) (inr rfl) ?_
      refine T_icmp_le (tgt := 23) dX10_order_17 rfl (fun b17 => ?_) (fun b17 => ?_)
      · refine T_aloadn dX10_order_23 rfl rfl ?_
        refine T_getr dX10_order_24 fX10_70 (by first | assumption | rfl) (by first | decide | omega) rfl (by first | assumption | rfl) ?_
        refine T_getfin dX10_order_27 fX10_104 (by first | assumption | rfl) (by first | decide | omega) rfl (by first | assumption | rfl) ?_
        refine T_iloadn dX10_order_30 rfl rfl ?_
        refine TT_Vi dX10_order_31 (hco) kX10_199 (by decide) (by first | decide | omega) (by first | assumption | rfl) rfl (leb rfl) ?_
        refine T_bipush dX10_order_34 (bp8 rfl) (inr rfl) ?_
        refine T_icmp_le (tgt := 42) dX10_order_36 rfl (fun b36 => ?_) (fun b36 => ?_)
        · have hpl := c_plan c hf hgv hsv hl hbr s v (by omega) hn (by omega)
          refine T_aloadn dX10_order_42 rfl rfl ?_
          refine T_getfin dX10_order_43 fX10_46 (by first | assumption | rfl) (by first | decide | omega) rfl (by first | assumption | rfl) ?_
          refine T_aloadn dX10_order_46 rfl rfl ?_
          refine T_getr dX10_order_47 fX10_70 (by first | assumption | rfl) (by first | decide | omega) rfl (by first | assumption | rfl) ?_
          refine T_aloadn dX10_order_50 rfl rfl ?_
          refine T_getfin dX10_order_51 fX10_19 (by first | assumption | rfl) (by first | decide | omega) rfl (by first | assumption | rfl) ?_
          refine T_iloadn dX10_order_54 rfl rfl ?_
          refine T_iloadn dX10_order_55 rfl rfl ?_
          refine TT_V dX10_order_56 (hpl) kX10_234 (by decide) (by first | decide | omega) (by first | assumption | rfl) rfl (leb rfl) (fun v_ c1 hq => ?_)
          obtain ⟨rfl, hI, hT⟩ := hq
          have hPB := prF_bd hgv hsv hl (v := v) (by omega) hn
          have hfa := c_farthest c1 hT
          have hnt := c_nth c1 (by omega) hPB hI.2.2.2 hT hI.2.1 i
          refine T_iloadn dX10_order_59 rfl rfl ?_
          refine T_iconst dX10_order_60 (inr rfl) ?_
          refine T_icmp_ne (tgt := 74) dX10_order_61 rfl (fun b61 => ?_) (fun b61 => ?_)
          · refine T_aloadn dX10_order_74 rfl rfl ?_
            refine T_getfin dX10_order_75 fX10_46 (by first | assumption | rfl) (by first | decide | omega) rfl (by first | assumption | rfl) ?_
            refine T_iloadn dX10_order_78 rfl rfl ?_
            refine TT_Vi dX10_order_79 (hnt) kX10_242 (by decide) (by first | decide | omega) (by first | assumption | rfl) rfl (leb rfl) ?_
            skip
            refine TT_ri dX10_order_82 trivial ?_
            refine ⟨?_, hI.1⟩
            rw [if_neg b4, if_neg (by omega), if_neg (by omega)]
            rw [if_neg b61]
            unfold nthV
            by_cases hii : i < 0 ∨ (n : Int) ≤ i
            · rw [if_pos hii, if_pos hii]
            · obtain ⟨⟨g1, -, -⟩, -⟩ := gJ_sp (m := n - 1 - i.toNat) (by omega) hPB (gS_sp (by omega) hPB i.toNat (by omega)).1 (by have := (gS_sp (P := prF c f np s v) (n := n) (by omega) hPB i.toNat (by omega)).2; omega)
              rw [if_neg hii, if_neg hii, hI.2.2.1 _ g1]
          · refine T_aloadn dX10_order_64 rfl rfl ?_
            refine T_getfin dX10_order_65 fX10_46 (by first | assumption | rfl) (by first | decide | omega) rfl (by first | assumption | rfl) ?_
            refine TT_Vi dX10_order_68 (hfa) kX10_238 (by decide) (by first | decide | omega) (by first | assumption | rfl) rfl (leb rfl) ?_
            refine T_goto (tgt := 82) dX10_order_71 rfl ?_
            skip
            refine TT_ri dX10_order_82 trivial ?_
            refine ⟨?_, hI.1⟩
            rw [if_neg b4, if_neg (by omega), if_neg (by omega)]
            rw [if_pos b61]
        · refine T_ldc dX10_order_39 cX10_189 (inr rfl) ?_
          refine TT_ri dX10_order_41 trivial ?_
          exact ⟨by rw [if_neg b4, if_neg (by omega), if_pos (by omega)], hnr⟩
      · refine T_ldc dX10_order_20 cX10_78 (inr rfl) ?_
        refine TT_ri dX10_order_22 trivial ?_
        exact ⟨by rw [if_neg b4, if_pos (by omega)], hnr⟩
  · refine T_ldc dX10_order_7 cX10_155 (inr rfl) ?_
    refine TT_ri dX10_order_9 trivial ?_
    exact ⟨by rw [if_pos b4], hnr⟩
