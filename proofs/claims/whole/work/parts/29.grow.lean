/-! the grammar's words, grown from their stems -/
abbrev TB : Type := (Nat → Int) × (Nat → Int)
def tb (c : HC) (g : Nat) (T : TB) : HC := fun x y => if x = g + 4 then T.1 y else if x = g + 5 then T.2 y else c x y
section TBS
variable {c : HC} {g : Nat} {T : TB}
theorem tb_row {x : Nat} (h : x ≠ g + 4) (h2 : x ≠ g + 5) : tb c g T x = c x := by
  funext y
  unfold tb
  rw [if_neg h, if_neg h2]
theorem tb_at {x y : Nat} (h : x ≠ g + 4) (h2 : x ≠ g + 5) : tb c g T x y = c x y := congrFun (tb_row h h2) y
theorem tb4 {y : Nat} : tb c g T (g + 4) y = T.1 y := by unfold tb; rw [if_pos rfl]
theorem tb5 {y : Nat} : tb c g T (g + 5) y = T.2 y := by unfold tb; rw [if_neg (by omega), if_pos rfl]
theorem tbu4 {y : Nat} {z : Int} : up2 (tb c g T) (g + 4) y z = tb c g (up1 T.1 y z, T.2) := by
  funext x w
  rw [up2_g]
  unfold tb up1
  by_cases h : x = g + 4
  · subst h
    by_cases h2 : w = y
    · rw [if_pos ⟨rfl, h2⟩, if_pos rfl]; simp [h2]
    · rw [if_neg (fun q => h2 q.2), if_pos rfl, if_pos rfl]; simp [h2]
  · rw [if_neg (fun q => h q.1), if_neg h, if_neg h]
theorem tbu5 {y : Nat} {z : Int} : up2 (tb c g T) (g + 5) y z = tb c g (T.1, up1 T.2 y z) := by
  funext x w
  rw [up2_g]
  unfold tb up1
  by_cases h : x = g + 5
  · subst h
    rw [if_neg (show g + 5 ≠ g + 4 by omega), if_neg (show g + 5 ≠ g + 4 by omega), if_pos rfl, if_pos rfl]
    by_cases h2 : w = y
    · rw [if_pos ⟨rfl, h2⟩]; simp [h2]
    · rw [if_neg (fun q => h2 q.2)]; simp [h2]
  · rw [if_neg (fun q => h q.1)]
    by_cases h4 : x = g + 4
    · rw [if_pos h4, if_pos h4]
    · rw [if_neg h4, if_neg h4, if_neg h, if_neg h]
theorem tb_self : tb c g (c (g + 4), c (g + 5)) = c := by
  funext x y
  unfold tb
  by_cases h : x = g + 4
  · rw [if_pos h, h]
  · rw [if_neg h]
    by_cases h2 : x = g + 5
    · rw [if_pos h2, h2]
    · rw [if_neg h2]
end TBS
def entP (w l : Nat) (T : TB) : TB := (up1 T.1 l (wr (T.1 l + 1)), if T.2 l = 0 ∨ (w : Int) < T.2 l then up1 T.2 l (w : Int) else T.2)
def enU {α : Type} (ent : Nat → Nat → α → α) (eN : Nat → Nat) (run sy : Nat) : Nat → α → α
  | 0, T => T
  | e + 1, T => ent (run * 10 + e + 1) (sy + eN e) (enU ent eN run sy e T)
def stU {α : Type} (G : Nat → α → α) (bd : Nat → Int) : Nat → α → α
  | 0, T => T
  | s + 1, T => if bd s = 1 then stU G bd s T else G s (stU G bd s T)
def grT {α : Type} (ent : Nat → Nat → α → α) (ms ns ne : Nat) (sN eN : Nat → Nat) (bd : Nat → Nat → Int) : Nat → Nat → Nat → Nat → Nat → α → α
  | 0, _, _, _, _, T => T
  | k + 1, δ, last, run, sy, T => if ms < δ then T else stU (fun s => grT ent ms ns ne sN eN bd k (δ + 1) s (run * 10 + s + 1) (sy + sN s)) (bd last) ns (enU ent eN run sy ne (ent (run * 10) sy T))
def bdF (br : Nat → Int) (last s : Nat) : Int := bitI (br last) (s : Int)
abbrev grC (c : HC) (g : Nat) : Nat → Nat → Nat → Nat → Nat → TB → TB := grT entP (c g 6).toNat (c g 8).toNat (c g 9).toNat (fun s => (c (g + 1) s).toNat) (fun e => (c (g + 2) e).toNat) (bdF (c (g + 3)))
set_option maxHeartbeats 4000000 in
set_option maxRecDepth 100000 in
theorem c_enter (c : HC) {g : Nat} (hg : g = 89 ∨ g = 102) (T : TB) (w l : Nat) (hl : l ≤ 41) : VO mX3_enter 0 (tb c g T) [vr g, vi (w : Int), vi (l : Int)] (tb c g (entP w l T)) := by
  obtain ⟨g0, gs, gs1, gs2, gs3, gs4, gs5, gs6, gf0, gf1, gf2, gf3, gf4, gf5⟩ := gK hg
  refine CC.of (by decide +kernel) (leb rfl) (fun hok => ?_)
  refine T_iloadn dX3_enter_0 rfl rfl ?_
  refine T_bipush dX3_enter_1 (bp8 rfl) (inr rfl) ?_
  refine T_icmp_le (tgt := 7) dX3_enter_3 rfl (fun b3 => ?_) (fun b3 => absurd b3 (by omega))
  refine T_aloadn dX3_enter_7 rfl rfl ?_
  refine T_getfin dX3_enter_8 fX3_21 (by first | assumption | rfl) (by first | decide | omega) rfl (by first | assumption | rfl) ?_
  refine T_iloadn dX3_enter_11 rfl rfl ?_
  refine T_dup2 dX3_enter_12 rfl rfl ?_
  refine T_ialdv (j := l) dX3_enter_13 (by first | assumption | rfl) (by first | decide | omega) (by omega) (by omega) tb4 ?_
  refine T_iconst dX3_enter_14 (inr rfl) ?_
  refine T_iadd dX3_enter_15 ?_
  refine T_iast (j := l) dX3_enter_16 (by first | assumption | rfl) (by first | decide | omega) (by omega) (by omega) ?_
  rw [tbu4]
  refine T_aloadn dX3_enter_17 rfl rfl ?_
  refine T_getfin dX3_enter_18 fX3_24 (by first | assumption | rfl) (by first | decide | omega) rfl (by first | assumption | rfl) ?_
  refine T_iloadn dX3_enter_21 rfl rfl ?_
  refine T_ialdv (j := l) dX3_enter_22 (by first | assumption | rfl) (by first | decide | omega) (by omega) (by omega) tb5 ?_
  refine T_if_eq (tgt := 36) dX3_enter_23 rfl (fun b23 => ?_) (fun b23 => ?_)
  · refine T_aloadn dX3_enter_36 rfl rfl ?_
    refine T_getfin dX3_enter_37 fX3_24 (by first | assumption | rfl) (by first | decide | omega) rfl (by first | assumption | rfl) ?_
    refine T_iloadn dX3_enter_40 rfl rfl ?_
    refine T_iloadn dX3_enter_41 rfl rfl ?_
    refine T_iast (j := l) dX3_enter_42 (by first | assumption | rfl) (by first | decide | omega) (by omega) (by omega) ?_
    rw [tbu5]
    refine TT_rv dX3_enter_43 trivial ?_
    refine ⟨rfl, ?_⟩
    unfold entP
    rw [if_pos (Or.inl b23)]
  · refine T_iloadn dX3_enter_26 rfl rfl ?_
    refine T_aloadn dX3_enter_27 rfl rfl ?_
    refine T_getfin dX3_enter_28 fX3_24 (by first | assumption | rfl) (by first | decide | omega) rfl (by first | assumption | rfl) ?_
    refine T_iloadn dX3_enter_31 rfl rfl ?_
    refine T_ialdv (j := l) dX3_enter_32 (by first | assumption | rfl) (by first | decide | omega) (by omega) (by omega) tb5 ?_
    refine T_icmp_ge (tgt := 43) dX3_enter_33 rfl (fun b33 => ?_) (fun b33 => ?_)
    · skip
      refine TT_rv dX3_enter_43 trivial ?_
      refine ⟨rfl, ?_⟩
      unfold entP
      rw [if_neg (fun q => by rcases q with q | q; exact b23 q; exact absurd b33 (Int.not_le.mpr q))]
    · refine T_aloadn dX3_enter_36 rfl rfl ?_
      refine T_getfin dX3_enter_37 fX3_24 (by first | assumption | rfl) (by first | decide | omega) rfl (by first | assumption | rfl) ?_
      refine T_iloadn dX3_enter_40 rfl rfl ?_
      refine T_iloadn dX3_enter_41 rfl rfl ?_
      refine T_iast (j := l) dX3_enter_42 (by first | assumption | rfl) (by first | decide | omega) (by omega) (by omega) ?_
      rw [tbu5]
      refine TT_rv dX3_enter_43 trivial ?_
      refine ⟨rfl, ?_⟩
      unfold entP
      rw [if_pos (Or.inr (Int.not_le.mp b33))]
set_option maxHeartbeats 4000000 in
set_option maxRecDepth 100000 in
theorem l_grow1 (c : HC) {g : Nat} (hg : g = 89 ∨ g = 102) (hgv : GV c g) (d δ last run sy : Nat) (hδ : 1 ≤ δ ∧ δ ≤ 4) (hla : last < 6) (hr : run < 10000) (hsy : sy ≤ 9 * δ) (ne : Nat) (hne : c g 9 = (ne : Int)) (T : TB) (Q : Option PV → HC → Prop) (hq : TT mX3_growFrom (d + 2) 65 [(0, vr g), (1, vi (δ : Int)), (2, vi (last : Int)), (3, vi (run : Int)), (4, vi (sy : Int))] [] (tb c g (enU entP (fun e => (c (g + 2) e).toNat) run sy ne T)) Q) : ∀ (k e : Nat), e + k = ne → TT mX3_growFrom (d + 2) 27 [(0, vr g), (1, vi (δ : Int)), (2, vi (last : Int)), (3, vi (run : Int)), (4, vi (sy : Int)), (5, vi (e : Int))] [] (tb c g (enU entP (fun e => (c (g + 2) e).toNat) run sy e T)) Q := by
  obtain ⟨g0, gs, gs1, gs2, gs3, gs4, gs5, gs6, gf0, gf1, gf2, gf3, gf4, gf5⟩ := gK hg
  obtain ⟨v1, v2, v3, v4, v5, v6⟩ := id hgv
  intro k
  induction k with
  | zero =>
    intro e hk
    have e0 : e = ne := by omega
    subst e0
    refine T_iload dX3_growFrom_27 rfl ?_
    refine T_aloadn dX3_growFrom_29 rfl rfl ?_
    refine T_getv dX3_growFrom_30 fX3_40 (by first | assumption | rfl) (by first | decide | omega) rfl ((tb_at (by omega) (by omega)).trans hne) ?_
    refine T_icmp_ge (tgt := 65) dX3_growFrom_33 rfl (fun b33 => ?_) (fun b33 => absurd b33 (by omega))
    refine T_keep [0, 1, 2, 3, 4] ?_
    exact hq
  | succ k ih =>
    intro e hk
    have h := ih (e + 1) (by omega)
    have hv := v6 e (by omega)
    have hen := c_enter c hg (enU entP (fun e => (c (g + 2) e).toNat) run sy e T) (run * 10 + e + 1) (sy + (c (g + 2) e).toNat) (by omega)
    refine T_iload dX3_growFrom_27 rfl ?_
    refine T_aloadn dX3_growFrom_29 rfl rfl ?_
    refine T_getv dX3_growFrom_30 fX3_40 (by first | assumption | rfl) (by first | decide | omega) rfl ((tb_at (by omega) (by omega)).trans hne) ?_
    refine T_icmp_ge (tgt := 65) dX3_growFrom_33 rfl (fun b33 => absurd b33 (by omega)) (fun b33 => ?_)
    refine T_aloadn dX3_growFrom_36 rfl rfl ?_
    refine T_iloadn dX3_growFrom_37 rfl rfl ?_
    refine T_bipush dX3_growFrom_38 (bp8 rfl) (inr rfl) ?_
    first | refine T_imulN dX3_growFrom_40 (by omega) ?_ | refine T_imul dX3_growFrom_40 ?_
    refine T_iload dX3_growFrom_41 rfl ?_
    first | refine T_iaddN dX3_growFrom_43 (by omega) ?_ | refine T_iadd dX3_growFrom_43 ?_
    refine T_iconst dX3_growFrom_44 (inr rfl) ?_
    first | refine T_iaddN dX3_growFrom_45 (by omega) ?_ | refine T_iadd dX3_growFrom_45 ?_
    refine T_iload dX3_growFrom_46 rfl ?_
    refine T_aloadn dX3_growFrom_48 rfl rfl ?_
    refine T_getfin dX3_growFrom_49 fX3_15 (by first | assumption | rfl) (by first | decide | omega) rfl (by first | assumption | rfl) ?_
    refine T_iload dX3_growFrom_52 rfl ?_
    refine T_ialdv (j := e) dX3_growFrom_54 (by first | assumption | rfl) (by first | decide | omega) (by omega) (by omega) (tb_at (by omega) (by omega)) ?_
    first | refine T_iaddN dX3_growFrom_55 (by omega) ?_ | refine T_iadd dX3_growFrom_55 ?_
    rw [show ((run : Int) * 10 + (e : Int) + 1) = ((run * 10 + e + 1 : Nat) : Int) by omega, show ((sy : Int) + c (g + 2) e) = ((sy + (c (g + 2) e).toNat : Nat) : Int) by omega]
    refine TT_Vv dX3_growFrom_56 (hen) kX3_56 (by omega) (by first | decide | omega) (by first | assumption | rfl) rfl (leb rfl) ?_
    refine T_iincN dX3_growFrom_59 rfl (by decide) rfl (by omega) ?_
    refine T_goto (tgt := 27) dX3_growFrom_62 rfl ?_
    refine T_keep [0, 1, 2, 3, 4, 5] ?_
    exact h
set_option maxHeartbeats 4000000 in
set_option maxRecDepth 100000 in
theorem l_grow2 (c : HC) {g : Nat} (hg : g = 89 ∨ g = 102) (hgv : GV c g) (d δ last run sy : Nat) (hδ : 1 ≤ δ ∧ δ ≤ 4) (hla : last < 6) (hr : run < 10000) (hsy : sy ≤ 9 * δ) (ns : Nat) (hns : c g 8 = (ns : Int)) (T : TB) (G : Nat → TB → TB) (hG : ∀ s, s < ns → ∀ T, VO mX3_growFrom (d + 1) (tb c g T) [vr g, vi ((δ + 1 : Nat) : Int), vi (s : Int), vi ((run * 10 + s + 1 : Nat) : Int), vi ((sy + (c (g + 1) s).toNat : Nat) : Int)] (tb c g (G s T))) : ∀ (k s : Nat), s + k = ns → TT mX3_growFrom (d + 2) 68 [(0, vr g), (1, vi (δ : Int)), (2, vi (last : Int)), (3, vi (run : Int)), (4, vi (sy : Int)), (5, vi (s : Int))] [] (tb c g (stU G (bdF (c (g + 3)) last) s T)) (fun v c1 => v = none ∧ c1 = tb c g (stU G (bdF (c (g + 3)) last) ns T)) := by
  obtain ⟨g0, gs, gs1, gs2, gs3, gs4, gs5, gs6, gf0, gf1, gf2, gf3, gf4, gf5⟩ := gK hg
  obtain ⟨v1, v2, v3, v4, v5, v6⟩ := id hgv
  intro k
  induction k with
  | zero =>
    intro s hk
    have e0 : s = ns := by omega
    subst e0
    refine T_iload dX3_growFrom_68 rfl ?_
    refine T_aloadn dX3_growFrom_70 rfl rfl ?_
    refine T_getv dX3_growFrom_71 fX3_37 (by first | assumption | rfl) (by first | decide | omega) rfl ((tb_at (by omega) (by omega)).trans hns) ?_
    refine T_icmp_ge (tgt := 121) dX3_growFrom_74 rfl (fun b74 => ?_) (fun b74 => absurd b74 (by omega))
    refine TT_rv dX3_growFrom_121 trivial ?_
    exact ⟨rfl, rfl⟩
  | succ k ih =>
    intro s hk
    have h := ih (s + 1) (by omega)
    rw [stU.eq_2] at h
    have hv := v5 s (by omega)
    have hib := c_isBarred (tb c g (stU G (bdF (c (g + 3)) last) s T)) hg (last : Int) (s : Int) (by omega) (by omega) (by omega) (by omega)
    rw [tb_row (by omega) (by omega), Int.toNat_natCast] at hib
    have hgr := hG s (by omega) (stU G (bdF (c (g + 3)) last) s T)
    have hbd : bdF (c (g + 3)) last s = bitI (c (g + 3) last) (s : Int) := rfl
    rw [← hbd] at hib
    refine T_iload dX3_growFrom_68 rfl ?_
    refine T_aloadn dX3_growFrom_70 rfl rfl ?_
    refine T_getv dX3_growFrom_71 fX3_37 (by first | assumption | rfl) (by first | decide | omega) rfl ((tb_at (by omega) (by omega)).trans hns) ?_
    refine T_icmp_ge (tgt := 121) dX3_growFrom_74 rfl (fun b74 => absurd b74 (by omega)) (fun b74 => ?_)
    refine T_aloadn dX3_growFrom_77 rfl rfl ?_
    refine T_iloadn dX3_growFrom_78 rfl rfl ?_
    refine T_iload dX3_growFrom_79 rfl ?_
    refine TT_Vi dX3_growFrom_81 (hib) kX3_60 (by omega) (by first | decide | omega) (by first | assumption | rfl) rfl (leb rfl) ?_
    refine T_if_ne (tgt := 115) dX3_growFrom_84 rfl (fun b84 => ?_) (fun b84 => ?_)
    · refine T_iincN dX3_growFrom_115 rfl (by decide) rfl (by omega) ?_
      refine T_goto (tgt := 68) dX3_growFrom_118 rfl ?_
      refine T_keep [0, 1, 2, 3, 4, 5] ?_
      rw [if_pos (by rw [hbd] at b84 ⊢; exact bit1 b84)] at h
      exact h
    · refine T_aloadn dX3_growFrom_87 rfl rfl ?_
      refine T_iloadn dX3_growFrom_88 rfl rfl ?_
      refine T_iconst dX3_growFrom_89 (inr rfl) ?_
      first | refine T_iaddN dX3_growFrom_90 (by omega) ?_ | refine T_iadd dX3_growFrom_90 ?_
      refine T_iload dX3_growFrom_91 rfl ?_
      refine T_iloadn dX3_growFrom_93 rfl rfl ?_
      refine T_bipush dX3_growFrom_94 (bp8 rfl) (inr rfl) ?_
      first | refine T_imulN dX3_growFrom_96 (by omega) ?_ | refine T_imul dX3_growFrom_96 ?_
      refine T_iload dX3_growFrom_97 rfl ?_
      first | refine T_iaddN dX3_growFrom_99 (by omega) ?_ | refine T_iadd dX3_growFrom_99 ?_
      refine T_iconst dX3_growFrom_100 (inr rfl) ?_
      first | refine T_iaddN dX3_growFrom_101 (by omega) ?_ | refine T_iadd dX3_growFrom_101 ?_
      refine T_iload dX3_growFrom_102 rfl ?_
      refine T_aloadn dX3_growFrom_104 rfl rfl ?_
      refine T_getfin dX3_growFrom_105 fX3_11 (by first | assumption | rfl) (by first | decide | omega) rfl (by first | assumption | rfl) ?_
      refine T_iload dX3_growFrom_108 rfl ?_
      refine T_ialdv (j := s) dX3_growFrom_110 (by first | assumption | rfl) (by first | decide | omega) (by omega) (by omega) (tb_at (by omega) (by omega)) ?_
      first | refine T_iaddN dX3_growFrom_111 (by omega) ?_ | refine T_iadd dX3_growFrom_111 ?_
      rw [show ((run : Int) * 10 + (s : Int) + 1) = ((run * 10 + s + 1 : Nat) : Int) by omega, show ((sy : Int) + c (g + 1) s) = ((sy + (c (g + 1) s).toNat : Nat) : Int) by omega, show ((δ : Int) + 1) = ((δ + 1 : Nat) : Int) by omega]
      refine TT_Sv dX3_growFrom_112 (hgr) kX3_52 (by omega) rfl (leb rfl) ?_
      refine T_iincN dX3_growFrom_115 rfl (by decide) rfl (by omega) ?_
      refine T_goto (tgt := 68) dX3_growFrom_118 rfl ?_
      refine T_keep [0, 1, 2, 3, 4, 5] ?_
      rw [if_neg (by rw [b84]; decide)] at h
      exact h
set_option maxHeartbeats 4000000 in
set_option maxRecDepth 100000 in
theorem c_grow (c : HC) {g : Nat} (hg : g = 89 ∨ g = 102) (hgv : GV c g) : ∀ (k δ last run sy : Nat) (T : TB), δ + k = 5 → 1 ≤ δ → last < 6 → run < 10 ^ δ → sy ≤ 9 * δ → VO mX3_growFrom (k + 1) (tb c g T) [vr g, vi (δ : Int), vi (last : Int), vi (run : Int), vi (sy : Int)] (tb c g (grC c g k δ last run sy T)) := by
  obtain ⟨g0, gs, gs1, gs2, gs3, gs4, gs5, gs6, gf0, gf1, gf2, gf3, gf4, gf5⟩ := gK hg
  obtain ⟨v1, v2, v3, v4, v5, v6⟩ := id hgv
  obtain ⟨ms, hms⟩ : ∃ x : Nat, c g 6 = (x : Int) := ⟨(c g 6).toNat, by omega⟩
  intro k
  induction k with
  | zero =>
    intro δ last run sy T h5 h1 hla hr hsy
    refine CC.of (by decide +kernel) (leb rfl) (fun hok => ?_)
    refine T_iloadn dX3_growFrom_0 rfl rfl ?_
    refine T_aloadn dX3_growFrom_1 rfl rfl ?_
    refine T_getv dX3_growFrom_2 fX3_30 (by first | assumption | rfl) (by first | decide | omega) rfl ((tb_at (by omega) (by omega)).trans hms) ?_
    refine T_icmp_gt (tgt := 13) dX3_growFrom_5 rfl (fun b5 => ?_) (fun b5 => ?_)
    · refine TT_rv dX3_growFrom_13 trivial ?_
      exact ⟨rfl, rfl⟩
    · refine T_iloadn dX3_growFrom_8 rfl rfl ?_
      refine T_iconst dX3_growFrom_9 (inr rfl) ?_
      refine T_icmp_le (tgt := 14) dX3_growFrom_10 rfl (fun b10 => absurd b10 (by omega)) (fun b10 => ?_)
      refine TT_rv dX3_growFrom_13 trivial ?_
      exact ⟨rfl, rfl⟩
  | succ k ih =>
    intro δ last run sy T h5 h1 hla hr hsy
    have hp : 10 ^ δ ≤ 10000 := Nat.pow_le_pow_right (n := 10) (by decide) (show δ ≤ 4 by omega)
    have hp2 : 10 ^ (δ + 1) = 10 ^ δ * 10 := Nat.pow_succ 10 δ
    have hen := c_enter c hg T (run * 10) sy (by omega)
    have e : grC c g (k + 1) δ last run sy T = if (c g 6).toNat < δ then T else stU (fun s => grC c g k (δ + 1) s (run * 10 + s + 1) (sy + (c (g + 1) s).toNat)) (bdF (c (g + 3)) last) (c g 8).toNat (enU entP (fun e => (c (g + 2) e).toNat) run sy (c g 9).toNat (entP (run * 10) sy T)) := rfl
    rw [e]
    have hG := l_grow2 c hg hgv k δ last run sy (by omega) hla (by omega) hsy (c g 8).toNat (by omega) (enU entP (fun e => (c (g + 2) e).toNat) run sy (c g 9).toNat (entP (run * 10) sy T)) (fun s => grC c g k (δ + 1) s (run * 10 + s + 1) (sy + (c (g + 1) s).toNat)) (fun s hs T => ih (δ + 1) s (run * 10 + s + 1) (sy + (c (g + 1) s).toNat) T (by omega) (by omega) (by omega) (by omega) (by have := v5 s (by omega); omega)) (c g 8).toNat 0 (by omega)
    refine CC.of (by decide +kernel) (leb rfl) (fun hok => ?_)
    refine T_iloadn dX3_growFrom_0 rfl rfl ?_
    refine T_aloadn dX3_growFrom_1 rfl rfl ?_
    refine T_getv dX3_growFrom_2 fX3_30 (by first | assumption | rfl) (by first | decide | omega) rfl ((tb_at (by omega) (by omega)).trans hms) ?_
    refine T_icmp_gt (tgt := 13) dX3_growFrom_5 rfl (fun b5 => ?_) (fun b5 => ?_)
    · refine TT_rv dX3_growFrom_13 trivial ?_
      exact ⟨rfl, by rw [if_pos (by omega)]⟩
    · refine T_iloadn dX3_growFrom_8 rfl rfl ?_
      refine T_iconst dX3_growFrom_9 (inr rfl) ?_
      refine T_icmp_le (tgt := 14) dX3_growFrom_10 rfl (fun b10 => ?_) (fun b10 => absurd b10 (by omega))
      rw [if_neg (by omega)]
      refine T_aloadn dX3_growFrom_14 rfl rfl ?_
      refine T_iloadn dX3_growFrom_15 rfl rfl ?_
      refine T_bipush dX3_growFrom_16 (bp8 rfl) (inr rfl) ?_
      first | refine T_imulN dX3_growFrom_18 (by omega) ?_ | refine T_imul dX3_growFrom_18 ?_
      refine T_iload dX3_growFrom_19 rfl ?_
      rw [show ((run : Int) * 10) = ((run * 10 : Nat) : Int) by omega]
      refine TT_Vv dX3_growFrom_21 (hen) kX3_56 (by omega) (by first | decide | omega) (by first | assumption | rfl) rfl (leb rfl) ?_
      refine T_iconst dX3_growFrom_24 (inr rfl) ?_
      refine T_istore dX3_growFrom_25 (by decide) rfl ?_
      refine l_grow1 c hg hgv k δ last run sy (by omega) hla (by omega) hsy (c g 9).toNat (by omega) (entP (run * 10) sy T) _ ?_ (c g 9).toNat 0 (by omega)
      refine T_iconst dX3_growFrom_65 (inr rfl) ?_
      refine T_istore dX3_growFrom_66 (by decide) rfl ?_
      refine T_keep [0, 1, 2, 3, 4, 5] ?_
      exact hG
