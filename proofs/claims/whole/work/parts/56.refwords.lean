/-! the reference: the words found, what was read taken over -/
def FL1 (c : HC) (l w : Nat) : Int := if lenR c (w : Int) = (l : Int) then 1 else 0
theorem FL1_bd (c : HC) (l w : Nat) : 0 ≤ FL1 c l w ∧ FL1 c l w ≤ 1 := by unfold FL1; split <;> omega
def LW (c0 c : HC) (m l : Nat) : Prop := c 141 l = sr (FL1 c0 l) 10 m ∧ ((c 141 l = 0 ∧ c 140 l = -1) ∨ (0 < c 141 l ∧ ∃ v : Nat, c 140 l = (v : Int) ∧ 10 ≤ v ∧ v < 10 + m ∧ lenR c0 (v : Int) = (l : Int) ∧ ∀ u : Nat, 10 ≤ u → u < v → lenR c0 (u : Int) ≠ (l : Int)))
def FRW (c c1 : HC) : Prop := ∀ x, x ≠ 140 → x ≠ 141 → c1 x = c x
def WI (c0 c : HC) (m : Nat) : Prop := FRW c0 c ∧ ∀ l, l < 42 → LW c0 c m l
theorem FRW.up {c c1 : HC} {x y : Nat} {z : Int} (h : FRW c c1) (hx : x = 140 ∨ x = 141) : FRW c (up2 c1 x y z) := fun u a b => (up2_row _ _ _ _ (by omega)).trans (h u a b)
theorem LW_skip {c0 c : HC} {m l : Nat} (h : LW c0 c m l) (hne : lenR c0 ((10 + m : Nat) : Int) ≠ (l : Int)) : LW c0 c (m + 1) l := by
  obtain ⟨h1, h2⟩ := h
  refine ⟨?_, ?_⟩
  · rw [sr.eq_2, ← h1]
    unfold FL1
    rw [if_neg hne]
    omega
  · rcases h2 with h2 | ⟨h2, v, a1, a2, a3, a4, a5⟩
    · exact Or.inl h2
    · exact Or.inr ⟨h2, v, a1, a2, by omega, a4, a5⟩
theorem LW_hit {c0 c c1 : HC} {m l : Nat} (h : LW c0 c m l) (he : lenR c0 ((10 + m : Nat) : Int) = (l : Int)) (h1 : c1 141 l = c 141 l + 1) (h0 : c1 140 l = if c 141 l = 0 then ((10 + m : Nat) : Int) else c 140 l) : LW c0 c1 (m + 1) l := by
  obtain ⟨k1, k2⟩ := h
  have hb := sr_bd (FL1_bd c0 l) 10 m
  refine ⟨?_, Or.inr ⟨by omega, ?_⟩⟩
  · rw [sr.eq_2, h1, k1]
    unfold FL1
    rw [if_pos he]
  · rcases k2 with k2 | ⟨k2, v, a1, a2, a3, a4, a5⟩
    · rw [if_pos k2.1] at h0
      refine ⟨10 + m, h0, by omega, by omega, he, fun u u1 u2 u3 => ?_⟩
      have hp := (sr_pos (fun w => (FL1_bd c0 l w).1) 10 m).mpr ⟨u - 10, by omega, by
        unfold FL1
        rw [show 10 + (u - 10) = u by omega, if_pos u3]
        decide⟩
      omega
    · rw [if_neg (by omega)] at h0
      exact ⟨v, by rw [h0, a1], a2, by omega, a4, a5⟩
theorem LW_oth {c0 c c1 : HC} {m l : Nat} (h : LW c0 c m l) (h1 : c1 141 l = c 141 l) (h0 : c1 140 l = c 140 l) : LW c0 c1 m l := by
  unfold LW at *
  rw [h1, h0]
  exact h
def clT (c : HC) (j : Nat) : HC := rC (rC c 140 (fun _ => -1) j) 141 (fun _ => 0) j
theorem rC_o {c : HC} {a i x k : Nat} {Q : Nat → Int} {v : Int} (h : x ≠ a) : up2 (rC c a Q i) x k v = rC (up2 c x k v) a Q i := by
  funext p q
  unfold rC
  rw [up2_g, up2_g]
  by_cases e : p = a ∧ q < i
  · have e2 : ¬ (p = x ∧ q = k) := fun z => h (z.1.symm.trans e.1)
    rw [if_neg e2, if_pos e, if_pos e]
  · rw [if_neg e, if_neg e]
theorem clT_s {c : HC} {j : Nat} : up2 (up2 (clT c j) 140 j (-1)) 141 j 0 = clT c (j + 1) := by
  unfold clT
  rw [rC_o (by decide)]
  have e1 := rC_up (c := c) (a := 140) (i := j) (Q := fun _ => -1)
  rw [e1]
  exact rC_up (Q := fun _ => 0)
theorem len_ms0 {c : HC} {w : Int} (h : c 122 0 = 0) : lenR c w = -1 := by
  unfold lenR lenF
  rw [h]
  split
  · rfl
  · split
    · rfl
    · rename_i e
      show (if w / 10 = 0 then _ else (-1 : Int)) = -1
      rw [if_neg e]
set_option maxHeartbeats 4000000 in
set_option maxRecDepth 100000 in
theorem rl_fw1 (c : HC) (Q : Option PV → HC → Prop) (hq : TT mX11_findWords 2 28 [(0, vr 122)] [] (clT c 42) Q) : ∀ (k j : Nat), j + k = 42 → TT mX11_findWords 2 2 [(0, vr 122), (1, vi (j : Int))] [] (clT c j) Q := by
  intro k
  induction k with
  | zero =>
    intro j hk
    have e : j = 42 := by omega
    subst e
    refine T_iloadn dX11_findWords_2 rfl rfl ?_
    refine T_bipush dX11_findWords_3 (bp8 rfl) (inr rfl) ?_
    refine T_icmp_gt (tgt := 28) dX11_findWords_5 rfl (fun b5 => ?_) (fun b5 => absurd b5 (by decide))
    refine T_keep [0] ?_
    exact hq
  | succ k ih =>
    intro j hk
    have h := ih (j + 1) (by omega)
    refine T_iloadn dX11_findWords_2 rfl rfl ?_
    refine T_bipush dX11_findWords_3 (bp8 rfl) (inr rfl) ?_
    refine T_icmp_gt (tgt := 28) dX11_findWords_5 rfl (fun b5 => absurd b5 (by omega)) (fun b5 => ?_)
    refine T_aloadn dX11_findWords_8 rfl rfl ?_
    refine T_getfin dX11_findWords_9 fX11_65 (by first | assumption | rfl) (by first | decide | omega) rfl (by first | assumption | rfl) ?_
    refine T_iloadn dX11_findWords_12 rfl rfl ?_
    refine T_iconst dX11_findWords_13 (inr rfl) ?_
    refine T_iast (j := j) dX11_findWords_14 (by first | assumption | rfl) (by first | decide | omega) (by omega) (by omega) ?_
    refine T_aloadn dX11_findWords_15 rfl rfl ?_
    refine T_getfin dX11_findWords_16 fX11_68 (by first | assumption | rfl) (by first | decide | omega) rfl (by first | assumption | rfl) ?_
    refine T_iloadn dX11_findWords_19 rfl rfl ?_
    refine T_iconst dX11_findWords_20 (inr rfl) ?_
    refine T_iast (j := j) dX11_findWords_21 (by first | assumption | rfl) (by first | decide | omega) (by omega) (by omega) ?_
    refine T_iincN dX11_findWords_22 rfl (by decide) rfl (by omega) ?_
    refine T_goto (tgt := 2) dX11_findWords_25 rfl ?_
    rw [clT_s]
    exact h
set_option maxHeartbeats 4000000 in
set_option maxRecDepth 100000 in
theorem rl_fw2 (c0 : HC) (hg : RGV c0) : ∀ (k m : Nat) (c : HC), m + k = 66660 → WI c0 c m → TT mX11_findWords 2 31 [(0, vr 122), (1, vi ((10 + m : Nat) : Int))] [] c (fun v c1 => v = none ∧ WI c0 c1 66660) := by
  intro k
  induction k with
  | zero =>
    intro m c hk hW
    have e : m = 66660 := by omega
    subst e
    refine T_iloadn dX11_findWords_31 rfl rfl ?_
    refine T_ldc dX11_findWords_32 cX11_205 (inr rfl) ?_
    refine T_icmp_ge (tgt := 95) dX11_findWords_34 rfl (fun b34 => ?_) (fun b34 => absurd b34 (by decide))
    refine TT_rv dX11_findWords_95 trivial ?_
    exact ⟨rfl, hW⟩
  | succ k ih =>
    intro m c hk hW
    have hF := hW.1
    have h0 : c 122 0 = c0 122 0 := congrFun (hF 122 (by decide) (by decide)) 0
    have hg2 : RGV c := RGV_row (fun k _ => congrFun (hF 122 (by decide) (by decide)) k) (hF 123 (by decide) (by decide)) (hF 124 (by decide) (by decide)) hg
    have hlen := r_lengthOf c hg2 ((10 + m : Nat) : Int)
    rw [lenR_row (c := c0) (fun k _ => congrFun (hF 122 (by decide) (by decide)) k) (hF 123 (by decide) (by decide)) (hF 124 (by decide) (by decide)) (hF 129 (by decide) (by decide))] at hlen
    have hlb := lenR_bd hg ((10 + m : Nat) : Int)
    have hms := hg.1
    obtain ⟨X, hX⟩ : ∃ X, X = lenR c0 ((10 + m : Nat) : Int) := ⟨_, rfl⟩
    rw [← hX] at hlen hlb
    refine T_iloadn dX11_findWords_31 rfl rfl ?_
    refine T_ldc dX11_findWords_32 cX11_205 (inr rfl) ?_
    refine T_icmp_ge (tgt := 95) dX11_findWords_34 rfl (fun b34 => absurd b34 (by omega)) (fun b34 => ?_)
    refine T_aloadn dX11_findWords_37 rfl rfl ?_
    refine T_getv dX11_findWords_38 fX11_170 (by first | assumption | rfl) (by first | decide | omega) rfl h0 ?_
    refine T_if_le (tgt := 95) dX11_findWords_41 rfl (fun b41 => ?_) (fun b41 => ?_)
    · refine TT_rv dX11_findWords_95 trivial ?_
      have hz : c0 122 0 = 0 := by omega
      refine ⟨rfl, hW.1, fun l hl => ?_⟩
      obtain ⟨q1, q2⟩ := hW.2 l hl
      refine ⟨?_, ?_⟩
      · rw [q1, show 66660 = m + (66660 - m) by omega]
        exact (sr_zero _ (fun i _ _ => by unfold FL1; rw [len_ms0 hz, if_neg (by omega)])).symm
      · rcases q2 with q2 | ⟨q2, v, a1, a2, a3, a4, a5⟩
        · exact Or.inl q2
        · exact Or.inr ⟨q2, v, a1, a2, by omega, a4, a5⟩
    · refine T_aloadn dX11_findWords_44 rfl rfl ?_
      refine T_iloadn dX11_findWords_45 rfl rfl ?_
      refine TT_Vi dX11_findWords_46 (hlen) kX11_201 (by decide) (by first | decide | omega) (by first | assumption | rfl) rfl (leb rfl) ?_
      refine T_istoren dX11_findWords_49 rfl (by decide) rfl ?_
      refine T_iloadn dX11_findWords_50 rfl rfl ?_
      refine T_if_lt (tgt := 89) dX11_findWords_51 rfl (fun b51 => ?_) (fun b51 => ?_)
      · refine T_iincN dX11_findWords_89 rfl (by decide) rfl (by omega) ?_
        refine T_goto (tgt := 31) dX11_findWords_92 rfl ?_
        refine T_keep [0, 1] ?_
        have h := ih (m + 1) c (by omega) ⟨hW.1, fun l hl => LW_skip (hW.2 l hl) (by omega)⟩
        exact h
      · obtain ⟨L, hL⟩ := Int.eq_ofNat_of_zero_le (show 0 ≤ X by omega)
        have hLe : lenR c0 ((10 + m : Nat) : Int) = (L : Int) := hX.symm.trans hL
        have hsb := sr_bd (FL1_bd c0 L) 10 m
        have hLw := (hW.2 L (by omega)).1
        subst hL
        refine T_aloadn dX11_findWords_54 rfl rfl ?_
        refine T_getfin dX11_findWords_55 fX11_65 (by first | assumption | rfl) (by first | decide | omega) rfl (by first | assumption | rfl) ?_
        refine T_iloadn dX11_findWords_58 rfl rfl ?_
        refine T_aloadn dX11_findWords_59 rfl rfl ?_
        refine T_getfin dX11_findWords_60 fX11_68 (by first | assumption | rfl) (by first | decide | omega) rfl (by first | assumption | rfl) ?_
        refine T_iloadn dX11_findWords_63 rfl rfl ?_
        refine T_iald (j := L) dX11_findWords_64 (by first | assumption | rfl) (by first | decide | omega) (by omega) (by omega) ?_
        refine T_if_ne (tgt := 72) dX11_findWords_65 rfl (fun b65 => ?_) (fun b65 => ?_)
        · refine T_aloadn dX11_findWords_72 rfl rfl ?_
          refine T_getfin dX11_findWords_73 fX11_65 (by first | assumption | rfl) (by first | decide | omega) rfl (by first | assumption | rfl) ?_
          refine T_iloadn dX11_findWords_76 rfl rfl ?_
          refine T_iald (j := L) dX11_findWords_77 (by first | assumption | rfl) (by first | decide | omega) (by omega) (by omega) ?_
          refine T_iast (j := L) dX11_findWords_78 (by first | assumption | rfl) (by first | decide | omega) (by omega) (by omega) ?_
          refine T_aloadn dX11_findWords_79 rfl rfl ?_
          refine T_getfin dX11_findWords_80 fX11_68 (by first | assumption | rfl) (by first | decide | omega) rfl (by first | assumption | rfl) ?_
          refine T_iloadn dX11_findWords_83 rfl rfl ?_
          refine T_dup2 dX11_findWords_84 rfl rfl ?_
          refine T_ialdv (j := L) dX11_findWords_85 (by first | assumption | rfl) (by first | decide | omega) (by omega) (by omega) (up2_a _ _ (by decide)) ?_
          refine T_iconst dX11_findWords_86 (inr rfl) ?_
          first | refine T_iaddN dX11_findWords_87 (by omega) ?_ | refine T_iadd dX11_findWords_87 ?_
          refine T_iast (j := L) dX11_findWords_88 (by first | assumption | rfl) (by first | decide | omega) (by omega) (by omega) ?_
          refine T_iincN dX11_findWords_89 rfl (by decide) rfl (by omega) ?_
          refine T_goto (tgt := 31) dX11_findWords_92 rfl ?_
          refine T_keep [0, 1] ?_
          refine ih (m + 1) _ (by omega) ⟨FRW.up (FRW.up hW.1 (Or.inl rfl)) (Or.inr rfl), fun l hl => ?_⟩
          by_cases el : l = L
          · subst el
            exact LW_hit (hW.2 l hl) hLe (by rw [up2_s]) (by rw [up2_a _ _ (by decide), up2_s]; rw [if_neg b65])
          · exact LW_skip (LW_oth (hW.2 l hl) (by rw [up2_k _ _ el, up2_a _ _ (by decide)]) (by rw [up2_a _ _ (by decide), up2_k _ _ el])) (by rw [hLe]; omega)
        · refine T_iloadn dX11_findWords_68 rfl rfl ?_
          refine T_goto (tgt := 78) dX11_findWords_69 rfl ?_
          refine T_iast (j := L) dX11_findWords_78 (by first | assumption | rfl) (by first | decide | omega) (by omega) (by omega) ?_
          refine T_aloadn dX11_findWords_79 rfl rfl ?_
          refine T_getfin dX11_findWords_80 fX11_68 (by first | assumption | rfl) (by first | decide | omega) rfl (by first | assumption | rfl) ?_
          refine T_iloadn dX11_findWords_83 rfl rfl ?_
          refine T_dup2 dX11_findWords_84 rfl rfl ?_
          refine T_ialdv (j := L) dX11_findWords_85 (by first | assumption | rfl) (by first | decide | omega) (by omega) (by omega) (up2_a _ _ (by decide)) ?_
          refine T_iconst dX11_findWords_86 (inr rfl) ?_
          first | refine T_iaddN dX11_findWords_87 (by omega) ?_ | refine T_iadd dX11_findWords_87 ?_
          refine T_iast (j := L) dX11_findWords_88 (by first | assumption | rfl) (by first | decide | omega) (by omega) (by omega) ?_
          refine T_iincN dX11_findWords_89 rfl (by decide) rfl (by omega) ?_
          refine T_goto (tgt := 31) dX11_findWords_92 rfl ?_
          refine T_keep [0, 1] ?_
          refine ih (m + 1) _ (by omega) ⟨FRW.up (FRW.up hW.1 (Or.inl rfl)) (Or.inr rfl), fun l hl => ?_⟩
          by_cases el : l = L
          · subst el
            exact LW_hit (hW.2 l hl) hLe (by rw [up2_s]) (by rw [up2_a _ _ (by decide), up2_s]; rw [if_pos b65])
          · exact LW_skip (LW_oth (hW.2 l hl) (by rw [up2_k _ _ el, up2_a _ _ (by decide)]) (by rw [up2_a _ _ (by decide), up2_k _ _ el])) (by rw [hLe]; omega)
set_option maxHeartbeats 4000000 in
set_option maxRecDepth 100000 in
theorem r_findWords (c : HC) (hg : RGV c) : CC mX11_findWords 2 c [vr 122] (fun v c1 => v = none ∧ WI c c1 66660) := by
  refine CC.of (by decide +kernel) (leb rfl) (fun hok => ?_)
  refine T_iconst dX11_findWords_0 (inr rfl) ?_
  refine T_istoren dX11_findWords_1 rfl (by decide) rfl ?_
  refine T_c (show c = clT c 0 by unfold clT; rw [rC_0, rC_0]) ?_
  refine rl_fw1 c _ ?_ 42 0 (by omega)
  refine T_bipush dX11_findWords_28 (bp8 rfl) (inr rfl) ?_
  refine T_istoren dX11_findWords_30 rfl (by decide) rfl ?_
  exact rl_fw2 c hg 66660 0 (clT c 42) (by omega) ⟨fun x h1 h2 => by unfold clT; rw [rC_row h2, rC_row h1], fun l hl => ⟨by unfold clT; rw [rC_in hl]; rfl, Or.inl ⟨by unfold clT; rw [rC_in hl], by unfold clT; rw [rC_row (show 140 ≠ 141 by decide), rC_in hl]⟩⟩⟩
