/-! the reference: its standing, rounds, the past, images -/
def nowP (c : HC) (R : Nat → Int) : HC := rC c 130 R 53
section NP
variable {c : HC} {R : Nat → Int}
theorem nowP_at {y : Nat} (h : y < 53) : nowP c R 130 y = R y := rC_in h
theorem nowP_row {x : Nat} (h : x ≠ 130) : nowP c R x = c x := rC_row h
theorem nowP_o {x y : Nat} (h : x ≠ 130) : nowP c R x y = c x y := congrFun (nowP_row h) y
theorem nowP_up {k : Nat} {v : Int} (h : k < 53) : up2 (nowP c R) 130 k v = nowP c (up1 R k v) := by
  funext x y
  unfold nowP rC
  rw [up2_g]
  unfold up1
  by_cases e : x = 130
  · subst e
    by_cases e2 : y = k
    · subst e2
      rw [if_pos ⟨rfl, rfl⟩, if_pos ⟨rfl, h⟩, if_pos rfl]
    · rw [if_neg (fun z => e2 z.2), if_neg e2]
  · rw [if_neg (fun z => e z.1), if_neg (fun z => e z.1), if_neg (fun z => e z.1)]
theorem nowP_up2 {x k : Nat} {v : Int} (h : x ≠ 130) : up2 (nowP c R) x k v = nowP (up2 c x k v) R := by
  funext a b
  unfold nowP rC
  rw [up2_g, up2_g]
  by_cases e : a = 130 ∧ b < 53
  · have e2 : ¬ (a = x ∧ b = k) := fun z => h (by omega)
    rw [if_neg e2, if_pos e, if_pos e]
  · rw [if_neg e, if_neg e]
theorem nowP_ext {R2 : Nat → Int} (h : ∀ k, k < 53 → R k = R2 k) : nowP c R = nowP c R2 := by
  funext x y
  unfold nowP rC
  by_cases e : x = 130 ∧ y < 53
  · rw [if_pos e, if_pos e, h y e.2]
  · rw [if_neg e, if_neg e]
theorem nowP_self : nowP c (c 130) = c := by
  funext x y
  unfold nowP rC
  by_cases e : x = 130 ∧ y < 53
  · rw [if_pos e, e.1]
  · rw [if_neg e]
theorem nowP_put {R2 : Nat → Int} : nowP (nowP c R) R2 = nowP c R2 := by
  funext x y
  unfold nowP rC
  by_cases e : x = 130 ∧ y < 53
  · rw [if_pos e, if_pos e]
  · rw [if_neg e, if_neg e, if_neg e]
end NP
theorem RGV_row {c c2 : HC} (h0 : ∀ k, k ≤ 4 → c2 122 k = c 122 k) (h1 : c2 123 = c 123) (h2 : c2 124 = c 124) (h : RGV c) : RGV c2 := by
  unfold RGV at *
  rw [h0 0 (by decide), h0 1 (by decide), h0 2 (by decide), h0 4 (by decide), h1, h2]
  exact h
theorem RSV_row {c c2 : HC} {n : Nat} (h0 : c2 122 6 = c 122 6) (h1 : c2 125 = c 125) (h2 : c2 126 = c 126) (h3 : c2 127 = c 127) (h4 : c2 128 = c 128) (h : RSV c n) : RSV c2 n := by
  unfold RSV at *
  rw [h0, h1, h2, h3, h4]
  exact h
theorem RGV_now {c : HC} {R : Nat → Int} (h : RGV c) : RGV (nowP c R) := RGV_row (fun k _ => nowP_o (by decide)) (nowP_row (by decide)) (nowP_row (by decide)) h
theorem RSV_now {c : HC} {R : Nat → Int} {n : Nat} (h : RSV c n) : RSV (nowP c R) n := RSV_row (nowP_o (by decide)) (nowP_row (by decide)) (nowP_row (by decide)) (nowP_row (by decide)) (nowP_row (by decide)) h
abbrev sylR (c : HC) (w : Int) : Int := sylF (c 122 0) (c 122 2) (c 122 4) (c 123) (c 124) (c 129) w
theorem lenR_row {c c2 : HC} (h0 : ∀ k, k ≤ 4 → c2 122 k = c 122 k) (h1 : c2 123 = c 123) (h2 : c2 124 = c 124) (h3 : c2 129 = c 129) (w : Int) : lenR c2 w = lenR c w := by
  unfold lenR
  rw [h0 0 (by decide), h0 2 (by decide), h0 4 (by decide), h1, h2, h3]
theorem sylR_now {c : HC} {R : Nat → Int} (w : Int) : sylR (nowP c R) w = sylR c w := by
  unfold sylR sylF
  split
  · rfl
  · exact lenR_row (fun k _ => nowP_o (by decide)) (nowP_row (by decide)) (nowP_row (by decide)) (nowP_row (by decide)) w
theorem lenR_bd {c : HC} (h : RGV c) (w : Int) : -1 ≤ lenR c w ∧ lenR c w ≤ 41 := lenF_bd h.1.2 h.2.2.2.2.1 h.2.2.2.2.2 w
theorem sylR_bd {c : HC} (h : RGV c) (w : Int) : -1 ≤ sylR c w ∧ sylR c w ≤ 41 := sylF_bd h.1.2 h.2.2.2.2.1 h.2.2.2.2.2 w
def shU (R : Nat → Int) (j : Nat) : Nat → Int := fun k => if 13 ≤ k ∧ k + 1 < j then R (k + 1) else R k
theorem shU_14 (R : Nat → Int) : shU R 14 = R := by
  funext k
  unfold shU
  rw [if_neg (by omega)]
theorem shU_s (R : Nat → Int) (j : Nat) (h : 14 ≤ j) : up1 (shU R j) (j - 1) (R j) = shU R (j + 1) := by
  funext k
  unfold up1 shU
  by_cases e : k = j - 1
  · rw [if_pos e, if_pos (by omega), show k + 1 = j by omega]
  · rw [if_neg e]
    by_cases e2 : 13 ≤ k ∧ k + 1 < j
    · rw [if_pos e2, if_pos (by omega)]
    · rw [if_neg e2, if_neg (by omega)]
theorem shU_j (R : Nat → Int) (j : Nat) : shU R j j = R j := by
  unfold shU
  rw [if_neg (by omega)]
set_option maxHeartbeats 4000000 in
set_option maxRecDepth 100000 in
theorem rl_say2 (c : HC) (R : Nat → Int) (w : Int) (h0 : 0 ≤ R 12) (h1 : R 12 ≤ 39) : TT mX11_say 0 52 [(0, vr 122), (1, vi w)] [] (nowP c R) (fun v c1 => v = none ∧ c1 = nowP c (up1 (up1 R (13 + (R 12).toNat) w) 12 (R 12 + 1))) := by
  refine T_aloadn dX11_say_52 rfl rfl ?_
  refine T_getfin dX11_say_53 fX11_31 (by first | assumption | rfl) (by first | decide | omega) rfl (by first | assumption | rfl) ?_
  refine T_bipush dX11_say_56 (bp8 rfl) (inr rfl) ?_
  refine T_aloadn dX11_say_58 rfl rfl ?_
  refine T_getfin dX11_say_59 fX11_31 (by first | assumption | rfl) (by first | decide | omega) rfl (by first | assumption | rfl) ?_
  refine T_bipush dX11_say_62 (bp8 rfl) (inr rfl) ?_
  refine T_ialdv (j := 12) dX11_say_64 (by first | assumption | rfl) (by first | decide | omega) (by omega) (by omega) (nowP_at (by omega)) ?_
  first | refine T_iaddN dX11_say_65 (by omega) ?_ | refine T_iadd dX11_say_65 ?_
  refine T_iloadn dX11_say_66 rfl rfl ?_
  refine T_iast (j := 13 + (R 12).toNat) dX11_say_67 (by first | assumption | rfl) (by first | decide | omega) (by omega) (by omega) ?_
  rw [nowP_up (by omega)]
  refine T_aloadn dX11_say_68 rfl rfl ?_
  refine T_getfin dX11_say_69 fX11_31 (by first | assumption | rfl) (by first | decide | omega) rfl (by first | assumption | rfl) ?_
  refine T_bipush dX11_say_72 (bp8 rfl) (inr rfl) ?_
  refine T_dup2 dX11_say_74 rfl rfl ?_
  refine T_ialdv (j := 12) dX11_say_75 (by first | assumption | rfl) (by first | decide | omega) (by omega) (by omega) ((nowP_at (by omega)).trans (up1_n (by omega))) ?_
  refine T_iconst dX11_say_76 (inr rfl) ?_
  first | refine T_iaddN dX11_say_77 (by omega) ?_ | refine T_iadd dX11_say_77 ?_
  refine T_iast (j := 12) dX11_say_78 (by first | assumption | rfl) (by first | decide | omega) (by omega) (by omega) ?_
  rw [nowP_up (by omega)]
  refine TT_rv dX11_say_79 trivial ?_
  exact ⟨rfl, rfl⟩
set_option maxHeartbeats 4000000 in
set_option maxRecDepth 100000 in
theorem rl_say1 (c : HC) (R : Nat → Int) (w : Int) (h12 : R 12 = 40) (Q : Option PV → HC → Prop) (hq : TT mX11_say 0 52 [(0, vr 122), (1, vi w)] [] (nowP c (shR R)) Q) : ∀ (k j : Nat), j + k = 53 → 14 ≤ j → TT mX11_say 0 15 [(0, vr 122), (1, vi w), (2, vi (j : Int))] [] (nowP c (shU R j)) Q := by
  intro k
  induction k with
  | zero =>
    intro j hk hj
    have e : j = 53 := by omega
    subst e
    have hs : up1 (shU R 53) 12 39 = shR R := by
      unfold shR
      congr 1
      funext k
      unfold shU
      by_cases e : 13 ≤ k ∧ k + 1 < 53
      · rw [if_pos e, if_pos (by omega)]
      · rw [if_neg e, if_neg (by omega)]
    have h12b : shU R 53 12 = 40 := by
      unfold shU
      rw [if_neg (by omega), h12]
    refine T_iloadn dX11_say_15 rfl rfl ?_
    refine T_bipush dX11_say_16 (bp8 rfl) (inr rfl) ?_
    refine T_icmp_ge (tgt := 41) dX11_say_18 rfl (fun b18 => ?_) (fun b18 => absurd b18 (by decide))
    refine T_aloadn dX11_say_41 rfl rfl ?_
    refine T_getfin dX11_say_42 fX11_31 (by first | assumption | rfl) (by first | decide | omega) rfl (by first | assumption | rfl) ?_
    refine T_bipush dX11_say_45 (bp8 rfl) (inr rfl) ?_
    refine T_dup2 dX11_say_47 rfl rfl ?_
    refine T_ialdv (j := 12) dX11_say_48 (by first | assumption | rfl) (by first | decide | omega) (by omega) (by omega) ((nowP_at (by omega)).trans h12b) ?_
    refine T_iconst dX11_say_49 (inr rfl) ?_
    first | refine T_isubN dX11_say_50 (by omega) ?_ | refine T_isub dX11_say_50 ?_
    refine T_iast (j := 12) dX11_say_51 (by first | assumption | rfl) (by first | decide | omega) (by omega) (by omega) ?_
    rw [nowP_up (by omega)]
    refine T_keep [0, 1] ?_
    rw [show (40 : Int) - 1 = 39 from rfl, hs]
    exact hq
  | succ k ih =>
    intro j hk hj
    have h := ih (j + 1) (by omega) (by omega)
    refine T_iloadn dX11_say_15 rfl rfl ?_
    refine T_bipush dX11_say_16 (bp8 rfl) (inr rfl) ?_
    refine T_icmp_ge (tgt := 41) dX11_say_18 rfl (fun b18 => absurd b18 (by omega)) (fun b18 => ?_)
    refine T_aloadn dX11_say_21 rfl rfl ?_
    refine T_getfin dX11_say_22 fX11_31 (by first | assumption | rfl) (by first | decide | omega) rfl (by first | assumption | rfl) ?_
    refine T_iloadn dX11_say_25 rfl rfl ?_
    refine T_iconst dX11_say_26 (inr rfl) ?_
    first | refine T_isubN dX11_say_27 (by omega) ?_ | refine T_isub dX11_say_27 ?_
    refine T_aloadn dX11_say_28 rfl rfl ?_
    refine T_getfin dX11_say_29 fX11_31 (by first | assumption | rfl) (by first | decide | omega) rfl (by first | assumption | rfl) ?_
    refine T_iloadn dX11_say_32 rfl rfl ?_
    refine T_ialdv (j := j) dX11_say_33 (by first | assumption | rfl) (by first | decide | omega) (by omega) (by omega) ((nowP_at (by omega)).trans (shU_j R j)) ?_
    refine T_iast (j := j - 1) dX11_say_34 (by first | assumption | rfl) (by first | decide | omega) (by omega) (by omega) ?_
    refine T_iincN dX11_say_35 rfl (by decide) rfl (by omega) ?_
    refine T_goto (tgt := 15) dX11_say_38 rfl ?_
    rw [nowP_up (by omega), shU_s R j hj]
    exact h
set_option maxHeartbeats 4000000 in
set_option maxRecDepth 100000 in
theorem r_say (c : HC) (R : Nat → Int) (w : Int) (hw : w ≠ -1) (h0 : 0 ≤ R 12) (h40 : R 12 ≤ 40) : VO mX11_say 0 (nowP c R) [vr 122, vi w] (nowP c (sayR R w)) := by
  refine CC.of (by decide +kernel) (leb rfl) (fun hok => ?_)
  unfold sayR
  rw [if_neg hw]
  refine T_aloadn dX11_say_0 rfl rfl ?_
  refine T_getfin dX11_say_1 fX11_31 (by first | assumption | rfl) (by first | decide | omega) rfl (by first | assumption | rfl) ?_
  refine T_bipush dX11_say_4 (bp8 rfl) (inr rfl) ?_
  refine T_ialdv (j := 12) dX11_say_6 (by first | assumption | rfl) (by first | decide | omega) (by omega) (by omega) (nowP_at (by omega)) ?_
  refine T_bipush dX11_say_7 (bp8 rfl) (inr rfl) ?_
  refine T_icmp_ne (tgt := 52) dX11_say_9 rfl (fun b9 => ?_) (fun b9 => ?_)
  · rw [if_pos (by omega)]
    exact rl_say2 c R w h0 (by omega)
  · refine T_bipush dX11_say_12 (bp8 rfl) (inr rfl) ?_
    refine T_istoren dX11_say_14 rfl (by decide) rfl ?_
    rw [if_neg (by omega)]
    have h2 := rl_say2 c (shR R) w (by unfold shR; rw [up1_s]; decide) (by unfold shR; rw [up1_s]; decide)
    rw [show shR R 12 = 39 by unfold shR; rw [up1_s]] at h2
    have h := rl_say1 c R w b9 _ h2 39 14 (by omega) (by omega)
    rw [shU_14] at h
    exact h
set_option maxHeartbeats 4000000 in
set_option maxRecDepth 100000 in
theorem r_lengthSaid (c : HC) (hg : RGV c) (w : Int) : RO mX11_lengthSaid 2 c [vr 122, vi w] (sylR c w) := by
  refine CC.of (by decide +kernel) (leb rfl) (fun hok => ?_)
  unfold sylR sylF
  refine T_iloadn dX11_lengthSaid_0 rfl rfl ?_
  refine T_iconst dX11_lengthSaid_1 (inr rfl) ?_
  refine T_icmp_ne (tgt := 9) dX11_lengthSaid_2 rfl (fun b2 => ?_) (fun b2 => ?_)
  · refine T_aloadn dX11_lengthSaid_9 rfl rfl ?_
    refine T_iloadn dX11_lengthSaid_10 rfl rfl ?_
    refine TT_Vi dX11_lengthSaid_11 (r_lengthOf c hg w) kX11_201 (by decide) (by first | decide | omega) (by first | assumption | rfl) rfl (leb rfl) ?_
    refine TT_ri dX11_lengthSaid_14 trivial ?_
    exact ro_q (by rw [if_neg b2])
  · refine T_iconst dX11_lengthSaid_5 (inr rfl) ?_
    refine T_goto (tgt := 14) dX11_lengthSaid_6 rfl ?_
    refine TT_ri dX11_lengthSaid_14 trivial ?_
    exact ro_q (by rw [if_pos b2])
theorem held_rope (r way : Int) : heldF (r + way) = ropeR r way := by
  unfold heldF ropeR imax imin
  repeat' split
  all_goals omega
theorem up1_id {R : Nat → Int} {k : Nat} {v : Int} (h : R k = v) : up1 R k v = R := by
  funext j
  unfold up1
  by_cases e : j = k
  · rw [if_pos e, e, h]
  · rw [if_neg e]
set_option maxHeartbeats 4000000 in
set_option maxRecDepth 100000 in
theorem rl_rest (c : HC) {n : Nat} (hv : RSV c n) (R : Nat → Int) (hR : ∀ j, j < n → -1000 ≤ R (2 + j) ∧ R (2 + j) ≤ 1000) (p q : Nat) (v w a b was : Int) (Q : Option PV → HC → Prop) (hq : TT mX11_roundNow 3 160 [(0, vr 122), (1, vi (p : Int)), (2, vi v), (3, vi (q : Int)), (4, vi w), (5, vi a), (6, vi b), (7, vi was)] [] (nowP c (restR (c 126) (if v = -1 then -1 else (p : Int)) (if w = -1 then -1 else (q : Int)) R n)) Q) : ∀ (k i : Nat), i + k = n → TT mX11_roundNow 3 74 [(0, vr 122), (1, vi (p : Int)), (2, vi v), (3, vi (q : Int)), (4, vi w), (5, vi a), (6, vi b), (7, vi was), (8, vi (i : Int))] [] (nowP c (restR (c 126) (if v = -1 then -1 else (p : Int)) (if w = -1 then -1 else (q : Int)) R i)) Q := by
  obtain ⟨hn, hn10, hv⟩ := id hv
  have hn2 : ∀ R2, nowP c R2 122 6 = (n : Int) := fun R2 => (nowP_o (by decide)).trans hn
  intro k
  induction k with
  | zero =>
    intro i hk
    have e : i = n := by omega
    subst e
    refine T_iload dX11_roundNow_74 rfl ?_
    refine T_aloadn dX11_roundNow_76 rfl rfl ?_
    refine T_getv dX11_roundNow_77 fX11_93 (by first | assumption | rfl) (by first | decide | omega) rfl (hn2 _) ?_
    refine T_icmp_ge (tgt := 160) dX11_roundNow_80 rfl (fun b80 => ?_) (fun b80 => absurd b80 (by omega))
    refine T_keep [0, 1, 2, 3, 4, 5, 6, 7] ?_
    exact hq
  | succ k ih =>
    intro i hk
    have h := ih (i + 1) (by omega)
    have hRi := hR i (by omega)
    refine T_iload dX11_roundNow_74 rfl ?_
    refine T_aloadn dX11_roundNow_76 rfl rfl ?_
    refine T_getv dX11_roundNow_77 fX11_93 (by first | assumption | rfl) (by first | decide | omega) rfl (hn2 _) ?_
    refine T_icmp_ge (tgt := 160) dX11_roundNow_80 rfl (fun b80 => absurd b80 (by omega)) (fun b80 => ?_)
    refine T_iload dX11_roundNow_83 rfl ?_
    refine T_iloadn dX11_roundNow_85 rfl rfl ?_
    refine T_icmp_ne (tgt := 94) dX11_roundNow_86 rfl (fun b86 => ?_) (fun b86 => ?_)
    · refine T_iload dX11_roundNow_94 rfl ?_
      refine T_iloadn dX11_roundNow_96 rfl rfl ?_
      refine T_icmp_ne (tgt := 110) dX11_roundNow_97 rfl (fun b97 => ?_) (fun b97 => ?_)
      · refine T_iconst dX11_roundNow_110 (inr rfl) ?_
        refine T_istore dX11_roundNow_111 (by decide) rfl ?_
        refine T_aloadn dX11_roundNow_113 rfl rfl ?_
        refine T_getfin dX11_roundNow_114 fX11_31 (by first | assumption | rfl) (by first | decide | omega) rfl (by first | assumption | rfl) ?_
        refine T_iconst dX11_roundNow_117 (inr rfl) ?_
        refine T_iload dX11_roundNow_118 rfl ?_
        first | refine T_iaddN dX11_roundNow_120 (by omega) ?_ | refine T_iadd dX11_roundNow_120 ?_
        refine T_dup2 dX11_roundNow_121 rfl rfl ?_
        refine T_ialdv (j := 2 + i) dX11_roundNow_122 (by first | assumption | rfl) (by first | decide | omega) (by omega) (by omega) ((nowP_at (by omega)).trans (restR_at _ _ _ _ _)) ?_
        refine T_iload dX11_roundNow_123 rfl ?_
        refine T_if_ne (tgt := 151) dX11_roundNow_125 rfl (fun b125 => absurd b125 (by omega)) (fun b125 => ?_)
        refine T_aloadn dX11_roundNow_128 rfl rfl ?_
        refine T_getfin dX11_roundNow_129 fX11_31 (by first | assumption | rfl) (by first | decide | omega) rfl (by first | assumption | rfl) ?_
        refine T_iconst dX11_roundNow_132 (inr rfl) ?_
        refine T_iload dX11_roundNow_133 rfl ?_
        first | refine T_iaddN dX11_roundNow_135 (by omega) ?_ | refine T_iadd dX11_roundNow_135 ?_
        refine T_ialdv (j := 2 + i) dX11_roundNow_136 (by first | assumption | rfl) (by first | decide | omega) (by omega) (by omega) ((nowP_at (by omega)).trans (restR_at _ _ _ _ _)) ?_
        refine T_aloadn dX11_roundNow_137 rfl rfl ?_
        refine T_getfin dX11_roundNow_138 fX11_19 (by first | assumption | rfl) (by first | decide | omega) rfl (by first | assumption | rfl) ?_
        refine T_iload dX11_roundNow_141 rfl ?_
        refine T_ialdv (j := i) dX11_roundNow_143 (by first | assumption | rfl) (by first | decide | omega) (by omega) (by omega) (nowP_o (by decide)) ?_
        refine T_icmp_ge (tgt := 151) dX11_roundNow_144 rfl (fun b144 => ?_) (fun b144 => ?_)
        · refine T_iconst dX11_roundNow_151 (inr rfl) ?_
          first | refine T_iaddN dX11_roundNow_152 (by omega) ?_ | refine T_iadd dX11_roundNow_152 ?_
          refine T_iast (j := 2 + i) dX11_roundNow_153 (by first | assumption | rfl) (by first | decide | omega) (by omega) (by omega) ?_
          refine T_iincN dX11_roundNow_154 rfl (by decide) rfl (by omega) ?_
          refine T_goto (tgt := 74) dX11_roundNow_157 rfl ?_
          rw [nowP_up (by omega), Int.add_zero, up1_id (restR_at _ _ _ _ _), restR_n _ _ _ _ _ (Or.inr (Or.inr (by omega)))]
          refine T_keep [0, 1, 2, 3, 4, 5, 6, 7, 8] ?_
          exact h
        · refine T_iconst dX11_roundNow_147 (inr rfl) ?_
          refine T_goto (tgt := 152) dX11_roundNow_148 rfl ?_
          first | refine T_iaddN dX11_roundNow_152 (by omega) ?_ | refine T_iadd dX11_roundNow_152 ?_
          refine T_iast (j := 2 + i) dX11_roundNow_153 (by first | assumption | rfl) (by first | decide | omega) (by omega) (by omega) ?_
          refine T_iincN dX11_roundNow_154 rfl (by decide) rfl (by omega) ?_
          refine T_goto (tgt := 74) dX11_roundNow_157 rfl ?_
          rw [nowP_up (by omega), restR_s _ _ _ _ _ (by split <;> omega) (by split <;> omega) (by omega)]
          refine T_keep [0, 1, 2, 3, 4, 5, 6, 7, 8] ?_
          exact h
      · refine T_iload dX11_roundNow_100 rfl ?_
        refine T_iconst dX11_roundNow_102 (inr rfl) ?_
        refine T_icmp_eq (tgt := 110) dX11_roundNow_103 rfl (fun b103 => ?_) (fun b103 => ?_)
        · refine T_iconst dX11_roundNow_110 (inr rfl) ?_
          refine T_istore dX11_roundNow_111 (by decide) rfl ?_
          refine T_aloadn dX11_roundNow_113 rfl rfl ?_
          refine T_getfin dX11_roundNow_114 fX11_31 (by first | assumption | rfl) (by first | decide | omega) rfl (by first | assumption | rfl) ?_
          refine T_iconst dX11_roundNow_117 (inr rfl) ?_
          refine T_iload dX11_roundNow_118 rfl ?_
          first | refine T_iaddN dX11_roundNow_120 (by omega) ?_ | refine T_iadd dX11_roundNow_120 ?_
          refine T_dup2 dX11_roundNow_121 rfl rfl ?_
          refine T_ialdv (j := 2 + i) dX11_roundNow_122 (by first | assumption | rfl) (by first | decide | omega) (by omega) (by omega) ((nowP_at (by omega)).trans (restR_at _ _ _ _ _)) ?_
          refine T_iload dX11_roundNow_123 rfl ?_
          refine T_if_ne (tgt := 151) dX11_roundNow_125 rfl (fun b125 => absurd b125 (by omega)) (fun b125 => ?_)
          refine T_aloadn dX11_roundNow_128 rfl rfl ?_
          refine T_getfin dX11_roundNow_129 fX11_31 (by first | assumption | rfl) (by first | decide | omega) rfl (by first | assumption | rfl) ?_
          refine T_iconst dX11_roundNow_132 (inr rfl) ?_
          refine T_iload dX11_roundNow_133 rfl ?_
          first | refine T_iaddN dX11_roundNow_135 (by omega) ?_ | refine T_iadd dX11_roundNow_135 ?_
          refine T_ialdv (j := 2 + i) dX11_roundNow_136 (by first | assumption | rfl) (by first | decide | omega) (by omega) (by omega) ((nowP_at (by omega)).trans (restR_at _ _ _ _ _)) ?_
          refine T_aloadn dX11_roundNow_137 rfl rfl ?_
          refine T_getfin dX11_roundNow_138 fX11_19 (by first | assumption | rfl) (by first | decide | omega) rfl (by first | assumption | rfl) ?_
          refine T_iload dX11_roundNow_141 rfl ?_
          refine T_ialdv (j := i) dX11_roundNow_143 (by first | assumption | rfl) (by first | decide | omega) (by omega) (by omega) (nowP_o (by decide)) ?_
          refine T_icmp_ge (tgt := 151) dX11_roundNow_144 rfl (fun b144 => ?_) (fun b144 => ?_)
          · refine T_iconst dX11_roundNow_151 (inr rfl) ?_
            first | refine T_iaddN dX11_roundNow_152 (by omega) ?_ | refine T_iadd dX11_roundNow_152 ?_
            refine T_iast (j := 2 + i) dX11_roundNow_153 (by first | assumption | rfl) (by first | decide | omega) (by omega) (by omega) ?_
            refine T_iincN dX11_roundNow_154 rfl (by decide) rfl (by omega) ?_
            refine T_goto (tgt := 74) dX11_roundNow_157 rfl ?_
            rw [nowP_up (by omega), Int.add_zero, up1_id (restR_at _ _ _ _ _), restR_n _ _ _ _ _ (Or.inr (Or.inr (by omega)))]
            refine T_keep [0, 1, 2, 3, 4, 5, 6, 7, 8] ?_
            exact h
          · refine T_iconst dX11_roundNow_147 (inr rfl) ?_
            refine T_goto (tgt := 152) dX11_roundNow_148 rfl ?_
            first | refine T_iaddN dX11_roundNow_152 (by omega) ?_ | refine T_iadd dX11_roundNow_152 ?_
            refine T_iast (j := 2 + i) dX11_roundNow_153 (by first | assumption | rfl) (by first | decide | omega) (by omega) (by omega) ?_
            refine T_iincN dX11_roundNow_154 rfl (by decide) rfl (by omega) ?_
            refine T_goto (tgt := 74) dX11_roundNow_157 rfl ?_
            rw [nowP_up (by omega), restR_s _ _ _ _ _ (by split <;> omega) (by split <;> omega) (by omega)]
            refine T_keep [0, 1, 2, 3, 4, 5, 6, 7, 8] ?_
            exact h
        · refine T_iconst dX11_roundNow_106 (inr rfl) ?_
          refine T_goto (tgt := 111) dX11_roundNow_107 rfl ?_
          refine T_istore dX11_roundNow_111 (by decide) rfl ?_
          refine T_aloadn dX11_roundNow_113 rfl rfl ?_
          refine T_getfin dX11_roundNow_114 fX11_31 (by first | assumption | rfl) (by first | decide | omega) rfl (by first | assumption | rfl) ?_
          refine T_iconst dX11_roundNow_117 (inr rfl) ?_
          refine T_iload dX11_roundNow_118 rfl ?_
          first | refine T_iaddN dX11_roundNow_120 (by omega) ?_ | refine T_iadd dX11_roundNow_120 ?_
          refine T_dup2 dX11_roundNow_121 rfl rfl ?_
          refine T_ialdv (j := 2 + i) dX11_roundNow_122 (by first | assumption | rfl) (by first | decide | omega) (by omega) (by omega) ((nowP_at (by omega)).trans (restR_at _ _ _ _ _)) ?_
          refine T_iload dX11_roundNow_123 rfl ?_
          refine T_if_ne (tgt := 151) dX11_roundNow_125 rfl (fun b125 => ?_) (fun b125 => absurd b125 (by omega))
          refine T_iconst dX11_roundNow_151 (inr rfl) ?_
          first | refine T_iaddN dX11_roundNow_152 (by omega) ?_ | refine T_iadd dX11_roundNow_152 ?_
          refine T_iast (j := 2 + i) dX11_roundNow_153 (by first | assumption | rfl) (by first | decide | omega) (by omega) (by omega) ?_
          refine T_iincN dX11_roundNow_154 rfl (by decide) rfl (by omega) ?_
          refine T_goto (tgt := 74) dX11_roundNow_157 rfl ?_
          rw [nowP_up (by omega), Int.add_zero, up1_id (restR_at _ _ _ _ _), restR_n _ _ _ _ _ (Or.inr (Or.inl (by rw [if_neg b103]; exact b97)))]
          refine T_keep [0, 1, 2, 3, 4, 5, 6, 7, 8] ?_
          exact h
    · refine T_iloadn dX11_roundNow_89 rfl rfl ?_
      refine T_iconst dX11_roundNow_90 (inr rfl) ?_
      refine T_icmp_ne (tgt := 106) dX11_roundNow_91 rfl (fun b91 => ?_) (fun b91 => ?_)
      · refine T_iconst dX11_roundNow_106 (inr rfl) ?_
        refine T_goto (tgt := 111) dX11_roundNow_107 rfl ?_
        refine T_istore dX11_roundNow_111 (by decide) rfl ?_
        refine T_aloadn dX11_roundNow_113 rfl rfl ?_
        refine T_getfin dX11_roundNow_114 fX11_31 (by first | assumption | rfl) (by first | decide | omega) rfl (by first | assumption | rfl) ?_
        refine T_iconst dX11_roundNow_117 (inr rfl) ?_
        refine T_iload dX11_roundNow_118 rfl ?_
        first | refine T_iaddN dX11_roundNow_120 (by omega) ?_ | refine T_iadd dX11_roundNow_120 ?_
        refine T_dup2 dX11_roundNow_121 rfl rfl ?_
        refine T_ialdv (j := 2 + i) dX11_roundNow_122 (by first | assumption | rfl) (by first | decide | omega) (by omega) (by omega) ((nowP_at (by omega)).trans (restR_at _ _ _ _ _)) ?_
        refine T_iload dX11_roundNow_123 rfl ?_
        refine T_if_ne (tgt := 151) dX11_roundNow_125 rfl (fun b125 => ?_) (fun b125 => absurd b125 (by omega))
        refine T_iconst dX11_roundNow_151 (inr rfl) ?_
        first | refine T_iaddN dX11_roundNow_152 (by omega) ?_ | refine T_iadd dX11_roundNow_152 ?_
        refine T_iast (j := 2 + i) dX11_roundNow_153 (by first | assumption | rfl) (by first | decide | omega) (by omega) (by omega) ?_
        refine T_iincN dX11_roundNow_154 rfl (by decide) rfl (by omega) ?_
        refine T_goto (tgt := 74) dX11_roundNow_157 rfl ?_
        rw [nowP_up (by omega), Int.add_zero, up1_id (restR_at _ _ _ _ _), restR_n _ _ _ _ _ (Or.inl (by rw [if_neg b91]; exact b86))]
        refine T_keep [0, 1, 2, 3, 4, 5, 6, 7, 8] ?_
        exact h
      · refine T_iload dX11_roundNow_94 rfl ?_
        refine T_iloadn dX11_roundNow_96 rfl rfl ?_
        refine T_icmp_ne (tgt := 110) dX11_roundNow_97 rfl (fun b97 => ?_) (fun b97 => ?_)
        · refine T_iconst dX11_roundNow_110 (inr rfl) ?_
          refine T_istore dX11_roundNow_111 (by decide) rfl ?_
          refine T_aloadn dX11_roundNow_113 rfl rfl ?_
          refine T_getfin dX11_roundNow_114 fX11_31 (by first | assumption | rfl) (by first | decide | omega) rfl (by first | assumption | rfl) ?_
          refine T_iconst dX11_roundNow_117 (inr rfl) ?_
          refine T_iload dX11_roundNow_118 rfl ?_
          first | refine T_iaddN dX11_roundNow_120 (by omega) ?_ | refine T_iadd dX11_roundNow_120 ?_
          refine T_dup2 dX11_roundNow_121 rfl rfl ?_
          refine T_ialdv (j := 2 + i) dX11_roundNow_122 (by first | assumption | rfl) (by first | decide | omega) (by omega) (by omega) ((nowP_at (by omega)).trans (restR_at _ _ _ _ _)) ?_
          refine T_iload dX11_roundNow_123 rfl ?_
          refine T_if_ne (tgt := 151) dX11_roundNow_125 rfl (fun b125 => absurd b125 (by omega)) (fun b125 => ?_)
          refine T_aloadn dX11_roundNow_128 rfl rfl ?_
          refine T_getfin dX11_roundNow_129 fX11_31 (by first | assumption | rfl) (by first | decide | omega) rfl (by first | assumption | rfl) ?_
          refine T_iconst dX11_roundNow_132 (inr rfl) ?_
          refine T_iload dX11_roundNow_133 rfl ?_
          first | refine T_iaddN dX11_roundNow_135 (by omega) ?_ | refine T_iadd dX11_roundNow_135 ?_
          refine T_ialdv (j := 2 + i) dX11_roundNow_136 (by first | assumption | rfl) (by first | decide | omega) (by omega) (by omega) ((nowP_at (by omega)).trans (restR_at _ _ _ _ _)) ?_
          refine T_aloadn dX11_roundNow_137 rfl rfl ?_
          refine T_getfin dX11_roundNow_138 fX11_19 (by first | assumption | rfl) (by first | decide | omega) rfl (by first | assumption | rfl) ?_
          refine T_iload dX11_roundNow_141 rfl ?_
          refine T_ialdv (j := i) dX11_roundNow_143 (by first | assumption | rfl) (by first | decide | omega) (by omega) (by omega) (nowP_o (by decide)) ?_
          refine T_icmp_ge (tgt := 151) dX11_roundNow_144 rfl (fun b144 => ?_) (fun b144 => ?_)
          · refine T_iconst dX11_roundNow_151 (inr rfl) ?_
            first | refine T_iaddN dX11_roundNow_152 (by omega) ?_ | refine T_iadd dX11_roundNow_152 ?_
            refine T_iast (j := 2 + i) dX11_roundNow_153 (by first | assumption | rfl) (by first | decide | omega) (by omega) (by omega) ?_
            refine T_iincN dX11_roundNow_154 rfl (by decide) rfl (by omega) ?_
            refine T_goto (tgt := 74) dX11_roundNow_157 rfl ?_
            rw [nowP_up (by omega), Int.add_zero, up1_id (restR_at _ _ _ _ _), restR_n _ _ _ _ _ (Or.inr (Or.inr (by omega)))]
            refine T_keep [0, 1, 2, 3, 4, 5, 6, 7, 8] ?_
            exact h
          · refine T_iconst dX11_roundNow_147 (inr rfl) ?_
            refine T_goto (tgt := 152) dX11_roundNow_148 rfl ?_
            first | refine T_iaddN dX11_roundNow_152 (by omega) ?_ | refine T_iadd dX11_roundNow_152 ?_
            refine T_iast (j := 2 + i) dX11_roundNow_153 (by first | assumption | rfl) (by first | decide | omega) (by omega) (by omega) ?_
            refine T_iincN dX11_roundNow_154 rfl (by decide) rfl (by omega) ?_
            refine T_goto (tgt := 74) dX11_roundNow_157 rfl ?_
            rw [nowP_up (by omega), restR_s _ _ _ _ _ (by split <;> omega) (by split <;> omega) (by omega)]
            refine T_keep [0, 1, 2, 3, 4, 5, 6, 7, 8] ?_
            exact h
        · refine T_iload dX11_roundNow_100 rfl ?_
          refine T_iconst dX11_roundNow_102 (inr rfl) ?_
          refine T_icmp_eq (tgt := 110) dX11_roundNow_103 rfl (fun b103 => ?_) (fun b103 => ?_)
          · refine T_iconst dX11_roundNow_110 (inr rfl) ?_
            refine T_istore dX11_roundNow_111 (by decide) rfl ?_
            refine T_aloadn dX11_roundNow_113 rfl rfl ?_
            refine T_getfin dX11_roundNow_114 fX11_31 (by first | assumption | rfl) (by first | decide | omega) rfl (by first | assumption | rfl) ?_
            refine T_iconst dX11_roundNow_117 (inr rfl) ?_
            refine T_iload dX11_roundNow_118 rfl ?_
            first | refine T_iaddN dX11_roundNow_120 (by omega) ?_ | refine T_iadd dX11_roundNow_120 ?_
            refine T_dup2 dX11_roundNow_121 rfl rfl ?_
            refine T_ialdv (j := 2 + i) dX11_roundNow_122 (by first | assumption | rfl) (by first | decide | omega) (by omega) (by omega) ((nowP_at (by omega)).trans (restR_at _ _ _ _ _)) ?_
            refine T_iload dX11_roundNow_123 rfl ?_
            refine T_if_ne (tgt := 151) dX11_roundNow_125 rfl (fun b125 => absurd b125 (by omega)) (fun b125 => ?_)
            refine T_aloadn dX11_roundNow_128 rfl rfl ?_
            refine T_getfin dX11_roundNow_129 fX11_31 (by first | assumption | rfl) (by first | decide | omega) rfl (by first | assumption | rfl) ?_
            refine T_iconst dX11_roundNow_132 (inr rfl) ?_
            refine T_iload dX11_roundNow_133 rfl ?_
            first | refine T_iaddN dX11_roundNow_135 (by omega) ?_ | refine T_iadd dX11_roundNow_135 ?_
            refine T_ialdv (j := 2 + i) dX11_roundNow_136 (by first | assumption | rfl) (by first | decide | omega) (by omega) (by omega) ((nowP_at (by omega)).trans (restR_at _ _ _ _ _)) ?_
            refine T_aloadn dX11_roundNow_137 rfl rfl ?_
            refine T_getfin dX11_roundNow_138 fX11_19 (by first | assumption | rfl) (by first | decide | omega) rfl (by first | assumption | rfl) ?_
            refine T_iload dX11_roundNow_141 rfl ?_
            refine T_ialdv (j := i) dX11_roundNow_143 (by first | assumption | rfl) (by first | decide | omega) (by omega) (by omega) (nowP_o (by decide)) ?_
            refine T_icmp_ge (tgt := 151) dX11_roundNow_144 rfl (fun b144 => ?_) (fun b144 => ?_)
            · refine T_iconst dX11_roundNow_151 (inr rfl) ?_
              first | refine T_iaddN dX11_roundNow_152 (by omega) ?_ | refine T_iadd dX11_roundNow_152 ?_
              refine T_iast (j := 2 + i) dX11_roundNow_153 (by first | assumption | rfl) (by first | decide | omega) (by omega) (by omega) ?_
              refine T_iincN dX11_roundNow_154 rfl (by decide) rfl (by omega) ?_
              refine T_goto (tgt := 74) dX11_roundNow_157 rfl ?_
              rw [nowP_up (by omega), Int.add_zero, up1_id (restR_at _ _ _ _ _), restR_n _ _ _ _ _ (Or.inr (Or.inr (by omega)))]
              refine T_keep [0, 1, 2, 3, 4, 5, 6, 7, 8] ?_
              exact h
            · refine T_iconst dX11_roundNow_147 (inr rfl) ?_
              refine T_goto (tgt := 152) dX11_roundNow_148 rfl ?_
              first | refine T_iaddN dX11_roundNow_152 (by omega) ?_ | refine T_iadd dX11_roundNow_152 ?_
              refine T_iast (j := 2 + i) dX11_roundNow_153 (by first | assumption | rfl) (by first | decide | omega) (by omega) (by omega) ?_
              refine T_iincN dX11_roundNow_154 rfl (by decide) rfl (by omega) ?_
              refine T_goto (tgt := 74) dX11_roundNow_157 rfl ?_
              rw [nowP_up (by omega), restR_s _ _ _ _ _ (by split <;> omega) (by split <;> omega) (by omega)]
              refine T_keep [0, 1, 2, 3, 4, 5, 6, 7, 8] ?_
              exact h
          · refine T_iconst dX11_roundNow_106 (inr rfl) ?_
            refine T_goto (tgt := 111) dX11_roundNow_107 rfl ?_
            refine T_istore dX11_roundNow_111 (by decide) rfl ?_
            refine T_aloadn dX11_roundNow_113 rfl rfl ?_
            refine T_getfin dX11_roundNow_114 fX11_31 (by first | assumption | rfl) (by first | decide | omega) rfl (by first | assumption | rfl) ?_
            refine T_iconst dX11_roundNow_117 (inr rfl) ?_
            refine T_iload dX11_roundNow_118 rfl ?_
            first | refine T_iaddN dX11_roundNow_120 (by omega) ?_ | refine T_iadd dX11_roundNow_120 ?_
            refine T_dup2 dX11_roundNow_121 rfl rfl ?_
            refine T_ialdv (j := 2 + i) dX11_roundNow_122 (by first | assumption | rfl) (by first | decide | omega) (by omega) (by omega) ((nowP_at (by omega)).trans (restR_at _ _ _ _ _)) ?_
            refine T_iload dX11_roundNow_123 rfl ?_
            refine T_if_ne (tgt := 151) dX11_roundNow_125 rfl (fun b125 => ?_) (fun b125 => absurd b125 (by omega))
            refine T_iconst dX11_roundNow_151 (inr rfl) ?_
            first | refine T_iaddN dX11_roundNow_152 (by omega) ?_ | refine T_iadd dX11_roundNow_152 ?_
            refine T_iast (j := 2 + i) dX11_roundNow_153 (by first | assumption | rfl) (by first | decide | omega) (by omega) (by omega) ?_
            refine T_iincN dX11_roundNow_154 rfl (by decide) rfl (by omega) ?_
            refine T_goto (tgt := 74) dX11_roundNow_157 rfl ?_
            rw [nowP_up (by omega), Int.add_zero, up1_id (restR_at _ _ _ _ _), restR_n _ _ _ _ _ (Or.inr (Or.inl (by rw [if_neg b103]; exact b97)))]
            refine T_keep [0, 1, 2, 3, 4, 5, 6, 7, 8] ?_
            exact h
set_option maxHeartbeats 4000000 in
set_option maxRecDepth 100000 in
theorem rl_end (c : HC) (R : Nat → Int) (h12 : 0 ≤ R 12 ∧ R 12 ≤ 40) (hr : -10 ≤ R 1 ∧ R 1 ≤ 1000000) (h0 : -1000 ≤ R 0 ∧ R 0 ≤ 1000) (p q : Nat) (v w a b was : Int) (hwas : -1000 ≤ was ∧ was ≤ 1000) : TT mX11_roundNow 3 160 [(0, vr 122), (1, vi (p : Int)), (2, vi v), (3, vi (q : Int)), (4, vi w), (5, vi a), (6, vi b), (7, vi was)] [] (nowP c R) (fun v_ c1 => v_ = some (vi (R 0 - was)) ∧ c1 = nowP c (up1 (sayR (sayR R v) w) 1 (R 1 + 1))) := by
  have s12 := sayR_12 (R := R) (w := v) h12.1 h12.2
  have e1 : ∀ k, k < 12 → sayR (sayR R v) w k = R k := fun k hk => (sayR_lo hk).trans (sayR_lo hk)
  refine T_iloadn dX11_roundNow_160 rfl rfl ?_
  refine T_iconst dX11_roundNow_161 (inr rfl) ?_
  refine T_icmp_eq (tgt := 170) dX11_roundNow_162 rfl (fun b162 => ?_) (fun b162 => ?_)
  · rw [show nowP c R = nowP c (sayR R v) by unfold sayR; rw [if_pos b162]]
    refine T_iload dX11_roundNow_170 rfl ?_
    refine T_iconst dX11_roundNow_172 (inr rfl) ?_
    refine T_icmp_eq (tgt := 182) dX11_roundNow_173 rfl (fun b173 => ?_) (fun b173 => ?_)
    · rw [show nowP c (sayR R v) = nowP c (sayR (sayR R v) w) by rw [show sayR (sayR R v) w = sayR R v by unfold sayR; rw [if_pos b173]]]
      refine T_aloadn dX11_roundNow_182 rfl rfl ?_
      refine T_getfin dX11_roundNow_183 fX11_31 (by first | assumption | rfl) (by first | decide | omega) rfl (by first | assumption | rfl) ?_
      refine T_iconst dX11_roundNow_186 (inr rfl) ?_
      refine T_dup2 dX11_roundNow_187 rfl rfl ?_
      refine T_ialdv (j := 1) dX11_roundNow_188 (by first | assumption | rfl) (by first | decide | omega) (by omega) (by omega) ((nowP_at (by omega)).trans (e1 1 (by decide))) ?_
      refine T_iconst dX11_roundNow_189 (inr rfl) ?_
      first | refine T_iaddN dX11_roundNow_190 (by omega) ?_ | refine T_iadd dX11_roundNow_190 ?_
      refine T_iast (j := 1) dX11_roundNow_191 (by first | assumption | rfl) (by first | decide | omega) (by omega) (by omega) ?_
      rw [nowP_up (by omega)]
      refine T_aloadn dX11_roundNow_192 rfl rfl ?_
      refine T_getfin dX11_roundNow_193 fX11_31 (by first | assumption | rfl) (by first | decide | omega) rfl (by first | assumption | rfl) ?_
      refine T_iconst dX11_roundNow_196 (inr rfl) ?_
      refine T_ialdv (j := 0) dX11_roundNow_197 (by first | assumption | rfl) (by first | decide | omega) (by omega) (by omega) ((nowP_at (by omega)).trans ((up1_n (by decide)).trans (e1 0 (by decide)))) ?_
      refine T_iload dX11_roundNow_198 rfl ?_
      first | refine T_isubN dX11_roundNow_200 (by omega) ?_ | refine T_isub dX11_roundNow_200 ?_
      refine TT_ri dX11_roundNow_201 trivial ?_
      exact ⟨rfl, rfl⟩
    · refine T_aloadn dX11_roundNow_176 rfl rfl ?_
      refine T_iload dX11_roundNow_177 rfl ?_
      refine TT_Vv dX11_roundNow_179 (r_say c (sayR R v) w b173 s12.1 s12.2) kX11_224 (by decide) (by first | decide | omega) (by first | assumption | rfl) rfl (leb rfl) ?_
      skip
      refine T_aloadn dX11_roundNow_182 rfl rfl ?_
      refine T_getfin dX11_roundNow_183 fX11_31 (by first | assumption | rfl) (by first | decide | omega) rfl (by first | assumption | rfl) ?_
      refine T_iconst dX11_roundNow_186 (inr rfl) ?_
      refine T_dup2 dX11_roundNow_187 rfl rfl ?_
      refine T_ialdv (j := 1) dX11_roundNow_188 (by first | assumption | rfl) (by first | decide | omega) (by omega) (by omega) ((nowP_at (by omega)).trans (e1 1 (by decide))) ?_
      refine T_iconst dX11_roundNow_189 (inr rfl) ?_
      first | refine T_iaddN dX11_roundNow_190 (by omega) ?_ | refine T_iadd dX11_roundNow_190 ?_
      refine T_iast (j := 1) dX11_roundNow_191 (by first | assumption | rfl) (by first | decide | omega) (by omega) (by omega) ?_
      rw [nowP_up (by omega)]
      refine T_aloadn dX11_roundNow_192 rfl rfl ?_
      refine T_getfin dX11_roundNow_193 fX11_31 (by first | assumption | rfl) (by first | decide | omega) rfl (by first | assumption | rfl) ?_
      refine T_iconst dX11_roundNow_196 (inr rfl) ?_
      refine T_ialdv (j := 0) dX11_roundNow_197 (by first | assumption | rfl) (by first | decide | omega) (by omega) (by omega) ((nowP_at (by omega)).trans ((up1_n (by decide)).trans (e1 0 (by decide)))) ?_
      refine T_iload dX11_roundNow_198 rfl ?_
      first | refine T_isubN dX11_roundNow_200 (by omega) ?_ | refine T_isub dX11_roundNow_200 ?_
      refine TT_ri dX11_roundNow_201 trivial ?_
      exact ⟨rfl, rfl⟩
  · refine T_aloadn dX11_roundNow_165 rfl rfl ?_
    refine T_iloadn dX11_roundNow_166 rfl rfl ?_
    refine TT_Vv dX11_roundNow_167 (r_say c R v b162 h12.1 h12.2) kX11_224 (by decide) (by first | decide | omega) (by first | assumption | rfl) rfl (leb rfl) ?_
    skip
    refine T_iload dX11_roundNow_170 rfl ?_
    refine T_iconst dX11_roundNow_172 (inr rfl) ?_
    refine T_icmp_eq (tgt := 182) dX11_roundNow_173 rfl (fun b173 => ?_) (fun b173 => ?_)
    · rw [show nowP c (sayR R v) = nowP c (sayR (sayR R v) w) by rw [show sayR (sayR R v) w = sayR R v by unfold sayR; rw [if_pos b173]]]
      refine T_aloadn dX11_roundNow_182 rfl rfl ?_
      refine T_getfin dX11_roundNow_183 fX11_31 (by first | assumption | rfl) (by first | decide | omega) rfl (by first | assumption | rfl) ?_
      refine T_iconst dX11_roundNow_186 (inr rfl) ?_
      refine T_dup2 dX11_roundNow_187 rfl rfl ?_
      refine T_ialdv (j := 1) dX11_roundNow_188 (by first | assumption | rfl) (by first | decide | omega) (by omega) (by omega) ((nowP_at (by omega)).trans (e1 1 (by decide))) ?_
      refine T_iconst dX11_roundNow_189 (inr rfl) ?_
      first | refine T_iaddN dX11_roundNow_190 (by omega) ?_ | refine T_iadd dX11_roundNow_190 ?_
      refine T_iast (j := 1) dX11_roundNow_191 (by first | assumption | rfl) (by first | decide | omega) (by omega) (by omega) ?_
      rw [nowP_up (by omega)]
      refine T_aloadn dX11_roundNow_192 rfl rfl ?_
      refine T_getfin dX11_roundNow_193 fX11_31 (by first | assumption | rfl) (by first | decide | omega) rfl (by first | assumption | rfl) ?_
      refine T_iconst dX11_roundNow_196 (inr rfl) ?_
      refine T_ialdv (j := 0) dX11_roundNow_197 (by first | assumption | rfl) (by first | decide | omega) (by omega) (by omega) ((nowP_at (by omega)).trans ((up1_n (by decide)).trans (e1 0 (by decide)))) ?_
      refine T_iload dX11_roundNow_198 rfl ?_
      first | refine T_isubN dX11_roundNow_200 (by omega) ?_ | refine T_isub dX11_roundNow_200 ?_
      refine TT_ri dX11_roundNow_201 trivial ?_
      exact ⟨rfl, rfl⟩
    · refine T_aloadn dX11_roundNow_176 rfl rfl ?_
      refine T_iload dX11_roundNow_177 rfl ?_
      refine TT_Vv dX11_roundNow_179 (r_say c (sayR R v) w b173 s12.1 s12.2) kX11_224 (by decide) (by first | decide | omega) (by first | assumption | rfl) rfl (leb rfl) ?_
      skip
      refine T_aloadn dX11_roundNow_182 rfl rfl ?_
      refine T_getfin dX11_roundNow_183 fX11_31 (by first | assumption | rfl) (by first | decide | omega) rfl (by first | assumption | rfl) ?_
      refine T_iconst dX11_roundNow_186 (inr rfl) ?_
      refine T_dup2 dX11_roundNow_187 rfl rfl ?_
      refine T_ialdv (j := 1) dX11_roundNow_188 (by first | assumption | rfl) (by first | decide | omega) (by omega) (by omega) ((nowP_at (by omega)).trans (e1 1 (by decide))) ?_
      refine T_iconst dX11_roundNow_189 (inr rfl) ?_
      first | refine T_iaddN dX11_roundNow_190 (by omega) ?_ | refine T_iadd dX11_roundNow_190 ?_
      refine T_iast (j := 1) dX11_roundNow_191 (by first | assumption | rfl) (by first | decide | omega) (by omega) (by omega) ?_
      rw [nowP_up (by omega)]
      refine T_aloadn dX11_roundNow_192 rfl rfl ?_
      refine T_getfin dX11_roundNow_193 fX11_31 (by first | assumption | rfl) (by first | decide | omega) rfl (by first | assumption | rfl) ?_
      refine T_iconst dX11_roundNow_196 (inr rfl) ?_
      refine T_ialdv (j := 0) dX11_roundNow_197 (by first | assumption | rfl) (by first | decide | omega) (by omega) (by omega) ((nowP_at (by omega)).trans ((up1_n (by decide)).trans (e1 0 (by decide)))) ?_
      refine T_iload dX11_roundNow_198 rfl ?_
      first | refine T_isubN dX11_roundNow_200 (by omega) ?_ | refine T_isub dX11_roundNow_200 ?_
      refine TT_ri dX11_roundNow_201 trivial ?_
      exact ⟨rfl, rfl⟩
set_option maxHeartbeats 4000000 in
set_option maxRecDepth 100000 in
theorem r_roundNow (c : HC) {n : Nat} (hg : RGV c) (hv : RSV c n) (R : Nat → Int) (hR : RV (c 126) n R) (hr : R 1 ≤ 99999) (p q : Nat) (v w : Int) (hp : p < n) (hq : q < n) (hpq : p ≠ q) (ha : 0 ≤ sylR c v) (hb : 0 ≤ sylR c w) : RW mX11_roundNow 3 (nowP c R) [vr 122, vi (p : Int), vi v, vi (q : Int), vi w] (ropeR (R 0) (wayF (c 122 1) (c 127) (p : Int) (sylR c v) (q : Int) (sylR c w)) - R 0) (nowP c (playR (c 126) n (wayF (c 122 1) (c 127) (p : Int) (sylR c v) (q : Int) (sylR c w)) (sylR c v) (sylR c w) (p : Int) v (q : Int) w R)) := by
  have hn10 := hv.2.1
  have hbt : ∀ j, j < n → c 126 j ≤ 40 := fun j hj => (hv.2.2 j hj).2.1.2
  have hla := r_lengthSaid (nowP c R) (RGV_now hg) v
  have hlb := r_lengthSaid (nowP c R) (RGV_now hg) w
  rw [sylR_now] at hla hlb
  have ba := sylR_bd hg v
  have bb := sylR_bd hg w
  have hgo := r_goesBy (nowP c R) p q (by omega) (by omega) (sylR c v) (sylR c w) (by omega) (by omega)
  rw [nowP_o (by decide), nowP_row (x := 127) (by decide)] at hgo
  have hway := wayF_sm (mud := c 122 1) (wt := c 127) (p := (p : Int)) (q := (q : Int)) (a := sylR c v) (b := sylR c w) hg.2.1 ba bb (by rw [Int.toNat_natCast]; exact (hv.2.2 p hp).2.2.1) (by rw [Int.toNat_natCast]; exact (hv.2.2 q hq).2.2.1)
  generalize hA : sylR c v = a at *
  generalize hBB : sylR c w = b at *
  generalize hW : wayF (c 122 1) (c 127) (p : Int) a (q : Int) b = way at *
  have hrb := ropeR_bd (R 0) way
  obtain ⟨r0, r1, r12, rj⟩ := id hR
  have hpb := rj p hp
  have hqb := rj q hq
  have hpt := hbt p hp
  have hqt := hbt q hq
  unfold playR
  simp only [Int.toNat_natCast]
  generalize hR3 : up1 (up1 (up1 R 0 (ropeR (R 0) way)) (2 + p) (R (2 + p) - a)) (2 + q) (R (2 + q) - b) = R3
  have k0 : R3 0 = ropeR (R 0) way := by rw [← hR3, up1_n (by omega), up1_n (by omega), up1_s]
  have k1 : R3 1 = R 1 := by rw [← hR3, up1_n (by omega), up1_n (by omega), up1_n (by omega)]
  have k12 : R3 12 = R 12 := by rw [← hR3, up1_n (by omega), up1_n (by omega), up1_n (by omega)]
  have kj : ∀ j, j < n → -1000 ≤ R3 (2 + j) ∧ R3 (2 + j) ≤ 1000 := by
    intro j hj
    have z := rj j hj
    have zt := hbt j hj
    rw [← hR3]
    by_cases e : j = q
    · subst e; rw [up1_s]; omega
    · rw [up1_n (by omega)]
      by_cases e2 : j = p
      · subst e2; rw [up1_s]; omega
      · rw [up1_n (by omega), up1_n (by omega)]; omega
  have l0 : restR (c 126) (if v = -1 then -1 else (p : Int)) (if w = -1 then -1 else (q : Int)) R3 n 0 = ropeR (R 0) way := (restR_lo (by omega)).trans k0
  have l1 : restR (c 126) (if v = -1 then -1 else (p : Int)) (if w = -1 then -1 else (q : Int)) R3 n 1 = R 1 := (restR_lo (by omega)).trans k1
  have l12 : restR (c 126) (if v = -1 then -1 else (p : Int)) (if w = -1 then -1 else (q : Int)) R3 n 12 = R 12 := (restR_lo (by omega)).trans k12
  have hend := rl_end c (restR (c 126) (if v = -1 then -1 else (p : Int)) (if w = -1 then -1 else (q : Int)) R3 n) (by omega) (by omega) (by omega) p q v w a b (R 0) (by omega)
  rw [l0, l1] at hend
  have hmain := rl_rest c hv R3 kj p q v w a b (R 0) _ hend n 0 (by omega)
  rw [restR_0] at hmain
  refine CC.of (by decide +kernel) (leb rfl) (fun hok => ?_)
  refine T_aloadn dX11_roundNow_0 rfl rfl ?_
  refine T_iloadn dX11_roundNow_1 rfl rfl ?_
  refine TT_Vi dX11_roundNow_2 (hla) kX11_214 (by decide) (by first | decide | omega) (by first | assumption | rfl) rfl (leb rfl) ?_
  refine T_istore dX11_roundNow_5 (by decide) rfl ?_
  refine T_aloadn dX11_roundNow_7 rfl rfl ?_
  refine T_iload dX11_roundNow_8 rfl ?_
  refine TT_Vi dX11_roundNow_10 (hlb) kX11_214 (by decide) (by first | decide | omega) (by first | assumption | rfl) rfl (leb rfl) ?_
  refine T_istore dX11_roundNow_13 (by decide) rfl ?_
  refine T_aloadn dX11_roundNow_15 rfl rfl ?_
  refine T_getfin dX11_roundNow_16 fX11_31 (by first | assumption | rfl) (by first | decide | omega) rfl (by first | assumption | rfl) ?_
  refine T_iconst dX11_roundNow_19 (inr rfl) ?_
  refine T_ialdv (j := 0) dX11_roundNow_20 (by first | assumption | rfl) (by first | decide | omega) (by omega) (by omega) (nowP_at (by omega)) ?_
  refine T_istore dX11_roundNow_21 (by decide) rfl ?_
  refine T_aloadn dX11_roundNow_23 rfl rfl ?_
  refine T_getfin dX11_roundNow_24 fX11_31 (by first | assumption | rfl) (by first | decide | omega) rfl (by first | assumption | rfl) ?_
  refine T_iconst dX11_roundNow_27 (inr rfl) ?_
  refine T_iload dX11_roundNow_28 rfl ?_
  refine T_aloadn dX11_roundNow_30 rfl rfl ?_
  refine T_iloadn dX11_roundNow_31 rfl rfl ?_
  refine T_iload dX11_roundNow_32 rfl ?_
  refine T_iloadn dX11_roundNow_34 rfl rfl ?_
  refine T_iload dX11_roundNow_35 rfl ?_
  refine TT_Vi dX11_roundNow_37 (hgo) kX11_217 (by decide) (by first | decide | omega) (by first | assumption | rfl) rfl (leb rfl) ?_
  first | refine T_iaddN dX11_roundNow_40 (by omega) ?_ | refine T_iadd dX11_roundNow_40 ?_
  refine TT_Si dX11_roundNow_41 (r_held _ (R 0 + way)) kX11_221 (by decide) rfl (leb rfl) ?_
  refine T_iast (j := 0) dX11_roundNow_44 (by first | assumption | rfl) (by first | decide | omega) (by omega) (by omega) ?_
  rw [nowP_up (by omega), held_rope]
  refine T_aloadn dX11_roundNow_45 rfl rfl ?_
  refine T_getfin dX11_roundNow_46 fX11_31 (by first | assumption | rfl) (by first | decide | omega) rfl (by first | assumption | rfl) ?_
  refine T_iconst dX11_roundNow_49 (inr rfl) ?_
  refine T_iloadn dX11_roundNow_50 rfl rfl ?_
  first | refine T_iaddN dX11_roundNow_51 (by omega) ?_ | refine T_iadd dX11_roundNow_51 ?_
  refine T_dup2 dX11_roundNow_52 rfl rfl ?_
  refine T_ialdv (j := 2 + p) dX11_roundNow_53 (by first | assumption | rfl) (by first | decide | omega) (by omega) (by omega) ((nowP_at (by omega)).trans (up1_n (by omega))) ?_
  refine T_iload dX11_roundNow_54 rfl ?_
  first | refine T_isubN dX11_roundNow_56 (by omega) ?_ | refine T_isub dX11_roundNow_56 ?_
  refine T_iast (j := 2 + p) dX11_roundNow_57 (by first | assumption | rfl) (by first | decide | omega) (by omega) (by omega) ?_
  rw [nowP_up (by omega)]
  refine T_aloadn dX11_roundNow_58 rfl rfl ?_
  refine T_getfin dX11_roundNow_59 fX11_31 (by first | assumption | rfl) (by first | decide | omega) rfl (by first | assumption | rfl) ?_
  refine T_iconst dX11_roundNow_62 (inr rfl) ?_
  refine T_iloadn dX11_roundNow_63 rfl rfl ?_
  first | refine T_iaddN dX11_roundNow_64 (by omega) ?_ | refine T_iadd dX11_roundNow_64 ?_
  refine T_dup2 dX11_roundNow_65 rfl rfl ?_
  refine T_ialdv (j := 2 + q) dX11_roundNow_66 (by first | assumption | rfl) (by first | decide | omega) (by omega) (by omega) ((nowP_at (by omega)).trans ((up1_n (by omega)).trans (up1_n (by omega)))) ?_
  refine T_iload dX11_roundNow_67 rfl ?_
  first | refine T_isubN dX11_roundNow_69 (by omega) ?_ | refine T_isub dX11_roundNow_69 ?_
  refine T_iast (j := 2 + q) dX11_roundNow_70 (by first | assumption | rfl) (by first | decide | omega) (by omega) (by omega) ?_
  rw [nowP_up (by omega), hR3]
  refine T_iconst dX11_roundNow_71 (inr rfl) ?_
  refine T_istore dX11_roundNow_72 (by decide) rfl ?_
  exact hmain
set_option maxHeartbeats 4000000 in
set_option maxRecDepth 100000 in
theorem r_canSay (c : HC) (hg : RGV c) (nw : Nat) (hw : c 130 12 = (nw : Int)) (h40 : nw ≤ 40) (p : Nat) (hp : p < 10) (w : Int) : RO mX11_canSay 2 c [vr 122, vi (p : Int), vi w] (mayF (lenR c w) (c 130 (2 + p)) (saidL (c 130) w nw 0) w) := by
  have hb := lenR_bd hg w
  refine CC.of (by decide +kernel) (leb rfl) (fun hok => ?_)
  unfold mayF
  refine T_iloadn dX11_canSay_0 rfl rfl ?_
  refine T_iconst dX11_canSay_1 (inr rfl) ?_
  refine T_icmp_eq (tgt := 37) dX11_canSay_2 rfl (fun b2 => ?_) (fun b2 => ?_)
  · refine T_iconst dX11_canSay_37 (inr rfl) ?_
    refine T_goto (tgt := 42) dX11_canSay_38 rfl ?_
    refine TT_ri dX11_canSay_42 (by first | exact Or.inl rfl | exact Or.inr rfl | assumption) ?_
    exact ro_q (by rw [if_pos b2])
  · refine T_aloadn dX11_canSay_5 rfl rfl ?_
    refine T_iloadn dX11_canSay_6 rfl rfl ?_
    refine TT_Vi dX11_canSay_7 (r_lengthOf c hg w) kX11_201 (by decide) (by first | decide | omega) (by first | assumption | rfl) rfl (leb rfl) ?_
    refine T_if_lt (tgt := 41) dX11_canSay_10 rfl (fun b10 => ?_) (fun b10 => ?_)
    · refine T_iconst dX11_canSay_41 (inr rfl) ?_
      refine TT_ri dX11_canSay_42 (by first | exact Or.inl rfl | exact Or.inr rfl | assumption) ?_
      exact ro_q (by rw [if_neg b2, if_pos (Or.inl (by omega))])
    · refine T_aloadn dX11_canSay_13 rfl rfl ?_
      refine T_iloadn dX11_canSay_14 rfl rfl ?_
      refine TT_Vi dX11_canSay_15 (r_wasSaid c w nw hw h40) kX11_228 (by decide) (by first | decide | omega) (by first | assumption | rfl) rfl (leb rfl) ?_
      refine T_if_ne (tgt := 41) dX11_canSay_18 rfl (fun b18 => ?_) (fun b18 => ?_)
      · refine T_iconst dX11_canSay_41 (inr rfl) ?_
        refine TT_ri dX11_canSay_42 (by first | exact Or.inl rfl | exact Or.inr rfl | assumption) ?_
        exact ro_q (by rw [if_neg b2, if_pos (Or.inr (Or.inr b18))])
      · refine T_aloadn dX11_canSay_21 rfl rfl ?_
        refine T_iloadn dX11_canSay_22 rfl rfl ?_
        refine TT_Vi dX11_canSay_23 (r_lengthOf c hg w) kX11_201 (by decide) (by first | decide | omega) (by first | assumption | rfl) rfl (leb rfl) ?_
        refine T_aloadn dX11_canSay_26 rfl rfl ?_
        refine T_getfin dX11_canSay_27 fX11_31 (by first | assumption | rfl) (by first | decide | omega) rfl (by first | assumption | rfl) ?_
        refine T_iconst dX11_canSay_30 (inr rfl) ?_
        refine T_iloadn dX11_canSay_31 rfl rfl ?_
        first | refine T_iaddN dX11_canSay_32 (by omega) ?_ | refine T_iadd dX11_canSay_32 ?_
        refine T_iald (j := 2 + p) dX11_canSay_33 (by first | assumption | rfl) (by first | decide | omega) (by omega) (by omega) ?_
        refine T_icmp_gt (tgt := 41) dX11_canSay_34 rfl (fun b34 => ?_) (fun b34 => ?_)
        · refine T_iconst dX11_canSay_41 (inr rfl) ?_
          refine TT_ri dX11_canSay_42 (by first | exact Or.inl rfl | exact Or.inr rfl | assumption) ?_
          exact ro_q (by rw [if_neg b2, if_pos (Or.inr (Or.inl (by omega)))])
        · refine T_iconst dX11_canSay_37 (inr rfl) ?_
          refine T_goto (tgt := 42) dX11_canSay_38 rfl ?_
          refine TT_ri dX11_canSay_42 (by first | exact Or.inl rfl | exact Or.inr rfl | assumption) ?_
          exact ro_q (by rw [if_neg b2, if_neg (by intro z; rcases z with z | z | z <;> first | omega | exact z b18)])
