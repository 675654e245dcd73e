/-! the reference: what was read becomes the feast -/
def stT (c : HC) (i : Nat) : HC := rC (rC c 123 (c 133) i) 129 (c 139) i
def enT (c : HC) (i : Nat) : HC := rC c 124 (c 134) i
def bgN (bt : Nat → Int) (i : Nat) : Nat → Int := fun k => if 2 ≤ k ∧ k < 2 + i then bt (k - 2) else 0
def spT (c : HC) (i : Nat) : HC := nowP (rC (rC (rC (rC c 125 (c 135) i) 126 (c 136) i) 127 (c 137) i) 128 (c 138) i) (bgN (c 136) i)
theorem stT_s {c : HC} {i : Nat} : up2 (up2 (stT c i) 123 i (c 133 i)) 129 i (c 139 i) = stT c (i + 1) := by
  unfold stT
  rw [rC_o (by decide), rC_up, rC_up]
theorem bgN_s {bt : Nat → Int} {i : Nat} : up1 (bgN bt i) (2 + i) (bt i) = bgN bt (i + 1) := by
  funext k
  unfold up1 bgN
  by_cases e : k = 2 + i
  · rw [if_pos e, if_pos (by omega), show k - 2 = i by omega]
  · rw [if_neg e]
    by_cases e2 : 2 ≤ k ∧ k < 2 + i
    · rw [if_pos e2, if_pos (by omega)]
    · rw [if_neg e2, if_neg (by omega)]
theorem spT_s {c : HC} {i : Nat} (h : i < 10) : up2 (up2 (up2 (up2 (up2 (spT c i) 125 i (c 135 i)) 126 i (c 136 i)) 127 i (c 137 i)) 128 i (c 138 i)) 130 (2 + i) (c 136 i) = spT c (i + 1) := by
  unfold spT
  rw [nowP_up2 (by decide), nowP_up2 (by decide), nowP_up2 (by decide), nowP_up2 (by decide), nowP_up (by omega), bgN_s]
  rw [rC_o (x := 125) (a := 128) (by decide), rC_o (x := 125) (a := 127) (by decide), rC_o (x := 125) (a := 126) (by decide), rC_up]
  rw [rC_o (x := 126) (a := 128) (by decide), rC_o (x := 126) (a := 127) (by decide), rC_up]
  rw [rC_o (x := 127) (a := 128) (by decide), rC_up, rC_up]
theorem stT_o {c : HC} {i x : Nat} (h : x ≠ 123) (h2 : x ≠ 129) : stT c i x = c x := by unfold stT; rw [rC_row h2, rC_row h]
theorem enT_o {c : HC} {i x : Nat} (h : x ≠ 124) : enT c i x = c x := by unfold enT; rw [rC_row h]
theorem spT_o {c : HC} {i x : Nat} (h : x ≠ 130) (h1 : x ≠ 125) (h2 : x ≠ 126) (h3 : x ≠ 127) (h4 : x ≠ 128) : spT c i x = c x := by unfold spT; rw [nowP_row h, rC_row h4, rC_row h3, rC_row h2, rC_row h1]
def tkF (c : HC) : HC := up2 (up2 (up2 (up2 (up2 c 122 0 (c 132 0)) 122 1 (c 132 1)) 122 2 (c 122 21)) 122 4 (c 122 23)) 122 6 (c 122 25)
theorem tkF_o {c : HC} {x : Nat} (h : x ≠ 122) : tkF c x = c x := by unfold tkF; rw [up2_row _ _ _ _ h, up2_row _ _ _ _ h, up2_row _ _ _ _ h, up2_row _ _ _ _ h, up2_row _ _ _ _ h]
theorem tkF_f {c : HC} {k : Nat} (h : 6 < k) : tkF c 122 k = c 122 k := by unfold tkF; rw [up2_k _ _ (by omega), up2_k _ _ (by omega), up2_k _ _ (by omega), up2_k _ _ (by omega), up2_k _ _ (by omega)]
theorem tkF_0 {c : HC} : tkF c 122 0 = c 132 0 ∧ tkF c 122 1 = c 132 1 ∧ tkF c 122 2 = c 122 21 ∧ tkF c 122 4 = c 122 23 ∧ tkF c 122 6 = c 122 25 := by
  unfold tkF
  simp [up2_g]
def tkC (c : HC) (ns ne np : Nat) : HC := spT (enT (stT (rC (tkF c) 130 (fun _ => 0) 53) ns) ne) np
set_option maxHeartbeats 4000000 in
set_option maxRecDepth 100000 in
theorem rl_tk1 (c : HC) (Q : Option PV → HC → Prop) (hq : TT mX11_takeRead 3 65 [(0, vr 122)] [] (rC c 130 (fun _ => 0) 53) Q) : ∀ (k j : Nat), j + k = 53 → TT mX11_takeRead 3 46 [(0, vr 122), (1, vi (j : Int))] [] (rC c 130 (fun _ => 0) j) Q := by
  intro k
  induction k with
  | zero =>
    intro j hk
    have e : j = 53 := by omega
    subst e
    refine T_iloadn dX11_takeRead_46 rfl rfl ?_
    refine T_bipush dX11_takeRead_47 (bp8 rfl) (inr rfl) ?_
    refine T_icmp_ge (tgt := 65) dX11_takeRead_49 rfl (fun b49 => ?_) (fun b49 => absurd b49 (by decide))
    refine T_keep [0] ?_
    exact hq
  | succ k ih =>
    intro j hk
    have h := ih (j + 1) (by omega)
    rw [← rC_up] at h
    refine T_iloadn dX11_takeRead_46 rfl rfl ?_
    refine T_bipush dX11_takeRead_47 (bp8 rfl) (inr rfl) ?_
    refine T_icmp_ge (tgt := 65) dX11_takeRead_49 rfl (fun b49 => absurd b49 (by omega)) (fun b49 => ?_)
    refine T_aloadn dX11_takeRead_52 rfl rfl ?_
    refine T_getfin dX11_takeRead_53 fX11_31 (by first | assumption | rfl) (by first | decide | omega) rfl (by first | assumption | rfl) ?_
    refine T_iloadn dX11_takeRead_56 rfl rfl ?_
    refine T_iconst dX11_takeRead_57 (inr rfl) ?_
    refine T_iast (j := j) dX11_takeRead_58 (by first | assumption | rfl) (by first | decide | omega) (by omega) (by omega) ?_
    refine T_iincN dX11_takeRead_59 rfl (by decide) rfl (by omega) ?_
    refine T_goto (tgt := 46) dX11_takeRead_62 rfl ?_
    exact h
set_option maxHeartbeats 4000000 in
set_option maxRecDepth 100000 in
theorem rl_tk2 (c : HC) (m : Nat) (hm : c 122 2 = (m : Int)) (hm2 : m ≤ 6) (Q : Option PV → HC → Prop) (hq : TT mX11_takeRead 3 105 [(0, vr 122)] [] (stT c m) Q) : ∀ (k j : Nat), j + k = m → TT mX11_takeRead 3 67 [(0, vr 122), (1, vi (j : Int))] [] (stT c j) Q := by
  intro k
  induction k with
  | zero =>
    intro j hk
    have e : j = m := by omega
    subst e
    refine T_iloadn dX11_takeRead_67 rfl rfl ?_
    refine T_aloadn dX11_takeRead_68 rfl rfl ?_
    refine T_getv dX11_takeRead_69 fX11_176 (by first | assumption | rfl) (by first | decide | omega) rfl ((congrFun (stT_o (by decide) (by decide)) _).trans hm) ?_
    refine T_icmp_ge (tgt := 105) dX11_takeRead_72 rfl (fun b72 => ?_) (fun b72 => absurd b72 (by omega))
    refine T_keep [0] ?_
    exact hq
  | succ k ih =>
    intro j hk
    have h := ih (j + 1) (by omega)
    refine T_iloadn dX11_takeRead_67 rfl rfl ?_
    refine T_aloadn dX11_takeRead_68 rfl rfl ?_
    refine T_getv dX11_takeRead_69 fX11_176 (by first | assumption | rfl) (by first | decide | omega) rfl ((congrFun (stT_o (by decide) (by decide)) _).trans hm) ?_
    refine T_icmp_ge (tgt := 105) dX11_takeRead_72 rfl (fun b72 => absurd b72 (by omega)) (fun b72 => ?_)
    refine T_aloadn dX11_takeRead_75 rfl rfl ?_
    refine T_getfin dX11_takeRead_76 fX11_7 (by first | assumption | rfl) (by first | decide | omega) rfl (by first | assumption | rfl) ?_
    refine T_iloadn dX11_takeRead_79 rfl rfl ?_
    refine T_aloadn dX11_takeRead_80 rfl rfl ?_
    refine T_getfin dX11_takeRead_81 fX11_44 (by first | assumption | rfl) (by first | decide | omega) rfl (by first | assumption | rfl) ?_
    refine T_iloadn dX11_takeRead_84 rfl rfl ?_
    refine T_ialdv (j := j) dX11_takeRead_85 (by first | assumption | rfl) (by first | decide | omega) (by omega) (by omega) (congrFun (stT_o (by decide) (by decide)) _) ?_
    refine T_iast (j := j) dX11_takeRead_86 (by first | assumption | rfl) (by first | decide | omega) (by omega) (by omega) ?_
    refine T_aloadn dX11_takeRead_87 rfl rfl ?_
    refine T_getfin dX11_takeRead_88 fX11_28 (by first | assumption | rfl) (by first | decide | omega) rfl (by first | assumption | rfl) ?_
    refine T_iloadn dX11_takeRead_91 rfl rfl ?_
    refine T_aloadn dX11_takeRead_92 rfl rfl ?_
    refine T_getfin dX11_takeRead_93 fX11_62 (by first | assumption | rfl) (by first | decide | omega) rfl (by first | assumption | rfl) ?_
    refine T_iloadn dX11_takeRead_96 rfl rfl ?_
    refine T_ialdv (j := j) dX11_takeRead_97 (by first | assumption | rfl) (by first | decide | omega) (by omega) (by omega) ((up2_a _ _ (by decide)).trans (congrFun (stT_o (by decide) (by decide)) _)) ?_
    refine T_iast (j := j) dX11_takeRead_98 (by first | assumption | rfl) (by first | decide | omega) (by omega) (by omega) ?_
    refine T_iincN dX11_takeRead_99 rfl (by decide) rfl (by omega) ?_
    refine T_goto (tgt := 67) dX11_takeRead_102 rfl ?_
    rw [stT_s]
    exact h
set_option maxHeartbeats 4000000 in
set_option maxRecDepth 100000 in
theorem rl_tk3 (c : HC) (m : Nat) (hm : c 122 4 = (m : Int)) (hm2 : m ≤ 4) (Q : Option PV → HC → Prop) (hq : TT mX11_takeRead 3 133 [(0, vr 122)] [] (enT c m) Q) : ∀ (k j : Nat), j + k = m → TT mX11_takeRead 3 107 [(0, vr 122), (1, vi (j : Int))] [] (enT c j) Q := by
  intro k
  induction k with
  | zero =>
    intro j hk
    have e : j = m := by omega
    subst e
    refine T_iloadn dX11_takeRead_107 rfl rfl ?_
    refine T_aloadn dX11_takeRead_108 rfl rfl ?_
    refine T_getv dX11_takeRead_109 fX11_179 (by first | assumption | rfl) (by first | decide | omega) rfl ((congrFun (enT_o (by decide)) _).trans hm) ?_
    refine T_icmp_ge (tgt := 133) dX11_takeRead_112 rfl (fun b112 => ?_) (fun b112 => absurd b112 (by omega))
    refine T_keep [0] ?_
    exact hq
  | succ k ih =>
    intro j hk
    have h := ih (j + 1) (by omega)
    refine T_iloadn dX11_takeRead_107 rfl rfl ?_
    refine T_aloadn dX11_takeRead_108 rfl rfl ?_
    refine T_getv dX11_takeRead_109 fX11_179 (by first | assumption | rfl) (by first | decide | omega) rfl ((congrFun (enT_o (by decide)) _).trans hm) ?_
    refine T_icmp_ge (tgt := 133) dX11_takeRead_112 rfl (fun b112 => absurd b112 (by omega)) (fun b112 => ?_)
    refine T_aloadn dX11_takeRead_115 rfl rfl ?_
    refine T_getfin dX11_takeRead_116 fX11_13 (by first | assumption | rfl) (by first | decide | omega) rfl (by first | assumption | rfl) ?_
    refine T_iloadn dX11_takeRead_119 rfl rfl ?_
    refine T_aloadn dX11_takeRead_120 rfl rfl ?_
    refine T_getfin dX11_takeRead_121 fX11_47 (by first | assumption | rfl) (by first | decide | omega) rfl (by first | assumption | rfl) ?_
    refine T_iloadn dX11_takeRead_124 rfl rfl ?_
    refine T_ialdv (j := j) dX11_takeRead_125 (by first | assumption | rfl) (by first | decide | omega) (by omega) (by omega) (congrFun (enT_o (by decide)) _) ?_
    refine T_iast (j := j) dX11_takeRead_126 (by first | assumption | rfl) (by first | decide | omega) (by omega) (by omega) ?_
    refine T_iincN dX11_takeRead_127 rfl (by decide) rfl (by omega) ?_
    refine T_goto (tgt := 107) dX11_takeRead_130 rfl ?_
    unfold enT
    rw [rC_up]
    exact h
set_option maxHeartbeats 4000000 in
set_option maxRecDepth 100000 in
theorem rl_tk4 (c : HC) (m : Nat) (hm : c 122 6 = (m : Int)) (hm2 : m ≤ 10) (Q : Option PV → HC → Prop) (hq : TT mX11_takeRead 3 211 [(0, vr 122)] [] (spT c m) Q) : ∀ (k j : Nat), j + k = m → TT mX11_takeRead 3 135 [(0, vr 122), (1, vi (j : Int))] [] (spT c j) Q := by
  intro k
  induction k with
  | zero =>
    intro j hk
    have e : j = m := by omega
    subst e
    refine T_iloadn dX11_takeRead_135 rfl rfl ?_
    refine T_aloadn dX11_takeRead_136 rfl rfl ?_
    refine T_getv dX11_takeRead_137 fX11_93 (by first | assumption | rfl) (by first | decide | omega) rfl ((congrFun (spT_o (by decide) (by decide) (by decide) (by decide) (by decide)) _).trans hm) ?_
    refine T_icmp_ge (tgt := 211) dX11_takeRead_140 rfl (fun b140 => ?_) (fun b140 => absurd b140 (by omega))
    refine T_keep [0] ?_
    exact hq
  | succ k ih =>
    intro j hk
    have h := ih (j + 1) (by omega)
    refine T_iloadn dX11_takeRead_135 rfl rfl ?_
    refine T_aloadn dX11_takeRead_136 rfl rfl ?_
    refine T_getv dX11_takeRead_137 fX11_93 (by first | assumption | rfl) (by first | decide | omega) rfl ((congrFun (spT_o (by decide) (by decide) (by decide) (by decide) (by decide)) _).trans hm) ?_
    refine T_icmp_ge (tgt := 211) dX11_takeRead_140 rfl (fun b140 => absurd b140 (by omega)) (fun b140 => ?_)
    refine T_aloadn dX11_takeRead_143 rfl rfl ?_
    refine T_getfin dX11_takeRead_144 fX11_16 (by first | assumption | rfl) (by first | decide | omega) rfl (by first | assumption | rfl) ?_
    refine T_iloadn dX11_takeRead_147 rfl rfl ?_
    refine T_aloadn dX11_takeRead_148 rfl rfl ?_
    refine T_getfin dX11_takeRead_149 fX11_50 (by first | assumption | rfl) (by first | decide | omega) rfl (by first | assumption | rfl) ?_
    refine T_iloadn dX11_takeRead_152 rfl rfl ?_
    refine T_ialdv (j := j) dX11_takeRead_153 (by first | assumption | rfl) (by first | decide | omega) (by omega) (by omega) (congrFun (spT_o (by decide) (by decide) (by decide) (by decide) (by decide)) _) ?_
    refine T_iast (j := j) dX11_takeRead_154 (by first | assumption | rfl) (by first | decide | omega) (by omega) (by omega) ?_
    refine T_aloadn dX11_takeRead_155 rfl rfl ?_
    refine T_getfin dX11_takeRead_156 fX11_19 (by first | assumption | rfl) (by first | decide | omega) rfl (by first | assumption | rfl) ?_
    refine T_iloadn dX11_takeRead_159 rfl rfl ?_
    refine T_aloadn dX11_takeRead_160 rfl rfl ?_
    refine T_getfin dX11_takeRead_161 fX11_53 (by first | assumption | rfl) (by first | decide | omega) rfl (by first | assumption | rfl) ?_
    refine T_iloadn dX11_takeRead_164 rfl rfl ?_
    refine T_ialdv (j := j) dX11_takeRead_165 (by first | assumption | rfl) (by first | decide | omega) (by omega) (by omega) ((up2_a _ _ (by decide)).trans (congrFun (spT_o (by decide) (by decide) (by decide) (by decide) (by decide)) _)) ?_
    refine T_iast (j := j) dX11_takeRead_166 (by first | assumption | rfl) (by first | decide | omega) (by omega) (by omega) ?_
    refine T_aloadn dX11_takeRead_167 rfl rfl ?_
    refine T_getfin dX11_takeRead_168 fX11_22 (by first | assumption | rfl) (by first | decide | omega) rfl (by first | assumption | rfl) ?_
    refine T_iloadn dX11_takeRead_171 rfl rfl ?_
    refine T_aloadn dX11_takeRead_172 rfl rfl ?_
    refine T_getfin dX11_takeRead_173 fX11_56 (by first | assumption | rfl) (by first | decide | omega) rfl (by first | assumption | rfl) ?_
    refine T_iloadn dX11_takeRead_176 rfl rfl ?_
    refine T_ialdv (j := j) dX11_takeRead_177 (by first | assumption | rfl) (by first | decide | omega) (by omega) (by omega) ((up2_a _ _ (by decide)).trans ((up2_a _ _ (by decide)).trans (congrFun (spT_o (by decide) (by decide) (by decide) (by decide) (by decide)) _))) ?_
    refine T_iast (j := j) dX11_takeRead_178 (by first | assumption | rfl) (by first | decide | omega) (by omega) (by omega) ?_
    refine T_aloadn dX11_takeRead_179 rfl rfl ?_
    refine T_getfin dX11_takeRead_180 fX11_25 (by first | assumption | rfl) (by first | decide | omega) rfl (by first | assumption | rfl) ?_
    refine T_iloadn dX11_takeRead_183 rfl rfl ?_
    refine T_aloadn dX11_takeRead_184 rfl rfl ?_
    refine T_getfin dX11_takeRead_185 fX11_59 (by first | assumption | rfl) (by first | decide | omega) rfl (by first | assumption | rfl) ?_
    refine T_iloadn dX11_takeRead_188 rfl rfl ?_
    refine T_ialdv (j := j) dX11_takeRead_189 (by first | assumption | rfl) (by first | decide | omega) (by omega) (by omega) ((up2_a _ _ (by decide)).trans ((up2_a _ _ (by decide)).trans ((up2_a _ _ (by decide)).trans (congrFun (spT_o (by decide) (by decide) (by decide) (by decide) (by decide)) _)))) ?_
    refine T_iast (j := j) dX11_takeRead_190 (by first | assumption | rfl) (by first | decide | omega) (by omega) (by omega) ?_
    refine T_aloadn dX11_takeRead_191 rfl rfl ?_
    refine T_getfin dX11_takeRead_192 fX11_31 (by first | assumption | rfl) (by first | decide | omega) rfl (by first | assumption | rfl) ?_
    refine T_iconst dX11_takeRead_195 (inr rfl) ?_
    refine T_iloadn dX11_takeRead_196 rfl rfl ?_
    first | refine T_iaddN dX11_takeRead_197 (by omega) ?_ | refine T_iadd dX11_takeRead_197 ?_
    refine T_aloadn dX11_takeRead_198 rfl rfl ?_
    refine T_getfin dX11_takeRead_199 fX11_53 (by first | assumption | rfl) (by first | decide | omega) rfl (by first | assumption | rfl) ?_
    refine T_iloadn dX11_takeRead_202 rfl rfl ?_
    refine T_ialdv (j := j) dX11_takeRead_203 (by first | assumption | rfl) (by first | decide | omega) (by omega) (by omega) ((up2_a _ _ (by decide)).trans ((up2_a _ _ (by decide)).trans ((up2_a _ _ (by decide)).trans ((up2_a _ _ (by decide)).trans (congrFun (spT_o (by decide) (by decide) (by decide) (by decide) (by decide)) _))))) ?_
    refine T_iast (j := 2 + j) dX11_takeRead_204 (by first | assumption | rfl) (by first | decide | omega) (by omega) (by omega) ?_
    refine T_iincN dX11_takeRead_205 rfl (by decide) rfl (by omega) ?_
    refine T_goto (tgt := 135) dX11_takeRead_208 rfl ?_
    rw [spT_s (by omega)]
    exact h
theorem tkC_rd {c D : HC} (hR : RR c D) (hD : DV D) {ns ne np : Nat} (h2 : D 0 2 = (ns : Int)) (h3 : D 0 3 = (ne : Int)) (h4 : D 0 4 = (np : Int)) :
    (tkC c ns ne np 122 0 = D 0 0 ∧ tkC c ns ne np 122 1 = D 0 1 ∧ tkC c ns ne np 122 2 = D 0 2 ∧ tkC c ns ne np 122 4 = D 0 3 ∧ tkC c ns ne np 122 6 = D 0 4) ∧ (∀ j, j < ns → tkC c ns ne np 123 j = D 1 j ∧ tkC c ns ne np 129 j = D 3 j) ∧ (∀ j, j < ne → tkC c ns ne np 124 j = D 2 j) ∧ (∀ j, j < np → tkC c ns ne np 125 j = D 4 j ∧ tkC c ns ne np 126 j = D 5 j ∧ tkC c ns ne np 127 j = D 6 j ∧ tkC c ns ne np 128 j = D 7 j) ∧ (∀ k, k < 53 → tkC c ns ne np 130 k = bgN (tkC c ns ne np 126) np k) ∧ (∀ k, 6 < k → tkC c ns ne np 122 k = c 122 k) ∧ (∀ x, x ≠ 122 → (x < 123 ∨ 130 < x) → tkC c ns ne np x = c x) := by
  obtain ⟨⟨r0, r1, r2, r3, r4, r5⟩, q1, q2, q4⟩ := hR
  have e122 : ∀ k, tkC c ns ne np 122 k = tkF c 122 k := fun k => by
    unfold tkC
    rw [spT_o (by decide) (by decide) (by decide) (by decide) (by decide), enT_o (by decide), stT_o (by decide) (by decide), rC_row (by decide)]
  have eo : ∀ x, x ≠ 122 → (x < 123 ∨ 130 < x) → tkC c ns ne np x = c x := fun x h1 h5 => by
    unfold tkC
    rw [spT_o (by omega) (by omega) (by omega) (by omega) (by omega), enT_o (by omega), stT_o (by omega) (by omega), rC_row (by omega), tkF_o h1]
  have eb : ∀ x, x ≠ 122 → (x < 123 ∨ 130 < x) → enT (stT (rC (tkF c) 130 (fun _ => 0) 53) ns) ne x = c x := fun x h1 h5 => by
    rw [enT_o (by omega), stT_o (by omega) (by omega), rC_row (by omega), tkF_o h1]
  have es : ∀ x, x ≠ 122 → (x < 123 ∨ 130 < x) → stT (rC (tkF c) 130 (fun _ => 0) 53) ns x = c x := fun x h1 h5 => by
    rw [stT_o (by omega) (by omega), rC_row (by omega), tkF_o h1]
  have ez : ∀ x, x ≠ 122 → (x < 123 ∨ 130 < x) → rC (tkF c) 130 (fun _ => 0) 53 x = c x := fun x h1 h5 => by
    rw [rC_row (by omega), tkF_o h1]
  have e125 : ∀ j, j < np → tkC c ns ne np 125 j = c 135 j ∧ tkC c ns ne np 126 j = c 136 j ∧ tkC c ns ne np 127 j = c 137 j ∧ tkC c ns ne np 128 j = c 138 j := fun j hj => by
    unfold tkC spT
    rw [nowP_row (by decide), nowP_row (by decide), nowP_row (by decide), nowP_row (by decide)]
    rw [rC_in hj, rC_row (show 127 ≠ 128 by decide), rC_in hj, rC_row (show 126 ≠ 128 by decide), rC_row (show 126 ≠ 127 by decide), rC_in hj, rC_row (show 125 ≠ 128 by decide), rC_row (show 125 ≠ 127 by decide), rC_row (show 125 ≠ 126 by decide), rC_in hj, eb 135 (by decide) (by decide), eb 136 (by decide) (by decide), eb 137 (by decide) (by decide), eb 138 (by decide) (by decide)]
    exact ⟨rfl, rfl, rfl, rfl⟩
  have t0 := tkF_0 (c := c)
  refine ⟨⟨by rw [e122, t0.1, r0], by rw [e122, t0.2.1, r1], by rw [e122, t0.2.2.1, r2], by rw [e122, t0.2.2.2.1, r3], by rw [e122, t0.2.2.2.2, r4]⟩, fun j hj => ?_, fun j hj => ?_, fun j hj => ?_, fun k hk => ?_, fun k hk => by rw [e122, tkF_f hk], eo⟩
  · have z := q1 j (by omega)
    unfold tkC
    rw [spT_o (by decide) (by decide) (by decide) (by decide) (by decide), enT_o (by decide), spT_o (by decide) (by decide) (by decide) (by decide) (by decide), enT_o (by decide)]
    unfold stT
    rw [rC_row (show 123 ≠ 129 by decide), rC_in hj, rC_in hj, ez 133 (by decide) (by decide), ez 139 (by decide) (by decide)]
    exact z
  · have z := q2 j (by omega)
    unfold tkC
    rw [spT_o (by decide) (by decide) (by decide) (by decide) (by decide)]
    unfold enT
    rw [rC_in hj, es 134 (by decide) (by decide)]
    exact z
  · have z := q4 j (by omega)
    have w := e125 j hj
    rw [w.1, w.2.1, w.2.2.1, w.2.2.2]
    exact z
  · have e130 : tkC c ns ne np 130 k = bgN (c 136) np k := by
      unfold tkC spT
      rw [nowP_at hk, eb 136 (by decide) (by decide)]
    rw [e130]
    unfold bgN
    by_cases e : 2 ≤ k ∧ k < 2 + np
    · rw [if_pos e, if_pos e, (e125 (k - 2) (by omega)).2.1]
    · rw [if_neg e, if_neg e]
def TKD (c : HC) (D : HC) (c1 : HC) : Prop := (c1 122 0 = D 0 0 ∧ c1 122 1 = D 0 1 ∧ c1 122 2 = D 0 2 ∧ c1 122 4 = D 0 3 ∧ c1 122 6 = D 0 4) ∧ (∀ j : Nat, (j : Int) < D 0 2 → c1 123 j = D 1 j ∧ c1 129 j = D 3 j) ∧ (∀ j : Nat, (j : Int) < D 0 3 → c1 124 j = D 2 j) ∧ (∀ j : Nat, (j : Int) < D 0 4 → c1 125 j = D 4 j ∧ c1 126 j = D 5 j ∧ c1 127 j = D 6 j ∧ c1 128 j = D 7 j) ∧ (∀ k, k < 53 → c1 130 k = bgN (c1 126) (D 0 4).toNat k) ∧ (∀ k, 6 < k → c1 122 k = c 122 k) ∧ (∀ x, x ≠ 122 → (x < 123 ∨ 130 < x) → x ≠ 140 → x ≠ 141 → c1 x = c x) ∧ ∀ l, l < 42 → LW c1 c1 66660 l
theorem RGV_D {c1 D : HC} (hD : DV D) (h : c1 122 0 = D 0 0 ∧ c1 122 1 = D 0 1 ∧ c1 122 2 = D 0 2 ∧ c1 122 4 = D 0 3 ∧ c1 122 6 = D 0 4) (h1 : ∀ j : Nat, (j : Int) < D 0 2 → c1 123 j = D 1 j ∧ c1 129 j = D 3 j) (h2 : ∀ j : Nat, (j : Int) < D 0 3 → c1 124 j = D 2 j) : RGV c1 := by
  obtain ⟨⟨d0, d1, d2, d3, d4, d5⟩, v1, v2, v4⟩ := hD
  unfold RGV
  rw [h.1, h.2.1, h.2.2.1, h.2.2.2.1]
  exact ⟨d0, d1, d2, d3, fun i hi => by rw [(h1 i hi).1]; exact v1 i hi, fun i hi => by rw [h2 i hi]; exact v2 i hi⟩
theorem RSV_D {c1 D : HC} (hD : DV D) (h6 : c1 122 6 = D 0 4) (h4 : ∀ j : Nat, (j : Int) < D 0 4 → c1 125 j = D 4 j ∧ c1 126 j = D 5 j ∧ c1 127 j = D 6 j ∧ c1 128 j = D 7 j) : RSV c1 (D 0 4).toNat := by
  obtain ⟨⟨d0, d1, d2, d3, d4, d5⟩, v1, v2, v4⟩ := hD
  refine ⟨by omega, by omega, fun p hp => ?_⟩
  have z := h4 p (by omega)
  rw [z.1, z.2.1, z.2.2.1, z.2.2.2]
  exact v4 p (by omega)
set_option maxHeartbeats 4000000 in
set_option maxRecDepth 100000 in
theorem r_takeRead (c D : HC) (hR : RR c D) (hD : DV D) : CC mX11_takeRead 3 c [vr 122] (fun v c1 => v = none ∧ TKD c D c1) := by
  obtain ⟨⟨d0, d1, d2, d3, d4, d5⟩, v1, v2, v4⟩ := id hD
  obtain ⟨ns, hns⟩ := Int.eq_ofNat_of_zero_le d2.1
  obtain ⟨ne, hne⟩ := Int.eq_ofNat_of_zero_le d3.1
  obtain ⟨np, hnp⟩ := Int.eq_ofNat_of_zero_le d4.1
  have hall := tkC_rd hR hD hns hne hnp
  obtain ⟨k1, k2, k3, k4, k5, k6, k7⟩ := hall
  have hg : RGV (tkC c ns ne np) := RGV_D hD k1 (fun j hj => k2 j (by omega)) (fun j hj => k3 j (by omega))
  have hfw := r_findWords (tkC c ns ne np) hg
  have f2 : rC (tkF c) 130 (fun _ => 0) 53 122 2 = (ns : Int) := by rw [rC_row (by decide), tkF_0.2.2.1, hR.1.2.2.1, hns]
  have f4 : stT (rC (tkF c) 130 (fun _ => 0) 53) ns 122 4 = (ne : Int) := by rw [stT_o (by decide) (by decide), rC_row (by decide), tkF_0.2.2.2.1, hR.1.2.2.2.1, hne]
  have f6 : enT (stT (rC (tkF c) 130 (fun _ => 0) 53) ns) ne 122 6 = (np : Int) := by rw [enT_o (by decide), stT_o (by decide) (by decide), rC_row (by decide), tkF_0.2.2.2.2, hR.1.2.2.2.2.1, hnp]
  refine CC.of (by decide +kernel) (leb rfl) (fun hok => ?_)
  refine T_aloadn dX11_takeRead_0 rfl rfl ?_
  refine T_aloadn dX11_takeRead_1 rfl rfl ?_
  refine T_getfin dX11_takeRead_2 fX11_41 (by first | assumption | rfl) (by first | decide | omega) rfl (by first | assumption | rfl) ?_
  refine T_iconst dX11_takeRead_5 (inr rfl) ?_
  refine T_iald (j := 0) dX11_takeRead_6 (by first | assumption | rfl) (by first | decide | omega) (by omega) (by omega) ?_
  refine T_puti dX11_takeRead_7 fX11_170 (by first | assumption | rfl) (by first | decide | omega) rfl rfl ?_
  refine T_aloadn dX11_takeRead_10 rfl rfl ?_
  refine T_aloadn dX11_takeRead_11 rfl rfl ?_
  refine T_getfin dX11_takeRead_12 fX11_41 (by first | assumption | rfl) (by first | decide | omega) rfl (by first | assumption | rfl) ?_
  refine T_iconst dX11_takeRead_15 (inr rfl) ?_
  refine T_ialdv (j := 1) dX11_takeRead_16 (by first | assumption | rfl) (by first | decide | omega) (by omega) (by omega) (up2_a _ _ (by decide)) ?_
  refine T_puti dX11_takeRead_17 fX11_173 (by first | assumption | rfl) (by first | decide | omega) rfl rfl ?_
  refine T_aloadn dX11_takeRead_20 rfl rfl ?_
  refine T_aloadn dX11_takeRead_21 rfl rfl ?_
  refine T_getv dX11_takeRead_22 fX11_139 (by first | assumption | rfl) (by first | decide | omega) rfl ((up2_k _ _ (by decide)).trans (up2_k _ _ (by decide))) ?_
  refine T_puti dX11_takeRead_25 fX11_176 (by first | assumption | rfl) (by first | decide | omega) rfl rfl ?_
  refine T_aloadn dX11_takeRead_28 rfl rfl ?_
  refine T_aloadn dX11_takeRead_29 rfl rfl ?_
  refine T_getv dX11_takeRead_30 fX11_142 (by first | assumption | rfl) (by first | decide | omega) rfl ((up2_k _ _ (by decide)).trans ((up2_k _ _ (by decide)).trans (up2_k _ _ (by decide)))) ?_
  refine T_puti dX11_takeRead_33 fX11_179 (by first | assumption | rfl) (by first | decide | omega) rfl rfl ?_
  refine T_aloadn dX11_takeRead_36 rfl rfl ?_
  refine T_aloadn dX11_takeRead_37 rfl rfl ?_
  refine T_getv dX11_takeRead_38 fX11_145 (by first | assumption | rfl) (by first | decide | omega) rfl ((up2_k _ _ (by decide)).trans ((up2_k _ _ (by decide)).trans ((up2_k _ _ (by decide)).trans (up2_k _ _ (by decide))))) ?_
  refine T_puti dX11_takeRead_41 fX11_93 (by first | assumption | rfl) (by first | decide | omega) rfl rfl ?_
  refine T_iconst dX11_takeRead_44 (inr rfl) ?_
  refine T_istoren dX11_takeRead_45 rfl (by decide) rfl ?_
  refine T_c (show _ = rC (tkF c) 130 (fun _ => 0) 0 by rw [rC_0]; rfl) ?_
  refine rl_tk1 (tkF c) _ ?_ 53 0 (by decide)
  refine T_c (show _ = stT (rC (tkF c) 130 (fun _ => 0) 53) 0 by unfold stT; rw [rC_0, rC_0]) ?_
  refine T_iconst dX11_takeRead_65 (inr rfl) ?_
  refine T_istoren dX11_takeRead_66 rfl (by decide) rfl ?_
  refine rl_tk2 (rC (tkF c) 130 (fun _ => 0) 53) ns f2 (by omega) _ ?_ ns 0 (by omega)
  refine T_c (show _ = enT (stT (rC (tkF c) 130 (fun _ => 0) 53) ns) 0 by unfold enT; rw [rC_0]) ?_
  refine T_iconst dX11_takeRead_105 (inr rfl) ?_
  refine T_istoren dX11_takeRead_106 rfl (by decide) rfl ?_
  refine rl_tk3 (stT (rC (tkF c) 130 (fun _ => 0) 53) ns) ne f4 (by omega) _ ?_ ne 0 (by omega)
  refine T_c (show _ = spT (enT (stT (rC (tkF c) 130 (fun _ => 0) 53) ns) ne) 0 by
    unfold spT
    rw [rC_0, rC_0, rC_0, rC_0]
    funext x y
    unfold nowP
    by_cases e : x = 130 ∧ y < 53
    · obtain ⟨e1, e2⟩ := e
      subst e1
      rw [rC_in e2, enT_o (by decide), stT_o (by decide) (by decide), rC_in e2]
      unfold bgN
      rw [if_neg (by omega)]
    · unfold rC
      rw [if_neg e]) ?_
  refine T_iconst dX11_takeRead_133 (inr rfl) ?_
  refine T_istoren dX11_takeRead_134 rfl (by decide) rfl ?_
  refine rl_tk4 (enT (stT (rC (tkF c) 130 (fun _ => 0) 53) ns) ne) np f6 (by omega) _ ?_ np 0 (by omega)
  refine T_aloadn dX11_takeRead_211 rfl rfl ?_
  refine TT_V dX11_takeRead_212 (hfw) kX11_182 (by decide) (by first | decide | omega) (by first | assumption | rfl) rfl (leb rfl) (fun v c1 hq => ?_)
  obtain ⟨rfl, hF, hL⟩ := hq
  refine TT_rv dX11_takeRead_215 trivial ?_
  have e122 : c1 122 = tkC c ns ne np 122 := hF 122 (by decide) (by decide)
  have ex : ∀ x, x < 140 → c1 x = tkC c ns ne np x := fun x hx => hF x (by omega) (by omega)
  have el : ∀ w, lenR c1 w = lenR (tkC c ns ne np) w := fun w => lenR_row (fun k _ => by rw [e122]) (ex _ (by decide)) (ex _ (by decide)) (ex _ (by decide)) w
  refine ⟨rfl, ?_, fun j hj => ?_, fun j hj => ?_, fun j hj => ?_, fun k hk => ?_, fun k hk => ?_, fun x h1 h2 h3 h4 => ?_, fun l hl => ?_⟩
  · rw [e122]; exact k1
  · rw [ex 123 (by decide), ex 129 (by decide)]; exact k2 j (by omega)
  · rw [ex 124 (by decide)]; exact k3 j (by omega)
  · rw [ex 125 (by decide), ex 126 (by decide), ex 127 (by decide), ex 128 (by decide)]; exact k4 j (by omega)
  · rw [ex 130 (by decide), ex 126 (by decide), show (D 0 4).toNat = np by omega]; exact k5 k hk
  · rw [e122]; exact k6 k hk
  · rw [hF x h3 h4]; exact k7 x h1 h2
  · have z := hL l hl
    unfold LW FL1 at z ⊢
    simp only [el]
    exact z
