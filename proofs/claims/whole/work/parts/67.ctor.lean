/-! constructors -/
def NF : Nat → Nat → Option Nat := fun _ _ => none
theorem SHl : SH.length = 149 := by decide +kernel
theorem tk {n : Nat} {p : Nat × Nat} (h : SH[n]? = some p) : SH.take n ++ [p] = SH.take (n + 1) := by
  rw [List.take_succ, h]
  rfl
theorem tkl {n : Nat} (h : n ≤ 149) : (SH.take n).length = n := by
  rw [List.length_take, SHl]
  omega
theorem tka {n a : Nat} {p : Nat × Nat} (h : a < n) (hS : SH[a]? = some p) : (SH.take n)[a]? = some p := by
  rw [List.getElem?_take, if_pos h]
  exact hS
section NN
variable {X : Option (Nat × (Nat → Int32))} {μ : MI} {d bc bs pc : Nat} {fin : Nat → Nat → Option Nat} {ls : PL} {st : List PV} {c : HC} {Q : Option PV → SHP → HC → Prop}
theorem TR_v {sh : SHP} (hd : decode μ.2.1 pc = .ok (.return_, 1)) (hr : retOK μ.2.2.2 none) (hq : Q none sh c) : T X μ d fin bc bs sh pc ls [] c Q := T_ret (v := none) hd hr hq
theorem T_sh {sh sh2 : SHP} (h : sh = sh2) (k : T X μ d fin bc bs sh2 pc ls st c Q) : T X μ d fin bc bs sh pc ls st c Q := by
  subst h
  exact k
theorem N_new {n idx ci : Nat} {r : vw_C} (hd : decode μ.2.1 pc = .ok (.new idx, 3)) (hr : vwCl[ci]? = some r) (hcl : Cond.classLink μ.1.cls idx r.1 ∈ lw_tbl) (hin : Cond.instantiable r.1 r.2.2 ∈ lw_tbl) (hini : Cond.initialized r.1 ∈ lw_tbl) (h0 : 0 < n) (hn : n ≤ 148) (hS : SH[n]? = some (0, ci)) (hdf : ∀ k, k < r.2.2 → (defaultValue (fty ci k) == (if isRf (fty ci k) then .null else .int 0)) = true) (kk : T X μ d fin bc bs (SH.take (n + 1)) (pc + 3) ls (vr n :: st) c Q) : T X μ d fin (bc + 1) (bs + r.2.2) (SH.take n) pc ls st c Q :=
  T_new hd hr hcl hin hini (by rw [tkl (by omega)]; exact h0) hdf (by rw [tk hS, tkl (by omega)]; exact kk)
theorem N_newa {n t N : Nat} {at_ : ArrayType} (hd : decode μ.2.1 pc = .ok (.newarray at_, 2)) (ht : t < 3) (hat : newarray.typeOf at_ = tgTy t) (hw : Cond.arrayClass (tgTy t) ∈ lw_tbl) (hN : N ≤ 100000) (h0 : 0 < n) (hn : n ≤ 148) (hS : SH[n]? = some (t + 1, N)) (kk : T X μ d fin bc bs (SH.take (n + 1)) (pc + 2) ls (vr n :: st) c Q) : T X μ d fin (bc + 1) (bs + N) (SH.take n) pc ls (vi (N : Int) :: st) c Q :=
  T_newa hd ht hat hw hN (by rw [tkl (by omega)]; exact h0) (by rw [tk hS, tkl (by omega)]; exact kk)
theorem N_anew {n t N idx : Nat} {C : String} (hd : decode μ.2.1 pc = .ok (.anewarray idx, 3)) (ht : t = 3 ∨ t = 4) (hC : tgTy t = .object C) (hcl : Cond.classLink μ.1.cls idx C ∈ lw_tbl) (hw : Cond.arrayOver (.object C) ∈ lw_tbl) (hN : N ≤ 100000) (h0 : 0 < n) (hn : n ≤ 148) (hS : SH[n]? = some (t + 1, N)) (kk : T X μ d fin bc bs (SH.take (n + 1)) (pc + 3) ls (vr n :: st) c Q) : T X μ d fin (bc + 1) (bs + N) (SH.take n) pc ls (vi (N : Int) :: st) c Q :=
  T_anew hd ht hC hcl hw hN (by rw [tkl (by omega)]; exact h0) (by rw [tk hS, tkl (by omega)]; exact kk)
theorem N_mnew {n idx : Nat} (hd : decode μ.2.1 pc = .ok (.multianewarray idx 2, 4)) (hcl : Cond.classLink μ.1.cls idx "[[I" ∈ lw_tbl) (h0 : 0 < n) (hn : n ≤ 142) (hS : SH.take n ++ mSH = SH.take (n + 7)) (kk : T X μ d fin bc bs (SH.take (n + 7)) (pc + 4) ls (vr n :: st) (rC c n (fun j => ((n + 1 + j : Nat) : Int)) 6) Q) : T X μ d fin (bc + 7) (bs + 42) (SH.take n) pc ls (vi 6 :: vi 6 :: st) c Q :=
  T_mnew hd hcl (by rw [tkl (by omega)]; exact h0) (by rw [tkl (by omega)]; omega) (by rw [hS, tkl (by omega)]; exact kk)
end NN
def stC (c : HC) (n : Nat) : HC := up2 (up2 c n 0 ((n + 1 : Nat) : Int)) n 1 ((n + 1 + 1 : Nat) : Int)
def paL (c : HC) : Nat → HC
  | 0 => c
  | i + 1 => up2 (stC (paL c i) (9 + 3 * i)) 8 i ((9 + 3 * i : Nat) : Int)
theorem paL_7 (c : HC) : ∀ i, paL c i 7 0 = c 7 0
  | 0 => rfl
  | i + 1 => by
    show up2 (up2 (up2 (paL c i) (9 + 3 * i) 0 _) (9 + 3 * i) 1 _) 8 i _ 7 0 = _
    rw [up2_a _ _ (by decide), up2_a _ _ (by omega), up2_a _ _ (by omega)]
    exact paL_7 c i
set_option maxHeartbeats 4000000 in
set_option maxRecDepth 100000 in
theorem k_st (c : HC) (n : Nat) (h0 : 0 < n) (hn : n ≤ 140) (s0 : SH[n]? = some (0, 8)) (s1 : SH[n + 1]? = some (1, 10)) (s2 : SH[n + 1 + 1]? = some (1, 40)) : Cl mX8_init 1 2 50 NF (SH.take (n + 1)) c [vr n] (fun v s_ c_ => v = none ∧ s_ = SH.take (n + 1 + 1 + 1) ∧ c_ = stC c n) := by
  refine Cl.of (by decide +kernel) (leb rfl) (fun hok => ?_)
  refine T_aloadn dX8_init_0 rfl rfl ?_
  refine T_objInit dX8_init_1 kX8_3 wo_inst wo_code (by first | decide | omega) (by decide) (leb rfl) ?_
  refine T_aloadn dX8_init_4 rfl rfl ?_
  refine T_bipush dX8_init_5 (bp8 rfl) (inr rfl) ?_
  refine N_newa (n := n + 1) (bc := 1) (bs := 40) (t := 0) (N := 10) dX8_init_7 (by decide) rfl wac_int (by decide) (by omega) (by omega) s1 ?_
  refine T_putF (r := (RX8, TX8, 5)) (k := 0) (ci := 8) dX8_init_9 rfl (by decide) fX8_9F rfl rfl (tka (by omega) s0) (by first | decide | omega) rfl rfl (by first | decide | omega) rfl ?_
  refine T_aloadn dX8_init_12 rfl rfl ?_
  refine T_bipush dX8_init_13 (bp8 rfl) (inr rfl) ?_
  refine N_newa (n := n + 1 + 1) (bc := 0) (bs := 0) (t := 0) (N := 40) dX8_init_15 (by decide) rfl wac_int (by decide) (by omega) (by omega) s2 ?_
  refine T_putF (r := (RX8, TX8, 5)) (k := 1) (ci := 8) dX8_init_17 rfl (by decide) fX8_15F rfl rfl (tka (by omega) s0) (by first | decide | omega) rfl rfl (by first | decide | omega) rfl ?_
  refine TR_v dX8_init_20 trivial ?_
  exact ⟨rfl, rfl, rfl⟩
def e_tx (c : HC) : HC := (up2 (up2 (up2 c 2 0 ((3 : Nat) : Int)) 2 4 (0)) 2 5 (-1))
set_option maxHeartbeats 4000000 in
set_option maxRecDepth 100000 in
theorem k_tx (c : HC) : Cl mX9_init 1 1 250 NF (SH.take 3) c [vr 2] (fun v s_ c_ => v = none ∧ s_ = SH.take 4 ∧ c_ = e_tx c) := by
  refine Cl.of (by decide +kernel) (leb rfl) (fun hok => ?_)
  refine T_aloadn dX9_init_0 rfl rfl ?_
  refine T_objInit dX9_init_1 kX9_3 wo_inst wo_code (by first | decide | omega) (by decide) (leb rfl) ?_
  refine T_aloadn dX9_init_4 rfl rfl ?_
  refine T_sipush dX9_init_5 (bp16 rfl) (inr rfl) ?_
  refine N_newa (n := 3) (bc := 0) (bs := 0) (t := 1) (N := 250) dX9_init_8 (by decide) rfl wac_char (by decide) (by decide) (by decide) rfl ?_
  refine T_putF (r := (RX9, TX9, 6)) (k := 0) (ci := 9) dX9_init_10 rfl (by decide) fX9_9F rfl rfl (tka (by decide) rfl) (by first | decide | omega) rfl rfl (by first | decide | omega) rfl ?_
  refine T_aloadn dX9_init_13 rfl rfl ?_
  refine T_iconst dX9_init_14 (inr rfl) ?_
  refine T_puti dX9_init_15 fX9_15 (tka (by decide) rfl) (by first | decide | omega) rfl rfl ?_
  refine T_aloadn dX9_init_18 rfl rfl ?_
  refine T_iconst dX9_init_19 (inr rfl) ?_
  refine T_puti dX9_init_20 fX9_19 (tka (by decide) rfl) (by first | decide | omega) rfl rfl ?_
  refine TR_v dX9_init_23 trivial ?_
  exact ⟨rfl, rfl, rfl⟩
def e_pa (c : HC) : HC := paL (up2 c 7 0 ((8 : Nat) : Int)) 20
set_option maxHeartbeats 4000000 in
set_option maxRecDepth 100000 in
theorem l_pa (c : HC) (h70 : c 7 0 = ((8 : Nat) : Int)) : ∀ (k i : Nat), i + k = 20 → T none mX5_init 2 NF (3 * k) (55 * k) (SH.take (9 + 3 * i)) 15 [(0, vr 7), (1, vi (i : Int))] [] (paL c i) (fun v s_ c_ => v = none ∧ s_ = SH.take 69 ∧ c_ = paL c 20) := by
  intro k
  induction k with
  | zero =>
    intro i hk
    have e : i = 20 := by omega
    subst e
    refine T_iloadn dX5_init_15 rfl rfl ?_
    refine T_bipush dX5_init_16 (bp8 rfl) (inr rfl) ?_
    refine T_icmp_ge (tgt := 40) dX5_init_18 rfl (fun hb => ?_) (fun hb => absurd hb (by decide))
    refine TR_v dX5_init_40 trivial ?_
    exact ⟨rfl, rfl, rfl⟩
  | succ k ih =>
    intro i hk
    have h := ih (i + 1) (by omega)
    have q := stK20 i (by omega)
    rw [show 3 * (k + 1) = 3 * k + 2 + 1 by omega, show 55 * (k + 1) = 55 * k + 50 + 5 by omega]
    refine T_iloadn dX5_init_15 rfl rfl ?_
    refine T_bipush dX5_init_16 (bp8 rfl) (inr rfl) ?_
    refine T_icmp_ge (tgt := 40) dX5_init_18 rfl (fun hb => absurd hb (by omega)) (fun hb => ?_)
    refine T_aloadn dX5_init_21 rfl rfl ?_
    refine T_getr (r := 8) dX5_init_22 fX5_11 (tka (by omega) rfl) (by decide) rfl ((paL_7 c i).trans h70) ?_
    refine T_iloadn dX5_init_25 rfl rfl ?_
    refine N_new (n := 9 + 3 * i) (bc := 3 * k + 2) (bs := 55 * k + 50) (ci := 8) (r := (RX8, TX8, 5)) dX5_init_26 rfl nX5_9 wn_X8 wi_X8 (by omega) (by omega) q.2.1 (by decide) ?_
    refine T_dup dX5_init_29 rfl ?_
    refine T_callI (As := []) (bc := 3 * k) (bs := 55 * k) (mc := 2) (ms := 50) dX5_init_30 kX5_15 (k_st (paL c i) (9 + 3 * i) (by omega) (by omega) q.2.1 q.2.2.1 q.2.2.2.1) (by decide) (by omega) rfl (leb rfl) (fun v_ s_ c_ hq => ?_)
    obtain ⟨rfl, rfl, rfl⟩ := hq
    refine T_aast (t := 3) (x := 9 + 3 * i) (j := i) (ci := 8) (r := (RX8, TX8, 5)) dX5_init_33 (tka (by omega) rfl) (by decide) (by decide) rfl rfl (tka (by omega) q.2.1) (by omega) (by omega) rfl rfl (by omega) ?_
    refine T_iincN dX5_init_34 rfl (by decide) rfl (by omega) ?_
    refine T_goto (tgt := 15) dX5_init_37 rfl ?_
    exact h
set_option maxHeartbeats 4000000 in
set_option maxRecDepth 100000 in
theorem k_pa (c : HC) : Cl mX5_init 2 61 1120 NF (SH.take 8) c [vr 7] (fun v s_ c_ => v = none ∧ s_ = SH.take 69 ∧ c_ = e_pa c) := by
  refine Cl.of (by decide +kernel) (leb rfl) (fun hok => ?_)
  refine T_aloadn dX5_init_0 rfl rfl ?_
  refine T_objInit dX5_init_1 kX5_1 wo_inst wo_code (by first | decide | omega) (by decide) (leb rfl) ?_
  refine T_aloadn dX5_init_4 rfl rfl ?_
  refine T_bipush dX5_init_5 (bp8 rfl) (inr rfl) ?_
  refine N_anew (n := 8) (bc := 60) (bs := 1100) (t := 3) (N := 20) (C := RX8) dX5_init_7 (Or.inl rfl) rfl nX5_9 wao_X8 (by decide) (by decide) (by decide) rfl ?_
  refine T_putF (r := (RX5, TX5, 3)) (k := 0) (ci := 5) dX5_init_10 rfl (by decide) fX5_11F rfl rfl (tka (by decide) rfl) (by first | decide | omega) rfl rfl (by first | decide | omega) rfl ?_
  refine T_iconst dX5_init_13 (inr rfl) ?_
  refine T_istoren dX5_init_14 rfl (by decide) rfl ?_
  exact l_pa (up2 c 7 0 ((8 : Nat) : Int)) rfl 20 0 (by decide)
def e_gm (c : HC) : HC := (up2 (up2 (up2 (up2 c 70 0 ((71 : Nat) : Int)) 70 1 ((72 : Nat) : Int)) 70 2 ((73 : Nat) : Int)) 70 3 (1))
set_option maxHeartbeats 4000000 in
set_option maxRecDepth 100000 in
theorem k_gm (c : HC) : Cl mX2_init 1 3 3072 NF (SH.take 71) c [vr 70] (fun v s_ c_ => v = none ∧ s_ = SH.take 74 ∧ c_ = e_gm c) := by
  refine Cl.of (by decide +kernel) (leb rfl) (fun hok => ?_)
  refine T_aloadn dX2_init_0 rfl rfl ?_
  refine T_objInit dX2_init_1 kX2_3 wo_inst wo_code (by first | decide | omega) (by decide) (leb rfl) ?_
  refine T_aloadn dX2_init_4 rfl rfl ?_
  refine T_sipush dX2_init_5 (bp16 rfl) (inr rfl) ?_
  refine N_newa (n := 71) (bc := 2) (bs := 2048) (t := 0) (N := 1024) dX2_init_8 (by decide) rfl wac_int (by decide) (by decide) (by decide) rfl ?_
  refine T_putF (r := (RX2, TX2, 4)) (k := 0) (ci := 2) dX2_init_10 rfl (by decide) fX2_9F rfl rfl (tka (by decide) rfl) (by first | decide | omega) rfl rfl (by first | decide | omega) rfl ?_
  refine T_aloadn dX2_init_13 rfl rfl ?_
  refine T_sipush dX2_init_14 (bp16 rfl) (inr rfl) ?_
  refine N_newa (n := 72) (bc := 1) (bs := 1024) (t := 0) (N := 1024) dX2_init_17 (by decide) rfl wac_int (by decide) (by decide) (by decide) rfl ?_
  refine T_putF (r := (RX2, TX2, 4)) (k := 1) (ci := 2) dX2_init_19 rfl (by decide) fX2_13F rfl rfl (tka (by decide) rfl) (by first | decide | omega) rfl rfl (by first | decide | omega) rfl ?_
  refine T_aloadn dX2_init_22 rfl rfl ?_
  refine T_sipush dX2_init_23 (bp16 rfl) (inr rfl) ?_
  refine N_newa (n := 73) (bc := 0) (bs := 0) (t := 0) (N := 1024) dX2_init_26 (by decide) rfl wac_int (by decide) (by decide) (by decide) rfl ?_
  refine T_putF (r := (RX2, TX2, 4)) (k := 2) (ci := 2) dX2_init_28 rfl (by decide) fX2_16F rfl rfl (tka (by decide) rfl) (by first | decide | omega) rfl rfl (by first | decide | omega) rfl ?_
  refine T_aloadn dX2_init_31 rfl rfl ?_
  refine T_iconst dX2_init_32 (inr rfl) ?_
  refine T_puti dX2_init_33 fX2_19 (tka (by decide) rfl) (by first | decide | omega) rfl rfl ?_
  refine TR_v dX2_init_36 trivial ?_
  exact ⟨rfl, rfl, rfl⟩
def e_ro (c : HC) : HC := (up2 (up2 (rC (up2 c 74 0 ((75 : Nat) : Int)) 76 (fun j => ((76 + 1 + j : Nat) : Int)) 6) 74 1 ((76 : Nat) : Int)) 74 2 ((83 : Nat) : Int))
set_option maxHeartbeats 4000000 in
set_option maxRecDepth 100000 in
theorem k_ro (c : HC) : Cl mX6_init 1 9 112 NF (SH.take 75) c [vr 74] (fun v s_ c_ => v = none ∧ s_ = SH.take 84 ∧ c_ = e_ro c) := by
  refine Cl.of (by decide +kernel) (leb rfl) (fun hok => ?_)
  refine T_aloadn dX6_init_0 rfl rfl ?_
  refine T_objInit dX6_init_1 kX6_3 wo_inst wo_code (by first | decide | omega) (by decide) (leb rfl) ?_
  refine T_aloadn dX6_init_4 rfl rfl ?_
  refine T_bipush dX6_init_5 (bp8 rfl) (inr rfl) ?_
  refine N_newa (n := 75) (bc := 8) (bs := 106) (t := 0) (N := 6) dX6_init_7 (by decide) rfl wac_int (by decide) (by decide) (by decide) rfl ?_
  refine T_putF (r := (RX6, TX6, 4)) (k := 0) (ci := 6) dX6_init_9 rfl (by decide) fX6_11F rfl rfl (tka (by decide) rfl) (by first | decide | omega) rfl rfl (by first | decide | omega) rfl ?_
  refine T_aloadn dX6_init_12 rfl rfl ?_
  refine T_bipush dX6_init_13 (bp8 rfl) (inr rfl) ?_
  refine T_bipush dX6_init_15 (bp8 rfl) (inr rfl) ?_
  refine N_mnew (n := 76) (bc := 1) (bs := 64) dX6_init_17 nX6_15 (by decide) (by decide) (by decide) ?_
  refine T_putF (r := (RX6, TX6, 4)) (k := 1) (ci := 6) dX6_init_21 rfl (by decide) fX6_17F rfl rfl (tka (by decide) rfl) (by first | decide | omega) rfl rfl (by first | decide | omega) rfl ?_
  refine T_aloadn dX6_init_24 rfl rfl ?_
  refine T_bipush dX6_init_25 (bp8 rfl) (inr rfl) ?_
  refine N_newa (n := 83) (bc := 0) (bs := 0) (t := 0) (N := 64) dX6_init_27 (by decide) rfl wac_int (by decide) (by decide) (by decide) rfl ?_
  refine T_putF (r := (RX6, TX6, 4)) (k := 2) (ci := 6) dX6_init_29 rfl (by decide) fX6_20F rfl rfl (tka (by decide) rfl) (by first | decide | omega) rfl rfl (by first | decide | omega) rfl ?_
  refine TR_v dX6_init_32 trivial ?_
  exact ⟨rfl, rfl, rfl⟩
def e_dr (c : HC) : HC := c
set_option maxHeartbeats 4000000 in
set_option maxRecDepth 100000 in
theorem k_dr (c : HC) : Cl mX0_init 1 0 0 NF (SH.take 88) c [vr 87] (fun v s_ c_ => v = none ∧ s_ = SH.take 88 ∧ c_ = e_dr c) := by
  refine Cl.of (by decide +kernel) (leb rfl) (fun hok => ?_)
  refine T_aloadn dX0_init_0 rfl rfl ?_
  refine T_objInit dX0_init_1 kX0_1 wo_inst wo_code (by first | decide | omega) (by decide) (leb rfl) ?_
  refine TR_v dX0_init_4 trivial ?_
  exact ⟨rfl, rfl, rfl⟩
def e_gr88 (c : HC) : HC := (up2 (up2 (up2 (up2 (up2 (up2 c 89 0 ((90 : Nat) : Int)) 89 1 ((91 : Nat) : Int)) 89 2 ((92 : Nat) : Int)) 89 3 ((93 : Nat) : Int)) 89 4 ((94 : Nat) : Int)) 89 5 ((95 : Nat) : Int))
set_option maxHeartbeats 4000000 in
set_option maxRecDepth 100000 in
theorem k_gr88 (c : HC) : Cl mX3_init 1 6 142 NF (SH.take 90) c [vr 89] (fun v s_ c_ => v = none ∧ s_ = SH.take 96 ∧ c_ = e_gr88 c) := by
  refine Cl.of (by decide +kernel) (leb rfl) (fun hok => ?_)
  refine T_aloadn dX3_init_0 rfl rfl ?_
  refine T_objInit dX3_init_1 kX3_3 wo_inst wo_code (by first | decide | omega) (by decide) (leb rfl) ?_
  refine T_aloadn dX3_init_4 rfl rfl ?_
  refine T_bipush dX3_init_5 (bp8 rfl) (inr rfl) ?_
  refine N_newa (n := 90) (bc := 5) (bs := 136) (t := 0) (N := 6) dX3_init_7 (by decide) rfl wac_int (by decide) (by decide) (by decide) rfl ?_
  refine T_putF (r := (RX3, TX3, 11)) (k := 0) (ci := 3) dX3_init_9 rfl (by decide) fX3_11F rfl rfl (tka (by decide) rfl) (by first | decide | omega) rfl rfl (by first | decide | omega) rfl ?_
  refine T_aloadn dX3_init_12 rfl rfl ?_
  refine T_iconst dX3_init_13 (inr rfl) ?_
  refine N_newa (n := 91) (bc := 4) (bs := 132) (t := 0) (N := 4) dX3_init_14 (by decide) rfl wac_int (by decide) (by decide) (by decide) rfl ?_
  refine T_putF (r := (RX3, TX3, 11)) (k := 1) (ci := 3) dX3_init_16 rfl (by decide) fX3_15F rfl rfl (tka (by decide) rfl) (by first | decide | omega) rfl rfl (by first | decide | omega) rfl ?_
  refine T_aloadn dX3_init_19 rfl rfl ?_
  refine T_bipush dX3_init_20 (bp8 rfl) (inr rfl) ?_
  refine N_newa (n := 92) (bc := 3) (bs := 126) (t := 0) (N := 6) dX3_init_22 (by decide) rfl wac_int (by decide) (by decide) (by decide) rfl ?_
  refine T_putF (r := (RX3, TX3, 11)) (k := 2) (ci := 3) dX3_init_24 rfl (by decide) fX3_18F rfl rfl (tka (by decide) rfl) (by first | decide | omega) rfl rfl (by first | decide | omega) rfl ?_
  refine T_aloadn dX3_init_27 rfl rfl ?_
  refine T_bipush dX3_init_28 (bp8 rfl) (inr rfl) ?_
  refine N_newa (n := 93) (bc := 2) (bs := 84) (t := 0) (N := 42) dX3_init_30 (by decide) rfl wac_int (by decide) (by decide) (by decide) rfl ?_
  refine T_putF (r := (RX3, TX3, 11)) (k := 3) (ci := 3) dX3_init_32 rfl (by decide) fX3_21F rfl rfl (tka (by decide) rfl) (by first | decide | omega) rfl rfl (by first | decide | omega) rfl ?_
  refine T_aloadn dX3_init_35 rfl rfl ?_
  refine T_bipush dX3_init_36 (bp8 rfl) (inr rfl) ?_
  refine N_newa (n := 94) (bc := 1) (bs := 42) (t := 0) (N := 42) dX3_init_38 (by decide) rfl wac_int (by decide) (by decide) (by decide) rfl ?_
  refine T_putF (r := (RX3, TX3, 11)) (k := 4) (ci := 3) dX3_init_40 rfl (by decide) fX3_24F rfl rfl (tka (by decide) rfl) (by first | decide | omega) rfl rfl (by first | decide | omega) rfl ?_
  refine T_aloadn dX3_init_43 rfl rfl ?_
  refine T_bipush dX3_init_44 (bp8 rfl) (inr rfl) ?_
  refine N_newa (n := 95) (bc := 0) (bs := 0) (t := 0) (N := 42) dX3_init_46 (by decide) rfl wac_int (by decide) (by decide) (by decide) rfl ?_
  refine T_putF (r := (RX3, TX3, 11)) (k := 5) (ci := 3) dX3_init_48 rfl (by decide) fX3_27F rfl rfl (tka (by decide) rfl) (by first | decide | omega) rfl rfl (by first | decide | omega) rfl ?_
  refine TR_v dX3_init_51 trivial ?_
  exact ⟨rfl, rfl, rfl⟩
def e_sp88 (c : HC) : HC := (up2 (up2 (up2 (up2 c 96 0 ((97 : Nat) : Int)) 96 1 ((98 : Nat) : Int)) 96 2 ((99 : Nat) : Int)) 96 3 ((100 : Nat) : Int))
set_option maxHeartbeats 4000000 in
set_option maxRecDepth 100000 in
theorem k_sp88 (c : HC) : Cl mX7_init 1 4 40 NF (SH.take 97) c [vr 96] (fun v s_ c_ => v = none ∧ s_ = SH.take 101 ∧ c_ = e_sp88 c) := by
  refine Cl.of (by decide +kernel) (leb rfl) (fun hok => ?_)
  refine T_aloadn dX7_init_0 rfl rfl ?_
  refine T_objInit dX7_init_1 kX7_3 wo_inst wo_code (by first | decide | omega) (by decide) (leb rfl) ?_
  refine T_aloadn dX7_init_4 rfl rfl ?_
  refine T_bipush dX7_init_5 (bp8 rfl) (inr rfl) ?_
  refine N_newa (n := 97) (bc := 3) (bs := 30) (t := 0) (N := 10) dX7_init_7 (by decide) rfl wac_int (by decide) (by decide) (by decide) rfl ?_
  refine T_putF (r := (RX7, TX7, 5)) (k := 0) (ci := 7) dX7_init_9 rfl (by decide) fX7_9F rfl rfl (tka (by decide) rfl) (by first | decide | omega) rfl rfl (by first | decide | omega) rfl ?_
  refine T_aloadn dX7_init_12 rfl rfl ?_
  refine T_bipush dX7_init_13 (bp8 rfl) (inr rfl) ?_
  refine N_newa (n := 98) (bc := 2) (bs := 20) (t := 0) (N := 10) dX7_init_15 (by decide) rfl wac_int (by decide) (by decide) (by decide) rfl ?_
  refine T_putF (r := (RX7, TX7, 5)) (k := 1) (ci := 7) dX7_init_17 rfl (by decide) fX7_15F rfl rfl (tka (by decide) rfl) (by first | decide | omega) rfl rfl (by first | decide | omega) rfl ?_
  refine T_aloadn dX7_init_20 rfl rfl ?_
  refine T_bipush dX7_init_21 (bp8 rfl) (inr rfl) ?_
  refine N_newa (n := 99) (bc := 1) (bs := 10) (t := 0) (N := 10) dX7_init_23 (by decide) rfl wac_int (by decide) (by decide) (by decide) rfl ?_
  refine T_putF (r := (RX7, TX7, 5)) (k := 2) (ci := 7) dX7_init_25 rfl (by decide) fX7_18F rfl rfl (tka (by decide) rfl) (by first | decide | omega) rfl rfl (by first | decide | omega) rfl ?_
  refine T_aloadn dX7_init_28 rfl rfl ?_
  refine T_bipush dX7_init_29 (bp8 rfl) (inr rfl) ?_
  refine N_newa (n := 100) (bc := 0) (bs := 0) (t := 0) (N := 10) dX7_init_31 (by decide) rfl wac_int (by decide) (by decide) (by decide) rfl ?_
  refine T_putF (r := (RX7, TX7, 5)) (k := 3) (ci := 7) dX7_init_33 rfl (by decide) fX7_21F rfl rfl (tka (by decide) rfl) (by first | decide | omega) rfl rfl (by first | decide | omega) rfl ?_
  refine TR_v dX7_init_36 trivial ?_
  exact ⟨rfl, rfl, rfl⟩
def e_fe88 (c : HC) : HC := (up2 (e_sp88 (up2 (e_gr88 c) 88 0 ((89 : Nat) : Int))) 88 1 ((96 : Nat) : Int))
set_option maxHeartbeats 4000000 in
set_option maxRecDepth 100000 in
theorem k_fe88 (c : HC) : Cl mX1_init 2 12 198 NF (SH.take 89) c [vr 88] (fun v s_ c_ => v = none ∧ s_ = SH.take 101 ∧ c_ = e_fe88 c) := by
  refine Cl.of (by decide +kernel) (leb rfl) (fun hok => ?_)
  refine T_aloadn dX1_init_0 rfl rfl ?_
  refine T_objInit dX1_init_1 kX1_1 wo_inst wo_code (by first | decide | omega) (by decide) (leb rfl) ?_
  refine T_aloadn dX1_init_4 rfl rfl ?_
  refine N_new (n := 89) (bc := 11) (bs := 187) (ci := 3) (r := (RX3, TX3, 11)) dX1_init_5 rfl nX1_7 wn_X3 wi_X3 (by decide) (by decide) rfl (by decide) ?_
  refine T_dup dX1_init_8 rfl ?_
  refine T_callI (As := []) (bc := 5) (bs := 45) (mc := 6) (ms := 142) dX1_init_9 kX1_9 (k_gr88 c) (by decide) (by decide) rfl (leb rfl) (fun v_ s_ c_ hq => ?_)
  obtain ⟨rfl, rfl, rfl⟩ := hq
  refine T_putF (r := (RX1, TX1, 2)) (k := 0) (ci := 1) dX1_init_12 rfl (by decide) fX1_10F rfl rfl (tka (by decide) rfl) (by first | decide | omega) rfl rfl (by first | decide | omega) rfl ?_
  refine T_aloadn dX1_init_15 rfl rfl ?_
  refine N_new (n := 96) (bc := 4) (bs := 40) (ci := 7) (r := (RX7, TX7, 5)) dX1_init_16 rfl nX1_16 wn_X7 wi_X7 (by decide) (by decide) rfl (by decide) ?_
  refine T_dup dX1_init_19 rfl ?_
  refine T_callI (As := []) (bc := 0) (bs := 0) (mc := 4) (ms := 40) dX1_init_20 kX1_18 (k_sp88 (up2 (e_gr88 c) 88 0 ((89 : Nat) : Int))) (by decide) (by decide) rfl (leb rfl) (fun v_ s_ c_ hq => ?_)
  obtain ⟨rfl, rfl, rfl⟩ := hq
  refine T_putF (r := (RX1, TX1, 2)) (k := 1) (ci := 1) dX1_init_23 rfl (by decide) fX1_19F rfl rfl (tka (by decide) rfl) (by first | decide | omega) rfl rfl (by first | decide | omega) rfl ?_
  refine TR_v dX1_init_26 trivial ?_
  exact ⟨rfl, rfl, rfl⟩
def e_gr101 (c : HC) : HC := (up2 (up2 (up2 (up2 (up2 (up2 c 102 0 ((103 : Nat) : Int)) 102 1 ((104 : Nat) : Int)) 102 2 ((105 : Nat) : Int)) 102 3 ((106 : Nat) : Int)) 102 4 ((107 : Nat) : Int)) 102 5 ((108 : Nat) : Int))
set_option maxHeartbeats 4000000 in
set_option maxRecDepth 100000 in
theorem k_gr101 (c : HC) : Cl mX3_init 1 6 142 NF (SH.take 103) c [vr 102] (fun v s_ c_ => v = none ∧ s_ = SH.take 109 ∧ c_ = e_gr101 c) := by
  refine Cl.of (by decide +kernel) (leb rfl) (fun hok => ?_)
  refine T_aloadn dX3_init_0 rfl rfl ?_
  refine T_objInit dX3_init_1 kX3_3 wo_inst wo_code (by first | decide | omega) (by decide) (leb rfl) ?_
  refine T_aloadn dX3_init_4 rfl rfl ?_
  refine T_bipush dX3_init_5 (bp8 rfl) (inr rfl) ?_
  refine N_newa (n := 103) (bc := 5) (bs := 136) (t := 0) (N := 6) dX3_init_7 (by decide) rfl wac_int (by decide) (by decide) (by decide) rfl ?_
  refine T_putF (r := (RX3, TX3, 11)) (k := 0) (ci := 3) dX3_init_9 rfl (by decide) fX3_11F rfl rfl (tka (by decide) rfl) (by first | decide | omega) rfl rfl (by first | decide | omega) rfl ?_
  refine T_aloadn dX3_init_12 rfl rfl ?_
  refine T_iconst dX3_init_13 (inr rfl) ?_
  refine N_newa (n := 104) (bc := 4) (bs := 132) (t := 0) (N := 4) dX3_init_14 (by decide) rfl wac_int (by decide) (by decide) (by decide) rfl ?_
  refine T_putF (r := (RX3, TX3, 11)) (k := 1) (ci := 3) dX3_init_16 rfl (by decide) fX3_15F rfl rfl (tka (by decide) rfl) (by first | decide | omega) rfl rfl (by first | decide | omega) rfl ?_
  refine T_aloadn dX3_init_19 rfl rfl ?_
  refine T_bipush dX3_init_20 (bp8 rfl) (inr rfl) ?_
  refine N_newa (n := 105) (bc := 3) (bs := 126) (t := 0) (N := 6) dX3_init_22 (by decide) rfl wac_int (by decide) (by decide) (by decide) rfl ?_
  refine T_putF (r := (RX3, TX3, 11)) (k := 2) (ci := 3) dX3_init_24 rfl (by decide) fX3_18F rfl rfl (tka (by decide) rfl) (by first | decide | omega) rfl rfl (by first | decide | omega) rfl ?_
  refine T_aloadn dX3_init_27 rfl rfl ?_
  refine T_bipush dX3_init_28 (bp8 rfl) (inr rfl) ?_
  refine N_newa (n := 106) (bc := 2) (bs := 84) (t := 0) (N := 42) dX3_init_30 (by decide) rfl wac_int (by decide) (by decide) (by decide) rfl ?_
  refine T_putF (r := (RX3, TX3, 11)) (k := 3) (ci := 3) dX3_init_32 rfl (by decide) fX3_21F rfl rfl (tka (by decide) rfl) (by first | decide | omega) rfl rfl (by first | decide | omega) rfl ?_
  refine T_aloadn dX3_init_35 rfl rfl ?_
  refine T_bipush dX3_init_36 (bp8 rfl) (inr rfl) ?_
  refine N_newa (n := 107) (bc := 1) (bs := 42) (t := 0) (N := 42) dX3_init_38 (by decide) rfl wac_int (by decide) (by decide) (by decide) rfl ?_
  refine T_putF (r := (RX3, TX3, 11)) (k := 4) (ci := 3) dX3_init_40 rfl (by decide) fX3_24F rfl rfl (tka (by decide) rfl) (by first | decide | omega) rfl rfl (by first | decide | omega) rfl ?_
  refine T_aloadn dX3_init_43 rfl rfl ?_
  refine T_bipush dX3_init_44 (bp8 rfl) (inr rfl) ?_
  refine N_newa (n := 108) (bc := 0) (bs := 0) (t := 0) (N := 42) dX3_init_46 (by decide) rfl wac_int (by decide) (by decide) (by decide) rfl ?_
  refine T_putF (r := (RX3, TX3, 11)) (k := 5) (ci := 3) dX3_init_48 rfl (by decide) fX3_27F rfl rfl (tka (by decide) rfl) (by first | decide | omega) rfl rfl (by first | decide | omega) rfl ?_
  refine TR_v dX3_init_51 trivial ?_
  exact ⟨rfl, rfl, rfl⟩
def e_sp101 (c : HC) : HC := (up2 (up2 (up2 (up2 c 109 0 ((110 : Nat) : Int)) 109 1 ((111 : Nat) : Int)) 109 2 ((112 : Nat) : Int)) 109 3 ((113 : Nat) : Int))
set_option maxHeartbeats 4000000 in
set_option maxRecDepth 100000 in
theorem k_sp101 (c : HC) : Cl mX7_init 1 4 40 NF (SH.take 110) c [vr 109] (fun v s_ c_ => v = none ∧ s_ = SH.take 114 ∧ c_ = e_sp101 c) := by
  refine Cl.of (by decide +kernel) (leb rfl) (fun hok => ?_)
  refine T_aloadn dX7_init_0 rfl rfl ?_
  refine T_objInit dX7_init_1 kX7_3 wo_inst wo_code (by first | decide | omega) (by decide) (leb rfl) ?_
  refine T_aloadn dX7_init_4 rfl rfl ?_
  refine T_bipush dX7_init_5 (bp8 rfl) (inr rfl) ?_
  refine N_newa (n := 110) (bc := 3) (bs := 30) (t := 0) (N := 10) dX7_init_7 (by decide) rfl wac_int (by decide) (by decide) (by decide) rfl ?_
  refine T_putF (r := (RX7, TX7, 5)) (k := 0) (ci := 7) dX7_init_9 rfl (by decide) fX7_9F rfl rfl (tka (by decide) rfl) (by first | decide | omega) rfl rfl (by first | decide | omega) rfl ?_
  refine T_aloadn dX7_init_12 rfl rfl ?_
  refine T_bipush dX7_init_13 (bp8 rfl) (inr rfl) ?_
  refine N_newa (n := 111) (bc := 2) (bs := 20) (t := 0) (N := 10) dX7_init_15 (by decide) rfl wac_int (by decide) (by decide) (by decide) rfl ?_
  refine T_putF (r := (RX7, TX7, 5)) (k := 1) (ci := 7) dX7_init_17 rfl (by decide) fX7_15F rfl rfl (tka (by decide) rfl) (by first | decide | omega) rfl rfl (by first | decide | omega) rfl ?_
  refine T_aloadn dX7_init_20 rfl rfl ?_
  refine T_bipush dX7_init_21 (bp8 rfl) (inr rfl) ?_
  refine N_newa (n := 112) (bc := 1) (bs := 10) (t := 0) (N := 10) dX7_init_23 (by decide) rfl wac_int (by decide) (by decide) (by decide) rfl ?_
  refine T_putF (r := (RX7, TX7, 5)) (k := 2) (ci := 7) dX7_init_25 rfl (by decide) fX7_18F rfl rfl (tka (by decide) rfl) (by first | decide | omega) rfl rfl (by first | decide | omega) rfl ?_
  refine T_aloadn dX7_init_28 rfl rfl ?_
  refine T_bipush dX7_init_29 (bp8 rfl) (inr rfl) ?_
  refine N_newa (n := 113) (bc := 0) (bs := 0) (t := 0) (N := 10) dX7_init_31 (by decide) rfl wac_int (by decide) (by decide) (by decide) rfl ?_
  refine T_putF (r := (RX7, TX7, 5)) (k := 3) (ci := 7) dX7_init_33 rfl (by decide) fX7_21F rfl rfl (tka (by decide) rfl) (by first | decide | omega) rfl rfl (by first | decide | omega) rfl ?_
  refine TR_v dX7_init_36 trivial ?_
  exact ⟨rfl, rfl, rfl⟩
def e_fe101 (c : HC) : HC := (up2 (e_sp101 (up2 (e_gr101 c) 101 0 ((102 : Nat) : Int))) 101 1 ((109 : Nat) : Int))
set_option maxHeartbeats 4000000 in
set_option maxRecDepth 100000 in
theorem k_fe101 (c : HC) : Cl mX1_init 2 12 198 NF (SH.take 102) c [vr 101] (fun v s_ c_ => v = none ∧ s_ = SH.take 114 ∧ c_ = e_fe101 c) := by
  refine Cl.of (by decide +kernel) (leb rfl) (fun hok => ?_)
  refine T_aloadn dX1_init_0 rfl rfl ?_
  refine T_objInit dX1_init_1 kX1_1 wo_inst wo_code (by first | decide | omega) (by decide) (leb rfl) ?_
  refine T_aloadn dX1_init_4 rfl rfl ?_
  refine N_new (n := 102) (bc := 11) (bs := 187) (ci := 3) (r := (RX3, TX3, 11)) dX1_init_5 rfl nX1_7 wn_X3 wi_X3 (by decide) (by decide) rfl (by decide) ?_
  refine T_dup dX1_init_8 rfl ?_
  refine T_callI (As := []) (bc := 5) (bs := 45) (mc := 6) (ms := 142) dX1_init_9 kX1_9 (k_gr101 c) (by decide) (by decide) rfl (leb rfl) (fun v_ s_ c_ hq => ?_)
  obtain ⟨rfl, rfl, rfl⟩ := hq
  refine T_putF (r := (RX1, TX1, 2)) (k := 0) (ci := 1) dX1_init_12 rfl (by decide) fX1_10F rfl rfl (tka (by decide) rfl) (by first | decide | omega) rfl rfl (by first | decide | omega) rfl ?_
  refine T_aloadn dX1_init_15 rfl rfl ?_
  refine N_new (n := 109) (bc := 4) (bs := 40) (ci := 7) (r := (RX7, TX7, 5)) dX1_init_16 rfl nX1_16 wn_X7 wi_X7 (by decide) (by decide) rfl (by decide) ?_
  refine T_dup dX1_init_19 rfl ?_
  refine T_callI (As := []) (bc := 0) (bs := 0) (mc := 4) (ms := 40) dX1_init_20 kX1_18 (k_sp101 (up2 (e_gr101 c) 101 0 ((102 : Nat) : Int))) (by decide) (by decide) rfl (leb rfl) (fun v_ s_ c_ hq => ?_)
  obtain ⟨rfl, rfl, rfl⟩ := hq
  refine T_putF (r := (RX1, TX1, 2)) (k := 1) (ci := 1) dX1_init_23 rfl (by decide) fX1_19F rfl rfl (tka (by decide) rfl) (by first | decide | omega) rfl rfl (by first | decide | omega) rfl ?_
  refine TR_v dX1_init_26 trivial ?_
  exact ⟨rfl, rfl, rfl⟩
def e_im114 (c : HC) : HC := (up2 (stC c 115) 114 0 ((115 : Nat) : Int))
set_option maxHeartbeats 4000000 in
set_option maxRecDepth 100000 in
theorem k_im114 (c : HC) : Cl mX4_init 2 3 55 NF (SH.take 115) c [vr 114] (fun v s_ c_ => v = none ∧ s_ = SH.take 118 ∧ c_ = e_im114 c) := by
  refine Cl.of (by decide +kernel) (leb rfl) (fun hok => ?_)
  refine T_aloadn dX4_init_0 rfl rfl ?_
  refine T_objInit dX4_init_1 kX4_1 wo_inst wo_code (by first | decide | omega) (by decide) (leb rfl) ?_
  refine T_aloadn dX4_init_4 rfl rfl ?_
  refine N_new (n := 115) (bc := 2) (bs := 50) (ci := 8) (r := (RX8, TX8, 5)) dX4_init_5 rfl nX4_7 wn_X8 wi_X8 (by decide) (by decide) rfl (by decide) ?_
  refine T_dup dX4_init_8 rfl ?_
  refine T_callI (As := []) (bc := 0) (bs := 0) (mc := 2) (ms := 50) dX4_init_9 kX4_9 (k_st c 115 (by decide) (by decide) rfl rfl rfl) (by decide) (by decide) rfl (leb rfl) (fun v_ s_ c_ hq => ?_)
  obtain ⟨rfl, rfl, rfl⟩ := hq
  refine T_putF (r := (RX4, TX4, 3)) (k := 0) (ci := 4) dX4_init_12 rfl (by decide) fX4_10F rfl rfl (tka (by decide) rfl) (by first | decide | omega) rfl rfl (by first | decide | omega) rfl ?_
  refine TR_v dX4_init_15 trivial ?_
  exact ⟨rfl, rfl, rfl⟩
def e_im118 (c : HC) : HC := (up2 (stC c 119) 118 0 ((119 : Nat) : Int))
set_option maxHeartbeats 4000000 in
set_option maxRecDepth 100000 in
theorem k_im118 (c : HC) : Cl mX4_init 2 3 55 NF (SH.take 119) c [vr 118] (fun v s_ c_ => v = none ∧ s_ = SH.take 122 ∧ c_ = e_im118 c) := by
  refine Cl.of (by decide +kernel) (leb rfl) (fun hok => ?_)
  refine T_aloadn dX4_init_0 rfl rfl ?_
  refine T_objInit dX4_init_1 kX4_1 wo_inst wo_code (by first | decide | omega) (by decide) (leb rfl) ?_
  refine T_aloadn dX4_init_4 rfl rfl ?_
  refine N_new (n := 119) (bc := 2) (bs := 50) (ci := 8) (r := (RX8, TX8, 5)) dX4_init_5 rfl nX4_7 wn_X8 wi_X8 (by decide) (by decide) rfl (by decide) ?_
  refine T_dup dX4_init_8 rfl ?_
  refine T_callI (As := []) (bc := 0) (bs := 0) (mc := 2) (ms := 50) dX4_init_9 kX4_9 (k_st c 119 (by decide) (by decide) rfl rfl rfl) (by decide) (by decide) rfl (leb rfl) (fun v_ s_ c_ hq => ?_)
  obtain ⟨rfl, rfl, rfl⟩ := hq
  refine T_putF (r := (RX4, TX4, 3)) (k := 0) (ci := 4) dX4_init_12 rfl (by decide) fX4_10F rfl rfl (tka (by decide) rfl) (by first | decide | omega) rfl rfl (by first | decide | omega) rfl ?_
  refine TR_v dX4_init_15 trivial ?_
  exact ⟨rfl, rfl, rfl⟩
def e_rw (c : HC) : HC := (up2 (e_im118 (up2 (e_im114 (up2 (e_fe101 (up2 (e_fe88 (up2 (e_dr (up2 (up2 (up2 (up2 (e_ro (up2 (e_gm (up2 (up2 (e_pa (up2 (stC (up2 (e_tx c) 1 0 ((2 : Nat) : Int)) 4) 1 1 ((4 : Nat) : Int))) 1 2 ((7 : Nat) : Int)) 1 3 ((69 : Nat) : Int))) 1 4 ((70 : Nat) : Int))) 1 5 ((74 : Nat) : Int)) 1 6 ((84 : Nat) : Int)) 1 7 ((85 : Nat) : Int)) 1 8 ((86 : Nat) : Int))) 1 9 ((87 : Nat) : Int))) 1 10 ((88 : Nat) : Int))) 1 11 ((101 : Nat) : Int))) 69 0 ((114 : Nat) : Int))) 69 1 ((118 : Nat) : Int))
set_option maxHeartbeats 4000000 in
set_option maxRecDepth 100000 in
theorem k_rw (c : HC) : Cl mX10_init 3 120 5183 NF (SH.take 2) c [vr 1] (fun v s_ c_ => v = none ∧ s_ = SH.take 122 ∧ c_ = e_rw c) := by
  refine Cl.of (by decide +kernel) (leb rfl) (fun hok => ?_)
  refine T_aloadn dX10_init_0 rfl rfl ?_
  refine T_objInit dX10_init_1 kX10_1 wo_inst wo_code (by first | decide | omega) (by decide) (leb rfl) ?_
  refine T_aloadn dX10_init_4 rfl rfl ?_
  refine N_new (n := 2) (bc := 119) (bs := 5177) (ci := 9) (r := (RX9, TX9, 6)) dX10_init_5 rfl nX10_7 wn_X9 wi_X9 (by decide) (by decide) rfl (by decide) ?_
  refine T_dup dX10_init_8 rfl ?_
  refine T_callI (As := []) (bc := 118) (bs := 4927) (mc := 1) (ms := 250) dX10_init_9 kX10_9 (k_tx c) (by decide) (by decide) rfl (leb rfl) (fun v_ s_ c_ hq => ?_)
  obtain ⟨rfl, rfl, rfl⟩ := hq
  refine T_putF (r := (RX10, TX10, 14)) (k := 0) (ci := 10) dX10_init_12 rfl (by decide) fX10_10F rfl rfl (tka (by decide) rfl) (by first | decide | omega) rfl rfl (by first | decide | omega) rfl ?_
  refine T_aloadn dX10_init_15 rfl rfl ?_
  refine N_new (n := 4) (bc := 117) (bs := 4922) (ci := 8) (r := (RX8, TX8, 5)) dX10_init_16 rfl nX10_16 wn_X8 wi_X8 (by decide) (by decide) rfl (by decide) ?_
  refine T_dup dX10_init_19 rfl ?_
  refine T_callI (As := []) (bc := 115) (bs := 4872) (mc := 2) (ms := 50) dX10_init_20 kX10_18 (k_st (up2 (e_tx c) 1 0 ((2 : Nat) : Int)) 4 (by decide) (by decide) rfl rfl rfl) (by decide) (by decide) rfl (leb rfl) (fun v_ s_ c_ hq => ?_)
  obtain ⟨rfl, rfl, rfl⟩ := hq
  refine T_putF (r := (RX10, TX10, 14)) (k := 1) (ci := 10) dX10_init_23 rfl (by decide) fX10_19F rfl rfl (tka (by decide) rfl) (by first | decide | omega) rfl rfl (by first | decide | omega) rfl ?_
  refine T_aloadn dX10_init_26 rfl rfl ?_
  refine N_new (n := 7) (bc := 114) (bs := 4869) (ci := 5) (r := (RX5, TX5, 3)) dX10_init_27 rfl nX10_23 wn_X5 wi_X5 (by decide) (by decide) rfl (by decide) ?_
  refine T_dup dX10_init_30 rfl ?_
  refine T_callI (As := []) (bc := 53) (bs := 3749) (mc := 61) (ms := 1120) dX10_init_31 kX10_25 (k_pa (up2 (stC (up2 (e_tx c) 1 0 ((2 : Nat) : Int)) 4) 1 1 ((4 : Nat) : Int))) (by decide) (by decide) rfl (leb rfl) (fun v_ s_ c_ hq => ?_)
  obtain ⟨rfl, rfl, rfl⟩ := hq
  refine T_putF (r := (RX10, TX10, 14)) (k := 2) (ci := 10) dX10_init_34 rfl (by decide) fX10_26F rfl rfl (tka (by decide) rfl) (by first | decide | omega) rfl rfl (by first | decide | omega) rfl ?_
  refine T_aloadn dX10_init_37 rfl rfl ?_
  refine T_iconst dX10_init_38 (inr rfl) ?_
  refine N_anew (n := 69) (bc := 52) (bs := 3747) (t := 4) (N := 2) (C := RX4) dX10_init_39 (Or.inr rfl) rfl nX10_30 wao_X4 (by decide) (by decide) (by decide) rfl ?_
  refine T_putF (r := (RX10, TX10, 14)) (k := 3) (ci := 10) dX10_init_42 rfl (by decide) fX10_32F rfl rfl (tka (by decide) rfl) (by first | decide | omega) rfl rfl (by first | decide | omega) rfl ?_
  refine T_aloadn dX10_init_45 rfl rfl ?_
  refine N_new (n := 70) (bc := 51) (bs := 3743) (ci := 2) (r := (RX2, TX2, 4)) dX10_init_46 rfl nX10_36 wn_X2 wi_X2 (by decide) (by decide) rfl (by decide) ?_
  refine T_dup dX10_init_49 rfl ?_
  refine T_callI (As := []) (bc := 48) (bs := 671) (mc := 3) (ms := 3072) dX10_init_50 kX10_38 (k_gm (up2 (up2 (e_pa (up2 (stC (up2 (e_tx c) 1 0 ((2 : Nat) : Int)) 4) 1 1 ((4 : Nat) : Int))) 1 2 ((7 : Nat) : Int)) 1 3 ((69 : Nat) : Int))) (by decide) (by decide) rfl (leb rfl) (fun v_ s_ c_ hq => ?_)
  obtain ⟨rfl, rfl, rfl⟩ := hq
  refine T_putF (r := (RX10, TX10, 14)) (k := 4) (ci := 10) dX10_init_53 rfl (by decide) fX10_39F rfl rfl (tka (by decide) rfl) (by first | decide | omega) rfl rfl (by first | decide | omega) rfl ?_
  refine T_aloadn dX10_init_56 rfl rfl ?_
  refine N_new (n := 74) (bc := 47) (bs := 667) (ci := 6) (r := (RX6, TX6, 4)) dX10_init_57 rfl nX10_43 wn_X6 wi_X6 (by decide) (by decide) rfl (by decide) ?_
  refine T_dup dX10_init_60 rfl ?_
  refine T_callI (As := []) (bc := 38) (bs := 555) (mc := 9) (ms := 112) dX10_init_61 kX10_45 (k_ro (up2 (e_gm (up2 (up2 (e_pa (up2 (stC (up2 (e_tx c) 1 0 ((2 : Nat) : Int)) 4) 1 1 ((4 : Nat) : Int))) 1 2 ((7 : Nat) : Int)) 1 3 ((69 : Nat) : Int))) 1 4 ((70 : Nat) : Int))) (by decide) (by decide) rfl (leb rfl) (fun v_ s_ c_ hq => ?_)
  obtain ⟨rfl, rfl, rfl⟩ := hq
  refine T_putF (r := (RX10, TX10, 14)) (k := 5) (ci := 10) dX10_init_64 rfl (by decide) fX10_46F rfl rfl (tka (by decide) rfl) (by first | decide | omega) rfl rfl (by first | decide | omega) rfl ?_
  refine T_aloadn dX10_init_67 rfl rfl ?_
  refine T_bipush dX10_init_68 (bp8 rfl) (inr rfl) ?_
  refine N_newa (n := 84) (bc := 37) (bs := 547) (t := 0) (N := 8) dX10_init_70 (by decide) rfl wac_int (by decide) (by decide) (by decide) rfl ?_
  refine T_putF (r := (RX10, TX10, 14)) (k := 6) (ci := 10) dX10_init_72 rfl (by decide) fX10_50F rfl rfl (tka (by decide) rfl) (by first | decide | omega) rfl rfl (by first | decide | omega) rfl ?_
  refine T_aloadn dX10_init_75 rfl rfl ?_
  refine T_bipush dX10_init_76 (bp8 rfl) (inr rfl) ?_
  refine N_newa (n := 85) (bc := 36) (bs := 532) (t := 0) (N := 15) dX10_init_78 (by decide) rfl wac_int (by decide) (by decide) (by decide) rfl ?_
  refine T_putF (r := (RX10, TX10, 14)) (k := 7) (ci := 10) dX10_init_80 rfl (by decide) fX10_54F rfl rfl (tka (by decide) rfl) (by first | decide | omega) rfl rfl (by first | decide | omega) rfl ?_
  refine T_aloadn dX10_init_83 rfl rfl ?_
  refine T_bipush dX10_init_84 (bp8 rfl) (inr rfl) ?_
  refine N_newa (n := 86) (bc := 35) (bs := 517) (t := 0) (N := 15) dX10_init_86 (by decide) rfl wac_int (by decide) (by decide) (by decide) rfl ?_
  refine T_putF (r := (RX10, TX10, 14)) (k := 8) (ci := 10) dX10_init_88 rfl (by decide) fX10_57F rfl rfl (tka (by decide) rfl) (by first | decide | omega) rfl rfl (by first | decide | omega) rfl ?_
  refine T_aloadn dX10_init_91 rfl rfl ?_
  refine N_new (n := 87) (bc := 34) (bs := 516) (ci := 0) (r := (RX0, TX0, 1)) dX10_init_92 rfl nX10_60 wn_X0 wi_X0 (by decide) (by decide) rfl (by decide) ?_
  refine T_dup dX10_init_95 rfl ?_
  refine T_callI (As := []) (bc := 34) (bs := 516) (mc := 0) (ms := 0) dX10_init_96 kX10_62 (k_dr (up2 (up2 (up2 (up2 (e_ro (up2 (e_gm (up2 (up2 (e_pa (up2 (stC (up2 (e_tx c) 1 0 ((2 : Nat) : Int)) 4) 1 1 ((4 : Nat) : Int))) 1 2 ((7 : Nat) : Int)) 1 3 ((69 : Nat) : Int))) 1 4 ((70 : Nat) : Int))) 1 5 ((74 : Nat) : Int)) 1 6 ((84 : Nat) : Int)) 1 7 ((85 : Nat) : Int)) 1 8 ((86 : Nat) : Int))) (by decide) (by decide) rfl (leb rfl) (fun v_ s_ c_ hq => ?_)
  obtain ⟨rfl, rfl, rfl⟩ := hq
  refine T_putF (r := (RX10, TX10, 14)) (k := 9) (ci := 10) dX10_init_99 rfl (by decide) fX10_63F rfl rfl (tka (by decide) rfl) (by first | decide | omega) rfl rfl (by first | decide | omega) rfl ?_
  refine T_aloadn dX10_init_102 rfl rfl ?_
  refine N_new (n := 88) (bc := 33) (bs := 514) (ci := 1) (r := (RX1, TX1, 2)) dX10_init_103 rfl nX10_67 wn_X1 wi_X1 (by decide) (by decide) rfl (by decide) ?_
  refine T_dup dX10_init_106 rfl ?_
  refine T_callI (As := []) (bc := 21) (bs := 316) (mc := 12) (ms := 198) dX10_init_107 kX10_69 (k_fe88 (up2 (e_dr (up2 (up2 (up2 (up2 (e_ro (up2 (e_gm (up2 (up2 (e_pa (up2 (stC (up2 (e_tx c) 1 0 ((2 : Nat) : Int)) 4) 1 1 ((4 : Nat) : Int))) 1 2 ((7 : Nat) : Int)) 1 3 ((69 : Nat) : Int))) 1 4 ((70 : Nat) : Int))) 1 5 ((74 : Nat) : Int)) 1 6 ((84 : Nat) : Int)) 1 7 ((85 : Nat) : Int)) 1 8 ((86 : Nat) : Int))) 1 9 ((87 : Nat) : Int))) (by decide) (by decide) rfl (leb rfl) (fun v_ s_ c_ hq => ?_)
  obtain ⟨rfl, rfl, rfl⟩ := hq
  refine T_putr dX10_init_110 fX10_70 (tka (by decide) rfl) (by first | decide | omega) rfl rfl (by first | decide | omega) ?_
  refine T_aloadn dX10_init_113 rfl rfl ?_
  refine N_new (n := 101) (bc := 20) (bs := 314) (ci := 1) (r := (RX1, TX1, 2)) dX10_init_114 rfl nX10_67 wn_X1 wi_X1 (by decide) (by decide) rfl (by decide) ?_
  refine T_dup dX10_init_117 rfl ?_
  refine T_callI (As := []) (bc := 8) (bs := 116) (mc := 12) (ms := 198) dX10_init_118 kX10_69 (k_fe101 (up2 (e_fe88 (up2 (e_dr (up2 (up2 (up2 (up2 (e_ro (up2 (e_gm (up2 (up2 (e_pa (up2 (stC (up2 (e_tx c) 1 0 ((2 : Nat) : Int)) 4) 1 1 ((4 : Nat) : Int))) 1 2 ((7 : Nat) : Int)) 1 3 ((69 : Nat) : Int))) 1 4 ((70 : Nat) : Int))) 1 5 ((74 : Nat) : Int)) 1 6 ((84 : Nat) : Int)) 1 7 ((85 : Nat) : Int)) 1 8 ((86 : Nat) : Int))) 1 9 ((87 : Nat) : Int))) 1 10 ((88 : Nat) : Int))) (by decide) (by decide) rfl (leb rfl) (fun v_ s_ c_ hq => ?_)
  obtain ⟨rfl, rfl, rfl⟩ := hq
  refine T_putr dX10_init_121 fX10_74 (tka (by decide) rfl) (by first | decide | omega) rfl rfl (by first | decide | omega) ?_
  refine T_iconst dX10_init_124 (inr rfl) ?_
  refine T_istoren dX10_init_125 rfl (by decide) rfl ?_
  refine T_iloadn dX10_init_126 rfl rfl ?_
  refine T_iconst dX10_init_127 (inr rfl) ?_
  refine T_icmp_ge (tgt := 150) dX10_init_128 rfl (fun hb => absurd hb (by decide)) (fun hb => ?_)
  refine T_aloadn dX10_init_131 rfl rfl ?_
  refine T_getr (r := 69) dX10_init_132 fX10_32 (tka (by decide) rfl) (by first | decide | omega) rfl rfl ?_
  refine T_iloadn dX10_init_135 rfl rfl ?_
  refine N_new (n := 114) (bc := 7) (bs := 113) (ci := 4) (r := (RX4, TX4, 3)) dX10_init_136 rfl nX10_30 wn_X4 wi_X4 (by decide) (by decide) rfl (by decide) ?_
  refine T_dup dX10_init_139 rfl ?_
  refine T_callI (As := []) (bc := 4) (bs := 58) (mc := 3) (ms := 55) dX10_init_140 kX10_77 (k_im114 (up2 (e_fe101 (up2 (e_fe88 (up2 (e_dr (up2 (up2 (up2 (up2 (e_ro (up2 (e_gm (up2 (up2 (e_pa (up2 (stC (up2 (e_tx c) 1 0 ((2 : Nat) : Int)) 4) 1 1 ((4 : Nat) : Int))) 1 2 ((7 : Nat) : Int)) 1 3 ((69 : Nat) : Int))) 1 4 ((70 : Nat) : Int))) 1 5 ((74 : Nat) : Int)) 1 6 ((84 : Nat) : Int)) 1 7 ((85 : Nat) : Int)) 1 8 ((86 : Nat) : Int))) 1 9 ((87 : Nat) : Int))) 1 10 ((88 : Nat) : Int))) 1 11 ((101 : Nat) : Int))) (by decide) (by decide) rfl (leb rfl) (fun v_ s_ c_ hq => ?_)
  obtain ⟨rfl, rfl, rfl⟩ := hq
  refine T_aast (t := 4) (x := 114) (j := 0) (ci := 4) (r := (RX4, TX4, 3)) dX10_init_143 (tka (by decide) rfl) (by decide) (by decide) rfl rfl (tka (by decide) rfl) (by decide) (by decide) rfl (by decide) (by decide) ?_
  refine T_iincN dX10_init_144 rfl (by decide) rfl (by decide) ?_
  refine T_goto (tgt := 126) dX10_init_147 rfl ?_
  refine T_iloadn dX10_init_126 rfl rfl ?_
  refine T_iconst dX10_init_127 (inr rfl) ?_
  refine T_icmp_ge (tgt := 150) dX10_init_128 rfl (fun hb => absurd hb (by decide)) (fun hb => ?_)
  refine T_aloadn dX10_init_131 rfl rfl ?_
  refine T_getr (r := 69) dX10_init_132 fX10_32 (tka (by decide) rfl) (by first | decide | omega) rfl rfl ?_
  refine T_iloadn dX10_init_135 rfl rfl ?_
  refine N_new (n := 118) (bc := 3) (bs := 55) (ci := 4) (r := (RX4, TX4, 3)) dX10_init_136 rfl nX10_30 wn_X4 wi_X4 (by decide) (by decide) rfl (by decide) ?_
  refine T_dup dX10_init_139 rfl ?_
  refine T_callI (As := []) (bc := 0) (bs := 0) (mc := 3) (ms := 55) dX10_init_140 kX10_77 (k_im118 (up2 (e_im114 (up2 (e_fe101 (up2 (e_fe88 (up2 (e_dr (up2 (up2 (up2 (up2 (e_ro (up2 (e_gm (up2 (up2 (e_pa (up2 (stC (up2 (e_tx c) 1 0 ((2 : Nat) : Int)) 4) 1 1 ((4 : Nat) : Int))) 1 2 ((7 : Nat) : Int)) 1 3 ((69 : Nat) : Int))) 1 4 ((70 : Nat) : Int))) 1 5 ((74 : Nat) : Int)) 1 6 ((84 : Nat) : Int)) 1 7 ((85 : Nat) : Int)) 1 8 ((86 : Nat) : Int))) 1 9 ((87 : Nat) : Int))) 1 10 ((88 : Nat) : Int))) 1 11 ((101 : Nat) : Int))) 69 0 ((114 : Nat) : Int))) (by decide) (by decide) rfl (leb rfl) (fun v_ s_ c_ hq => ?_)
  obtain ⟨rfl, rfl, rfl⟩ := hq
  refine T_aast (t := 4) (x := 118) (j := 1) (ci := 4) (r := (RX4, TX4, 3)) dX10_init_143 (tka (by decide) rfl) (by decide) (by decide) rfl rfl (tka (by decide) rfl) (by decide) (by decide) rfl (by decide) (by decide) ?_
  refine T_iincN dX10_init_144 rfl (by decide) rfl (by decide) ?_
  refine T_goto (tgt := 126) dX10_init_147 rfl ?_
  refine T_iloadn dX10_init_126 rfl rfl ?_
  refine T_iconst dX10_init_127 (inr rfl) ?_
  refine T_icmp_ge (tgt := 150) dX10_init_128 rfl (fun hb => ?_) (fun hb => absurd hb (by decide))
  refine TR_v dX10_init_150 trivial ?_
  exact ⟨rfl, rfl, rfl⟩
def e_m0 (c : HC) : HC := (up2 (up2 (up2 (up2 (up2 (up2 (up2 (up2 (up2 (up2 (up2 (up2 (up2 (up2 (up2 (up2 (up2 (up2 (up2 (up2 (up2 (up2 (up2 (up2 (up2 (up2 (up2 c 122 3 ((123 : Nat) : Int)) 122 5 ((124 : Nat) : Int)) 122 7 ((125 : Nat) : Int)) 122 8 ((126 : Nat) : Int)) 122 9 ((127 : Nat) : Int)) 122 10 ((128 : Nat) : Int)) 122 11 ((129 : Nat) : Int)) 122 12 ((130 : Nat) : Int)) 122 14 ((131 : Nat) : Int)) 122 16 (-1)) 122 20 ((132 : Nat) : Int)) 122 22 ((133 : Nat) : Int)) 122 24 ((134 : Nat) : Int)) 122 26 ((135 : Nat) : Int)) 122 27 ((136 : Nat) : Int)) 122 28 ((137 : Nat) : Int)) 122 29 ((138 : Nat) : Int)) 122 31 ((139 : Nat) : Int)) 122 32 ((140 : Nat) : Int)) 122 33 ((141 : Nat) : Int)) 122 35 ((142 : Nat) : Int)) 122 36 ((143 : Nat) : Int)) 122 38 ((144 : Nat) : Int)) 122 40 ((145 : Nat) : Int)) 122 41 ((146 : Nat) : Int)) 122 42 ((147 : Nat) : Int)) 122 43 ((148 : Nat) : Int))
def e_md (c : HC) : HC := rC (e_m0 c) 140 (fun _ => -1) 42
set_option maxHeartbeats 4000000 in
set_option maxRecDepth 100000 in
theorem l_md (c : HC) (h : c 122 32 = ((140 : Nat) : Int)) : ∀ (k j : Nat), j + k = 42 → T none mX11_init 1 NF 0 0 (SH.take 149) 218 [(0, vr 122), (1, vi (j : Int))] [] (rC c 140 (fun _ => -1) j) (fun v s_ c_ => v = none ∧ s_ = SH.take 149 ∧ c_ = rC c 140 (fun _ => -1) 42) := by
  intro k
  induction k with
  | zero =>
    intro j hk
    have e : j = 42 := by omega
    subst e
    refine T_iloadn dX11_init_218 rfl rfl ?_
    refine T_bipush dX11_init_219 (bp8 rfl) (inr rfl) ?_
    refine T_icmp_gt (tgt := 237) dX11_init_221 rfl (fun hb => ?_) (fun hb => absurd hb (by decide))
    refine TR_v dX11_init_237 trivial ?_
    exact ⟨rfl, rfl, rfl⟩
  | succ k ih =>
    intro j hk
    have hi := ih (j + 1) (by omega)
    rw [← rC_up] at hi
    refine T_iloadn dX11_init_218 rfl rfl ?_
    refine T_bipush dX11_init_219 (bp8 rfl) (inr rfl) ?_
    refine T_icmp_gt (tgt := 237) dX11_init_221 rfl (fun hb => absurd hb (by omega)) (fun hb => ?_)
    refine T_aloadn dX11_init_224 rfl rfl ?_
    refine T_getr (r := 140) dX11_init_225 fX11_65 (tka (by decide) rfl) (by decide) rfl ((congrFun (rC_row (by decide)) _).trans h) ?_
    refine T_iloadn dX11_init_228 rfl rfl ?_
    refine T_iconst dX11_init_229 (inr rfl) ?_
    refine T_iast (j := j) (n := 42) dX11_init_230 (tka (by decide) rfl) (by decide) rfl (by omega) ?_
    refine T_iincN dX11_init_231 rfl (by decide) rfl (by omega) ?_
    refine T_goto (tgt := 218) dX11_init_234 rfl ?_
    exact hi
set_option maxHeartbeats 4000000 in
set_option maxRecDepth 100000 in
theorem k_md (c : HC) : Cl mX11_init 1 26 12973 NF (SH.take 123) c [vr 122] (fun v s_ c_ => v = none ∧ s_ = SH.take 149 ∧ c_ = e_md c) := by
  refine Cl.of (by decide +kernel) (leb rfl) (fun hok => ?_)
  refine T_aloadn dX11_init_0 rfl rfl ?_
  refine T_objInit dX11_init_1 kX11_1 wo_inst wo_code (by first | decide | omega) (by decide) (leb rfl) ?_
  refine T_aloadn dX11_init_4 rfl rfl ?_
  refine T_bipush dX11_init_5 (bp8 rfl) (inr rfl) ?_
  refine N_newa (n := 123) (bc := 25) (bs := 12967) (t := 0) (N := 6) dX11_init_7 (by decide) rfl wac_int (by decide) (by decide) (by decide) rfl ?_
  refine T_putF (r := (RX11, TX11, 44)) (k := 3) (ci := 11) dX11_init_9 rfl (by decide) fX11_7F rfl rfl (tka (by decide) rfl) (by first | decide | omega) rfl rfl (by first | decide | omega) rfl ?_
  refine T_aloadn dX11_init_12 rfl rfl ?_
  refine T_iconst dX11_init_13 (inr rfl) ?_
  refine N_newa (n := 124) (bc := 24) (bs := 12963) (t := 0) (N := 4) dX11_init_14 (by decide) rfl wac_int (by decide) (by decide) (by decide) rfl ?_
  refine T_putF (r := (RX11, TX11, 44)) (k := 5) (ci := 11) dX11_init_16 rfl (by decide) fX11_13F rfl rfl (tka (by decide) rfl) (by first | decide | omega) rfl rfl (by first | decide | omega) rfl ?_
  refine T_aloadn dX11_init_19 rfl rfl ?_
  refine T_bipush dX11_init_20 (bp8 rfl) (inr rfl) ?_
  refine N_newa (n := 125) (bc := 23) (bs := 12953) (t := 0) (N := 10) dX11_init_22 (by decide) rfl wac_int (by decide) (by decide) (by decide) rfl ?_
  refine T_putF (r := (RX11, TX11, 44)) (k := 7) (ci := 11) dX11_init_24 rfl (by decide) fX11_16F rfl rfl (tka (by decide) rfl) (by first | decide | omega) rfl rfl (by first | decide | omega) rfl ?_
  refine T_aloadn dX11_init_27 rfl rfl ?_
  refine T_bipush dX11_init_28 (bp8 rfl) (inr rfl) ?_
  refine N_newa (n := 126) (bc := 22) (bs := 12943) (t := 0) (N := 10) dX11_init_30 (by decide) rfl wac_int (by decide) (by decide) (by decide) rfl ?_
  refine T_putF (r := (RX11, TX11, 44)) (k := 8) (ci := 11) dX11_init_32 rfl (by decide) fX11_19F rfl rfl (tka (by decide) rfl) (by first | decide | omega) rfl rfl (by first | decide | omega) rfl ?_
  refine T_aloadn dX11_init_35 rfl rfl ?_
  refine T_bipush dX11_init_36 (bp8 rfl) (inr rfl) ?_
  refine N_newa (n := 127) (bc := 21) (bs := 12933) (t := 0) (N := 10) dX11_init_38 (by decide) rfl wac_int (by decide) (by decide) (by decide) rfl ?_
  refine T_putF (r := (RX11, TX11, 44)) (k := 9) (ci := 11) dX11_init_40 rfl (by decide) fX11_22F rfl rfl (tka (by decide) rfl) (by first | decide | omega) rfl rfl (by first | decide | omega) rfl ?_
  refine T_aloadn dX11_init_43 rfl rfl ?_
  refine T_bipush dX11_init_44 (bp8 rfl) (inr rfl) ?_
  refine N_newa (n := 128) (bc := 20) (bs := 12923) (t := 0) (N := 10) dX11_init_46 (by decide) rfl wac_int (by decide) (by decide) (by decide) rfl ?_
  refine T_putF (r := (RX11, TX11, 44)) (k := 10) (ci := 11) dX11_init_48 rfl (by decide) fX11_25F rfl rfl (tka (by decide) rfl) (by first | decide | omega) rfl rfl (by first | decide | omega) rfl ?_
  refine T_aloadn dX11_init_51 rfl rfl ?_
  refine T_bipush dX11_init_52 (bp8 rfl) (inr rfl) ?_
  refine N_newa (n := 129) (bc := 19) (bs := 12917) (t := 0) (N := 6) dX11_init_54 (by decide) rfl wac_int (by decide) (by decide) (by decide) rfl ?_
  refine T_putF (r := (RX11, TX11, 44)) (k := 11) (ci := 11) dX11_init_56 rfl (by decide) fX11_28F rfl rfl (tka (by decide) rfl) (by first | decide | omega) rfl rfl (by first | decide | omega) rfl ?_
  refine T_aloadn dX11_init_59 rfl rfl ?_
  refine T_bipush dX11_init_60 (bp8 rfl) (inr rfl) ?_
  refine N_newa (n := 130) (bc := 18) (bs := 12864) (t := 0) (N := 53) dX11_init_62 (by decide) rfl wac_int (by decide) (by decide) (by decide) rfl ?_
  refine T_putF (r := (RX11, TX11, 44)) (k := 12) (ci := 11) dX11_init_64 rfl (by decide) fX11_31F rfl rfl (tka (by decide) rfl) (by first | decide | omega) rfl rfl (by first | decide | omega) rfl ?_
  refine T_aloadn dX11_init_67 rfl rfl ?_
  refine T_sipush dX11_init_68 (bp16 rfl) (inr rfl) ?_
  refine N_newa (n := 131) (bc := 17) (bs := 12614) (t := 0) (N := 250) dX11_init_71 (by decide) rfl wac_int (by decide) (by decide) (by decide) rfl ?_
  refine T_putF (r := (RX11, TX11, 44)) (k := 14) (ci := 11) dX11_init_73 rfl (by decide) fX11_34F rfl rfl (tka (by decide) rfl) (by first | decide | omega) rfl rfl (by first | decide | omega) rfl ?_
  refine T_aloadn dX11_init_76 rfl rfl ?_
  refine T_iconst dX11_init_77 (inr rfl) ?_
  refine T_puti dX11_init_78 fX11_37 (tka (by decide) rfl) (by first | decide | omega) rfl rfl ?_
  refine T_aloadn dX11_init_81 rfl rfl ?_
  refine T_iconst dX11_init_82 (inr rfl) ?_
  refine N_newa (n := 132) (bc := 16) (bs := 12612) (t := 0) (N := 2) dX11_init_83 (by decide) rfl wac_int (by decide) (by decide) (by decide) rfl ?_
  refine T_putF (r := (RX11, TX11, 44)) (k := 20) (ci := 11) dX11_init_85 rfl (by decide) fX11_41F rfl rfl (tka (by decide) rfl) (by first | decide | omega) rfl rfl (by first | decide | omega) rfl ?_
  refine T_aloadn dX11_init_88 rfl rfl ?_
  refine T_bipush dX11_init_89 (bp8 rfl) (inr rfl) ?_
  refine N_newa (n := 133) (bc := 15) (bs := 12606) (t := 0) (N := 6) dX11_init_91 (by decide) rfl wac_int (by decide) (by decide) (by decide) rfl ?_
  refine T_putF (r := (RX11, TX11, 44)) (k := 22) (ci := 11) dX11_init_93 rfl (by decide) fX11_44F rfl rfl (tka (by decide) rfl) (by first | decide | omega) rfl rfl (by first | decide | omega) rfl ?_
  refine T_aloadn dX11_init_96 rfl rfl ?_
  refine T_iconst dX11_init_97 (inr rfl) ?_
  refine N_newa (n := 134) (bc := 14) (bs := 12602) (t := 0) (N := 4) dX11_init_98 (by decide) rfl wac_int (by decide) (by decide) (by decide) rfl ?_
  refine T_putF (r := (RX11, TX11, 44)) (k := 24) (ci := 11) dX11_init_100 rfl (by decide) fX11_47F rfl rfl (tka (by decide) rfl) (by first | decide | omega) rfl rfl (by first | decide | omega) rfl ?_
  refine T_aloadn dX11_init_103 rfl rfl ?_
  refine T_bipush dX11_init_104 (bp8 rfl) (inr rfl) ?_
  refine N_newa (n := 135) (bc := 13) (bs := 12592) (t := 0) (N := 10) dX11_init_106 (by decide) rfl wac_int (by decide) (by decide) (by decide) rfl ?_
  refine T_putF (r := (RX11, TX11, 44)) (k := 26) (ci := 11) dX11_init_108 rfl (by decide) fX11_50F rfl rfl (tka (by decide) rfl) (by first | decide | omega) rfl rfl (by first | decide | omega) rfl ?_
  refine T_aloadn dX11_init_111 rfl rfl ?_
  refine T_bipush dX11_init_112 (bp8 rfl) (inr rfl) ?_
  refine N_newa (n := 136) (bc := 12) (bs := 12582) (t := 0) (N := 10) dX11_init_114 (by decide) rfl wac_int (by decide) (by decide) (by decide) rfl ?_
  refine T_putF (r := (RX11, TX11, 44)) (k := 27) (ci := 11) dX11_init_116 rfl (by decide) fX11_53F rfl rfl (tka (by decide) rfl) (by first | decide | omega) rfl rfl (by first | decide | omega) rfl ?_
  refine T_aloadn dX11_init_119 rfl rfl ?_
  refine T_bipush dX11_init_120 (bp8 rfl) (inr rfl) ?_
  refine N_newa (n := 137) (bc := 11) (bs := 12572) (t := 0) (N := 10) dX11_init_122 (by decide) rfl wac_int (by decide) (by decide) (by decide) rfl ?_
  refine T_putF (r := (RX11, TX11, 44)) (k := 28) (ci := 11) dX11_init_124 rfl (by decide) fX11_56F rfl rfl (tka (by decide) rfl) (by first | decide | omega) rfl rfl (by first | decide | omega) rfl ?_
  refine T_aloadn dX11_init_127 rfl rfl ?_
  refine T_bipush dX11_init_128 (bp8 rfl) (inr rfl) ?_
  refine N_newa (n := 138) (bc := 10) (bs := 12562) (t := 0) (N := 10) dX11_init_130 (by decide) rfl wac_int (by decide) (by decide) (by decide) rfl ?_
  refine T_putF (r := (RX11, TX11, 44)) (k := 29) (ci := 11) dX11_init_132 rfl (by decide) fX11_59F rfl rfl (tka (by decide) rfl) (by first | decide | omega) rfl rfl (by first | decide | omega) rfl ?_
  refine T_aloadn dX11_init_135 rfl rfl ?_
  refine T_bipush dX11_init_136 (bp8 rfl) (inr rfl) ?_
  refine N_newa (n := 139) (bc := 9) (bs := 12556) (t := 0) (N := 6) dX11_init_138 (by decide) rfl wac_int (by decide) (by decide) (by decide) rfl ?_
  refine T_putF (r := (RX11, TX11, 44)) (k := 31) (ci := 11) dX11_init_140 rfl (by decide) fX11_62F rfl rfl (tka (by decide) rfl) (by first | decide | omega) rfl rfl (by first | decide | omega) rfl ?_
  refine T_aloadn dX11_init_143 rfl rfl ?_
  refine T_bipush dX11_init_144 (bp8 rfl) (inr rfl) ?_
  refine N_newa (n := 140) (bc := 8) (bs := 12514) (t := 0) (N := 42) dX11_init_146 (by decide) rfl wac_int (by decide) (by decide) (by decide) rfl ?_
  refine T_putF (r := (RX11, TX11, 44)) (k := 32) (ci := 11) dX11_init_148 rfl (by decide) fX11_65F rfl rfl (tka (by decide) rfl) (by first | decide | omega) rfl rfl (by first | decide | omega) rfl ?_
  refine T_aloadn dX11_init_151 rfl rfl ?_
  refine T_bipush dX11_init_152 (bp8 rfl) (inr rfl) ?_
  refine N_newa (n := 141) (bc := 7) (bs := 12472) (t := 0) (N := 42) dX11_init_154 (by decide) rfl wac_int (by decide) (by decide) (by decide) rfl ?_
  refine T_putF (r := (RX11, TX11, 44)) (k := 33) (ci := 11) dX11_init_156 rfl (by decide) fX11_68F rfl rfl (tka (by decide) rfl) (by first | decide | omega) rfl rfl (by first | decide | omega) rfl ?_
  refine T_aloadn dX11_init_159 rfl rfl ?_
  refine T_sipush dX11_init_160 (bp16 rfl) (inr rfl) ?_
  refine N_newa (n := 142) (bc := 6) (bs := 11412) (t := 0) (N := 1060) dX11_init_163 (by decide) rfl wac_int (by decide) (by decide) (by decide) rfl ?_
  refine T_putF (r := (RX11, TX11, 44)) (k := 35) (ci := 11) dX11_init_165 rfl (by decide) fX11_71F rfl rfl (tka (by decide) rfl) (by first | decide | omega) rfl rfl (by first | decide | omega) rfl ?_
  refine T_aloadn dX11_init_168 rfl rfl ?_
  refine T_sipush dX11_init_169 (bp16 rfl) (inr rfl) ?_
  refine N_newa (n := 143) (bc := 5) (bs := 148) (t := 0) (N := 11264) dX11_init_172 (by decide) rfl wac_int (by decide) (by decide) (by decide) rfl ?_
  refine T_putF (r := (RX11, TX11, 44)) (k := 36) (ci := 11) dX11_init_174 rfl (by decide) fX11_74F rfl rfl (tka (by decide) rfl) (by first | decide | omega) rfl rfl (by first | decide | omega) rfl ?_
  refine T_aloadn dX11_init_177 rfl rfl ?_
  refine T_bipush dX11_init_178 (bp8 rfl) (inr rfl) ?_
  refine N_newa (n := 144) (bc := 4) (bs := 140) (t := 0) (N := 8) dX11_init_180 (by decide) rfl wac_int (by decide) (by decide) (by decide) rfl ?_
  refine T_putF (r := (RX11, TX11, 44)) (k := 38) (ci := 11) dX11_init_182 rfl (by decide) fX11_77F rfl rfl (tka (by decide) rfl) (by first | decide | omega) rfl rfl (by first | decide | omega) rfl ?_
  refine T_aloadn dX11_init_185 rfl rfl ?_
  refine T_bipush dX11_init_186 (bp8 rfl) (inr rfl) ?_
  refine N_newa (n := 145) (bc := 3) (bs := 125) (t := 0) (N := 15) dX11_init_188 (by decide) rfl wac_int (by decide) (by decide) (by decide) rfl ?_
  refine T_putF (r := (RX11, TX11, 44)) (k := 40) (ci := 11) dX11_init_190 rfl (by decide) fX11_80F rfl rfl (tka (by decide) rfl) (by first | decide | omega) rfl rfl (by first | decide | omega) rfl ?_
  refine T_aloadn dX11_init_193 rfl rfl ?_
  refine T_bipush dX11_init_194 (bp8 rfl) (inr rfl) ?_
  refine N_newa (n := 146) (bc := 2) (bs := 110) (t := 0) (N := 15) dX11_init_196 (by decide) rfl wac_int (by decide) (by decide) (by decide) rfl ?_
  refine T_putF (r := (RX11, TX11, 44)) (k := 41) (ci := 11) dX11_init_198 rfl (by decide) fX11_83F rfl rfl (tka (by decide) rfl) (by first | decide | omega) rfl rfl (by first | decide | omega) rfl ?_
  refine T_aloadn dX11_init_201 rfl rfl ?_
  refine T_bipush dX11_init_202 (bp8 rfl) (inr rfl) ?_
  refine N_newa (n := 147) (bc := 1) (bs := 2) (t := 0) (N := 108) dX11_init_204 (by decide) rfl wac_int (by decide) (by decide) (by decide) rfl ?_
  refine T_putF (r := (RX11, TX11, 44)) (k := 42) (ci := 11) dX11_init_206 rfl (by decide) fX11_86F rfl rfl (tka (by decide) rfl) (by first | decide | omega) rfl rfl (by first | decide | omega) rfl ?_
  refine T_aloadn dX11_init_209 rfl rfl ?_
  refine T_iconst dX11_init_210 (inr rfl) ?_
  refine N_newa (n := 148) (bc := 0) (bs := 0) (t := 2) (N := 2) dX11_init_211 (by decide) rfl wac_boolean (by decide) (by decide) (by decide) rfl ?_
  refine T_putF (r := (RX11, TX11, 44)) (k := 43) (ci := 11) dX11_init_213 rfl (by decide) fX11_89F rfl rfl (tka (by decide) rfl) (by first | decide | omega) rfl rfl (by first | decide | omega) rfl ?_
  refine T_iconst dX11_init_216 (inr rfl) ?_
  refine T_istoren dX11_init_217 rfl (by decide) rfl ?_
  refine T_c (show _ = rC (e_m0 c) 140 (fun _ => -1) 0 by rw [rC_0]; rfl) ?_
  exact l_md (e_m0 c) rfl 42 0 (by decide)
