/-! Text: what it reads, letter by letter -/
section TCV
variable {X : Option (Nat × (Nat → Int32))} {μ : MI} {d : Nat} {fin : Nat → Nat → Option Nat} {bc bs : Nat} {sh : SHP} {pc : Nat} {ls : PL} {st : List PV} {c : HC} {Q : Option PV → SHP → HC → Prop}
theorem T_caldv {a n j : Nat} {i z : Int} (hd : decode μ.2.1 pc = .ok (.caload, 1)) (ha : sh[a]? = some (2, n)) (h0 : 0 < a) (hj : i = (j : Int)) (hlt : j < n) (hz : c a j = z) (kk : T X μ d fin bc bs sh (pc + 1) ls (vi z :: st) c Q) : T X μ d fin bc bs sh pc ls (vi i :: vr a :: st) c Q := by
  subst hz
  exact T_cald hd ha h0 hj hlt kk
end TCV
def tx (c : HC) (A N F P : Int) : HC := fun x y => if x = 2 then (if y = 2 then A else if y = 3 then N else if y = 4 then F else if y = 5 then P else c x y) else c x y
section TX
variable {c : HC} {A N F P z : Int}
theorem tx2 : tx c A N F P 2 2 = A := rfl
theorem tx3 : tx c A N F P 2 3 = N := rfl
theorem tx4 : tx c A N F P 2 4 = F := rfl
theorem tx5 : tx c A N F P 2 5 = P := rfl
theorem tx1 : tx c A N F P 2 1 = c 2 1 := rfl
theorem tx_row {x : Nat} (h : x ≠ 2) : tx c A N F P x = c x := by
  funext y
  unfold tx
  rw [if_neg h]
theorem tx_self : tx c (c 2 2) (c 2 3) (c 2 4) (c 2 5) = c := by
  funext x y
  unfold tx
  by_cases h : x = 2
  · subst h
    rw [if_pos rfl]
    by_cases h2 : y = 2
    · subst h2; rfl
    · by_cases h3 : y = 3
      · subst h3; rfl
      · by_cases h4 : y = 4
        · subst h4; rfl
        · by_cases h5 : y = 5
          · subst h5; rfl
          · rw [if_neg h2, if_neg h3, if_neg h4, if_neg h5]
  · rw [if_neg h]
theorem txu2 : up2 (tx c A N F P) 2 2 z = tx c z N F P := by
  funext x y
  by_cases h : x = 2
  · subst h
    by_cases h2 : y = 2
    · subst h2; rw [up2_s]; rfl
    · rw [up2_k _ _ h2]; simp [tx, h2]
  · rw [up2_row _ _ _ _ h, tx_row h, tx_row h]
theorem txu3 : up2 (tx c A N F P) 2 3 z = tx c A z F P := by
  funext x y
  by_cases h : x = 2
  · subst h
    by_cases h2 : y = 3
    · subst h2; rw [up2_s]; rfl
    · rw [up2_k _ _ h2]; simp [tx, h2]
  · rw [up2_row _ _ _ _ h, tx_row h, tx_row h]
theorem txu4 : up2 (tx c A N F P) 2 4 z = tx c A N z P := by
  funext x y
  by_cases h : x = 2
  · subst h
    by_cases h2 : y = 4
    · subst h2; rw [up2_s]; rfl
    · rw [up2_k _ _ h2]; simp [tx, h2]
  · rw [up2_row _ _ _ _ h, tx_row h, tx_row h]
theorem txu5 : up2 (tx c A N F P) 2 5 z = tx c A N F z := by
  funext x y
  by_cases h : x = 2
  · subst h
    by_cases h2 : y = 5
    · subst h2; rw [up2_s]; rfl
    · rw [up2_k _ _ h2]; simp [tx, h2]
  · rw [up2_row _ _ _ _ h, tx_row h, tx_row h]
theorem tx_up {x y : Nat} (h : x ≠ 2) : up2 (tx c A N F P) x y z = tx (up2 c x y z) A N F P := by
  funext u w
  by_cases h2 : u = 2
  · subst h2
    rw [up2_a _ _ (by omega)]
    unfold tx
    rw [if_pos rfl, if_pos rfl, up2_a _ _ (by omega)]
  · unfold up2
    rw [tx_row h2, tx_row h2]
end TX
/-- past the blanks -/
def skL (t : Nat → Int) : Nat → Nat → Nat
  | 0, a => a
  | k + 1, a => if t a = 32 then skL t k (a + 1) else a
def skF (t : Nat → Int) (n a : Nat) : Nat := skL t (n - a) a
theorem skL_bd (t : Nat → Int) : ∀ k a, a ≤ skL t k a ∧ skL t k a ≤ a + k
  | 0, a => by unfold skL; omega
  | k + 1, a => by
    have h := skL_bd t k (a + 1)
    unfold skL
    split <;> omega
theorem skF_bd (t : Nat → Int) (n a : Nat) : a ≤ skF t n a ∧ (skF t n a ≤ a ∨ skF t n a ≤ n) := by
  have h := skL_bd t (n - a) a
  unfold skF
  omega
def dgE (t : Nat → Int) : Nat → Nat → Nat
  | 0, i => i
  | k + 1, i => if 48 ≤ t i ∧ t i ≤ 57 then dgE t k (i + 1) else i
def dgV (t : Nat → Int) (a : Nat) : Nat → Nat → Int → Int
  | 0, _, v => v
  | k + 1, i, v => if 48 ≤ t i ∧ t i ≤ 57 then dgV t a k (i + 1) (if i < a + 3 then v * 10 + t i - 48 else v) else v
theorem dgE_bd (t : Nat → Int) : ∀ k i, i ≤ dgE t k i ∧ dgE t k i ≤ i + k
  | 0, i => by unfold dgE; omega
  | k + 1, i => by
    have h := dgE_bd t k (i + 1)
    unfold dgE
    split <;> omega
def okV (a i : Nat) (v : Int) : Prop := a ≤ i ∧ (0 ≤ v ∧ v ≤ 999) ∧ (i = a → v = 0) ∧ (i = a + 1 → v ≤ 9) ∧ (i = a + 2 → v ≤ 99)
theorem okV_s {a i : Nat} {v d : Int} (h : okV a i v) (hd : 48 ≤ d ∧ d ≤ 57) : okV a (i + 1) (if i < a + 3 then v * 10 + d - 48 else v) := by
  unfold okV at *
  split <;> omega
theorem dgV_ok (t : Nat → Int) (a : Nat) : ∀ k i v, okV a i v → okV a (dgE t k i) (dgV t a k i v)
  | 0, i, v, h => h
  | k + 1, i, v, h => by
    unfold dgE dgV
    by_cases hc : 48 ≤ t i ∧ t i ≤ 57
    · rw [if_pos hc, if_pos hc]
      exact dgV_ok t a k (i + 1) _ (okV_s h hc)
    · rw [if_neg hc, if_neg hc]
      exact h
def fF (F k : Int) : Int := if F = 0 then k else F
def fP (F k P p : Int) : Int := if F = 0 ∧ k ≠ 0 then p else P
theorem fF0 {F : Int} : fF F 0 = F := by unfold fF; split <;> omega
theorem fP0 {F P p : Int} : fP F 0 P p = P := by unfold fP; rw [if_neg (by omega)]
def enF (t : Nat → Int) (n a : Nat) : Nat := dgE t (n - skF t n a) (skF t n a)
def nuV (t : Nat → Int) (n a : Nat) : Int := dgV t (skF t n a) (n - skF t n a) (skF t n a) 0
def nuK (t : Nat → Int) (n a : Nat) (lo hi : Int) : Int := if enF t n a = skF t n a then 1 else if skF t n a + 3 < enF t n a ∨ (nuV t n a < lo ∨ hi < nuV t n a) then 2 else 0
def edK (t : Nat → Int) (n a : Nat) : Int := if skF t n a < n ∧ t (skF t n a) = 59 then 0 else 1
set_option maxHeartbeats 4000000 in
set_option maxRecDepth 100000 in
theorem c_fail (c : HC) (A N F P k p : Int) (hk : k ≠ 0) : VO mX9_fail 0 (tx c A N F P) [vr 2, vi k, vi p] (tx c A N (fF F k) (fP F k P p)) := by
  refine CC.of (by decide +kernel) (leb rfl) (fun hok => ?_)
  refine T_aloadn dX9_fail_0 rfl rfl ?_
  refine T_getv dX9_fail_1 fX9_15 (by first | assumption | rfl) (by first | decide | omega) rfl tx4 ?_
  refine T_if_ne (tgt := 17) dX9_fail_4 rfl (fun b4 => ?_) (fun b4 => ?_)
  · skip
    refine TT_rv dX9_fail_17 trivial ?_
    refine ⟨rfl, ?_⟩
    unfold fF fP
    rw [if_neg b4, if_neg (fun q => b4 q.1)]
  · refine T_aloadn dX9_fail_7 rfl rfl ?_
    refine T_iloadn dX9_fail_8 rfl rfl ?_
    refine T_puti dX9_fail_9 fX9_15 (by first | assumption | rfl) (by first | decide | omega) rfl rfl ?_
    rw [txu4]
    refine T_aloadn dX9_fail_12 rfl rfl ?_
    refine T_iloadn dX9_fail_13 rfl rfl ?_
    refine T_puti dX9_fail_14 fX9_19 (by first | assumption | rfl) (by first | decide | omega) rfl rfl ?_
    rw [txu5]
    refine TT_rv dX9_fail_17 trivial ?_
    refine ⟨rfl, ?_⟩
    unfold fF fP
    rw [if_pos b4, if_pos ⟨b4, hk⟩]
set_option maxHeartbeats 4000000 in
set_option maxRecDepth 100000 in
theorem l_skip (c : HC) {n : Nat} (hn : c 2 1 = (n : Int)) (hn2 : n ≤ 250) (N F P : Int) (Q : Option PV → HC → Prop) (A : Nat) (hq : Q none (tx c A N F P)) : ∀ (k a : Nat), n - a = k → skL (c 3) k a = A → TT mX9_skipBlanks 0 5 [(0, vr 2), (1, vi (a : Int))] [] (tx c (a : Int) N F P) Q := by
  intro k
  induction k with
  | zero =>
    intro a hk e
    have e2 : a = A := e
    subst e2
    refine T_iloadn dX9_skipBlanks_5 rfl rfl ?_
    refine T_aloadn dX9_skipBlanks_6 rfl rfl ?_
    refine T_getv dX9_skipBlanks_7 fX9_22 (by first | assumption | rfl) (by first | decide | omega) rfl hn ?_
    refine T_icmp_ge (tgt := 37) dX9_skipBlanks_10 rfl (fun b10 => ?_) (fun b10 => absurd b10 (by omega))
    refine TT_rv dX9_skipBlanks_37 trivial ?_
    exact hq
  | succ k ih =>
    intro a hk e
    rw [skL.eq_2] at e
    refine T_iloadn dX9_skipBlanks_5 rfl rfl ?_
    refine T_aloadn dX9_skipBlanks_6 rfl rfl ?_
    refine T_getv dX9_skipBlanks_7 fX9_22 (by first | assumption | rfl) (by first | decide | omega) rfl hn ?_
    refine T_icmp_ge (tgt := 37) dX9_skipBlanks_10 rfl (fun b10 => absurd b10 (by omega)) (fun b10 => ?_)
    refine T_aloadn dX9_skipBlanks_13 rfl rfl ?_
    refine T_getfin dX9_skipBlanks_14 fX9_9 (by first | assumption | rfl) (by first | decide | omega) rfl (by first | assumption | rfl) ?_
    refine T_iloadn dX9_skipBlanks_17 rfl rfl ?_
    refine T_caldv (j := a) dX9_skipBlanks_18 (by first | assumption | rfl) (by first | decide | omega) (by omega) (by omega) (congrFun (tx_row (by decide)) _) ?_
    refine T_bipush dX9_skipBlanks_19 (bp8 rfl) (inr rfl) ?_
    refine T_icmp_ne (tgt := 37) dX9_skipBlanks_21 rfl (fun b21 => ?_) (fun b21 => ?_)
    · refine TT_rv dX9_skipBlanks_37 trivial ?_
      rw [if_neg b21] at e
      subst e
      exact hq
    · refine T_aloadn dX9_skipBlanks_24 rfl rfl ?_
      refine T_iloadn dX9_skipBlanks_25 rfl rfl ?_
      refine T_iconst dX9_skipBlanks_26 (inr rfl) ?_
      first | refine T_iaddN dX9_skipBlanks_27 (by omega) ?_ | refine T_iadd dX9_skipBlanks_27 ?_
      refine T_puti dX9_skipBlanks_28 fX9_25 (by first | assumption | rfl) (by first | decide | omega) rfl rfl ?_
      rw [txu2]
      refine T_iincN dX9_skipBlanks_31 rfl (by decide) rfl (by omega) ?_
      refine T_goto (tgt := 5) dX9_skipBlanks_34 rfl ?_
      rw [if_pos b21] at e
      have h := ih (a + 1) (by omega) e
      refine T_keep [0, 1] ?_
      exact h
set_option maxHeartbeats 4000000 in
set_option maxRecDepth 100000 in
theorem c_skip (c : HC) {n : Nat} (hn : c 2 1 = (n : Int)) (hn2 : n ≤ 250) (N F P : Int) (a : Nat) : VO mX9_skipBlanks 0 (tx c (a : Int) N F P) [vr 2] (tx c ((skF (c 3) n a : Nat) : Int) N F P) := by
  refine CC.of (by decide +kernel) (leb rfl) (fun hok => ?_)
  refine T_aloadn dX9_skipBlanks_0 rfl rfl ?_
  refine T_getv dX9_skipBlanks_1 fX9_25 (by first | assumption | rfl) (by first | decide | omega) rfl tx2 ?_
  refine T_istoren dX9_skipBlanks_4 rfl (by decide) rfl ?_
  exact l_skip c hn hn2 N F P _ _ ⟨rfl, rfl⟩ _ a rfl rfl
set_option maxHeartbeats 4000000 in
set_option maxRecDepth 100000 in
theorem c_readEnd (c : HC) {n : Nat} (hn : c 2 1 = (n : Int)) (hn2 : n ≤ 250) (N F P : Int) (a : Nat) (ha : a ≤ 1000) : VO mX9_readEnd 1 (tx c (a : Int) N F P) [vr 2] (tx c ((skF (c 3) n a + 1 : Nat) : Int) N (fF F (edK (c 3) n a)) (fP F (edK (c 3) n a) P ((skF (c 3) n a : Nat) : Int))) := by
  refine CC.of (by decide +kernel) (leb rfl) (fun hok => ?_)
  have hs := c_skip c hn hn2 N F P a
  have hb := skF_bd (c 3) n a
  unfold edK
  generalize skF (c 3) n a = A at *
  have hf := c_fail c (A : Int) N F P 1 (A : Int) (by decide)
  refine T_aloadn dX9_readEnd_0 rfl rfl ?_
  refine TT_Vv dX9_readEnd_1 (hs) kX9_33 (by decide) (by first | decide | omega) (by first | assumption | rfl) rfl (leb rfl) ?_
  refine T_aloadn dX9_readEnd_4 rfl rfl ?_
  refine T_getv dX9_readEnd_5 fX9_25 (by first | assumption | rfl) (by first | decide | omega) rfl tx2 ?_
  refine T_aloadn dX9_readEnd_8 rfl rfl ?_
  refine T_getv dX9_readEnd_9 fX9_22 (by first | assumption | rfl) (by first | decide | omega) rfl hn ?_
  refine T_icmp_ge (tgt := 29) dX9_readEnd_12 rfl (fun b12 => ?_) (fun b12 => ?_)
  · refine T_aloadn dX9_readEnd_29 rfl rfl ?_
    refine T_iconst dX9_readEnd_30 (inr rfl) ?_
    refine T_aloadn dX9_readEnd_31 rfl rfl ?_
    refine T_getv dX9_readEnd_32 fX9_25 (by first | assumption | rfl) (by first | decide | omega) rfl tx2 ?_
    refine TT_Vv dX9_readEnd_35 (hf) kX9_49 (by decide) (by first | decide | omega) (by first | assumption | rfl) rfl (leb rfl) ?_
    refine T_aloadn dX9_readEnd_38 rfl rfl ?_
    refine T_dup dX9_readEnd_39 rfl ?_
    refine T_getv dX9_readEnd_40 fX9_25 (by first | assumption | rfl) (by first | decide | omega) rfl tx2 ?_
    refine T_iconst dX9_readEnd_43 (inr rfl) ?_
    first | refine T_iaddN dX9_readEnd_44 (by omega) ?_ | refine T_iadd dX9_readEnd_44 ?_
    refine T_puti dX9_readEnd_45 fX9_25 (by first | assumption | rfl) (by first | decide | omega) rfl rfl ?_
    rw [txu2]
    refine TT_rv dX9_readEnd_48 trivial ?_
    refine ⟨rfl, ?_⟩
    rw [if_neg (by omega)]
    rfl
  · refine T_aloadn dX9_readEnd_15 rfl rfl ?_
    refine T_getfin dX9_readEnd_16 fX9_9 (by first | assumption | rfl) (by first | decide | omega) rfl (by first | assumption | rfl) ?_
    refine T_aloadn dX9_readEnd_19 rfl rfl ?_
    refine T_getv dX9_readEnd_20 fX9_25 (by first | assumption | rfl) (by first | decide | omega) rfl tx2 ?_
    refine T_caldv (j := A) dX9_readEnd_23 (by first | assumption | rfl) (by first | decide | omega) (by omega) (by omega) (congrFun (tx_row (by decide)) _) ?_
    refine T_bipush dX9_readEnd_24 (bp8 rfl) (inr rfl) ?_
    refine T_icmp_eq (tgt := 38) dX9_readEnd_26 rfl (fun b26 => ?_) (fun b26 => ?_)
    · refine T_aloadn dX9_readEnd_38 rfl rfl ?_
      refine T_dup dX9_readEnd_39 rfl ?_
      refine T_getv dX9_readEnd_40 fX9_25 (by first | assumption | rfl) (by first | decide | omega) rfl tx2 ?_
      refine T_iconst dX9_readEnd_43 (inr rfl) ?_
      first | refine T_iaddN dX9_readEnd_44 (by omega) ?_ | refine T_iadd dX9_readEnd_44 ?_
      refine T_puti dX9_readEnd_45 fX9_25 (by first | assumption | rfl) (by first | decide | omega) rfl rfl ?_
      rw [txu2]
      refine TT_rv dX9_readEnd_48 trivial ?_
      refine ⟨rfl, ?_⟩
      rw [if_pos ⟨by omega, b26⟩, fF0, fP0]
      rfl
    · refine T_aloadn dX9_readEnd_29 rfl rfl ?_
      refine T_iconst dX9_readEnd_30 (inr rfl) ?_
      refine T_aloadn dX9_readEnd_31 rfl rfl ?_
      refine T_getv dX9_readEnd_32 fX9_25 (by first | assumption | rfl) (by first | decide | omega) rfl tx2 ?_
      refine TT_Vv dX9_readEnd_35 (hf) kX9_49 (by decide) (by first | decide | omega) (by first | assumption | rfl) rfl (leb rfl) ?_
      refine T_aloadn dX9_readEnd_38 rfl rfl ?_
      refine T_dup dX9_readEnd_39 rfl ?_
      refine T_getv dX9_readEnd_40 fX9_25 (by first | assumption | rfl) (by first | decide | omega) rfl tx2 ?_
      refine T_iconst dX9_readEnd_43 (inr rfl) ?_
      first | refine T_iaddN dX9_readEnd_44 (by omega) ?_ | refine T_iadd dX9_readEnd_44 ?_
      refine T_puti dX9_readEnd_45 fX9_25 (by first | assumption | rfl) (by first | decide | omega) rfl rfl ?_
      rw [txu2]
      refine TT_rv dX9_readEnd_48 trivial ?_
      refine ⟨rfl, ?_⟩
      rw [if_neg (fun q => b26 q.2)]
      rfl
set_option maxHeartbeats 4000000 in
set_option maxRecDepth 100000 in
theorem c_readWord (c : HC) (N F P : Int) (a : Nat) (ha : a ≤ 1000) (r k : Int) (hr : r = 0 ∧ k = 3 ∨ r = 1 ∧ k = 0) : VO mX9_readWord 1 (tx c (a : Int) N F P) [vr 2, vi r] (tx c ((a + 1 : Nat) : Int) N (fF F k) (fP F k P (a : Int))) := by
  refine CC.of (by decide +kernel) (leb rfl) (fun hok => ?_)
  have hf := c_fail c (a : Int) N F P 3 (a : Int) (by decide)
  refine T_iloadn dX9_readWord_0 rfl rfl ?_
  refine T_if_ne (tgt := 13) dX9_readWord_1 rfl (fun b1 => ?_) (fun b1 => ?_)
  · refine T_aloadn dX9_readWord_13 rfl rfl ?_
    refine T_dup dX9_readWord_14 rfl ?_
    refine T_getv dX9_readWord_15 fX9_25 (by first | assumption | rfl) (by first | decide | omega) rfl tx2 ?_
    refine T_iconst dX9_readWord_18 (inr rfl) ?_
    first | refine T_iaddN dX9_readWord_19 (by omega) ?_ | refine T_iadd dX9_readWord_19 ?_
    refine T_puti dX9_readWord_20 fX9_25 (by first | assumption | rfl) (by first | decide | omega) rfl rfl ?_
    rw [txu2]
    refine TT_rv dX9_readWord_23 trivial ?_
    refine ⟨rfl, ?_⟩
    have hk : k = 0 := by omega
    rw [hk, fF0, fP0]
    rfl
  · refine T_aloadn dX9_readWord_4 rfl rfl ?_
    refine T_iconst dX9_readWord_5 (inr rfl) ?_
    refine T_aloadn dX9_readWord_6 rfl rfl ?_
    refine T_getv dX9_readWord_7 fX9_25 (by first | assumption | rfl) (by first | decide | omega) rfl tx2 ?_
    refine TT_Vv dX9_readWord_10 (hf) kX9_49 (by decide) (by first | decide | omega) (by first | assumption | rfl) rfl (leb rfl) ?_
    refine T_aloadn dX9_readWord_13 rfl rfl ?_
    refine T_dup dX9_readWord_14 rfl ?_
    refine T_getv dX9_readWord_15 fX9_25 (by first | assumption | rfl) (by first | decide | omega) rfl tx2 ?_
    refine T_iconst dX9_readWord_18 (inr rfl) ?_
    first | refine T_iaddN dX9_readWord_19 (by omega) ?_ | refine T_iadd dX9_readWord_19 ?_
    refine T_puti dX9_readWord_20 fX9_25 (by first | assumption | rfl) (by first | decide | omega) rfl rfl ?_
    rw [txu2]
    refine TT_rv dX9_readWord_23 trivial ?_
    refine ⟨rfl, ?_⟩
    have hk : k = 3 := by omega
    rw [hk]
    rfl
set_option maxHeartbeats 4000000 in
set_option maxRecDepth 100000 in
theorem l_num (c : HC) {n : Nat} (hn : c 2 1 = (n : Int)) (hn2 : n ≤ 250) (a : Nat) (ha : a ≤ 2000) (F P lo hi : Int) (Q : Option PV → HC → Prop) (E : Nat) (V : Int) (hq : TT mX9_readNumber 1 94 [(0, vr 2), (1, vi lo), (2, vi hi), (3, vi V)] [] (tx c (E : Int) (a : Int) F P) Q) : ∀ (k i : Nat) (v : Int), n - i = k → okV a i v → dgE (c 3) k i = E → dgV (c 3) a k i v = V → TT mX9_readNumber 1 20 [(0, vr 2), (1, vi lo), (2, vi hi), (3, vi v), (4, vi (i : Int))] [] (tx c (i : Int) (a : Int) F P) Q := by
  intro k
  induction k with
  | zero =>
    intro i v hk ho e1 e2
    have e3 : i = E := e1
    have e4 : v = V := e2
    subst e3
    subst e4
    refine T_iload dX9_readNumber_20 rfl ?_
    refine T_aloadn dX9_readNumber_22 rfl rfl ?_
    refine T_getv dX9_readNumber_23 fX9_22 (by first | assumption | rfl) (by first | decide | omega) rfl hn ?_
    refine T_icmp_ge (tgt := 94) dX9_readNumber_26 rfl (fun b26 => ?_) (fun b26 => absurd b26 (by omega))
    refine T_keep [0, 1, 2, 3] ?_
    exact hq
  | succ k ih =>
    intro i v hk ho e1 e2
    rw [dgE.eq_2] at e1
    rw [dgV.eq_2] at e2
    obtain ⟨o1, o2, o3, o4, o5⟩ := id ho
    refine T_iload dX9_readNumber_20 rfl ?_
    refine T_aloadn dX9_readNumber_22 rfl rfl ?_
    refine T_getv dX9_readNumber_23 fX9_22 (by first | assumption | rfl) (by first | decide | omega) rfl hn ?_
    refine T_icmp_ge (tgt := 94) dX9_readNumber_26 rfl (fun b26 => absurd b26 (by omega)) (fun b26 => ?_)
    refine T_aloadn dX9_readNumber_29 rfl rfl ?_
    refine T_getfin dX9_readNumber_30 fX9_9 (by first | assumption | rfl) (by first | decide | omega) rfl (by first | assumption | rfl) ?_
    refine T_iload dX9_readNumber_33 rfl ?_
    refine T_caldv (j := i) dX9_readNumber_35 (by first | assumption | rfl) (by first | decide | omega) (by omega) (by omega) (congrFun (tx_row (by decide)) _) ?_
    refine T_bipush dX9_readNumber_36 (bp8 rfl) (inr rfl) ?_
    refine T_icmp_lt (tgt := 94) dX9_readNumber_38 rfl (fun b38 => ?_) (fun b38 => ?_)
    · rw [if_neg (by omega)] at e1 e2
      subst e1
      subst e2
      refine T_keep [0, 1, 2, 3] ?_
      exact hq
    · refine T_aloadn dX9_readNumber_41 rfl rfl ?_
      refine T_getfin dX9_readNumber_42 fX9_9 (by first | assumption | rfl) (by first | decide | omega) rfl (by first | assumption | rfl) ?_
      refine T_iload dX9_readNumber_45 rfl ?_
      refine T_caldv (j := i) dX9_readNumber_47 (by first | assumption | rfl) (by first | decide | omega) (by omega) (by omega) (congrFun (tx_row (by decide)) _) ?_
      refine T_bipush dX9_readNumber_48 (bp8 rfl) (inr rfl) ?_
      refine T_icmp_gt (tgt := 94) dX9_readNumber_50 rfl (fun b50 => ?_) (fun b50 => ?_)
      · rw [if_neg (by omega)] at e1 e2
        subst e1
        subst e2
        refine T_keep [0, 1, 2, 3] ?_
        exact hq
      · rw [if_pos (show 48 ≤ c 3 i ∧ c 3 i ≤ 57 by omega)] at e1 e2
        have h := ih (i + 1) _ (by omega) (okV_s ho (by omega)) e1 e2
        refine T_iload dX9_readNumber_53 rfl ?_
        refine T_aloadn dX9_readNumber_55 rfl rfl ?_
        refine T_getv dX9_readNumber_56 fX9_117 (by first | assumption | rfl) (by first | decide | omega) rfl tx3 ?_
        first | refine T_isubN dX9_readNumber_59 (by omega) ?_ | refine T_isub dX9_readNumber_59 ?_
        refine T_iconst dX9_readNumber_60 (inr rfl) ?_
        refine T_icmp_ge (tgt := 80) dX9_readNumber_61 rfl (fun b61 => ?_) (fun b61 => ?_)
        · refine T_aloadn dX9_readNumber_80 rfl rfl ?_
          refine T_iload dX9_readNumber_81 rfl ?_
          refine T_iconst dX9_readNumber_83 (inr rfl) ?_
          first | refine T_iaddN dX9_readNumber_84 (by omega) ?_ | refine T_iadd dX9_readNumber_84 ?_
          refine T_puti dX9_readNumber_85 fX9_25 (by first | assumption | rfl) (by first | decide | omega) rfl rfl ?_
          rw [txu2]
          refine T_iincN dX9_readNumber_88 rfl (by decide) rfl (by omega) ?_
          refine T_goto (tgt := 20) dX9_readNumber_91 rfl ?_
          refine T_keep [0, 1, 2, 3, 4] ?_
          rw [if_neg (by omega)] at h
          exact h
        · refine T_iloadn dX9_readNumber_64 rfl rfl ?_
          refine T_bipush dX9_readNumber_65 (bp8 rfl) (inr rfl) ?_
          first | refine T_imulN dX9_readNumber_67 (by omega) ?_ | refine T_imul dX9_readNumber_67 ?_
          refine T_aloadn dX9_readNumber_68 rfl rfl ?_
          refine T_getfin dX9_readNumber_69 fX9_9 (by first | assumption | rfl) (by first | decide | omega) rfl (by first | assumption | rfl) ?_
          refine T_iload dX9_readNumber_72 rfl ?_
          refine T_caldv (j := i) dX9_readNumber_74 (by first | assumption | rfl) (by first | decide | omega) (by omega) (by omega) (congrFun (tx_row (by decide)) _) ?_
          first | refine T_iaddN dX9_readNumber_75 (by omega) ?_ | refine T_iadd dX9_readNumber_75 ?_
          refine T_bipush dX9_readNumber_76 (bp8 rfl) (inr rfl) ?_
          first | refine T_isubN dX9_readNumber_78 (by omega) ?_ | refine T_isub dX9_readNumber_78 ?_
          refine T_istoren dX9_readNumber_79 rfl (by decide) rfl ?_
          refine T_aloadn dX9_readNumber_80 rfl rfl ?_
          refine T_iload dX9_readNumber_81 rfl ?_
          refine T_iconst dX9_readNumber_83 (inr rfl) ?_
          first | refine T_iaddN dX9_readNumber_84 (by omega) ?_ | refine T_iadd dX9_readNumber_84 ?_
          refine T_puti dX9_readNumber_85 fX9_25 (by first | assumption | rfl) (by first | decide | omega) rfl rfl ?_
          rw [txu2]
          refine T_iincN dX9_readNumber_88 rfl (by decide) rfl (by omega) ?_
          refine T_goto (tgt := 20) dX9_readNumber_91 rfl ?_
          refine T_keep [0, 1, 2, 3, 4] ?_
          rw [if_pos (by omega)] at h
          exact h
set_option maxHeartbeats 4000000 in
set_option maxRecDepth 100000 in
theorem c_readNumber (c : HC) {n : Nat} (hn : c 2 1 = (n : Int)) (hn2 : n ≤ 250) (N F P : Int) (a : Nat) (ha : a ≤ 1000) (lo hi : Int) : RW mX9_readNumber 1 (tx c (a : Int) N F P) [vr 2, vi lo, vi hi] (nuV (c 3) n a) (tx c ((enF (c 3) n a : Nat) : Int) ((skF (c 3) n a : Nat) : Int) (fF F (nuK (c 3) n a lo hi)) (fP F (nuK (c 3) n a lo hi) P ((skF (c 3) n a : Nat) : Int))) := by
  refine CC.of (by decide +kernel) (leb rfl) (fun hok => ?_)
  have hs := c_skip c hn hn2 N F P a
  have hb := skF_bd (c 3) n a
  have hE : dgE (c 3) (n - skF (c 3) n a) (skF (c 3) n a) = enF (c 3) n a := rfl
  have hV : dgV (c 3) (skF (c 3) n a) (n - skF (c 3) n a) (skF (c 3) n a) 0 = nuV (c 3) n a := rfl
  have hB := dgE_bd (c 3) (n - skF (c 3) n a) (skF (c 3) n a)
  rw [hE] at hB
  unfold nuK
  generalize skF (c 3) n a = A at *
  generalize enF (c 3) n a = E at *
  generalize nuV (c 3) n a = V at *
  have hf1 := c_fail c (E : Int) (A : Int) F P 1 (E : Int) (by decide)
  have hf2 := c_fail c (E : Int) (A : Int) F P 2 (A : Int) (by decide)
  refine T_aloadn dX9_readNumber_0 rfl rfl ?_
  refine TT_Vv dX9_readNumber_1 (hs) kX9_33 (by decide) (by first | decide | omega) (by first | assumption | rfl) rfl (leb rfl) ?_
  refine T_aloadn dX9_readNumber_4 rfl rfl ?_
  refine T_aloadn dX9_readNumber_5 rfl rfl ?_
  refine T_getv dX9_readNumber_6 fX9_25 (by first | assumption | rfl) (by first | decide | omega) rfl tx2 ?_
  refine T_puti dX9_readNumber_9 fX9_117 (by first | assumption | rfl) (by first | decide | omega) rfl rfl ?_
  rw [txu3]
  refine T_iconst dX9_readNumber_12 (inr rfl) ?_
  refine T_istoren dX9_readNumber_13 rfl (by decide) rfl ?_
  refine T_aloadn dX9_readNumber_14 rfl rfl ?_
  refine T_getv dX9_readNumber_15 fX9_25 (by first | assumption | rfl) (by first | decide | omega) rfl tx2 ?_
  refine T_istore dX9_readNumber_18 (by decide) rfl ?_
  refine l_num c hn hn2 A (by omega) F P lo hi _ E V ?_ _ A 0 rfl ⟨Nat.le_refl _, by omega, fun _ => rfl, by omega, by omega⟩ hE hV
  refine T_aloadn dX9_readNumber_94 rfl rfl ?_
  refine T_getv dX9_readNumber_95 fX9_25 (by first | assumption | rfl) (by first | decide | omega) rfl tx2 ?_
  refine T_aloadn dX9_readNumber_98 rfl rfl ?_
  refine T_getv dX9_readNumber_99 fX9_117 (by first | assumption | rfl) (by first | decide | omega) rfl tx3 ?_
  refine T_icmp_ne (tgt := 117) dX9_readNumber_102 rfl (fun b102 => ?_) (fun b102 => ?_)
  · refine T_aloadn dX9_readNumber_117 rfl rfl ?_
    refine T_getv dX9_readNumber_118 fX9_25 (by first | assumption | rfl) (by first | decide | omega) rfl tx2 ?_
    refine T_aloadn dX9_readNumber_121 rfl rfl ?_
    refine T_getv dX9_readNumber_122 fX9_117 (by first | assumption | rfl) (by first | decide | omega) rfl tx3 ?_
    first | refine T_isubN dX9_readNumber_125 (by omega) ?_ | refine T_isub dX9_readNumber_125 ?_
    refine T_iconst dX9_readNumber_126 (inr rfl) ?_
    refine T_icmp_gt (tgt := 140) dX9_readNumber_127 rfl (fun b127 => ?_) (fun b127 => ?_)
    · refine T_aloadn dX9_readNumber_140 rfl rfl ?_
      refine T_iconst dX9_readNumber_141 (inr rfl) ?_
      refine T_aloadn dX9_readNumber_142 rfl rfl ?_
      refine T_getv dX9_readNumber_143 fX9_117 (by first | assumption | rfl) (by first | decide | omega) rfl tx3 ?_
      refine TT_Vv dX9_readNumber_146 (hf2) kX9_49 (by decide) (by first | decide | omega) (by first | assumption | rfl) rfl (leb rfl) ?_
      refine T_iloadn dX9_readNumber_149 rfl rfl ?_
      refine TT_ri dX9_readNumber_150 trivial ?_
      refine ⟨rfl, ?_⟩
      rw [if_neg (by omega), if_pos (by omega)]
    · refine T_iloadn dX9_readNumber_130 rfl rfl ?_
      refine T_iloadn dX9_readNumber_131 rfl rfl ?_
      refine T_icmp_lt (tgt := 140) dX9_readNumber_132 rfl (fun b132 => ?_) (fun b132 => ?_)
      · refine T_aloadn dX9_readNumber_140 rfl rfl ?_
        refine T_iconst dX9_readNumber_141 (inr rfl) ?_
        refine T_aloadn dX9_readNumber_142 rfl rfl ?_
        refine T_getv dX9_readNumber_143 fX9_117 (by first | assumption | rfl) (by first | decide | omega) rfl tx3 ?_
        refine TT_Vv dX9_readNumber_146 (hf2) kX9_49 (by decide) (by first | decide | omega) (by first | assumption | rfl) rfl (leb rfl) ?_
        refine T_iloadn dX9_readNumber_149 rfl rfl ?_
        refine TT_ri dX9_readNumber_150 trivial ?_
        refine ⟨rfl, ?_⟩
        rw [if_neg (by omega), if_pos (by omega)]
      · refine T_iloadn dX9_readNumber_135 rfl rfl ?_
        refine T_iloadn dX9_readNumber_136 rfl rfl ?_
        refine T_icmp_le (tgt := 149) dX9_readNumber_137 rfl (fun b137 => ?_) (fun b137 => ?_)
        · refine T_iloadn dX9_readNumber_149 rfl rfl ?_
          refine TT_ri dX9_readNumber_150 trivial ?_
          refine ⟨rfl, ?_⟩
          rw [if_neg (by omega), if_neg (by omega), fF0, fP0]
        · refine T_aloadn dX9_readNumber_140 rfl rfl ?_
          refine T_iconst dX9_readNumber_141 (inr rfl) ?_
          refine T_aloadn dX9_readNumber_142 rfl rfl ?_
          refine T_getv dX9_readNumber_143 fX9_117 (by first | assumption | rfl) (by first | decide | omega) rfl tx3 ?_
          refine TT_Vv dX9_readNumber_146 (hf2) kX9_49 (by decide) (by first | decide | omega) (by first | assumption | rfl) rfl (leb rfl) ?_
          refine T_iloadn dX9_readNumber_149 rfl rfl ?_
          refine TT_ri dX9_readNumber_150 trivial ?_
          refine ⟨rfl, ?_⟩
          rw [if_neg (by omega), if_pos (by omega)]
  · refine T_aloadn dX9_readNumber_105 rfl rfl ?_
    refine T_iconst dX9_readNumber_106 (inr rfl) ?_
    refine T_aloadn dX9_readNumber_107 rfl rfl ?_
    refine T_getv dX9_readNumber_108 fX9_25 (by first | assumption | rfl) (by first | decide | omega) rfl tx2 ?_
    skip
    refine TT_Vv dX9_readNumber_111 (hf1) kX9_49 (by decide) (by first | decide | omega) (by first | assumption | rfl) rfl (leb rfl) ?_
    refine T_goto (tgt := 149) dX9_readNumber_114 rfl ?_
    refine T_iloadn dX9_readNumber_149 rfl rfl ?_
    refine TT_ri dX9_readNumber_150 trivial ?_
    refine ⟨rfl, ?_⟩
    rw [if_pos (by omega), b102]
