/-! the class beside the reference: what holds between calls -/
def SPQ (c : HC) (f n : Nat) : Prop := ∀ j, j < n → c (f + 8 + 1) j = c 125 j ∧ c (f + 8 + 2) j = c 126 j ∧ c (f + 8 + 3) j = c 127 j ∧ c (f + 8 + 4) j = c 128 j
def GRQ (c : HC) (f : Nat) : Prop := (c (f + 1) 6 = c 122 0 ∧ c (f + 1) 7 = c 122 1 ∧ c (f + 1) 8 = c 122 2 ∧ c (f + 1) 9 = c 122 4) ∧ (∀ j : Nat, (j : Int) < c 122 2 → c (f + 1 + 1) j = c 123 j ∧ c (f + 1 + 3) j = c 129 j) ∧ (∀ j : Nat, (j : Int) < c 122 4 → c (f + 1 + 2) j = c 124 j)
def TBQ (c : HC) (f : Nat) : Prop := (∀ l, l < 42 → c (f + 1 + 4) l = c 141 l ∧ c (f + 1 + 6) l = lbF (c 141) 0 l ∧ (0 < c 141 l → c (f + 1 + 5) l = c 140 l)) ∧ c 141 0 = 0 ∧ TBR c
def IG (c : HC) (f n : Nat) : Prop := GV c (f + 1) ∧ SV c (f + 8) n ∧ RGV c ∧ RSV c n ∧ GRQ c f ∧ SPQ c f n ∧ TBQ c f
def EQR (n : Nat) (R S : Nat → Int) : Prop := R 0 = S 0 ∧ R 1 = S 1 ∧ R 12 = S 12 ∧ (∀ j, j < n → R (2 + j) = S (2 + j)) ∧ (∀ j : Nat, (j : Int) < R 12 → R (13 + j) = S (13 + j))
def IS (c : HC) (n : Nat) : Prop := EQR n (stR c 4) (c 130) ∧ RV (c 126) n (c 130)
def IP (c : HC) (n fi cn : Nat) : Prop := c 7 1 = (fi : Int) ∧ c 7 2 = (cn : Int) ∧ fi < 20 ∧ cn ≤ 20 ∧ c 122 34 = (cn : Int) ∧ ∀ i, i < cn → EQR n (stR c (9 + 3 * ((fi + i) % 20))) (fun k => c 142 (53 * i + k)) ∧ RV (c 126) n (fun k => c 142 (53 * i + k))
def II (c : HC) (n : Nat) : Prop := ∀ i, i < 2 → (c (114 + 4 * i) 2 = c 148 i ∧ (c 148 i = 0 ∨ c 148 i = 1)) ∧ (c 148 i ≠ 0 → EQR n (stR c (115 + 4 * i)) (fun k => c 147 (54 * i + k)) ∧ RV (c 126) n (fun k => c 147 (54 * i + k)) ∧ c (114 + 4 * i) 1 = c 147 (54 * i + 53) ∧ 0 ≤ c 147 (54 * i + 53) ∧ c 147 (54 * i + 53) ≤ 2147483647)
def ID (c : HC) : Prop := c 87 0 = c 122 13 ∧ 0 ≤ c 122 13 ∧ c 122 13 ≤ 2147483647
def IM (c : HC) (m k : Nat) : Prop := (c 1 12 = (m : Int) ∧ c 122 37 = (m : Int) ∧ m ≤ 8 ∧ ∀ j, j < m → c 84 j = c 144 j ∧ -99 ≤ c 144 j ∧ c 144 j ≤ 99) ∧ (c 1 13 = (k : Int) ∧ c 122 39 = (k : Int) ∧ k ≤ 15 ∧ ∀ j, j < k → c 85 j = c 145 j ∧ c 86 j = c 146 j)
def IT (c : HC) (nt : Nat) : Prop := c 2 1 = (nt : Int) ∧ c 122 15 = (nt : Int) ∧ nt ≤ 250 ∧ c 3 = c 131 ∧ (∀ j, 0 ≤ c 131 j) ∧ c 2 5 = c 122 16
def IW (c : HC) (f fn : Nat) : Prop := ((f = 88 ∧ fn = 101) ∨ (f = 101 ∧ fn = 88)) ∧ c 1 10 = (f : Int) ∧ c 1 11 = (fn : Int) ∧ c (fn + 1 + 6) 0 = 0
def INV (c : HC) : Prop := ∃ f fn n fi cn m k nt M : Nat, IW c f fn ∧ IG c f n ∧ IS c n ∧ IP c n fi cn ∧ II c n ∧ ID c ∧ IM c m k ∧ IT c nt ∧ GI c M
theorem IW.o {c : HC} {f fn : Nat} (h : IW c f fn) : (f = 88 ∨ f = 101) ∧ (fn = 88 ∨ fn = 101) := by
  rcases h.1 with ⟨a, b⟩ | ⟨a, b⟩ <;> exact ⟨by omega, by omega⟩
theorem IG_row {c c2 : HC} {f n : Nat} (h : ∀ x, (f ≤ x ∧ x ≤ f + 12) ∨ (123 ≤ x ∧ x ≤ 129) ∨ x = 140 ∨ x = 141 → c2 x = c x) (h2 : ∀ k, k < 7 → c2 122 k = c 122 k) (hI : IG c f n) : IG c2 f n := by
  obtain ⟨a1, a2, a3, a4, a5, a6, a7⟩ := hI
  refine ⟨GV_congr (h _ (by omega)) (h _ (by omega)) (h _ (by omega)) a1, SV_congr (h _ (by omega)) (h _ (by omega)) (h _ (by omega)) (h _ (by omega)) (h _ (by omega)) a2, RGV_row (fun k hk => h2 k (by omega)) (h _ (by omega)) (h _ (by omega)) a3, RSV_row (h2 _ (by omega)) (h _ (by omega)) (h _ (by omega)) (h _ (by omega)) (h _ (by omega)) a4, ?_, ?_, ?_⟩
  · unfold GRQ at *
    rw [h (f + 1) (by omega), h (f + 1 + 1) (by omega), h (f + 1 + 2) (by omega), h (f + 1 + 3) (by omega), h 123 (by omega), h 124 (by omega), h 129 (by omega), h2 0 (by omega), h2 1 (by omega), h2 2 (by omega), h2 4 (by omega)]
    exact a5
  · unfold SPQ at *
    rw [h (f + 8 + 1) (by omega), h (f + 8 + 2) (by omega), h (f + 8 + 3) (by omega), h (f + 8 + 4) (by omega), h 125 (by omega), h 126 (by omega), h 127 (by omega), h 128 (by omega)]
    exact a6
  · unfold TBQ TBR at *
    rw [h (f + 1 + 4) (by omega), h (f + 1 + 5) (by omega), h (f + 1 + 6) (by omega), h 140 (by omega), h 141 (by omega)]
    refine ⟨a7.1, a7.2.1, fun l hl => ?_⟩
    rw [lenR_row (c := c) (fun k hk => h2 k (by omega)) (h _ (by omega)) (h _ (by omega)) (h _ (by omega))]
    exact a7.2.2 l hl
theorem stR_row {c c2 : HC} {s : Nat} (h0 : c2 s = c s) (h1 : c2 (s + 1) = c (s + 1)) (h2 : c2 (s + 2) = c (s + 2)) : stR c2 s = stR c s := by
  unfold stR
  rw [h0, h1, h2]
theorem IS_row {c c2 : HC} {n : Nat} (h : ∀ x, (4 ≤ x ∧ x ≤ 6) ∨ x = 130 ∨ x = 126 → c2 x = c x) (hI : IS c n) : IS c2 n := by
  unfold IS at *
  rw [stR_row (c := c) (h _ (by omega)) (h _ (by omega)) (h _ (by omega)), h 130 (by omega), h 126 (by omega)]
  exact hI
theorem IP_row {c c2 : HC} {n fi cn : Nat} (h : ∀ x, (7 ≤ x ∧ x ≤ 68) ∨ x = 142 ∨ x = 126 → c2 x = c x) (h2 : c2 122 34 = c 122 34) (hI : IP c n fi cn) : IP c2 n fi cn := by
  obtain ⟨a1, a2, a3, a4, a5, a6⟩ := hI
  refine ⟨by rw [h 7 (by omega)]; exact a1, by rw [h 7 (by omega)]; exact a2, a3, a4, h2.trans a5, fun i hi => ?_⟩
  rw [stR_row (c := c) (h _ (by omega)) (h _ (by omega)) (h _ (by omega)), h 142 (by omega), h 126 (by omega)]
  exact a6 i hi
theorem II_row {c c2 : HC} {n : Nat} (h : ∀ x, (114 ≤ x ∧ x ≤ 121) ∨ x = 147 ∨ x = 148 ∨ x = 126 → c2 x = c x) (hI : II c n) : II c2 n := by
  intro i hi
  have z := hI i hi
  rw [stR_row (c := c) (h _ (by omega)) (h _ (by omega)) (h _ (by omega)), h (114 + 4 * i) (by omega), h 147 (by omega), h 148 (by omega), h 126 (by omega)]
  exact z
theorem ID_row {c c2 : HC} (h : c2 87 0 = c 87 0) (h2 : c2 122 13 = c 122 13) (hI : ID c) : ID c2 := by
  unfold ID at *
  rw [h, h2]
  exact hI
theorem IM_row {c c2 : HC} {m k : Nat} (h : ∀ x, (84 ≤ x ∧ x ≤ 86) ∨ (144 ≤ x ∧ x ≤ 146) → c2 x = c x) (h1 : c2 1 12 = c 1 12 ∧ c2 1 13 = c 1 13) (h2 : c2 122 37 = c 122 37 ∧ c2 122 39 = c 122 39) (hI : IM c m k) : IM c2 m k := by
  unfold IM at *
  rw [h1.1, h1.2, h2.1, h2.2, h 84 (by omega), h 85 (by omega), h 86 (by omega), h 144 (by omega), h 145 (by omega), h 146 (by omega)]
  exact hI
theorem IT_row {c c2 : HC} {nt : Nat} (h3 : c2 3 = c 3) (h131 : c2 131 = c 131) (h1 : c2 2 1 = c 2 1 ∧ c2 2 5 = c 2 5) (h2 : c2 122 15 = c 122 15 ∧ c2 122 16 = c 122 16) (hI : IT c nt) : IT c2 nt := by
  unfold IT at *
  rw [h3, h131, h1.1, h1.2, h2.1, h2.2]
  exact hI
theorem IW_row {c c2 : HC} {f fn : Nat} (h : c2 1 10 = c 1 10) (h2 : c2 1 11 = c 1 11) (h3 : c2 (fn + 1 + 6) 0 = c (fn + 1 + 6) 0) (hI : IW c f fn) : IW c2 f fn := ⟨hI.1, h.trans hI.2.1, h2.trans hI.2.2.1, h3.trans hI.2.2.2⟩
theorem GI_row {c c2 : HC} {M : Nat} (h : ∀ x, 70 ≤ x ∧ x ≤ 73 → c2 x = c x) (hI : GI c M) : GI c2 M := by
  unfold GI GOK wF at *
  rw [h 70 (by omega), h 71 (by omega), h 72 (by omega), h 73 (by omega)]
  exact hI
/-- the functions read no more of a row than there is -/
theorem lenL_cg {ns : Int} {sy br sy2 br2 : Nat → Int} (h : ∀ j : Nat, (j : Int) < ns → sy j = sy2 j ∧ br j = br2 j) : ∀ (k : Nat) (rest bh syl : Int), lenL ns sy br k rest bh syl = lenL ns sy2 br2 k rest bh syl
  | 0, rest, bh, syl => rfl
  | k + 1, rest, bh, syl => by
    rw [lenL.eq_2, lenL.eq_2]
    by_cases h0 : rest ≤ 0
    · rw [if_pos h0, if_pos h0]
    · rw [if_neg h0, if_neg h0]
      by_cases h1 : rest % 10 - 1 < 0 ∨ ns ≤ rest % 10 - 1
      · rw [if_pos (by omega), if_pos (by omega)]
      · have z := h (rest % 10 - 1).toNat (by omega)
        rw [z.1, z.2, lenL_cg h k]
theorem lenF_cg {ms ns ne : Int} {sy ey br sy2 ey2 br2 : Nat → Int} (h : ∀ j : Nat, (j : Int) < ns → sy j = sy2 j ∧ br j = br2 j) (h2 : ∀ j : Nat, (j : Int) < ne → ey j = ey2 j) (w : Int) : lenF ms ns ne sy ey br w = lenF ms ns ne sy2 ey2 br2 w := by
  unfold lenF
  by_cases h0 : w < 0 ∨ ne < w % 10
  · rw [if_pos h0, if_pos h0]
  · rw [if_neg h0, if_neg h0, lenL_cg h]
    by_cases h1 : w % 10 = 0
    · rw [if_pos h1, if_pos h1]
    · rw [if_neg h1, if_neg h1, h2 (w % 10 - 1).toNat (by omega)]
theorem len_GR {c : HC} {f : Nat} (h : GRQ c f) (w : Int) : lenG c (f + 1) w = lenR c w := by
  obtain ⟨⟨h0, h1, h2, h3⟩, h4, h5⟩ := h
  unfold lenG lenR
  rw [h0, h2, h3]
  exact lenF_cg h4 h5 w
theorem syl_GR {c : HC} {f : Nat} (h : GRQ c f) (w : Int) : sylG c (f + 1) w = sylR c w := by
  unfold sylG sylR sylF
  split
  · rfl
  · exact len_GR h w
section CG
variable {sd wt cg sd2 wt2 cg2 : Nat → Int} {n : Nat}
theorem isOf_cg (h : ∀ j, j < n → sd j = sd2 j) (s p : Int) : isOfF n sd s p = isOfF n sd2 s p := by
  unfold isOfF
  by_cases e : 0 ≤ p ∧ p < n
  · rw [h p.toNat (by omega)]
  · rw [if_neg (fun z => e ⟨z.1, z.2.1⟩), if_neg (fun z => e ⟨z.1, z.2.1⟩)]
theorem op_cg (h : ∀ j, j < n → sd j = sd2 j) (p q : Int) : opF n sd p q = opF n sd2 p q := by
  unfold opF
  rw [isOf_cg h, isOf_cg h]
theorem cnt_cg (s : Int) : ∀ m, (∀ j, j < m → sd j = sd2 j) → cntU sd s m = cntU sd2 s m
  | 0, _ => rfl
  | m + 1, h => by
    rw [cntU.eq_2, cntU.eq_2, cnt_cg s m (fun j hj => h j (by omega)), h m (by omega)]
theorem nth_cg (s df : Int) : ∀ m p left, (∀ j, p ≤ j → j < p + m → sd j = sd2 j) → nthL sd s df m p left = nthL sd2 s df m p left
  | 0, _, _, _ => rfl
  | m + 1, p, left, h => by
    rw [nthL.eq_2, nthL.eq_2, h p (Nat.le_refl _) (by omega), nth_cg s df m (p + 1) left (fun j h1 h2 => h j (by omega) (by omega)), nth_cg s df m (p + 1) (left - 1) (fun j h1 h2 => h j (by omega) (by omega))]
theorem ws_cg (s : Int) : ∀ m, (∀ j, j < m → sd j = sd2 j ∧ wt j = wt2 j) → wsU sd wt s m = wsU sd2 wt2 s m
  | 0, _ => rfl
  | m + 1, h => by
    rw [wsU.eq_2, wsU.eq_2, ws_cg s m (fun j hj => h j (by omega)), (h m (by omega)).1, (h m (by omega)).2]
theorem df_cg (x : Int) : ∀ m, (∀ j, j < m → wt j = wt2 j) → dfU wt x m = dfU wt2 x m
  | 0, _ => rfl
  | m + 1, h => by
    rw [dfU.eq_2, dfU.eq_2, df_cg x m (fun j hj => h j (by omega)), h m (by omega)]
theorem od_cg (x : Int) : ∀ m, (∀ j, j < m → cg j = cg2 j) → odU cg x m = odU cg2 x m
  | 0, _ => rfl
  | m + 1, h => by
    rw [odU.eq_2, odU.eq_2, od_cg x m (fun j hj => h j (by omega)), h m (by omega)]
theorem lw_cg (s : Int) : ∀ m, (∀ j, j < m → sd j = sd2 j ∧ wt j = wt2 j ∧ cg j = cg2 j) → lwU sd wt cg s m = lwU sd2 wt2 cg2 s m
  | 0, _ => rfl
  | m + 1, h => by
    rw [lwU.eq_2, lwU.eq_2, lw_cg s m (fun j hj => h j (by omega)), (h m (by omega)).1, (h m (by omega)).2.1, (h m (by omega)).2.2]
theorem fr_cg (h : ∀ j, j < n → wt j = wt2 j) : ∀ s, frU wt n s = frU wt2 n s
  | 0 => rfl
  | s + 1 => by
    rw [frU.eq_2, frU.eq_2, fr_cg h s, df_cg _ n h]
end CG
theorem jd_cg {er ep er2 ep2 : Nat → Int} (r p : Int) : ∀ k i, (∀ j, i ≤ j → j < i + k → er j = er2 j ∧ ep j = ep2 j) → jdL er ep r p k i = jdL er2 ep2 r p k i
  | 0, _, _ => rfl
  | k + 1, i, h => by
    rw [jdL.eq_2, jdL.eq_2, (h i (Nat.le_refl _) (by omega)).1, (h i (Nat.le_refl _) (by omega)).2, jd_cg r p k (i + 1) (fun j h1 h2 => h j (by omega) (by omega))]
theorem lb_lg {W : Nat → Int} (h0 : W 0 = 0) (hn : ∀ l, l < 42 → 0 ≤ W l) : ∀ b, b ≤ 41 → lbF W 0 b = if lgL W b < 0 then 0 else lgL W b
  | 0, _ => by
    unfold lbF lgL
    rw [if_pos h0, if_pos (by decide)]
  | b + 1, hb => by
    have ih := lb_lg h0 hn b (by omega)
    have z := hn (b + 1) (by omega)
    unfold lbF lgL
    by_cases e : 0 < W (b + 1)
    · rw [if_pos e, if_neg (show ¬ W (b + 1) = 0 by omega), if_neg (by omega)]
    · rw [if_neg e, if_pos (show W (b + 1) = 0 by omega)]
      exact ih
theorem lw_TB {c : HC} {f : Nat} (h : TBQ c f) {b : Int} (hb : 0 ≤ b) : lwF (c (f + 1 + 6)) b = lg0 (c 141) b := by
  have h2 := imin41 hb
  unfold lwF lg0
  rw [if_pos hb, (h.1 _ (by omega)).2.1, lb_lg h.2.1 (fun l hl => (h.2.2 l hl).1) _ (by omega)]
theorem lg_nz {c : HC} {f : Nat} (h : TBQ c f) (b : Nat) (hb : b ≤ 41) (h1 : 0 ≤ lgL (c 141) b) : 0 < lgL (c 141) b ∧ 0 < c 141 (lgL (c 141) b).toNat ∧ (lgL (c 141) b).toNat < 42 := by
  have h2 := lgL_nz (c 141) b h1
  have h3 := lgL_bd (c 141) b
  have h4 := (h.2.2 (lgL (c 141) b).toNat (by omega)).1
  refine ⟨?_, by omega, by omega⟩
  by_cases e : lgL (c 141) b = 0
  · rw [e] at h2
    exact absurd h.2.1 h2
  · omega
theorem wd_TB {c : HC} {f : Nat} (h : TBQ c f) {b : Int} (hb : 0 ≤ b) : wdF (c (f + 1 + 6)) (c (f + 1 + 5)) b = wdR (c 141) (c 140) b := by
  have h2 := imin41 hb
  unfold wdF wdR
  rw [lw_TB h hb]
  unfold lg0
  by_cases e : lgL (c 141) (imin b 41).toNat < 0
  · rw [if_pos e, if_pos rfl, if_pos e]
  · have z := lg_nz h _ (by omega) (show 0 ≤ lgL (c 141) (imin b 41).toNat by omega)
    rw [if_neg e, if_neg (by omega), if_neg e, (h.1 _ z.2.2).2.2 z.2.1]
theorem lgF_TB {c : HC} {f : Nat} (h : TBQ c f) (b w : Int) : lgF (c (f + 1 + 6)) (c (f + 1 + 5)) b w = ylgF (c 141) (c 140) b w := by
  unfold lgF ylgF
  by_cases e0 : (b < 0 ∨ 99 < b) ∨ (w < 0 ∨ 1 < w)
  · rw [if_pos e0, if_pos e0]
  · rw [if_neg e0, if_neg e0]
    have hb : 0 ≤ b := by omega
    have h2 := imin41 hb
    rw [lw_TB h hb]
    unfold lg0
    have h3 := lgL_bd (c 141) (imin b 41).toNat
    by_cases e : lgL (c 141) (imin b 41).toNat < 0
    · rw [if_pos e, if_pos rfl, if_pos (Or.inl e)]
      omega
    · have z := lg_nz h _ (by omega) (show 0 ≤ lgL (c 141) (imin b 41).toNat by omega)
      rw [if_neg e, if_neg (by omega)]
      by_cases e2 : w = 0
      · rw [if_pos e2, if_pos (Or.inr e2)]
      · rw [if_neg e2, if_neg (by omega), (h.1 _ z.2.2).2.2 z.2.1]
theorem TB_bd {c : HC} {f : Nat} (h : TBQ c f) : ∀ k, k < 42 → 0 ≤ c (f + 1 + 6) k ∧ c (f + 1 + 6) k ≤ k := fun k hk => by
  have h3 := lgL_bd (c 141) k
  rw [(h.1 k hk).2.1, lb_lg h.2.1 (fun l hl => (h.2.2 l hl).1) k (by omega)]
  split <;> omega
theorem TBV_of {c : HC} {f n : Nat} (h : IG c f n) : TBV c (f + 1) := by
  obtain ⟨a1, a2, a3, a4, a5, a6, a7⟩ := h
  intro k hk
  have hb := TB_bd a7 k hk
  refine ⟨hb, fun hne => ?_⟩
  have h3 := lgL_bd (c 141) k
  rw [(a7.1 k hk).2.1, lb_lg a7.2.1 (fun l hl => (a7.2.2 l hl).1) k (by omega)] at hne ⊢
  by_cases e : lgL (c 141) k < 0
  · rw [if_pos e] at hne; exact absurd rfl hne
  · rw [if_neg e]
    have z := lg_nz a7 k (by omega) (by omega)
    have y := (a7.2.2 _ z.2.2).2 z.2.1
    rw [(a7.1 _ z.2.2).2.2 z.2.1, len_GR a5, y.1]
    exact ⟨by omega, y.2⟩
