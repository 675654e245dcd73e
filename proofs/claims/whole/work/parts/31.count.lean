/-! how many words: grown or tried one by one -/
def sr (F : Nat → Int) (a : Nat) : Nat → Int
  | 0 => 0
  | m + 1 => sr F a m + F (a + m)
theorem sr_add (F : Nat → Int) (a m : Nat) : ∀ k, sr F a (m + k) = sr F a m + sr F (a + m) k
  | 0 => by show _ = _ + (0 : Int); rw [Nat.add_zero]; omega
  | k + 1 => by
    have h := sr_add F a m k
    show sr F a (m + k) + F (a + (m + k)) = sr F a m + (sr F (a + m) k + F (a + m + k))
    rw [h, Nat.add_assoc]
    omega
theorem sr_zero {F : Nat → Int} {a m : Nat} : ∀ k, (∀ i, m ≤ i → i < m + k → F (a + i) = 0) → sr F a (m + k) = sr F a m
  | 0, _ => rfl
  | k + 1, h => by
    show sr F a (m + k) + F (a + (m + k)) = _
    rw [sr_zero k (fun i h1 h2 => h i h1 (by omega)), h (m + k) (by omega) (by omega)]
    omega
theorem sr_sum (F G : Nat → Int) (a : Nat) : ∀ m, sr (fun q => F q + G q) a m = sr F a m + sr G a m
  | 0 => rfl
  | m + 1 => by
    show sr (fun q => F q + G q) a m + (F (a + m) + G (a + m)) = sr F a m + F (a + m) + (sr G a m + G (a + m))
    rw [sr_sum F G a m]
    omega
theorem sr_ten (H : Nat → Int) (a : Nat) : ∀ m, sr (fun q => sr H (10 * q) 10) a m = sr H (10 * a) (10 * m)
  | 0 => rfl
  | m + 1 => by
    show sr (fun q => sr H (10 * q) 10) a m + sr H (10 * (a + m)) 10 = sr H (10 * a) (10 * m + 10)
    rw [sr_ten H a m, sr_add, Nat.mul_add]
theorem sr_bd {F : Nat → Int} (h : ∀ w, 0 ≤ F w ∧ F w ≤ 1) (a : Nat) : ∀ m, 0 ≤ sr F a m ∧ sr F a m ≤ m
  | 0 => ⟨Int.le_refl _, Int.le_refl _⟩
  | m + 1 => by
    have h1 := sr_bd h a m
    have h2 := h (a + m)
    show 0 ≤ sr F a m + F (a + m) ∧ sr F a m + F (a + m) ≤ ((m + 1 : Nat) : Int)
    omega
section CNT
variable {ms ns ne : Nat} {sy ey br : Nat → Int} {p : Nat → Nat → Bool}
def lnN (ms ns ne : Nat) (sy ey br : Nat → Int) (w : Nat) : Int := lenF (ms : Int) (ns : Int) (ne : Int) sy ey br (w : Int)
def FW (ms ns ne : Nat) (sy ey br : Nat → Int) (p : Nat → Nat → Bool) (w : Nat) : Int := if 0 ≤ lnN ms ns ne sy ey br w ∧ p w (lnN ms ns ne sy ey br w).toNat = true then 1 else 0
theorem FW_bd (w : Nat) : 0 ≤ FW ms ns ne sy ey br p w ∧ FW ms ns ne sy ey br p w ≤ 1 := by unfold FW; split <;> omega
def UW (F : Nat → Int) : Nat → Nat → Int
  | 0 => fun _ => 0
  | k + 1 => fun q => sr F (10 * q) 10 + sr (UW F k) (10 * q) 10
theorem sr_UW (F : Nat → Int) (k a m : Nat) : sr (UW F (k + 1)) a m = sr F (10 * a) (10 * m) + sr (UW F k) (10 * a) (10 * m) := by
  show sr (fun q => sr F (10 * q) 10 + sr (UW F k) (10 * q) 10) a m = _
  rw [sr_sum (fun q => sr F (10 * q) 10) (fun q => sr (UW F k) (10 * q) 10), sr_ten, sr_ten]
theorem sr_z (a : Nat) : ∀ m, sr (fun _ => 0) a m = 0
  | 0 => rfl
  | m + 1 => by show sr (fun _ => 0) a m + 0 = 0; rw [sr_z a m]; rfl
theorem UW_all (F : Nat → Int) : sr (UW F 4) 1 9 = sr F 10 99990 := by
  rw [sr_UW, sr_UW, sr_UW, sr_UW, show sr (UW F 0) (10 * (10 * (10 * (10 * 1)))) (10 * (10 * (10 * (10 * 9)))) = 0 from sr_z _ _]
  have h1 := sr_add F 10 90 900
  have h2 := sr_add F 10 990 9000
  have h3 := sr_add F 10 9990 90000
  simp only [Nat.reduceAdd, Nat.reduceMul] at *
  omega
theorem len_nil {j : Nat} {bh acc : Int} : lenL (ns : Int) sy br j 0 bh acc = acc := by
  cases j with
  | zero => unfold lenL; rw [if_pos rfl]
  | succ j => unfold lenL; rw [if_pos (Int.le_refl _), if_pos rfl]
theorem len_sn {j q e : Nat} {bh acc : Int} (he : e < 10) (hq : 0 < 10 * q + e) : lenL (ns : Int) sy br (j + 1) ((10 * q + e : Nat) : Int) bh acc = if (e : Int) - 1 < 0 ∨ (ns : Int) ≤ (e : Int) - 1 ∨ (bh ≠ -1 ∧ bitI (br (e - 1)) bh = 1) then -1 else lenL (ns : Int) sy br j (q : Int) ((e : Int) - 1) (acc + sy (e - 1)) := by
  rw [lenL.eq_2]
  have h1 : ((10 * q + e : Nat) : Int) % 10 = (e : Int) := by omega
  have h2 : ((10 * q + e : Nat) : Int) / 10 = (q : Int) := by omega
  have h3 : ((e : Int) - 1).toNat = e - 1 := by omega
  rw [if_neg (by omega), h1, h2, h3]
theorem len_s0 {q : Nat} {bh acc : Int} (hq : 0 < q) : lenL (ns : Int) sy br 0 (q : Int) bh acc = -1 := by
  unfold lenL
  rw [if_neg (by omega)]
/-- a run that no word has -/
def DD (ms ns : Nat) (sy br : Nat → Int) (q : Nat) : Prop := 0 < q ∧ ∀ j, j ≤ ms → ∀ bh acc, lenL (ns : Int) sy br j (q : Int) bh acc = -1
/-- a run of δ stems, the last one last, of y syllables -/
def CN (ns : Nat) (sy br : Nat → Int) (q last y δ : Nat) : Prop := 0 < q ∧ ∀ j bh acc, lenL (ns : Int) sy br j (q : Int) bh acc = if j < δ then -1 else if bh ≠ -1 ∧ bitI (br last) bh = 1 then -1 else acc + y
theorem DD_sn {q e : Nat} (h : DD ms ns sy br q) (he : e < 10) : DD ms ns sy br (10 * q + e) := by
  have := h.1
  refine ⟨by omega, fun j hj bh acc => ?_⟩
  cases j with
  | zero => exact len_s0 (by omega)
  | succ j =>
    rw [len_sn he (by omega)]
    split
    · rfl
    · exact h.2 j (by omega) _ _
theorem DD_bad {q e : Nat} (he : e < 10) (hq : 0 < 10 * q + e) (hb : e = 0 ∨ ns < e) : DD ms ns sy br (10 * q + e) := by
  refine ⟨hq, fun j hj bh acc => ?_⟩
  cases j with
  | zero => exact len_s0 hq
  | succ j =>
    rw [len_sn he hq, if_pos (by omega)]
theorem DD_bar {q last y δ e : Nat} (h : CN ns sy br q last y δ) (he : e < 10) (h0 : 0 < e) (hb : bitI (br last) ((e - 1 : Nat) : Int) = 1) : DD ms ns sy br (10 * q + e) := by
  have := h.1
  refine ⟨by omega, fun j hj bh acc => ?_⟩
  cases j with
  | zero => exact len_s0 (by omega)
  | succ j =>
    rw [len_sn he (by omega)]
    split
    · rfl
    · rw [h.2]
      split
      · rfl
      · rw [if_pos ⟨by omega, by rw [← hb]; congr 1; omega⟩]
theorem CN_sn {q last y δ e : Nat} (h : CN ns sy br q last y δ) (he : e < 10) (h0 : 0 < e) (hn : e ≤ ns) (hs : 0 ≤ sy (e - 1)) (hb : bitI (br last) ((e - 1 : Nat) : Int) ≠ 1) : CN ns sy br (10 * q + e) (e - 1) (y + (sy (e - 1)).toNat) (δ + 1) := by
  have := h.1
  refine ⟨by omega, fun j bh acc => ?_⟩
  cases j with
  | zero => rw [if_pos (by omega)]; exact len_s0 (by omega)
  | succ j =>
    rw [len_sn he (by omega), h.2]
    by_cases hc : bh ≠ -1 ∧ bitI (br (e - 1)) bh = 1
    · rw [if_pos (Or.inr (Or.inr hc)), if_pos hc]
      split <;> rfl
    · rw [if_neg (by intro z; rcases z with z | z | z; omega; omega; exact hc z), if_neg hc]
      by_cases hj : j < δ
      · rw [if_pos hj, if_pos (by omega)]
      · rw [if_neg hj, if_neg (show ¬ ((e : Int) - 1 ≠ -1 ∧ bitI (br last) ((e : Int) - 1) = 1) from fun z => hb (by rw [← z.2]; congr 1; omega)), if_neg (show ¬ (j + 1 < δ + 1) by omega)]
        omega
theorem CN_1 {e : Nat} (he : e < 10) (h0 : 0 < e) (hn : e ≤ ns) (hs : 0 ≤ sy (e - 1)) : CN ns sy br e (e - 1) (sy (e - 1)).toNat 1 := by
  refine ⟨h0, fun j bh acc => ?_⟩
  cases j with
  | zero => rw [if_pos (by omega)]; exact len_s0 h0
  | succ j =>
    have h := len_sn (ns := ns) (sy := sy) (br := br) (j := j) (q := 0) (e := e) (bh := bh) (acc := acc) he (by omega)
    rw [show 10 * 0 + e = e by omega] at h
    rw [h, if_neg (show ¬ (j + 1 < 1) by omega)]
    by_cases hc : bh ≠ -1 ∧ bitI (br (e - 1)) bh = 1
    · rw [if_pos (Or.inr (Or.inr hc)), if_pos hc]
    · rw [if_neg (by intro z; rcases z with z | z | z; omega; omega; exact hc z), if_neg hc, show ((0 : Nat) : Int) = 0 from rfl, len_nil]
      omega
theorem CN_DD {q last y δ : Nat} (h : CN ns sy br q last y δ) (hm : ms < δ) : DD ms ns sy br q := ⟨h.1, fun j hj bh acc => by rw [h.2, if_pos (by omega)]⟩
theorem ln_q {q e : Nat} (he : e < 10) (hq : 0 < q) : lnN ms ns ne sy ey br (10 * q + e) = if ne < e then -1 else lenL (ns : Int) sy br ms (q : Int) (-1) (if e = 0 then 0 else ey (e - 1)) := by
  unfold lnN lenF
  have h1 : ((10 * q + e : Nat) : Int) % 10 = (e : Int) := by omega
  have h2 : ((10 * q + e : Nat) : Int) / 10 = (q : Int) := by omega
  have h3 : ((e : Int) - 1).toNat = e - 1 := by omega
  rw [h1, h2, h3, Int.toNat_natCast]
  by_cases hn : ne < e
  · rw [if_pos (by omega), if_pos hn]
  · rw [if_neg (by omega), if_neg hn, if_neg (by omega)]
    by_cases h0 : e = 0
    · rw [if_pos (by omega), if_pos h0]
    · rw [if_neg (by omega), if_neg h0]
theorem FW_neg {w : Nat} (h : lnN ms ns ne sy ey br w = -1) : FW ms ns ne sy ey br p w = 0 := by
  unfold FW
  rw [if_neg (by rw [h]; omega)]
theorem FW_DD {q e : Nat} (h : DD ms ns sy br q) (he : e < 10) : FW ms ns ne sy ey br p (10 * q + e) = 0 := by
  apply FW_neg
  rw [ln_q he h.1]
  split
  · rfl
  · exact h.2 ms (Nat.le_refl _) _ _
theorem UW_DD : ∀ k q, DD ms ns sy br q → UW (FW ms ns ne sy ey br p) k q = 0
  | 0, q, _ => rfl
  | k + 1, q, h => by
    show sr (FW ms ns ne sy ey br p) (10 * q) 10 + sr (UW (FW ms ns ne sy ey br p) k) (10 * q) 10 = 0
    have h1 := sr_zero (F := FW ms ns ne sy ey br p) (a := 10 * q) (m := 0) 10 (fun i _ hi => FW_DD h (by omega))
    have h2 := sr_zero (F := UW (FW ms ns ne sy ey br p) k) (a := 10 * q) (m := 0) 10 (fun i _ hi => UW_DD k _ (DD_sn h (by omega)))
    rw [show 0 + 10 = 10 from rfl] at h1 h2
    rw [h1, h2]
    rfl
def entN (p : Nat → Nat → Bool) (w l : Nat) (x : Int) : Int := if p w l = true then x + 1 else x
theorem FW_CN {q last y δ e : Nat} (h : CN ns sy br q last y δ) (hm : δ ≤ ms) (he : e < 10) (hn : e ≤ ne) (hs : e ≠ 0 → 0 ≤ ey (e - 1)) : FW ms ns ne sy ey br p (10 * q + e) = if p (10 * q + e) (y + if e = 0 then 0 else (ey (e - 1)).toNat) = true then 1 else 0 := by
  have hl : lnN ms ns ne sy ey br (10 * q + e) = ((y + if e = 0 then 0 else (ey (e - 1)).toNat : Nat) : Int) := by
    rw [ln_q he h.1, if_neg (by omega), h.2, if_neg (by omega), if_neg (fun z => z.1 rfl)]
    by_cases h0 : e = 0
    · rw [if_pos h0, if_pos h0]; omega
    · have := hs h0
      rw [if_neg h0, if_neg h0]; omega
  unfold FW
  rw [hl, Int.toNat_natCast]
  by_cases hp : p (10 * q + e) (y + if e = 0 then 0 else (ey (e - 1)).toNat) = true
  · rw [if_pos ⟨by omega, hp⟩, if_pos hp]
  · rw [if_neg (fun z => hp z.2), if_neg hp]
theorem en_N {q last y δ : Nat} (h : CN ns sy br q last y δ) (hm : δ ≤ ms) (hne : ne ≤ 4) (hey : ∀ e, e < ne → 0 ≤ ey e) (x : Int) : ∀ e, e ≤ ne → enU (entN p) (fun e => (ey e).toNat) q y e (entN p (q * 10) y x) = x + sr (FW ms ns ne sy ey br p) (10 * q) (e + 1)
  | 0, _ => by
    show entN p (q * 10) y x = x + (0 + FW ms ns ne sy ey br p (10 * q + 0))
    rw [FW_CN h hm (by omega) (by omega) (fun z => absurd rfl z), if_pos rfl, Nat.add_zero, Nat.add_zero, Nat.mul_comm]
    unfold entN
    split <;> omega
  | e + 1, he => by
    show entN p (q * 10 + e + 1) (y + (ey e).toNat) (enU (entN p) (fun e => (ey e).toNat) q y e (entN p (q * 10) y x)) = x + (sr (FW ms ns ne sy ey br p) (10 * q) (e + 1) + FW ms ns ne sy ey br p (10 * q + (e + 1)))
    rw [en_N h hm hne hey x e (by omega), FW_CN h hm (by omega) (by omega) (fun _ => hey e (by omega)), if_neg (Nat.succ_ne_zero e), show q * 10 + e + 1 = 10 * q + (e + 1) by omega, show e + 1 - 1 = e from rfl]
    unfold entN
    split <;> omega
theorem st_N {G : Nat → Int → Int} {bd : Nat → Int} {F : Nat → Int} {a : Nat} (x : Int) (h0 : F a = 0) : ∀ s, (∀ i, i < s → ∀ y, bd i ≠ 1 → G i y = y + F (a + (i + 1))) → (∀ i, i < s → bd i = 1 → F (a + (i + 1)) = 0) → stU G bd s x = x + sr F a (s + 1)
  | 0, _, _ => by
    show x = x + (0 + F (a + 0))
    rw [Nat.add_zero, h0]
    omega
  | s + 1, h1, h2 => by
    have ih := st_N x h0 s (fun i hi => h1 i (by omega)) (fun i hi => h2 i (by omega))
    show (if bd s = 1 then stU G bd s x else G s (stU G bd s x)) = x + (sr F a (s + 1) + F (a + (s + 1)))
    by_cases hb : bd s = 1
    · rw [if_pos hb, ih, h2 s (by omega) hb]
      omega
    · rw [if_neg hb, h1 s (by omega) _ hb, ih]
      omega
theorem gr_N (hns : ns ≤ 6) (hne : ne ≤ 4) (hsy : ∀ s, s < ns → 0 ≤ sy s) (hey : ∀ e, e < ne → 0 ≤ ey e) : ∀ k δ last q y x, CN ns sy br q last y δ → grT (entN p) ms ns ne (fun s => (sy s).toNat) (fun e => (ey e).toNat) (bdF br) k δ last q y x = x + UW (FW ms ns ne sy ey br p) k q
  | 0, δ, last, q, y, x, h => by show x = x + 0; omega
  | k + 1, δ, last, q, y, x, h => by
    have hq := h.1
    rw [grT.eq_2]
    by_cases hm : ms < δ
    · rw [if_pos hm, UW_DD (k + 1) q (CN_DD h hm)]
      omega
    · rw [if_neg hm, en_N (ms := ms) h (show δ ≤ ms by omega) hne hey x ne (Nat.le_refl _)]
      have e1 := sr_zero (F := FW ms ns ne sy ey br p) (a := 10 * q) (m := ne + 1) (9 - ne) (fun i h1 h2 => FW_neg (by rw [ln_q (by omega) hq, if_pos (by omega)]))
      rw [show ne + 1 + (9 - ne) = 10 by omega] at e1
      have e2 := sr_zero (F := UW (FW ms ns ne sy ey br p) k) (a := 10 * q) (m := ns + 1) (9 - ns) (fun i h1 h2 => UW_DD k _ (DD_bad (by omega) (by omega) (Or.inr (by omega))))
      rw [show ns + 1 + (9 - ns) = 10 by omega] at e2
      rw [← e1, st_N (F := UW (FW ms ns ne sy ey br p) k) (a := 10 * q) _ (UW_DD k _ (by have := DD_bad (ms := ms) (ns := ns) (sy := sy) (br := br) (q := q) (e := 0) (by omega) (by omega) (Or.inl rfl); exact this)) ns (fun i hi z hb => ?_) (fun i hi hb => ?_), ← e2]
      · show x + _ + _ = x + (_ + _)
        omega
      · have hc := CN_sn (e := i + 1) h (by omega) (by omega) (by omega) (hsy i hi) hb
        have := gr_N hns hne hsy hey k (δ + 1) i (10 * q + (i + 1)) (y + (sy i).toNat) z hc
        rw [show q * 10 + i + 1 = 10 * q + (i + 1) by omega]
        exact this
      · exact UW_DD k _ (DD_bar (e := i + 1) h (by omega) (by omega) hb)
theorem ln_far {w : Nat} (hns : ns ≤ 6) (hms : ms ≤ 4) (h1 : 66670 ≤ w) (h2 : w < 100000) : lnN ms ns ne sy ey br w = -1 := by
  obtain ⟨q, e, he, rfl⟩ : ∃ q e, e < 10 ∧ w = 10 * q + e := ⟨w / 10, w % 10, by omega, by omega⟩
  rw [ln_q he (by omega)]
  split
  · rfl
  · have hD : DD ms ns sy br q := by
      obtain ⟨q1, d1, hd1, rfl⟩ : ∃ q1 d, d < 10 ∧ q = 10 * q1 + d := ⟨q / 10, q % 10, by omega, by omega⟩
      by_cases b1 : ns < d1
      · exact DD_bad hd1 (by omega) (Or.inr b1)
      · refine DD_sn ?_ hd1
        obtain ⟨q2, d2, hd2, rfl⟩ : ∃ q2 d, d < 10 ∧ q1 = 10 * q2 + d := ⟨q1 / 10, q1 % 10, by omega, by omega⟩
        by_cases b2 : ns < d2
        · exact DD_bad hd2 (by omega) (Or.inr b2)
        · refine DD_sn ?_ hd2
          obtain ⟨q3, d3, hd3, rfl⟩ : ∃ q3 d, d < 10 ∧ q2 = 10 * q3 + d := ⟨q2 / 10, q2 % 10, by omega, by omega⟩
          by_cases b3 : ns < d3
          · exact DD_bad hd3 (by omega) (Or.inr b3)
          · refine DD_sn ?_ hd3
            have h := DD_bad (ms := ms) (ns := ns) (sy := sy) (br := br) (q := 0) (e := q3) (by omega) (by omega) (Or.inr (by omega))
            rw [show 10 * 0 + q3 = q3 by omega] at h
            exact h
    exact hD.2 ms (Nat.le_refl _) _ _
/-- all words, grown, that p picks: as many as are found one by one -/
theorem top_N (hns : ns ≤ 6) (hne : ne ≤ 4) (hms : ms ≤ 4) (hsy : ∀ s, s < ns → 0 ≤ sy s) (hey : ∀ e, e < ne → 0 ≤ ey e) (x : Int) : stU (fun s => grT (entN p) ms ns ne (fun s => (sy s).toNat) (fun e => (ey e).toNat) (bdF br) 4 1 s (s + 1) (sy s).toNat) (fun _ => 0) ns x = x + sr (FW ms ns ne sy ey br p) 10 66660 := by
  have e1 := sr_zero (F := FW ms ns ne sy ey br p) (a := 10) (m := 66660) 33330 (fun i h1 h2 => FW_neg (ln_far hns hms (by omega) (by omega)))
  have e2 := UW_all (FW ms ns ne sy ey br p)
  have e3 := sr_zero (F := UW (FW ms ns ne sy ey br p) 4) (a := 1) (m := ns) (9 - ns) (fun i h1 h2 => UW_DD 4 _ (by have h := DD_bad (ms := ms) (ns := ns) (sy := sy) (br := br) (q := 0) (e := 1 + i) (by omega) (by omega) (Or.inr (by omega)); rw [show 10 * 0 + (1 + i) = 1 + i by omega] at h; exact h))
  rw [show ns + (9 - ns) = 9 by omega] at e3
  rw [← e1, show 66660 + 33330 = 99990 from rfl, ← e2, e3]
  have hst : ∀ s, s ≤ ns → stU (fun s => grT (entN p) ms ns ne (fun s => (sy s).toNat) (fun e => (ey e).toNat) (bdF br) 4 1 s (s + 1) (sy s).toNat) (fun _ => 0) s x = x + sr (UW (FW ms ns ne sy ey br p) 4) 1 s := by
    intro s
    induction s with
    | zero => intro _; show x = x + 0; omega
    | succ s ih =>
      intro hs
      rw [stU.eq_2, if_neg (by decide), ih (by omega)]
      have hc := CN_1 (ns := ns) (sy := sy) (br := br) (e := s + 1) (by omega) (by omega) (by omega) (hsy s (by omega))
      have h := gr_N (p := p) (ms := ms) hns hne hsy hey 4 1 s (s + 1) (sy s).toNat (x + sr (UW (FW ms ns ne sy ey br p) 4) 1 s) hc
      rw [h]
      show _ = x + (_ + UW (FW ms ns ne sy ey br p) 4 (1 + s))
      rw [Nat.add_comm 1 s]
      omega
  exact hst ns (Nat.le_refl _)
end CNT
