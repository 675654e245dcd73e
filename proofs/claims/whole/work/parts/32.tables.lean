/-! the tables are what was counted -/
theorem sr_pos {F : Nat → Int} (h : ∀ w, 0 ≤ F w) (a : Nat) : ∀ m, 0 < sr F a m ↔ ∃ i, i < m ∧ 0 < F (a + i)
  | 0 => ⟨fun z => absurd z (Int.lt_irrefl 0), fun ⟨i, hi, _⟩ => absurd hi (Nat.not_lt_zero _)⟩
  | m + 1 => by
    have ih := sr_pos h a m
    have hm := h (a + m)
    have e : sr F a (m + 1) = sr F a m + F (a + m) := rfl
    have hs : 0 ≤ sr F a m := by
      clear ih hm e
      induction m with
      | zero => exact Int.le_refl 0
      | succ m ihm =>
        have h2 := h (a + m)
        show 0 ≤ sr F a m + F (a + m)
        omega
    rw [e]
    constructor
    · intro z
      by_cases hz : 0 < sr F a m
      · obtain ⟨i, h1, h2⟩ := ih.mp hz
        exact ⟨i, by omega, h2⟩
      · exact ⟨m, by omega, by omega⟩
    · rintro ⟨i, h1, h2⟩
      by_cases hi : i = m
      · subst hi; omega
      · have := ih.mpr ⟨i, by omega, h2⟩
        omega
section HOM
variable {α β : Type} {R : α → β → Prop} {ent : Nat → Nat → α → α} {ent2 : Nat → Nat → β → β} {ms ns ne : Nat} {sN eN : Nat → Nat} {bd : Nat → Nat → Int}
theorem en_hom (hR : ∀ w l a b, 0 < w → R a b → R (ent w l a) (ent2 w l b)) {run y : Nat} {a : α} {b : β} (h : R a b) : ∀ e, R (enU ent eN run y e a) (enU ent2 eN run y e b)
  | 0 => h
  | e + 1 => hR _ _ _ _ (by omega) (en_hom hR h e)
theorem st_hom {G : Nat → α → α} {G2 : Nat → β → β} {bd : Nat → Int} (hG : ∀ s a b, R a b → R (G s a) (G2 s b)) {a : α} {b : β} (h : R a b) : ∀ s, R (stU G bd s a) (stU G2 bd s b)
  | 0 => h
  | s + 1 => by
    have ih := st_hom (bd := bd) hG h s
    rw [stU.eq_2, stU.eq_2]
    split
    · exact ih
    · exact hG s _ _ ih
theorem gr_hom (hR : ∀ w l a b, 0 < w → R a b → R (ent w l a) (ent2 w l b)) : ∀ (k δ last run y : Nat) (a : α) (b : β), 0 < run → R a b → R (grT ent ms ns ne sN eN bd k δ last run y a) (grT ent2 ms ns ne sN eN bd k δ last run y b)
  | 0, _, _, _, _, a, b, _, h => h
  | k + 1, δ, last, run, y, a, b, hr, h => by
    rw [grT.eq_2, grT.eq_2]
    split
    · exact h
    · refine st_hom (fun s a b hab => gr_hom hR k (δ + 1) s (run * 10 + s + 1) (y + sN s) a b (by omega) hab) ?_ ns
      exact en_hom hR (hR _ _ _ _ (by omega) h) ne
theorem top_hom (hR : ∀ w l a b, 0 < w → R a b → R (ent w l a) (ent2 w l b)) {a : α} {b : β} (h : R a b) : R (stU (fun s => grT ent ms ns ne sN eN bd 4 1 s (s + 1) (sN s)) (fun _ => 0) ns a) (stU (fun s => grT ent2 ms ns ne sN eN bd 4 1 s (s + 1) (sN s)) (fun _ => 0) ns b) :=
  st_hom (fun s a b hab => gr_hom hR 4 1 s (s + 1) (sN s) a b (by omega) hab) h ns
end HOM
def pL (l : Nat) : Nat → Nat → Bool := fun _ x => decide (x = l)
def pWL (w l : Nat) : Nat → Nat → Bool := fun v x => decide (v = w ∧ x = l)
theorem ent_W (l : Nat) : ∀ (w x : Nat) (a : TB) (b : Int), 0 < w → (0 ≤ b ∧ (b ≤ 2147483647 → a.1 l = b)) → 0 ≤ entN (pL l) w x b ∧ (entN (pL l) w x b ≤ 2147483647 → (entP w x a).1 l = entN (pL l) w x b) := by
  intro w x a b _ h
  unfold entN entP pL up1
  by_cases hx : x = l
  · subst hx
    simp only [decide_true, if_true]
    refine ⟨by omega, fun hb => ?_⟩
    have h2 := h.2 (by omega)
    rw [h2]
    exact wr_id (by omega) (by omega)
  · have hx2 : l ≠ x := fun q => hx q.symm
    simp [hx, hx2]
    exact h
def MN (l : Nat) (T : TB) (S : Nat → Prop) : Prop := (T.2 l = 0 ∧ ∀ w, ¬ S w) ∨ ∃ w : Nat, S w ∧ T.2 l = (w : Int) ∧ 0 < w ∧ ∀ v, S v → w ≤ v
def entS (l w x : Nat) (S : Nat → Prop) : Nat → Prop := fun v => S v ∨ (v = w ∧ x = l)
theorem ent_M (l : Nat) : ∀ (w x : Nat) (a : TB) (S : Nat → Prop), 0 < w → MN l a S → MN l (entP w x a) (entS l w x S) := by
  intro w x a S hw h
  unfold MN entP entS at *
  by_cases hx : x = l
  · subst hx
    rcases h with ⟨h1, h2⟩ | ⟨u, h1, h2, h3, h4⟩
    · refine Or.inr ⟨w, Or.inr ⟨rfl, rfl⟩, ?_, hw, fun v hv => ?_⟩
      · rw [if_pos (Or.inl h1)]
        exact if_pos rfl
      · rcases hv with hv | hv
        · exact absurd hv (h2 v)
        · omega
    · by_cases hc : w < u
      · refine Or.inr ⟨w, Or.inr ⟨rfl, rfl⟩, ?_, hw, fun v hv => ?_⟩
        · rw [if_pos (Or.inr (by omega))]
          exact if_pos rfl
        · rcases hv with hv | hv
          · have := h4 v hv
            omega
          · omega
      · refine Or.inr ⟨u, Or.inl h1, ?_, h3, fun v hv => ?_⟩
        · rw [if_neg (by omega)]
          exact h2
        · rcases hv with hv | hv
          · exact h4 v hv
          · omega
  · have e : (if a.2 x = 0 ∨ (w : Int) < a.2 x then up1 a.2 x (w : Int) else a.2) l = a.2 l := by
      split
      · unfold up1
        rw [if_neg (fun q => hx q.symm)]
      · rfl
    rcases h with ⟨h1, h2⟩ | ⟨u, h1, h2, h3, h4⟩
    · refine Or.inl ⟨by show (if a.2 x = 0 ∨ (w : Int) < a.2 x then up1 a.2 x (w : Int) else a.2) l = 0; rw [e]; exact h1, fun v hv => ?_⟩
      rcases hv with hv | hv
      · exact h2 v hv
      · exact hx hv.2
    · refine Or.inr ⟨u, Or.inl h1, by show (if a.2 x = 0 ∨ (w : Int) < a.2 x then up1 a.2 x (w : Int) else a.2) l = (u : Int); rw [e]; exact h2, h3, fun v hv => ?_⟩
      rcases hv with hv | hv
      · exact h4 v hv
      · exact absurd hv.2 hx
theorem ent_S (l u : Nat) : ∀ (w x : Nat) (S : Nat → Prop) (b : Int), 0 < w → (0 ≤ b ∧ (S u ↔ 0 < b)) → 0 ≤ entN (pWL u l) w x b ∧ (entS l w x S u ↔ 0 < entN (pWL u l) w x b) := by
  intro w x S b _ h
  unfold entN entS pWL
  by_cases hc : w = u ∧ x = l
  · obtain ⟨h1, h2⟩ := hc
    subst h1
    subst h2
    simp only [and_self, decide_true, if_true]
    exact ⟨by omega, fun _ => by omega, fun _ => Or.inr trivial⟩
  · rw [if_neg (by simpa using hc)]
    refine ⟨h.1, ?_, fun z => Or.inl (h.2.mpr z)⟩
    rintro (z | z)
    · exact h.2.mp z
    · exact absurd ⟨z.1.symm, z.2⟩ hc
abbrev lnC (c : HC) (g w : Nat) : Int := lnN (c g 6).toNat (c g 8).toNat (c g 9).toNat (c (g + 1)) (c (g + 2)) (c (g + 3)) w
abbrev FWC (c : HC) (g : Nat) (p : Nat → Nat → Bool) : Nat → Int := FW (c g 6).toNat (c g 8).toNat (c g 9).toNat (c (g + 1)) (c (g + 2)) (c (g + 3)) p
theorem top_C {c : HC} {g : Nat} (h : GV c g) (p : Nat → Nat → Bool) : stU (fun s => grT (entN p) (c g 6).toNat (c g 8).toNat (c g 9).toNat (fun s => (c (g + 1) s).toNat) (fun e => (c (g + 2) e).toNat) (bdF (c (g + 3))) 4 1 s (s + 1) (c (g + 1) s).toNat) (fun _ => 0) (c g 8).toNat 0 = sr (FWC c g p) 10 66660 := by
  obtain ⟨v1, v2, v3, v4, v5, v6⟩ := h
  have h := top_N (p := p) (ms := (c g 6).toNat) (ns := (c g 8).toNat) (ne := (c g 9).toNat) (sy := c (g + 1)) (ey := c (g + 2)) (br := c (g + 3)) (by omega) (by omega) (by omega) (fun s hs => by have := v5 s (by omega); omega) (fun e he => by have := v6 e (by omega); omega) 0
  rw [h, Int.zero_add]
theorem wd_W {c : HC} {g : Nat} (h : GV c g) {l : Nat} (hl : l < 42) : (wdT c g).1 l = sr (FWC c g (pL l)) 10 66660 := by
  have h1 := top_hom (R := fun (a : TB) (b : Int) => 0 ≤ b ∧ (b ≤ 2147483647 → a.1 l = b)) (ms := (c g 6).toNat) (ns := (c g 8).toNat) (ne := (c g 9).toNat) (sN := fun s => (c (g + 1) s).toNat) (eN := fun e => (c (g + 2) e).toNat) (bd := bdF (c (g + 3))) (ent := entP) (ent2 := entN (pL l)) (ent_W l) (a := tb0 c g) (b := 0) ⟨Int.le_refl _, fun _ => if_pos ⟨by omega, hl⟩⟩
  rw [top_C h] at h1
  have hb := sr_bd (F := FWC c g (pL l)) (fun w => FW_bd w) 10 66660
  exact h1.2 (by omega)
theorem wd_L {c : HC} {g : Nat} (h : GV c g) {l : Nat} (hl : l < 42) : MN l (wdT c g) (fun w => (10 ≤ w ∧ w < 66670) ∧ lnC c g w = (l : Int)) := by
  have h1 := top_hom (R := MN l) (ms := (c g 6).toNat) (ns := (c g 8).toNat) (ne := (c g 9).toNat) (sN := fun s => (c (g + 1) s).toNat) (eN := fun e => (c (g + 2) e).toNat) (bd := bdF (c (g + 3))) (ent := entP) (ent2 := entS l) (ent_M l) (a := tb0 c g) (b := fun _ => False) (Or.inl ⟨if_pos ⟨by omega, hl⟩, fun _ z => z⟩)
  have h2 : ∀ u, stU (fun s => grT (entS l) (c g 6).toNat (c g 8).toNat (c g 9).toNat (fun s => (c (g + 1) s).toNat) (fun e => (c (g + 2) e).toNat) (bdF (c (g + 3))) 4 1 s (s + 1) (c (g + 1) s).toNat) (fun _ => 0) (c g 8).toNat (fun _ => False) u ↔ ((10 ≤ u ∧ u < 66670) ∧ lnC c g u = (l : Int)) := by
    intro u
    have h3 := top_hom (R := fun (S : Nat → Prop) (b : Int) => 0 ≤ b ∧ (S u ↔ 0 < b)) (ms := (c g 6).toNat) (ns := (c g 8).toNat) (ne := (c g 9).toNat) (sN := fun s => (c (g + 1) s).toNat) (eN := fun e => (c (g + 2) e).toNat) (bd := bdF (c (g + 3))) (ent := entS l) (ent2 := entN (pWL u l)) (ent_S l u) (a := fun _ => False) (b := 0) ⟨Int.le_refl _, fun z => z.elim, fun z => absurd z (Int.lt_irrefl 0)⟩
    rw [top_C h] at h3
    rw [h3.2, sr_pos (fun w => (FW_bd w).1)]
    constructor
    · rintro ⟨i, hi, hp⟩
      unfold FW at hp
      split at hp
      · rename_i hq
        have h5 : 10 + i = u ∧ (lnC c g (10 + i)).toNat = l := by simpa [pWL] using hq.2
        have h6 := hq.1
        rw [← h5.1]
        refine ⟨by omega, ?_⟩
        have h7 := h5.2
        unfold lnC at h7 ⊢
        omega
      · exact absurd hp (Int.lt_irrefl 0)
    · rintro ⟨hr, hu⟩
      refine ⟨u - 10, by omega, ?_⟩
      rw [show 10 + (u - 10) = u by omega]
      unfold FW
      unfold lnC at hu
      rw [if_pos ⟨by omega, by rw [hu, Int.toNat_natCast]; simp [pWL]⟩]
      decide
  have e : (fun u => stU (fun s => grT (entS l) (c g 6).toNat (c g 8).toNat (c g 9).toNat (fun s => (c (g + 1) s).toNat) (fun e => (c (g + 2) e).toNat) (bdF (c (g + 3))) 4 1 s (s + 1) (c (g + 1) s).toNat) (fun _ => 0) (c g 8).toNat (fun _ => False) u) = fun w => (10 ≤ w ∧ w < 66670) ∧ lnC c g w = (l : Int) := by
    funext u
    exact propext (h2 u)
  rw [← e]
  exact h1
