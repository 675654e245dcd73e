/-! rows of rows: multianewarray -/
theorem arrV_cg {cI : ClassId} {N : Nat} {f g : Nat → Value} (h : ∀ j, j < N → f j = g j) : arrV cI N f = arrV cI N g := by
  unfold arrV
  rw [show (fun j : Fin N => f j.val) = fun j : Fin N => g j.val from funext fun j => h j.val j.isLt]
def mSH : SHP := [(6, 6), (1, 6), (1, 6), (1, 6), (1, 6), (1, 6), (1, 6)]
theorem mSH_a7 : ∀ i, i < 7 → 0 < i → mSH[i]? = some (1, 6) := by decide
theorem mSH_at (i : Nat) (h : 0 < i) (h2 : i < 7) : mSH[i]? = some (1, 6) := mSH_a7 i h2 h
theorem finAt.apps {sh : SHP} {a k : Nat} (h : finAt sh a k) : ∀ ps : SHP, finAt (sh ++ ps) a k := by
  intro ps
  rcases h with ⟨ci, r, h1, h2, h3⟩ | ⟨t, n, h1, h2⟩
  · exact Or.inl ⟨ci, r, by rw [List.getElem?_append_left (List.getElem?_eq_some_iff.mp h1).1]; exact h1, h2, h3⟩
  · exact Or.inr ⟨t, n, by rw [List.getElem?_append_left (List.getElem?_eq_some_iff.mp h1).1]; exact h1, h2⟩
theorem RelH.multi {D : va_G} {dA : Nat → ClassId} {b : Nat} {fin : Nat → Nat → Option Nat} {sh : SHP} {c : HC} {H H1 : Heap} (h : RelH D dA b fin sh c H) (h0 : 0 < sh.length) (hs : sh.length ≤ 1000) (hz : H1.size = H.size + 7) (ho : ∀ q, q < H.size → H1[q]? = H[q]?) (e1 : H1[b + sh.length]? = some (arrV (dA 5) 6 (fun j => .ref (b + sh.length + 1 + j)))) (e2 : ∀ j, j < 6 → H1[b + sh.length + 1 + j]? = some (arrV (dA 0) 6 (fun _ => .int 0))) : RelH D dA b fin (sh ++ mSH) (rC c sh.length (fun j => ((sh.length + 1 + j : Nat) : Int)) 6) H1 := by
  obtain ⟨h1, h2, h3, h4, h5, h6⟩ := h
  have hlen : (sh ++ mSH).length = sh.length + 7 := by rw [List.length_append]; rfl
  have hnf : ∀ k r, fin sh.length k = some r → False := fun k r hr => by
    rcases h5 _ _ _ hr with ⟨ci, q, g1, _⟩ | ⟨t, n, g1, _⟩
    · exact absurd (List.getElem?_eq_some_iff.mp g1).1 (Nat.lt_irrefl _)
    · exact absurd (List.getElem?_eq_some_iff.mp g1).1 (Nat.lt_irrefl _)
  refine ⟨by rw [hz, h1, hlen]; omega, fun x q hx hq => ?_, fun a k => ?_, fun a k r hr => ?_, fun a k r hr => (h5 a k r hr).apps _, fun a k ha => ?_⟩
  · by_cases e : x < sh.length
    · rw [List.getElem?_append_left e] at hq
      rw [rC_row (by omega)]
      exact (h2 x q hx hq).kept (ho _ (by omega))
    · rw [List.getElem?_append_right (by omega)] at hq
      have hlt : x - sh.length < 7 := (List.getElem?_eq_some_iff.mp hq).1
      by_cases ex : x = sh.length
      · subst ex
        rw [Nat.sub_self] at hq
        have eq : q = (6, 6) := (Option.some.inj hq).symm
        subst eq
        show H1[b + sh.length]? = some (arrV (dA 5) 6 (fun j => sv b (isRf (tgTy 5)) (rC c sh.length (fun j => ((sh.length + 1 + j : Nat) : Int)) 6 sh.length j)))
        rw [e1]
        congr 1
        refine arrV_cg (fun j hj => ?_)
        rw [rC_in hj]
        show Value.ref (b + sh.length + 1 + j) = rf b ((sh.length + 1 + j : Nat) : Int).toNat
        rw [Int.toNat_natCast]
        unfold rf
        rw [if_neg (by omega), show b + (sh.length + 1 + j) = b + sh.length + 1 + j by omega]
      · rw [mSH_at _ (by omega) hlt] at hq
        have eq : q = (1, 6) := (Option.some.inj hq).symm
        subst eq
        have hr : rC c sh.length (fun j => ((sh.length + 1 + j : Nat) : Int)) 6 x = fun _ => 0 := by
          rw [rC_row ex]
          exact funext fun y => h6 x y (by omega)
        rw [hr]
        show H1[b + x]? = some (arrV (dA 0) 6 (fun j => sv b (isRf (tgTy 0)) 0))
        have z := e2 (x - sh.length - 1) (by omega)
        rw [show b + sh.length + 1 + (x - sh.length - 1) = b + x by omega] at z
        rw [z]
        rfl
  · unfold rC
    split
    · show InR ((sh.length + 1 + k : Nat) : Int)
      unfold InR; omega
    · exact h3 a k
  · by_cases e : a = sh.length
    · subst e
      exact (hnf k r hr).elim
    · rw [rC_row e]
      exact h4 a k r hr
  · rw [hlen] at ha
    rw [rC_row (by omega)]
    exact h6 a k (by omega)
section TM
variable {X : Option (Nat × (Nat → Int32))} {μ : MI} {d : Nat} {fin : Nat → Nat → Option Nat} {bc bs : Nat} {sh : SHP} {pc : Nat} {ls : PL} {st : List PV} {c : HC} {Q : Option PV → SHP → HC → Prop}
set_option maxHeartbeats 4000000 in
theorem T_mnew {idx : Nat} (hd : decode μ.2.1 pc = .ok (.multianewarray idx 2, 4)) (hcl : Cond.classLink μ.1.cls idx "[[I" ∈ lw_tbl) (h0 : 0 < sh.length) (hs : sh.length ≤ 1000) (kk : T X μ d fin bc bs (sh ++ mSH) (pc + 4) ls (vr sh.length :: st) (rC c sh.length (fun j => ((sh.length + 1 + j : Nat) : Int)) 6) Q) : T X μ d fin (bc + 7) (bs + 42) sh pc ls (vi 6 :: vi 6 :: st) c Q := by
  intro p l e R s m args below meth c_ D dA b qs Qr F S K H locs cells slots ls_ M O L V
  intro T1 hT1 X1
  have hKt := F.2.2.2.2.2.2
  have hsz := M.2.2.1.1
  obtain ⟨cA, comp, vm1, T2, hfA, hfC, X2, ⟨f1, f5, f2, f6, _⟩, step⟩ := mu_new X1 F.1 (own := μ.1.cls) (index := idx) F.2.2.2.1 (hKt.word hcl rfl) (hKt.word wao_II rfl) (hKt.word wac_int rfl) (g := F0 m pc ls_ ((vi 6 :: vi 6 :: st).map (cv b qs))) rfl (by rw [F.2.1]; exact hd) (rest := st.map (cv b qs)) rfl (by have := M.1; omega) (by have := M.2.1; omega)
  have eA : cA = dA 5 := Option.some.inj (hfA.symm.trans (hKt.2.2 5 _ rfl).2)
  have eC : comp = dA 0 := Option.some.inj (hfC.symm.trans (hKt.2.2 0 _ rfl).2)
  subst eA
  subst eC
  have e0 : T1.heap.size = b + sh.length := by rw [hT1, hsz]
  have z1 : T2.heap.size = H.size + 7 := by rw [f1, hT1]
  have z2 : ∀ q, q < H.size → T2.heap[q]? = H[q]? := fun q hq => (f5 q (by rw [hT1]; exact hq)).trans (by rw [hT1])
  have z3 : T2.heap[b + sh.length]? = some (arrV (dA 5) 6 (fun j => .ref (b + sh.length + 1 + j))) := by
    rw [e0] at f2
    exact f2.trans (congrArg some (arrV_cg (fun j hj => if_pos hj)))
  have z4 : ∀ j, j < 6 → T2.heap[b + sh.length + 1 + j]? = some (arrV (dA 0) 6 (fun _ => .int 0)) := fun j hj => by
    have z := f6 j hj
    rw [e0] at z
    exact z
  have h := kk p l e R s m args below meth c_ D dA b qs Qr F S K T2.heap locs (cells + 7) (slots + 42) ls_ ⟨by have := M.1; omega, by have := M.2.1; omega, M.2.2.1.multi h0 hs z1 z2 z3 z4, fun q hq => (z2 q (by omega)).trans (M.2.2.2.1 q hq), M.2.2.2.2⟩ (okS_p trivial (okS_c (okS_c O).2).2) L V T2 rfl X2
  rw [List.map_cons, ref_eq h0] at h
  obtain ⟨t, a1, b1⟩ := h
  refine ⟨t, step t ?_, b1⟩
  rw [hT1, hsz]
  exact a1
end TM
