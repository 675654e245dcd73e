/-! the law -/
abbrev mLn (nm : String) : MI := (⟨RL, nm, "([I)Z"⟩, cL_law, 4, some .boolean)
section LX
variable {X : Option (Nat × (Nat → Int32))} {μ : MI} {d pc : Nat} {ls : PL} {st rest : List PV} {c : HC} {Q : Option PV → SHP → HC → Prop} {μ' : MI} {d' idx r ci : Nat} {As : List PV}
theorem TX_V {Qc : Option PV → HC → Prop} (hd : decode μ.2.1 pc = .ok (.invokevirtual idx, 3)) (hC : CC μ' d' c (vr r :: As) Qc) (hm : CV μ.1.cls idx μ' As.length ci) (hdd : d' + 1 ≤ d) (h0 : 0 < r) (hr : SH[r]? = some (0, ci)) (hst : st = As.reverse ++ vr r :: rest) (hw : wds rest ≤ 8)
    (kk : ∀ (v : Option PV) (c' : HC), Qc v c' → T X μ d FIN 0 0 SH (pc + 3) ls (v.toList ++ rest) c' Q) : T X μ d FIN 0 0 SH pc ls st c Q :=
  T_callV (bc := 0) (bs := 0) (mc := 0) (ms := 0) hd hm hC hdd h0 hr hst hw (fun v s1 c1 h => by obtain ⟨h1, h2⟩ := h; subst h1; exact kk v c1 h2)
theorem TX_ri {sh : SHP} {fin : Nat → Nat → Option Nat} {bc bs : Nat} {z : Int} (hd : decode μ.2.1 pc = .ok (.ireturn, 1)) (hr : retOK μ.2.2.2 (some (vi z))) (hq : Q (some (vi z)) sh c) : T X μ d fin bc bs sh pc ls [vi z] c Q := T_ret (v := some (vi z)) hd hr hq
end LX
set_option maxHeartbeats 40000000 in
set_option maxRecDepth 100000 in
theorem l_law (nm : String) (L : Nat) (hL : L ≤ 320) (xs : Nat → Int32) : ∀ (k i : Nat) (c : HC), L ≤ i + k → i ≤ 400 → INV c → T (some (L, xs)) (mLn nm) 9 FIN 0 0 SH 18 [(0, vscr), (1, vr 1), (2, vr 122), (3, vi (i : Int))] [] c (fun v _ _ => v = some (vi 1)) := by
  intro k
  induction k with
  | zero =>
    intro i c hk hi hI
    refine T_iloadn dL_law_18 rfl rfl ?_
    refine T_sloadn dL_law_19 rfl rfl ?_
    refine T_slen rfl dL_law_20 (by omega) ?_
    refine T_iconst dL_law_21 (inr rfl) ?_
    first | refine T_isubN dL_law_22 (by omega) ?_ | refine T_isub dL_law_22 ?_
    refine T_icmp_gt (tgt := 907) dL_law_23 rfl (fun b23 => ?_) (fun b23 => absurd b23 (by omega))
    refine T_iconst dL_law_907 (inr rfl) ?_
    refine TX_ri dL_law_908 (by first | exact Or.inl rfl | exact Or.inr rfl | assumption) ?_
    rfl
  | succ k ih =>
    intro i c hk hi hI
    refine T_iloadn dL_law_18 rfl rfl ?_
    refine T_sloadn dL_law_19 rfl rfl ?_
    refine T_slen rfl dL_law_20 (by omega) ?_
    refine T_iconst dL_law_21 (inr rfl) ?_
    first | refine T_isubN dL_law_22 (by omega) ?_ | refine T_isub dL_law_22 ?_
    refine T_icmp_gt (tgt := 907) dL_law_23 rfl (fun b23 => ?_) (fun b23 => ?_)
    · refine T_iconst dL_law_907 (inr rfl) ?_
      refine TX_ri dL_law_908 (by first | exact Or.inl rfl | exact Or.inr rfl | assumption) ?_
      rfl
    · refine T_sloadn dL_law_26 rfl rfl ?_
      refine T_iloadn dL_law_27 rfl rfl ?_
      refine T_sld (j := i) rfl dL_law_28 (by omega) (by omega) ?_
      refine T_bipush dL_law_29 (bp8 rfl) (inr rfl) ?_
      refine T_iand dL_law_31 ?_
      generalize band ((L, xs).snd i).toInt 31 = zz
      by_cases e32_0 : zz = 0
      · refine T_tsIn (tgt := 164) dL_law_32 (by omega) (by omega) (by rw [e32_0]; rfl) rfl ?_
        refine T_aloadn dL_law_164 rfl rfl ?_
        refine T_sloadn dL_law_165 rfl rfl ?_
        refine T_iloadn dL_law_166 rfl rfl ?_
        refine T_iconst dL_law_167 (inr rfl) ?_
        first | refine T_iaddN dL_law_168 (by omega) ?_ | refine T_iadd dL_law_168 ?_
        refine T_sld (j := i + 1) rfl dL_law_169 (by omega) (by omega) ?_
        refine TX_V dL_law_170 (s_feed hI (xs (i + 1)).toInt) kL_13 (by decide) (by first | decide | omega) (by first | assumption | rfl) rfl (leb rfl) (fun v c1 hq => ?_)
        obtain ⟨z, rfl, hy⟩ := hq
        refine T_aloadn dL_law_173 rfl rfl ?_
        refine T_sloadn dL_law_174 rfl rfl ?_
        refine T_iloadn dL_law_175 rfl rfl ?_
        refine T_iconst dL_law_176 (inr rfl) ?_
        first | refine T_iaddN dL_law_177 (by omega) ?_ | refine T_iadd dL_law_177 ?_
        refine T_sld (j := i + 1) rfl dL_law_178 (by omega) (by omega) ?_
        refine TX_V dL_law_179 (hy) kL_17 (by decide) (by first | decide | omega) (by first | assumption | rfl) rfl (leb rfl) (fun v2 c2 hq2 => ?_)
        obtain ⟨rfl, hI2⟩ := hq2
        refine T_icmp_eq (tgt := 901) dL_law_182 rfl (fun b182 => ?_) (fun b182 => absurd rfl b182)
        refine T_iincN dL_law_901 rfl (by show _ < 4; decide) rfl (by omega) ?_
        refine T_goto (tgt := 18) dL_law_904 rfl ?_
        refine T_keep [0, 1, 2, 3] ?_
        rw [show (i : Int) + 5 = ((i + 5 : Nat) : Int) by omega]
        exact ih (i + 5) c2 (by omega) (by omega) hI2
      · skip
        by_cases e32_1 : zz = 1
        · refine T_tsIn (tgt := 187) dL_law_32 (by omega) (by omega) (by rw [e32_1]; rfl) rfl ?_
          refine T_aloadn dL_law_187 rfl rfl ?_
          refine TX_V dL_law_188 (s_feast hI ) kL_18 (by decide) (by first | decide | omega) (by first | assumption | rfl) rfl (leb rfl) (fun v c1 hq => ?_)
          obtain ⟨z, rfl, hy⟩ := hq
          refine T_aloadn dL_law_191 rfl rfl ?_
          refine TX_V dL_law_192 (hy) kL_22 (by decide) (by first | decide | omega) (by first | assumption | rfl) rfl (leb rfl) (fun v2 c2 hq2 => ?_)
          obtain ⟨rfl, hI2⟩ := hq2
          refine T_icmp_eq (tgt := 901) dL_law_195 rfl (fun b195 => ?_) (fun b195 => absurd rfl b195)
          refine T_iincN dL_law_901 rfl (by show _ < 4; decide) rfl (by omega) ?_
          refine T_goto (tgt := 18) dL_law_904 rfl ?_
          refine T_keep [0, 1, 2, 3] ?_
          rw [show (i : Int) + 5 = ((i + 5 : Nat) : Int) by omega]
          exact ih (i + 5) c2 (by omega) (by omega) hI2
        · skip
          by_cases e32_2 : zz = 2
          · refine T_tsIn (tgt := 200) dL_law_32 (by omega) (by omega) (by rw [e32_2]; rfl) rfl ?_
            refine T_aloadn dL_law_200 rfl rfl ?_
            refine TX_V dL_law_201 (s_fault hI ) kL_23 (by decide) (by first | decide | omega) (by first | assumption | rfl) rfl (leb rfl) (fun v c1 hq => ?_)
            obtain ⟨z, rfl, hy⟩ := hq
            refine T_aloadn dL_law_204 rfl rfl ?_
            refine TX_V dL_law_205 (hy) kL_26 (by decide) (by first | decide | omega) (by first | assumption | rfl) rfl (leb rfl) (fun v2 c2 hq2 => ?_)
            obtain ⟨rfl, hI2⟩ := hq2
            refine T_icmp_eq (tgt := 901) dL_law_208 rfl (fun b208 => ?_) (fun b208 => absurd rfl b208)
            refine T_iincN dL_law_901 rfl (by show _ < 4; decide) rfl (by omega) ?_
            refine T_goto (tgt := 18) dL_law_904 rfl ?_
            refine T_keep [0, 1, 2, 3] ?_
            rw [show (i : Int) + 5 = ((i + 5 : Nat) : Int) by omega]
            exact ih (i + 5) c2 (by omega) (by omega) hI2
          · skip
            by_cases e32_3 : zz = 3
            · refine T_tsIn (tgt := 213) dL_law_32 (by omega) (by omega) (by rw [e32_3]; rfl) rfl ?_
              refine T_aloadn dL_law_213 rfl rfl ?_
              refine T_sloadn dL_law_214 rfl rfl ?_
              refine T_iloadn dL_law_215 rfl rfl ?_
              refine T_iconst dL_law_216 (inr rfl) ?_
              first | refine T_iaddN dL_law_217 (by omega) ?_ | refine T_iadd dL_law_217 ?_
              refine T_sld (j := i + 1) rfl dL_law_218 (by omega) (by omega) ?_
              refine TX_V dL_law_219 (s_told hI (xs (i + 1)).toInt) kL_27 (by decide) (by first | decide | omega) (by first | assumption | rfl) rfl (leb rfl) (fun v c1 hq => ?_)
              obtain ⟨z, rfl, hy⟩ := hq
              refine T_aloadn dL_law_222 rfl rfl ?_
              refine T_sloadn dL_law_223 rfl rfl ?_
              refine T_iloadn dL_law_224 rfl rfl ?_
              refine T_iconst dL_law_225 (inr rfl) ?_
              first | refine T_iaddN dL_law_226 (by omega) ?_ | refine T_iadd dL_law_226 ?_
              refine T_sld (j := i + 1) rfl dL_law_227 (by omega) (by omega) ?_
              refine TX_V dL_law_228 (hy) kL_30 (by decide) (by first | decide | omega) (by first | assumption | rfl) rfl (leb rfl) (fun v2 c2 hq2 => ?_)
              obtain ⟨rfl, hI2⟩ := hq2
              refine T_icmp_eq (tgt := 901) dL_law_231 rfl (fun b231 => ?_) (fun b231 => absurd rfl b231)
              refine T_iincN dL_law_901 rfl (by show _ < 4; decide) rfl (by omega) ?_
              refine T_goto (tgt := 18) dL_law_904 rfl ?_
              refine T_keep [0, 1, 2, 3] ?_
              rw [show (i : Int) + 5 = ((i + 5 : Nat) : Int) by omega]
              exact ih (i + 5) c2 (by omega) (by omega) hI2
            · skip
              by_cases e32_4 : zz = 4
              · refine T_tsIn (tgt := 236) dL_law_32 (by omega) (by omega) (by rw [e32_4]; rfl) rfl ?_
                refine T_aloadn dL_law_236 rfl rfl ?_
                refine T_sloadn dL_law_237 rfl rfl ?_
                refine T_iloadn dL_law_238 rfl rfl ?_
                refine T_iconst dL_law_239 (inr rfl) ?_
                first | refine T_iaddN dL_law_240 (by omega) ?_ | refine T_iadd dL_law_240 ?_
                refine T_sld (j := i + 1) rfl dL_law_241 (by omega) (by omega) ?_
                refine TX_V dL_law_242 (s_stem hI (xs (i + 1)).toInt) kL_31 (by decide) (by first | decide | omega) (by first | assumption | rfl) rfl (leb rfl) (fun v c1 hq => ?_)
                obtain ⟨z, rfl, hy⟩ := hq
                refine T_aloadn dL_law_245 rfl rfl ?_
                refine T_sloadn dL_law_246 rfl rfl ?_
                refine T_iloadn dL_law_247 rfl rfl ?_
                refine T_iconst dL_law_248 (inr rfl) ?_
                first | refine T_iaddN dL_law_249 (by omega) ?_ | refine T_iadd dL_law_249 ?_
                refine T_sld (j := i + 1) rfl dL_law_250 (by omega) (by omega) ?_
                refine TX_V dL_law_251 (hy) kL_34 (by decide) (by first | decide | omega) (by first | assumption | rfl) rfl (leb rfl) (fun v2 c2 hq2 => ?_)
                obtain ⟨rfl, hI2⟩ := hq2
                refine T_icmp_eq (tgt := 901) dL_law_254 rfl (fun b254 => ?_) (fun b254 => absurd rfl b254)
                refine T_iincN dL_law_901 rfl (by show _ < 4; decide) rfl (by omega) ?_
                refine T_goto (tgt := 18) dL_law_904 rfl ?_
                refine T_keep [0, 1, 2, 3] ?_
                rw [show (i : Int) + 5 = ((i + 5 : Nat) : Int) by omega]
                exact ih (i + 5) c2 (by omega) (by omega) hI2
              · skip
                by_cases e32_5 : zz = 5
                · refine T_tsIn (tgt := 259) dL_law_32 (by omega) (by omega) (by rw [e32_5]; rfl) rfl ?_
                  refine T_aloadn dL_law_259 rfl rfl ?_
                  refine T_sloadn dL_law_260 rfl rfl ?_
                  refine T_iloadn dL_law_261 rfl rfl ?_
                  refine T_iconst dL_law_262 (inr rfl) ?_
                  first | refine T_iaddN dL_law_263 (by omega) ?_ | refine T_iadd dL_law_263 ?_
                  refine T_sld (j := i + 1) rfl dL_law_264 (by omega) (by omega) ?_
                  refine TX_V dL_law_265 (s_ending hI (xs (i + 1)).toInt) kL_35 (by decide) (by first | decide | omega) (by first | assumption | rfl) rfl (leb rfl) (fun v c1 hq => ?_)
                  obtain ⟨z, rfl, hy⟩ := hq
                  refine T_aloadn dL_law_268 rfl rfl ?_
                  refine T_sloadn dL_law_269 rfl rfl ?_
                  refine T_iloadn dL_law_270 rfl rfl ?_
                  refine T_iconst dL_law_271 (inr rfl) ?_
                  first | refine T_iaddN dL_law_272 (by omega) ?_ | refine T_iadd dL_law_272 ?_
                  refine T_sld (j := i + 1) rfl dL_law_273 (by omega) (by omega) ?_
                  refine TX_V dL_law_274 (hy) kL_38 (by decide) (by first | decide | omega) (by first | assumption | rfl) rfl (leb rfl) (fun v2 c2 hq2 => ?_)
                  obtain ⟨rfl, hI2⟩ := hq2
                  refine T_icmp_eq (tgt := 901) dL_law_277 rfl (fun b277 => ?_) (fun b277 => absurd rfl b277)
                  refine T_iincN dL_law_901 rfl (by show _ < 4; decide) rfl (by omega) ?_
                  refine T_goto (tgt := 18) dL_law_904 rfl ?_
                  refine T_keep [0, 1, 2, 3] ?_
                  rw [show (i : Int) + 5 = ((i + 5 : Nat) : Int) by omega]
                  exact ih (i + 5) c2 (by omega) (by omega) hI2
                · skip
                  by_cases e32_6 : zz = 6
                  · refine T_tsIn (tgt := 282) dL_law_32 (by omega) (by omega) (by rw [e32_6]; rfl) rfl ?_
                    refine T_aloadn dL_law_282 rfl rfl ?_
                    refine T_sloadn dL_law_283 rfl rfl ?_
                    refine T_iloadn dL_law_284 rfl rfl ?_
                    refine T_iconst dL_law_285 (inr rfl) ?_
                    first | refine T_iaddN dL_law_286 (by omega) ?_ | refine T_iadd dL_law_286 ?_
                    refine T_sld (j := i + 1) rfl dL_law_287 (by omega) (by omega) ?_
                    refine T_sloadn dL_law_288 rfl rfl ?_
                    refine T_iloadn dL_law_289 rfl rfl ?_
                    refine T_iconst dL_law_290 (inr rfl) ?_
                    first | refine T_iaddN dL_law_291 (by omega) ?_ | refine T_iadd dL_law_291 ?_
                    refine T_sld (j := i + 2) rfl dL_law_292 (by omega) (by omega) ?_
                    refine TX_V dL_law_293 (s_speaker hI (xs (i + 1)).toInt (xs (i + 2)).toInt) kL_39 (by decide) (by first | decide | omega) (by first | assumption | rfl) rfl (leb rfl) (fun v c1 hq => ?_)
                    obtain ⟨z, rfl, hy⟩ := hq
                    refine T_aloadn dL_law_296 rfl rfl ?_
                    refine T_sloadn dL_law_297 rfl rfl ?_
                    refine T_iloadn dL_law_298 rfl rfl ?_
                    refine T_iconst dL_law_299 (inr rfl) ?_
                    first | refine T_iaddN dL_law_300 (by omega) ?_ | refine T_iadd dL_law_300 ?_
                    refine T_sld (j := i + 1) rfl dL_law_301 (by omega) (by omega) ?_
                    refine T_sloadn dL_law_302 rfl rfl ?_
                    refine T_iloadn dL_law_303 rfl rfl ?_
                    refine T_iconst dL_law_304 (inr rfl) ?_
                    first | refine T_iaddN dL_law_305 (by omega) ?_ | refine T_iadd dL_law_305 ?_
                    refine T_sld (j := i + 2) rfl dL_law_306 (by omega) (by omega) ?_
                    refine TX_V dL_law_307 (hy) kL_43 (by decide) (by first | decide | omega) (by first | assumption | rfl) rfl (leb rfl) (fun v2 c2 hq2 => ?_)
                    obtain ⟨rfl, hI2⟩ := hq2
                    refine T_icmp_eq (tgt := 901) dL_law_310 rfl (fun b310 => ?_) (fun b310 => absurd rfl b310)
                    refine T_iincN dL_law_901 rfl (by show _ < 4; decide) rfl (by omega) ?_
                    refine T_goto (tgt := 18) dL_law_904 rfl ?_
                    refine T_keep [0, 1, 2, 3] ?_
                    rw [show (i : Int) + 5 = ((i + 5 : Nat) : Int) by omega]
                    exact ih (i + 5) c2 (by omega) (by omega) hI2
                  · skip
                    by_cases e32_7 : zz = 7
                    · refine T_tsIn (tgt := 315) dL_law_32 (by omega) (by omega) (by rw [e32_7]; rfl) rfl ?_
                      refine T_aloadn dL_law_315 rfl rfl ?_
                      refine T_sloadn dL_law_316 rfl rfl ?_
                      refine T_iloadn dL_law_317 rfl rfl ?_
                      refine T_iconst dL_law_318 (inr rfl) ?_
                      first | refine T_iaddN dL_law_319 (by omega) ?_ | refine T_iadd dL_law_319 ?_
                      refine T_sld (j := i + 1) rfl dL_law_320 (by omega) (by omega) ?_
                      refine TX_V dL_law_321 (s_length hI (xs (i + 1)).toInt) kL_44 (by decide) (by first | decide | omega) (by first | assumption | rfl) rfl (leb rfl) (fun v c1 hq => ?_)
                      obtain ⟨z, rfl, hy⟩ := hq
                      refine T_aloadn dL_law_324 rfl rfl ?_
                      refine T_sloadn dL_law_325 rfl rfl ?_
                      refine T_iloadn dL_law_326 rfl rfl ?_
                      refine T_iconst dL_law_327 (inr rfl) ?_
                      first | refine T_iaddN dL_law_328 (by omega) ?_ | refine T_iadd dL_law_328 ?_
                      refine T_sld (j := i + 1) rfl dL_law_329 (by omega) (by omega) ?_
                      refine TX_V dL_law_330 (hy) kL_47 (by decide) (by first | decide | omega) (by first | assumption | rfl) rfl (leb rfl) (fun v2 c2 hq2 => ?_)
                      obtain ⟨rfl, hI2⟩ := hq2
                      refine T_icmp_eq (tgt := 901) dL_law_333 rfl (fun b333 => ?_) (fun b333 => absurd rfl b333)
                      refine T_iincN dL_law_901 rfl (by show _ < 4; decide) rfl (by omega) ?_
                      refine T_goto (tgt := 18) dL_law_904 rfl ?_
                      refine T_keep [0, 1, 2, 3] ?_
                      rw [show (i : Int) + 5 = ((i + 5 : Nat) : Int) by omega]
                      exact ih (i + 5) c2 (by omega) (by omega) hI2
                    · skip
                      by_cases e32_8 : zz = 8
                      · refine T_tsIn (tgt := 338) dL_law_32 (by omega) (by omega) (by rw [e32_8]; rfl) rfl ?_
                        refine T_aloadn dL_law_338 rfl rfl ?_
                        refine T_sloadn dL_law_339 rfl rfl ?_
                        refine T_iloadn dL_law_340 rfl rfl ?_
                        refine T_iconst dL_law_341 (inr rfl) ?_
                        first | refine T_iaddN dL_law_342 (by omega) ?_ | refine T_iadd dL_law_342 ?_
                        refine T_sld (j := i + 1) rfl dL_law_343 (by omega) (by omega) ?_
                        refine TX_V dL_law_344 (s_said hI (xs (i + 1)).toInt) kL_48 (by decide) (by first | decide | omega) (by first | assumption | rfl) rfl (leb rfl) (fun v c1 hq => ?_)
                        obtain ⟨z, rfl, hy⟩ := hq
                        refine T_aloadn dL_law_347 rfl rfl ?_
                        refine T_sloadn dL_law_348 rfl rfl ?_
                        refine T_iloadn dL_law_349 rfl rfl ?_
                        refine T_iconst dL_law_350 (inr rfl) ?_
                        first | refine T_iaddN dL_law_351 (by omega) ?_ | refine T_iadd dL_law_351 ?_
                        refine T_sld (j := i + 1) rfl dL_law_352 (by omega) (by omega) ?_
                        refine TX_V dL_law_353 (hy) kL_51 (by decide) (by first | decide | omega) (by first | assumption | rfl) rfl (leb rfl) (fun v2 c2 hq2 => ?_)
                        obtain ⟨rfl, hI2⟩ := hq2
                        refine T_icmp_eq (tgt := 901) dL_law_356 rfl (fun b356 => ?_) (fun b356 => absurd rfl b356)
                        refine T_iincN dL_law_901 rfl (by show _ < 4; decide) rfl (by omega) ?_
                        refine T_goto (tgt := 18) dL_law_904 rfl ?_
                        refine T_keep [0, 1, 2, 3] ?_
                        rw [show (i : Int) + 5 = ((i + 5 : Nat) : Int) by omega]
                        exact ih (i + 5) c2 (by omega) (by omega) hI2
                      · skip
                        by_cases e32_9 : zz = 9
                        · refine T_tsIn (tgt := 361) dL_law_32 (by omega) (by omega) (by rw [e32_9]; rfl) rfl ?_
                          refine T_aloadn dL_law_361 rfl rfl ?_
                          refine T_sloadn dL_law_362 rfl rfl ?_
                          refine T_iloadn dL_law_363 rfl rfl ?_
                          refine T_iconst dL_law_364 (inr rfl) ?_
                          first | refine T_iaddN dL_law_365 (by omega) ?_ | refine T_iadd dL_law_365 ?_
                          refine T_sld (j := i + 1) rfl dL_law_366 (by omega) (by omega) ?_
                          refine T_sloadn dL_law_367 rfl rfl ?_
                          refine T_iloadn dL_law_368 rfl rfl ?_
                          refine T_iconst dL_law_369 (inr rfl) ?_
                          first | refine T_iaddN dL_law_370 (by omega) ?_ | refine T_iadd dL_law_370 ?_
                          refine T_sld (j := i + 2) rfl dL_law_371 (by omega) (by omega) ?_
                          refine T_sloadn dL_law_372 rfl rfl ?_
                          refine T_iloadn dL_law_373 rfl rfl ?_
                          refine T_iconst dL_law_374 (inr rfl) ?_
                          first | refine T_iaddN dL_law_375 (by omega) ?_ | refine T_iadd dL_law_375 ?_
                          refine T_sld (j := i + 3) rfl dL_law_376 (by omega) (by omega) ?_
                          refine T_sloadn dL_law_377 rfl rfl ?_
                          refine T_iloadn dL_law_378 rfl rfl ?_
                          refine T_iconst dL_law_379 (inr rfl) ?_
                          first | refine T_iaddN dL_law_380 (by omega) ?_ | refine T_iadd dL_law_380 ?_
                          refine T_sld (j := i + 4) rfl dL_law_381 (by omega) (by omega) ?_
                          refine TX_V dL_law_382 (s_round hI (xs (i + 1)).toInt (xs (i + 2)).toInt (xs (i + 3)).toInt (xs (i + 4)).toInt) kL_52 (by decide) (by first | decide | omega) (by first | assumption | rfl) rfl (leb rfl) (fun v c1 hq => ?_)
                          obtain ⟨z, rfl, hy⟩ := hq
                          refine T_aloadn dL_law_385 rfl rfl ?_
                          refine T_sloadn dL_law_386 rfl rfl ?_
                          refine T_iloadn dL_law_387 rfl rfl ?_
                          refine T_iconst dL_law_388 (inr rfl) ?_
                          first | refine T_iaddN dL_law_389 (by omega) ?_ | refine T_iadd dL_law_389 ?_
                          refine T_sld (j := i + 1) rfl dL_law_390 (by omega) (by omega) ?_
                          refine T_sloadn dL_law_391 rfl rfl ?_
                          refine T_iloadn dL_law_392 rfl rfl ?_
                          refine T_iconst dL_law_393 (inr rfl) ?_
                          first | refine T_iaddN dL_law_394 (by omega) ?_ | refine T_iadd dL_law_394 ?_
                          refine T_sld (j := i + 2) rfl dL_law_395 (by omega) (by omega) ?_
                          refine T_sloadn dL_law_396 rfl rfl ?_
                          refine T_iloadn dL_law_397 rfl rfl ?_
                          refine T_iconst dL_law_398 (inr rfl) ?_
                          first | refine T_iaddN dL_law_399 (by omega) ?_ | refine T_iadd dL_law_399 ?_
                          refine T_sld (j := i + 3) rfl dL_law_400 (by omega) (by omega) ?_
                          refine T_sloadn dL_law_401 rfl rfl ?_
                          refine T_iloadn dL_law_402 rfl rfl ?_
                          refine T_iconst dL_law_403 (inr rfl) ?_
                          first | refine T_iaddN dL_law_404 (by omega) ?_ | refine T_iadd dL_law_404 ?_
                          refine T_sld (j := i + 4) rfl dL_law_405 (by omega) (by omega) ?_
                          refine TX_V dL_law_406 (hy) kL_56 (by decide) (by first | decide | omega) (by first | assumption | rfl) rfl (leb rfl) (fun v2 c2 hq2 => ?_)
                          obtain ⟨rfl, hI2⟩ := hq2
                          refine T_icmp_eq (tgt := 901) dL_law_409 rfl (fun b409 => ?_) (fun b409 => absurd rfl b409)
                          refine T_iincN dL_law_901 rfl (by show _ < 4; decide) rfl (by omega) ?_
                          refine T_goto (tgt := 18) dL_law_904 rfl ?_
                          refine T_keep [0, 1, 2, 3] ?_
                          rw [show (i : Int) + 5 = ((i + 5 : Nat) : Int) by omega]
                          exact ih (i + 5) c2 (by omega) (by omega) hI2
                        · skip
                          by_cases e32_10 : zz = 10
                          · refine T_tsIn (tgt := 414) dL_law_32 (by omega) (by omega) (by rw [e32_10]; rfl) rfl ?_
                            refine T_aloadn dL_law_414 rfl rfl ?_
                            refine T_sloadn dL_law_415 rfl rfl ?_
                            refine T_iloadn dL_law_416 rfl rfl ?_
                            refine T_iconst dL_law_417 (inr rfl) ?_
                            first | refine T_iaddN dL_law_418 (by omega) ?_ | refine T_iadd dL_law_418 ?_
                            refine T_sld (j := i + 1) rfl dL_law_419 (by omega) (by omega) ?_
                            refine TX_V dL_law_420 (s_drift hI (xs (i + 1)).toInt) kL_57 (by decide) (by first | decide | omega) (by first | assumption | rfl) rfl (leb rfl) (fun v c1 hq => ?_)
                            obtain ⟨z, rfl, hy⟩ := hq
                            refine T_aloadn dL_law_423 rfl rfl ?_
                            refine T_sloadn dL_law_424 rfl rfl ?_
                            refine T_iloadn dL_law_425 rfl rfl ?_
                            refine T_iconst dL_law_426 (inr rfl) ?_
                            first | refine T_iaddN dL_law_427 (by omega) ?_ | refine T_iadd dL_law_427 ?_
                            refine T_sld (j := i + 1) rfl dL_law_428 (by omega) (by omega) ?_
                            refine TX_V dL_law_429 (hy) kL_60 (by decide) (by first | decide | omega) (by first | assumption | rfl) rfl (leb rfl) (fun v2 c2 hq2 => ?_)
                            obtain ⟨rfl, hI2⟩ := hq2
                            refine T_icmp_eq (tgt := 901) dL_law_432 rfl (fun b432 => ?_) (fun b432 => absurd rfl b432)
                            refine T_iincN dL_law_901 rfl (by show _ < 4; decide) rfl (by omega) ?_
                            refine T_goto (tgt := 18) dL_law_904 rfl ?_
                            refine T_keep [0, 1, 2, 3] ?_
                            rw [show (i : Int) + 5 = ((i + 5 : Nat) : Int) by omega]
                            exact ih (i + 5) c2 (by omega) (by omega) hI2
                          · skip
                            by_cases e32_11 : zz = 11
                            · refine T_tsIn (tgt := 437) dL_law_32 (by omega) (by omega) (by rw [e32_11]; rfl) rfl ?_
                              refine T_aloadn dL_law_437 rfl rfl ?_
                              refine TX_V dL_law_438 (s_undo hI ) kL_61 (by decide) (by first | decide | omega) (by first | assumption | rfl) rfl (leb rfl) (fun v c1 hq => ?_)
                              obtain ⟨z, rfl, hy⟩ := hq
                              refine T_aloadn dL_law_441 rfl rfl ?_
                              refine TX_V dL_law_442 (hy) kL_64 (by decide) (by first | decide | omega) (by first | assumption | rfl) rfl (leb rfl) (fun v2 c2 hq2 => ?_)
                              obtain ⟨rfl, hI2⟩ := hq2
                              refine T_icmp_eq (tgt := 901) dL_law_445 rfl (fun b445 => ?_) (fun b445 => absurd rfl b445)
                              refine T_iincN dL_law_901 rfl (by show _ < 4; decide) rfl (by omega) ?_
                              refine T_goto (tgt := 18) dL_law_904 rfl ?_
                              refine T_keep [0, 1, 2, 3] ?_
                              rw [show (i : Int) + 5 = ((i + 5 : Nat) : Int) by omega]
                              exact ih (i + 5) c2 (by omega) (by omega) hI2
                            · skip
                              by_cases e32_12 : zz = 12
                              · refine T_tsIn (tgt := 450) dL_law_32 (by omega) (by omega) (by rw [e32_12]; rfl) rfl ?_
                                refine T_aloadn dL_law_450 rfl rfl ?_
                                refine T_sloadn dL_law_451 rfl rfl ?_
                                refine T_iloadn dL_law_452 rfl rfl ?_
                                refine T_iconst dL_law_453 (inr rfl) ?_
                                first | refine T_iaddN dL_law_454 (by omega) ?_ | refine T_iadd dL_law_454 ?_
                                refine T_sld (j := i + 1) rfl dL_law_455 (by omega) (by omega) ?_
                                refine T_sloadn dL_law_456 rfl rfl ?_
                                refine T_iloadn dL_law_457 rfl rfl ?_
                                refine T_iconst dL_law_458 (inr rfl) ?_
                                first | refine T_iaddN dL_law_459 (by omega) ?_ | refine T_iadd dL_law_459 ?_
                                refine T_sld (j := i + 2) rfl dL_law_460 (by omega) (by omega) ?_
                                refine TX_V dL_law_461 (s_longest hI (xs (i + 1)).toInt (xs (i + 2)).toInt) kL_65 (by decide) (by first | decide | omega) (by first | assumption | rfl) rfl (leb rfl) (fun v c1 hq => ?_)
                                obtain ⟨z, rfl, hy⟩ := hq
                                refine T_aloadn dL_law_464 rfl rfl ?_
                                refine T_sloadn dL_law_465 rfl rfl ?_
                                refine T_iloadn dL_law_466 rfl rfl ?_
                                refine T_iconst dL_law_467 (inr rfl) ?_
                                first | refine T_iaddN dL_law_468 (by omega) ?_ | refine T_iadd dL_law_468 ?_
                                refine T_sld (j := i + 1) rfl dL_law_469 (by omega) (by omega) ?_
                                refine T_sloadn dL_law_470 rfl rfl ?_
                                refine T_iloadn dL_law_471 rfl rfl ?_
                                refine T_iconst dL_law_472 (inr rfl) ?_
                                first | refine T_iaddN dL_law_473 (by omega) ?_ | refine T_iadd dL_law_473 ?_
                                refine T_sld (j := i + 2) rfl dL_law_474 (by omega) (by omega) ?_
                                refine TX_V dL_law_475 (hy) kL_68 (by decide) (by first | decide | omega) (by first | assumption | rfl) rfl (leb rfl) (fun v2 c2 hq2 => ?_)
                                obtain ⟨rfl, hI2⟩ := hq2
                                refine T_icmp_eq (tgt := 901) dL_law_478 rfl (fun b478 => ?_) (fun b478 => absurd rfl b478)
                                refine T_iincN dL_law_901 rfl (by show _ < 4; decide) rfl (by omega) ?_
                                refine T_goto (tgt := 18) dL_law_904 rfl ?_
                                refine T_keep [0, 1, 2, 3] ?_
                                rw [show (i : Int) + 5 = ((i + 5 : Nat) : Int) by omega]
                                exact ih (i + 5) c2 (by omega) (by omega) hI2
                              · skip
                                by_cases e32_13 : zz = 13
                                · refine T_tsIn (tgt := 483) dL_law_32 (by omega) (by omega) (by rw [e32_13]; rfl) rfl ?_
                                  refine T_aloadn dL_law_483 rfl rfl ?_
                                  refine T_sloadn dL_law_484 rfl rfl ?_
                                  refine T_iloadn dL_law_485 rfl rfl ?_
                                  refine T_iconst dL_law_486 (inr rfl) ?_
                                  first | refine T_iaddN dL_law_487 (by omega) ?_ | refine T_iadd dL_law_487 ?_
                                  refine T_sld (j := i + 1) rfl dL_law_488 (by omega) (by omega) ?_
                                  refine TX_V dL_law_489 (s_howMany hI (xs (i + 1)).toInt) kL_69 (by decide) (by first | decide | omega) (by first | assumption | rfl) rfl (leb rfl) (fun v c1 hq => ?_)
                                  obtain ⟨z, rfl, hy⟩ := hq
                                  refine T_aloadn dL_law_492 rfl rfl ?_
                                  refine T_sloadn dL_law_493 rfl rfl ?_
                                  refine T_iloadn dL_law_494 rfl rfl ?_
                                  refine T_iconst dL_law_495 (inr rfl) ?_
                                  first | refine T_iaddN dL_law_496 (by omega) ?_ | refine T_iadd dL_law_496 ?_
                                  refine T_sld (j := i + 1) rfl dL_law_497 (by omega) (by omega) ?_
                                  refine TX_V dL_law_498 (hy) kL_72 (by decide) (by first | decide | omega) (by first | assumption | rfl) rfl (leb rfl) (fun v2 c2 hq2 => ?_)
                                  obtain ⟨rfl, hI2⟩ := hq2
                                  refine T_icmp_eq (tgt := 901) dL_law_501 rfl (fun b501 => ?_) (fun b501 => absurd rfl b501)
                                  refine T_iincN dL_law_901 rfl (by show _ < 4; decide) rfl (by omega) ?_
                                  refine T_goto (tgt := 18) dL_law_904 rfl ?_
                                  refine T_keep [0, 1, 2, 3] ?_
                                  rw [show (i : Int) + 5 = ((i + 5 : Nat) : Int) by omega]
                                  exact ih (i + 5) c2 (by omega) (by omega) hI2
                                · skip
                                  by_cases e32_14 : zz = 14
                                  · refine T_tsIn (tgt := 506) dL_law_32 (by omega) (by omega) (by rw [e32_14]; rfl) rfl ?_
                                    refine T_aloadn dL_law_506 rfl rfl ?_
                                    refine T_sloadn dL_law_507 rfl rfl ?_
                                    refine T_iloadn dL_law_508 rfl rfl ?_
                                    refine T_iconst dL_law_509 (inr rfl) ?_
                                    first | refine T_iaddN dL_law_510 (by omega) ?_ | refine T_iadd dL_law_510 ?_
                                    refine T_sld (j := i + 1) rfl dL_law_511 (by omega) (by omega) ?_
                                    refine T_sloadn dL_law_512 rfl rfl ?_
                                    refine T_iloadn dL_law_513 rfl rfl ?_
                                    refine T_iconst dL_law_514 (inr rfl) ?_
                                    first | refine T_iaddN dL_law_515 (by omega) ?_ | refine T_iadd dL_law_515 ?_
                                    refine T_sld (j := i + 2) rfl dL_law_516 (by omega) (by omega) ?_
                                    refine T_sloadn dL_law_517 rfl rfl ?_
                                    refine T_iloadn dL_law_518 rfl rfl ?_
                                    refine T_iconst dL_law_519 (inr rfl) ?_
                                    first | refine T_iaddN dL_law_520 (by omega) ?_ | refine T_iadd dL_law_520 ?_
                                    refine T_sld (j := i + 3) rfl dL_law_521 (by omega) (by omega) ?_
                                    refine TX_V dL_law_522 (s_game hI (xs (i + 1)).toInt (xs (i + 2)).toInt (xs (i + 3)).toInt) kL_73 (by decide) (by first | decide | omega) (by first | assumption | rfl) rfl (leb rfl) (fun v c1 hq => ?_)
                                    obtain ⟨z, rfl, hy⟩ := hq
                                    refine T_aloadn dL_law_525 rfl rfl ?_
                                    refine T_sloadn dL_law_526 rfl rfl ?_
                                    refine T_iloadn dL_law_527 rfl rfl ?_
                                    refine T_iconst dL_law_528 (inr rfl) ?_
                                    first | refine T_iaddN dL_law_529 (by omega) ?_ | refine T_iadd dL_law_529 ?_
                                    refine T_sld (j := i + 1) rfl dL_law_530 (by omega) (by omega) ?_
                                    refine T_sloadn dL_law_531 rfl rfl ?_
                                    refine T_iloadn dL_law_532 rfl rfl ?_
                                    refine T_iconst dL_law_533 (inr rfl) ?_
                                    first | refine T_iaddN dL_law_534 (by omega) ?_ | refine T_iadd dL_law_534 ?_
                                    refine T_sld (j := i + 2) rfl dL_law_535 (by omega) (by omega) ?_
                                    refine T_sloadn dL_law_536 rfl rfl ?_
                                    refine T_iloadn dL_law_537 rfl rfl ?_
                                    refine T_iconst dL_law_538 (inr rfl) ?_
                                    first | refine T_iaddN dL_law_539 (by omega) ?_ | refine T_iadd dL_law_539 ?_
                                    refine T_sld (j := i + 3) rfl dL_law_540 (by omega) (by omega) ?_
                                    refine TX_V dL_law_541 (hy) kL_77 (by decide) (by first | decide | omega) (by first | assumption | rfl) rfl (leb rfl) (fun v2 c2 hq2 => ?_)
                                    obtain ⟨rfl, hI2⟩ := hq2
                                    refine T_icmp_eq (tgt := 901) dL_law_544 rfl (fun b544 => ?_) (fun b544 => absurd rfl b544)
                                    refine T_iincN dL_law_901 rfl (by show _ < 4; decide) rfl (by omega) ?_
                                    refine T_goto (tgt := 18) dL_law_904 rfl ?_
                                    refine T_keep [0, 1, 2, 3] ?_
                                    rw [show (i : Int) + 5 = ((i + 5 : Nat) : Int) by omega]
                                    exact ih (i + 5) c2 (by omega) (by omega) hI2
                                  · skip
                                    by_cases e32_15 : zz = 15
                                    · refine T_tsIn (tgt := 549) dL_law_32 (by omega) (by omega) (by rw [e32_15]; rfl) rfl ?_
                                      refine T_aloadn dL_law_549 rfl rfl ?_
                                      refine T_sloadn dL_law_550 rfl rfl ?_
                                      refine T_iloadn dL_law_551 rfl rfl ?_
                                      refine T_iconst dL_law_552 (inr rfl) ?_
                                      first | refine T_iaddN dL_law_553 (by omega) ?_ | refine T_iadd dL_law_553 ?_
                                      refine T_sld (j := i + 1) rfl dL_law_554 (by omega) (by omega) ?_
                                      refine T_sloadn dL_law_555 rfl rfl ?_
                                      refine T_iloadn dL_law_556 rfl rfl ?_
                                      refine T_iconst dL_law_557 (inr rfl) ?_
                                      first | refine T_iaddN dL_law_558 (by omega) ?_ | refine T_iadd dL_law_558 ?_
                                      refine T_sld (j := i + 2) rfl dL_law_559 (by omega) (by omega) ?_
                                      refine T_sloadn dL_law_560 rfl rfl ?_
                                      refine T_iloadn dL_law_561 rfl rfl ?_
                                      refine T_iconst dL_law_562 (inr rfl) ?_
                                      first | refine T_iaddN dL_law_563 (by omega) ?_ | refine T_iadd dL_law_563 ?_
                                      refine T_sld (j := i + 3) rfl dL_law_564 (by omega) (by omega) ?_
                                      refine TX_V dL_law_565 (s_order hI (xs (i + 1)).toInt (xs (i + 2)).toInt (xs (i + 3)).toInt) kL_78 (by decide) (by first | decide | omega) (by first | assumption | rfl) rfl (leb rfl) (fun v c1 hq => ?_)
                                      obtain ⟨z, rfl, hy⟩ := hq
                                      refine T_aloadn dL_law_568 rfl rfl ?_
                                      refine T_sloadn dL_law_569 rfl rfl ?_
                                      refine T_iloadn dL_law_570 rfl rfl ?_
                                      refine T_iconst dL_law_571 (inr rfl) ?_
                                      first | refine T_iaddN dL_law_572 (by omega) ?_ | refine T_iadd dL_law_572 ?_
                                      refine T_sld (j := i + 1) rfl dL_law_573 (by omega) (by omega) ?_
                                      refine T_sloadn dL_law_574 rfl rfl ?_
                                      refine T_iloadn dL_law_575 rfl rfl ?_
                                      refine T_iconst dL_law_576 (inr rfl) ?_
                                      first | refine T_iaddN dL_law_577 (by omega) ?_ | refine T_iadd dL_law_577 ?_
                                      refine T_sld (j := i + 2) rfl dL_law_578 (by omega) (by omega) ?_
                                      refine T_sloadn dL_law_579 rfl rfl ?_
                                      refine T_iloadn dL_law_580 rfl rfl ?_
                                      refine T_iconst dL_law_581 (inr rfl) ?_
                                      first | refine T_iaddN dL_law_582 (by omega) ?_ | refine T_iadd dL_law_582 ?_
                                      refine T_sld (j := i + 3) rfl dL_law_583 (by omega) (by omega) ?_
                                      refine TX_V dL_law_584 (hy) kL_81 (by decide) (by first | decide | omega) (by first | assumption | rfl) rfl (leb rfl) (fun v2 c2 hq2 => ?_)
                                      obtain ⟨rfl, hI2⟩ := hq2
                                      refine T_icmp_eq (tgt := 901) dL_law_587 rfl (fun b587 => ?_) (fun b587 => absurd rfl b587)
                                      refine T_iincN dL_law_901 rfl (by show _ < 4; decide) rfl (by omega) ?_
                                      refine T_goto (tgt := 18) dL_law_904 rfl ?_
                                      refine T_keep [0, 1, 2, 3] ?_
                                      rw [show (i : Int) + 5 = ((i + 5 : Nat) : Int) by omega]
                                      exact ih (i + 5) c2 (by omega) (by omega) hI2
                                    · skip
                                      by_cases e32_16 : zz = 16
                                      · refine T_tsIn (tgt := 592) dL_law_32 (by omega) (by omega) (by rw [e32_16]; rfl) rfl ?_
                                        refine T_aloadn dL_law_592 rfl rfl ?_
                                        refine T_sloadn dL_law_593 rfl rfl ?_
                                        refine T_iloadn dL_law_594 rfl rfl ?_
                                        refine T_iconst dL_law_595 (inr rfl) ?_
                                        first | refine T_iaddN dL_law_596 (by omega) ?_ | refine T_iadd dL_law_596 ?_
                                        refine T_sld (j := i + 1) rfl dL_law_597 (by omega) (by omega) ?_
                                        refine TX_V dL_law_598 (s_even hI (xs (i + 1)).toInt) kL_82 (by decide) (by first | decide | omega) (by first | assumption | rfl) rfl (leb rfl) (fun v c1 hq => ?_)
                                        obtain ⟨z, rfl, hy⟩ := hq
                                        refine T_aloadn dL_law_601 rfl rfl ?_
                                        refine T_sloadn dL_law_602 rfl rfl ?_
                                        refine T_iloadn dL_law_603 rfl rfl ?_
                                        refine T_iconst dL_law_604 (inr rfl) ?_
                                        first | refine T_iaddN dL_law_605 (by omega) ?_ | refine T_iadd dL_law_605 ?_
                                        refine T_sld (j := i + 1) rfl dL_law_606 (by omega) (by omega) ?_
                                        refine TX_V dL_law_607 (hy) kL_85 (by decide) (by first | decide | omega) (by first | assumption | rfl) rfl (leb rfl) (fun v2 c2 hq2 => ?_)
                                        obtain ⟨rfl, hI2⟩ := hq2
                                        refine T_icmp_eq (tgt := 901) dL_law_610 rfl (fun b610 => ?_) (fun b610 => absurd rfl b610)
                                        refine T_iincN dL_law_901 rfl (by show _ < 4; decide) rfl (by omega) ?_
                                        refine T_goto (tgt := 18) dL_law_904 rfl ?_
                                        refine T_keep [0, 1, 2, 3] ?_
                                        rw [show (i : Int) + 5 = ((i + 5 : Nat) : Int) by omega]
                                        exact ih (i + 5) c2 (by omega) (by omega) hI2
                                      · skip
                                        by_cases e32_17 : zz = 17
                                        · refine T_tsIn (tgt := 615) dL_law_32 (by omega) (by omega) (by rw [e32_17]; rfl) rfl ?_
                                          refine T_aloadn dL_law_615 rfl rfl ?_
                                          refine T_sloadn dL_law_616 rfl rfl ?_
                                          refine T_iloadn dL_law_617 rfl rfl ?_
                                          refine T_iconst dL_law_618 (inr rfl) ?_
                                          first | refine T_iaddN dL_law_619 (by omega) ?_ | refine T_iadd dL_law_619 ?_
                                          refine T_sld (j := i + 1) rfl dL_law_620 (by omega) (by omega) ?_
                                          refine T_sloadn dL_law_621 rfl rfl ?_
                                          refine T_iloadn dL_law_622 rfl rfl ?_
                                          refine T_iconst dL_law_623 (inr rfl) ?_
                                          first | refine T_iaddN dL_law_624 (by omega) ?_ | refine T_iadd dL_law_624 ?_
                                          refine T_sld (j := i + 2) rfl dL_law_625 (by omega) (by omega) ?_
                                          refine TX_V dL_law_626 (s_silence hI (xs (i + 1)).toInt (xs (i + 2)).toInt) kL_86 (by decide) (by first | decide | omega) (by first | assumption | rfl) rfl (leb rfl) (fun v c1 hq => ?_)
                                          obtain ⟨z, rfl, hy⟩ := hq
                                          refine T_aloadn dL_law_629 rfl rfl ?_
                                          refine T_sloadn dL_law_630 rfl rfl ?_
                                          refine T_iloadn dL_law_631 rfl rfl ?_
                                          refine T_iconst dL_law_632 (inr rfl) ?_
                                          first | refine T_iaddN dL_law_633 (by omega) ?_ | refine T_iadd dL_law_633 ?_
                                          refine T_sld (j := i + 1) rfl dL_law_634 (by omega) (by omega) ?_
                                          refine T_sloadn dL_law_635 rfl rfl ?_
                                          refine T_iloadn dL_law_636 rfl rfl ?_
                                          refine T_iconst dL_law_637 (inr rfl) ?_
                                          first | refine T_iaddN dL_law_638 (by omega) ?_ | refine T_iadd dL_law_638 ?_
                                          refine T_sld (j := i + 2) rfl dL_law_639 (by omega) (by omega) ?_
                                          refine TX_V dL_law_640 (hy) kL_89 (by decide) (by first | decide | omega) (by first | assumption | rfl) rfl (leb rfl) (fun v2 c2 hq2 => ?_)
                                          obtain ⟨rfl, hI2⟩ := hq2
                                          refine T_icmp_eq (tgt := 901) dL_law_643 rfl (fun b643 => ?_) (fun b643 => absurd rfl b643)
                                          refine T_iincN dL_law_901 rfl (by show _ < 4; decide) rfl (by omega) ?_
                                          refine T_goto (tgt := 18) dL_law_904 rfl ?_
                                          refine T_keep [0, 1, 2, 3] ?_
                                          rw [show (i : Int) + 5 = ((i + 5 : Nat) : Int) by omega]
                                          exact ih (i + 5) c2 (by omega) (by omega) hI2
                                        · skip
                                          by_cases e32_18 : zz = 18
                                          · refine T_tsIn (tgt := 648) dL_law_32 (by omega) (by omega) (by rw [e32_18]; rfl) rfl ?_
                                            refine T_aloadn dL_law_648 rfl rfl ?_
                                            refine T_sloadn dL_law_649 rfl rfl ?_
                                            refine T_iloadn dL_law_650 rfl rfl ?_
                                            refine T_iconst dL_law_651 (inr rfl) ?_
                                            first | refine T_iaddN dL_law_652 (by omega) ?_ | refine T_iadd dL_law_652 ?_
                                            refine T_sld (j := i + 1) rfl dL_law_653 (by omega) (by omega) ?_
                                            refine TX_V dL_law_654 (s_pick hI (xs (i + 1)).toInt) kL_90 (by decide) (by first | decide | omega) (by first | assumption | rfl) rfl (leb rfl) (fun v c1 hq => ?_)
                                            obtain ⟨z, rfl, hy⟩ := hq
                                            refine T_aloadn dL_law_657 rfl rfl ?_
                                            refine T_sloadn dL_law_658 rfl rfl ?_
                                            refine T_iloadn dL_law_659 rfl rfl ?_
                                            refine T_iconst dL_law_660 (inr rfl) ?_
                                            first | refine T_iaddN dL_law_661 (by omega) ?_ | refine T_iadd dL_law_661 ?_
                                            refine T_sld (j := i + 1) rfl dL_law_662 (by omega) (by omega) ?_
                                            refine TX_V dL_law_663 (hy) kL_93 (by decide) (by first | decide | omega) (by first | assumption | rfl) rfl (leb rfl) (fun v2 c2 hq2 => ?_)
                                            obtain ⟨rfl, hI2⟩ := hq2
                                            refine T_icmp_eq (tgt := 901) dL_law_666 rfl (fun b666 => ?_) (fun b666 => absurd rfl b666)
                                            refine T_iincN dL_law_901 rfl (by show _ < 4; decide) rfl (by omega) ?_
                                            refine T_goto (tgt := 18) dL_law_904 rfl ?_
                                            refine T_keep [0, 1, 2, 3] ?_
                                            rw [show (i : Int) + 5 = ((i + 5 : Nat) : Int) by omega]
                                            exact ih (i + 5) c2 (by omega) (by omega) hI2
                                          · skip
                                            by_cases e32_19 : zz = 19
                                            · refine T_tsIn (tgt := 671) dL_law_32 (by omega) (by omega) (by rw [e32_19]; rfl) rfl ?_
                                              refine T_aloadn dL_law_671 rfl rfl ?_
                                              refine T_sloadn dL_law_672 rfl rfl ?_
                                              refine T_iloadn dL_law_673 rfl rfl ?_
                                              refine T_iconst dL_law_674 (inr rfl) ?_
                                              first | refine T_iaddN dL_law_675 (by omega) ?_ | refine T_iadd dL_law_675 ?_
                                              refine T_sld (j := i + 1) rfl dL_law_676 (by omega) (by omega) ?_
                                              refine TX_V dL_law_677 (s_coughs hI (xs (i + 1)).toInt) kL_94 (by decide) (by first | decide | omega) (by first | assumption | rfl) rfl (leb rfl) (fun v c1 hq => ?_)
                                              obtain ⟨z, rfl, hy⟩ := hq
                                              refine T_aloadn dL_law_680 rfl rfl ?_
                                              refine T_sloadn dL_law_681 rfl rfl ?_
                                              refine T_iloadn dL_law_682 rfl rfl ?_
                                              refine T_iconst dL_law_683 (inr rfl) ?_
                                              first | refine T_iaddN dL_law_684 (by omega) ?_ | refine T_iadd dL_law_684 ?_
                                              refine T_sld (j := i + 1) rfl dL_law_685 (by omega) (by omega) ?_
                                              refine TX_V dL_law_686 (hy) kL_97 (by decide) (by first | decide | omega) (by first | assumption | rfl) rfl (leb rfl) (fun v2 c2 hq2 => ?_)
                                              obtain ⟨rfl, hI2⟩ := hq2
                                              refine T_icmp_eq (tgt := 901) dL_law_689 rfl (fun b689 => ?_) (fun b689 => absurd rfl b689)
                                              refine T_iincN dL_law_901 rfl (by show _ < 4; decide) rfl (by omega) ?_
                                              refine T_goto (tgt := 18) dL_law_904 rfl ?_
                                              refine T_keep [0, 1, 2, 3] ?_
                                              rw [show (i : Int) + 5 = ((i + 5 : Nat) : Int) by omega]
                                              exact ih (i + 5) c2 (by omega) (by omega) hI2
                                            · skip
                                              by_cases e32_20 : zz = 20
                                              · refine T_tsIn (tgt := 694) dL_law_32 (by omega) (by omega) (by rw [e32_20]; rfl) rfl ?_
                                                refine T_aloadn dL_law_694 rfl rfl ?_
                                                refine T_sloadn dL_law_695 rfl rfl ?_
                                                refine T_iloadn dL_law_696 rfl rfl ?_
                                                refine T_iconst dL_law_697 (inr rfl) ?_
                                                first | refine T_iaddN dL_law_698 (by omega) ?_ | refine T_iadd dL_law_698 ?_
                                                refine T_sld (j := i + 1) rfl dL_law_699 (by omega) (by omega) ?_
                                                refine TX_V dL_law_700 (s_keepBack hI (xs (i + 1)).toInt) kL_98 (by decide) (by first | decide | omega) (by first | assumption | rfl) rfl (leb rfl) (fun v c1 hq => ?_)
                                                obtain ⟨z, rfl, hy⟩ := hq
                                                refine T_aloadn dL_law_703 rfl rfl ?_
                                                refine T_sloadn dL_law_704 rfl rfl ?_
                                                refine T_iloadn dL_law_705 rfl rfl ?_
                                                refine T_iconst dL_law_706 (inr rfl) ?_
                                                first | refine T_iaddN dL_law_707 (by omega) ?_ | refine T_iadd dL_law_707 ?_
                                                refine T_sld (j := i + 1) rfl dL_law_708 (by omega) (by omega) ?_
                                                refine TX_V dL_law_709 (hy) kL_101 (by decide) (by first | decide | omega) (by first | assumption | rfl) rfl (leb rfl) (fun v2 c2 hq2 => ?_)
                                                obtain ⟨rfl, hI2⟩ := hq2
                                                refine T_icmp_eq (tgt := 901) dL_law_712 rfl (fun b712 => ?_) (fun b712 => absurd rfl b712)
                                                refine T_iincN dL_law_901 rfl (by show _ < 4; decide) rfl (by omega) ?_
                                                refine T_goto (tgt := 18) dL_law_904 rfl ?_
                                                refine T_keep [0, 1, 2, 3] ?_
                                                rw [show (i : Int) + 5 = ((i + 5 : Nat) : Int) by omega]
                                                exact ih (i + 5) c2 (by omega) (by omega) hI2
                                              · skip
                                                by_cases e32_21 : zz = 21
                                                · refine T_tsIn (tgt := 717) dL_law_32 (by omega) (by omega) (by rw [e32_21]; rfl) rfl ?_
                                                  refine T_aloadn dL_law_717 rfl rfl ?_
                                                  refine T_sloadn dL_law_718 rfl rfl ?_
                                                  refine T_iloadn dL_law_719 rfl rfl ?_
                                                  refine T_iconst dL_law_720 (inr rfl) ?_
                                                  first | refine T_iaddN dL_law_721 (by omega) ?_ | refine T_iadd dL_law_721 ?_
                                                  refine T_sld (j := i + 1) rfl dL_law_722 (by omega) (by omega) ?_
                                                  refine TX_V dL_law_723 (s_mark hI (xs (i + 1)).toInt) kL_102 (by decide) (by first | decide | omega) (by first | assumption | rfl) rfl (leb rfl) (fun v c1 hq => ?_)
                                                  obtain ⟨z, rfl, hy⟩ := hq
                                                  refine T_aloadn dL_law_726 rfl rfl ?_
                                                  refine T_sloadn dL_law_727 rfl rfl ?_
                                                  refine T_iloadn dL_law_728 rfl rfl ?_
                                                  refine T_iconst dL_law_729 (inr rfl) ?_
                                                  first | refine T_iaddN dL_law_730 (by omega) ?_ | refine T_iadd dL_law_730 ?_
                                                  refine T_sld (j := i + 1) rfl dL_law_731 (by omega) (by omega) ?_
                                                  refine TX_V dL_law_732 (hy) kL_105 (by decide) (by first | decide | omega) (by first | assumption | rfl) rfl (leb rfl) (fun v2 c2 hq2 => ?_)
                                                  obtain ⟨rfl, hI2⟩ := hq2
                                                  refine T_icmp_eq (tgt := 901) dL_law_735 rfl (fun b735 => ?_) (fun b735 => absurd rfl b735)
                                                  refine T_iincN dL_law_901 rfl (by show _ < 4; decide) rfl (by omega) ?_
                                                  refine T_goto (tgt := 18) dL_law_904 rfl ?_
                                                  refine T_keep [0, 1, 2, 3] ?_
                                                  rw [show (i : Int) + 5 = ((i + 5 : Nat) : Int) by omega]
                                                  exact ih (i + 5) c2 (by omega) (by omega) hI2
                                                · skip
                                                  by_cases e32_22 : zz = 22
                                                  · refine T_tsIn (tgt := 740) dL_law_32 (by omega) (by omega) (by rw [e32_22]; rfl) rfl ?_
                                                    refine T_aloadn dL_law_740 rfl rfl ?_
                                                    refine T_sloadn dL_law_741 rfl rfl ?_
                                                    refine T_iloadn dL_law_742 rfl rfl ?_
                                                    refine T_iconst dL_law_743 (inr rfl) ?_
                                                    first | refine T_iaddN dL_law_744 (by omega) ?_ | refine T_iadd dL_law_744 ?_
                                                    refine T_sld (j := i + 1) rfl dL_law_745 (by omega) (by omega) ?_
                                                    refine T_sloadn dL_law_746 rfl rfl ?_
                                                    refine T_iloadn dL_law_747 rfl rfl ?_
                                                    refine T_iconst dL_law_748 (inr rfl) ?_
                                                    first | refine T_iaddN dL_law_749 (by omega) ?_ | refine T_iadd dL_law_749 ?_
                                                    refine T_sld (j := i + 2) rfl dL_law_750 (by omega) (by omega) ?_
                                                    refine TX_V dL_law_751 (s_spoke hI (xs (i + 1)).toInt (xs (i + 2)).toInt) kL_106 (by decide) (by first | decide | omega) (by first | assumption | rfl) rfl (leb rfl) (fun v c1 hq => ?_)
                                                    obtain ⟨z, rfl, hy⟩ := hq
                                                    refine T_aloadn dL_law_754 rfl rfl ?_
                                                    refine T_sloadn dL_law_755 rfl rfl ?_
                                                    refine T_iloadn dL_law_756 rfl rfl ?_
                                                    refine T_iconst dL_law_757 (inr rfl) ?_
                                                    first | refine T_iaddN dL_law_758 (by omega) ?_ | refine T_iadd dL_law_758 ?_
                                                    refine T_sld (j := i + 1) rfl dL_law_759 (by omega) (by omega) ?_
                                                    refine T_sloadn dL_law_760 rfl rfl ?_
                                                    refine T_iloadn dL_law_761 rfl rfl ?_
                                                    refine T_iconst dL_law_762 (inr rfl) ?_
                                                    first | refine T_iaddN dL_law_763 (by omega) ?_ | refine T_iadd dL_law_763 ?_
                                                    refine T_sld (j := i + 2) rfl dL_law_764 (by omega) (by omega) ?_
                                                    refine TX_V dL_law_765 (hy) kL_109 (by decide) (by first | decide | omega) (by first | assumption | rfl) rfl (leb rfl) (fun v2 c2 hq2 => ?_)
                                                    obtain ⟨rfl, hI2⟩ := hq2
                                                    refine T_icmp_eq (tgt := 901) dL_law_768 rfl (fun b768 => ?_) (fun b768 => absurd rfl b768)
                                                    refine T_iincN dL_law_901 rfl (by show _ < 4; decide) rfl (by omega) ?_
                                                    refine T_goto (tgt := 18) dL_law_904 rfl ?_
                                                    refine T_keep [0, 1, 2, 3] ?_
                                                    rw [show (i : Int) + 5 = ((i + 5 : Nat) : Int) by omega]
                                                    exact ih (i + 5) c2 (by omega) (by omega) hI2
                                                  · skip
                                                    by_cases e32_23 : zz = 23
                                                    · refine T_tsIn (tgt := 773) dL_law_32 (by omega) (by omega) (by rw [e32_23]; rfl) rfl ?_
                                                      refine T_aloadn dL_law_773 rfl rfl ?_
                                                      refine T_sloadn dL_law_774 rfl rfl ?_
                                                      refine T_iloadn dL_law_775 rfl rfl ?_
                                                      refine T_iconst dL_law_776 (inr rfl) ?_
                                                      first | refine T_iaddN dL_law_777 (by omega) ?_ | refine T_iadd dL_law_777 ?_
                                                      refine T_sld (j := i + 1) rfl dL_law_778 (by omega) (by omega) ?_
                                                      refine T_sloadn dL_law_779 rfl rfl ?_
                                                      refine T_iloadn dL_law_780 rfl rfl ?_
                                                      refine T_iconst dL_law_781 (inr rfl) ?_
                                                      first | refine T_iaddN dL_law_782 (by omega) ?_ | refine T_iadd dL_law_782 ?_
                                                      refine T_sld (j := i + 2) rfl dL_law_783 (by omega) (by omega) ?_
                                                      refine TX_V dL_law_784 (s_write hI (xs (i + 1)).toInt (xs (i + 2)).toInt) kL_110 (by decide) (by first | decide | omega) (by first | assumption | rfl) rfl (leb rfl) (fun v c1 hq => ?_)
                                                      obtain ⟨z, rfl, hy⟩ := hq
                                                      refine T_aloadn dL_law_787 rfl rfl ?_
                                                      refine T_sloadn dL_law_788 rfl rfl ?_
                                                      refine T_iloadn dL_law_789 rfl rfl ?_
                                                      refine T_iconst dL_law_790 (inr rfl) ?_
                                                      first | refine T_iaddN dL_law_791 (by omega) ?_ | refine T_iadd dL_law_791 ?_
                                                      refine T_sld (j := i + 1) rfl dL_law_792 (by omega) (by omega) ?_
                                                      refine T_sloadn dL_law_793 rfl rfl ?_
                                                      refine T_iloadn dL_law_794 rfl rfl ?_
                                                      refine T_iconst dL_law_795 (inr rfl) ?_
                                                      first | refine T_iaddN dL_law_796 (by omega) ?_ | refine T_iadd dL_law_796 ?_
                                                      refine T_sld (j := i + 2) rfl dL_law_797 (by omega) (by omega) ?_
                                                      refine TX_V dL_law_798 (hy) kL_113 (by decide) (by first | decide | omega) (by first | assumption | rfl) rfl (leb rfl) (fun v2 c2 hq2 => ?_)
                                                      obtain ⟨rfl, hI2⟩ := hq2
                                                      refine T_icmp_eq (tgt := 901) dL_law_801 rfl (fun b801 => ?_) (fun b801 => absurd rfl b801)
                                                      refine T_iincN dL_law_901 rfl (by show _ < 4; decide) rfl (by omega) ?_
                                                      refine T_goto (tgt := 18) dL_law_904 rfl ?_
                                                      refine T_keep [0, 1, 2, 3] ?_
                                                      rw [show (i : Int) + 5 = ((i + 5 : Nat) : Int) by omega]
                                                      exact ih (i + 5) c2 (by omega) (by omega) hI2
                                                    · skip
                                                      by_cases e32_24 : zz = 24
                                                      · refine T_tsIn (tgt := 806) dL_law_32 (by omega) (by omega) (by rw [e32_24]; rfl) rfl ?_
                                                        refine T_aloadn dL_law_806 rfl rfl ?_
                                                        refine TX_V dL_law_807 (s_tear hI ) kL_114 (by decide) (by first | decide | omega) (by first | assumption | rfl) rfl (leb rfl) (fun v c1 hq => ?_)
                                                        obtain ⟨z, rfl, hy⟩ := hq
                                                        refine T_aloadn dL_law_810 rfl rfl ?_
                                                        refine TX_V dL_law_811 (hy) kL_117 (by decide) (by first | decide | omega) (by first | assumption | rfl) rfl (leb rfl) (fun v2 c2 hq2 => ?_)
                                                        obtain ⟨rfl, hI2⟩ := hq2
                                                        refine T_icmp_eq (tgt := 901) dL_law_814 rfl (fun b814 => ?_) (fun b814 => absurd rfl b814)
                                                        refine T_iincN dL_law_901 rfl (by show _ < 4; decide) rfl (by omega) ?_
                                                        refine T_goto (tgt := 18) dL_law_904 rfl ?_
                                                        refine T_keep [0, 1, 2, 3] ?_
                                                        rw [show (i : Int) + 5 = ((i + 5 : Nat) : Int) by omega]
                                                        exact ih (i + 5) c2 (by omega) (by omega) hI2
                                                      · skip
                                                        by_cases e32_25 : zz = 25
                                                        · refine T_tsIn (tgt := 819) dL_law_32 (by omega) (by omega) (by rw [e32_25]; rfl) rfl ?_
                                                          refine T_aloadn dL_law_819 rfl rfl ?_
                                                          refine TX_V dL_law_820 (s_judge hI ) kL_118 (by decide) (by first | decide | omega) (by first | assumption | rfl) rfl (leb rfl) (fun v c1 hq => ?_)
                                                          obtain ⟨z, rfl, hy⟩ := hq
                                                          refine T_aloadn dL_law_823 rfl rfl ?_
                                                          refine TX_V dL_law_824 (hy) kL_121 (by decide) (by first | decide | omega) (by first | assumption | rfl) rfl (leb rfl) (fun v2 c2 hq2 => ?_)
                                                          obtain ⟨rfl, hI2⟩ := hq2
                                                          refine T_icmp_eq (tgt := 901) dL_law_827 rfl (fun b827 => ?_) (fun b827 => absurd rfl b827)
                                                          refine T_iincN dL_law_901 rfl (by show _ < 4; decide) rfl (by omega) ?_
                                                          refine T_goto (tgt := 18) dL_law_904 rfl ?_
                                                          refine T_keep [0, 1, 2, 3] ?_
                                                          rw [show (i : Int) + 5 = ((i + 5 : Nat) : Int) by omega]
                                                          exact ih (i + 5) c2 (by omega) (by omega) hI2
                                                        · skip
                                                          by_cases e32_26 : zz = 26
                                                          · refine T_tsIn (tgt := 832) dL_law_32 (by omega) (by omega) (by rw [e32_26]; rfl) rfl ?_
                                                            refine T_aloadn dL_law_832 rfl rfl ?_
                                                            refine T_sloadn dL_law_833 rfl rfl ?_
                                                            refine T_iloadn dL_law_834 rfl rfl ?_
                                                            refine T_iconst dL_law_835 (inr rfl) ?_
                                                            first | refine T_iaddN dL_law_836 (by omega) ?_ | refine T_iadd dL_law_836 ?_
                                                            refine T_sld (j := i + 1) rfl dL_law_837 (by omega) (by omega) ?_
                                                            refine TX_V dL_law_838 (s_seed hI (xs (i + 1)).toInt (InR_toInt _).2) kL_122 (by decide) (by first | decide | omega) (by first | assumption | rfl) rfl (leb rfl) (fun v c1 hq => ?_)
                                                            obtain ⟨z, rfl, hy⟩ := hq
                                                            refine T_aloadn dL_law_841 rfl rfl ?_
                                                            refine T_sloadn dL_law_842 rfl rfl ?_
                                                            refine T_iloadn dL_law_843 rfl rfl ?_
                                                            refine T_iconst dL_law_844 (inr rfl) ?_
                                                            first | refine T_iaddN dL_law_845 (by omega) ?_ | refine T_iadd dL_law_845 ?_
                                                            refine T_sld (j := i + 1) rfl dL_law_846 (by omega) (by omega) ?_
                                                            refine TX_V dL_law_847 (hy) kL_125 (by decide) (by first | decide | omega) (by first | assumption | rfl) rfl (leb rfl) (fun v2 c2 hq2 => ?_)
                                                            obtain ⟨rfl, hI2⟩ := hq2
                                                            refine T_icmp_eq (tgt := 901) dL_law_850 rfl (fun b850 => ?_) (fun b850 => absurd rfl b850)
                                                            refine T_iincN dL_law_901 rfl (by show _ < 4; decide) rfl (by omega) ?_
                                                            refine T_goto (tgt := 18) dL_law_904 rfl ?_
                                                            refine T_keep [0, 1, 2, 3] ?_
                                                            rw [show (i : Int) + 5 = ((i + 5 : Nat) : Int) by omega]
                                                            exact ih (i + 5) c2 (by omega) (by omega) hI2
                                                          · skip
                                                            by_cases e32_27 : zz = 27
                                                            · refine T_tsIn (tgt := 855) dL_law_32 (by omega) (by omega) (by rw [e32_27]; rfl) rfl ?_
                                                              refine T_aloadn dL_law_855 rfl rfl ?_
                                                              refine T_sloadn dL_law_856 rfl rfl ?_
                                                              refine T_iloadn dL_law_857 rfl rfl ?_
                                                              refine T_iconst dL_law_858 (inr rfl) ?_
                                                              first | refine T_iaddN dL_law_859 (by omega) ?_ | refine T_iadd dL_law_859 ?_
                                                              refine T_sld (j := i + 1) rfl dL_law_860 (by omega) (by omega) ?_
                                                              refine TX_V dL_law_861 (s_keep hI (xs (i + 1)).toInt) kL_126 (by decide) (by first | decide | omega) (by first | assumption | rfl) rfl (leb rfl) (fun v c1 hq => ?_)
                                                              obtain ⟨z, rfl, hy⟩ := hq
                                                              refine T_aloadn dL_law_864 rfl rfl ?_
                                                              refine T_sloadn dL_law_865 rfl rfl ?_
                                                              refine T_iloadn dL_law_866 rfl rfl ?_
                                                              refine T_iconst dL_law_867 (inr rfl) ?_
                                                              first | refine T_iaddN dL_law_868 (by omega) ?_ | refine T_iadd dL_law_868 ?_
                                                              refine T_sld (j := i + 1) rfl dL_law_869 (by omega) (by omega) ?_
                                                              refine TX_V dL_law_870 (hy) kL_129 (by decide) (by first | decide | omega) (by first | assumption | rfl) rfl (leb rfl) (fun v2 c2 hq2 => ?_)
                                                              obtain ⟨rfl, hI2⟩ := hq2
                                                              refine T_icmp_eq (tgt := 901) dL_law_873 rfl (fun b873 => ?_) (fun b873 => absurd rfl b873)
                                                              refine T_iincN dL_law_901 rfl (by show _ < 4; decide) rfl (by omega) ?_
                                                              refine T_goto (tgt := 18) dL_law_904 rfl ?_
                                                              refine T_keep [0, 1, 2, 3] ?_
                                                              rw [show (i : Int) + 5 = ((i + 5 : Nat) : Int) by omega]
                                                              exact ih (i + 5) c2 (by omega) (by omega) hI2
                                                            · skip
                                                              by_cases e32_28 : zz = 28
                                                              · refine T_tsIn (tgt := 878) dL_law_32 (by omega) (by omega) (by rw [e32_28]; rfl) rfl ?_
                                                                refine T_aloadn dL_law_878 rfl rfl ?_
                                                                refine T_sloadn dL_law_879 rfl rfl ?_
                                                                refine T_iloadn dL_law_880 rfl rfl ?_
                                                                refine T_iconst dL_law_881 (inr rfl) ?_
                                                                first | refine T_iaddN dL_law_882 (by omega) ?_ | refine T_iadd dL_law_882 ?_
                                                                refine T_sld (j := i + 1) rfl dL_law_883 (by omega) (by omega) ?_
                                                                refine TX_V dL_law_884 (s_goBack hI (xs (i + 1)).toInt) kL_130 (by decide) (by first | decide | omega) (by first | assumption | rfl) rfl (leb rfl) (fun v c1 hq => ?_)
                                                                obtain ⟨z, rfl, hy⟩ := hq
                                                                refine T_aloadn dL_law_887 rfl rfl ?_
                                                                refine T_sloadn dL_law_888 rfl rfl ?_
                                                                refine T_iloadn dL_law_889 rfl rfl ?_
                                                                refine T_iconst dL_law_890 (inr rfl) ?_
                                                                first | refine T_iaddN dL_law_891 (by omega) ?_ | refine T_iadd dL_law_891 ?_
                                                                refine T_sld (j := i + 1) rfl dL_law_892 (by omega) (by omega) ?_
                                                                refine TX_V dL_law_893 (hy) kL_133 (by decide) (by first | decide | omega) (by first | assumption | rfl) rfl (leb rfl) (fun v2 c2 hq2 => ?_)
                                                                obtain ⟨rfl, hI2⟩ := hq2
                                                                refine T_icmp_eq (tgt := 901) dL_law_896 rfl (fun b896 => ?_) (fun b896 => absurd rfl b896)
                                                                refine T_iincN dL_law_901 rfl (by show _ < 4; decide) rfl (by omega) ?_
                                                                refine T_goto (tgt := 18) dL_law_904 rfl ?_
                                                                refine T_keep [0, 1, 2, 3] ?_
                                                                rw [show (i : Int) + 5 = ((i + 5 : Nat) : Int) by omega]
                                                                exact ih (i + 5) c2 (by omega) (by omega) hI2
                                                              · skip
                                                                refine T_tsOut (tgt := 901) dL_law_32 (by omega) rfl ?_
                                                                refine T_iincN dL_law_901 rfl (by show _ < 4; decide) rfl (by omega) ?_
                                                                refine T_goto (tgt := 18) dL_law_904 rfl ?_
                                                                refine T_keep [0, 1, 2, 3] ?_
                                                                rw [show (i : Int) + 5 = ((i + 5 : Nat) : Int) by omega]
                                                                exact ih (i + 5) c (by omega) (by omega) hI
theorem SH_all : SH.take 149 = SH := by decide
set_option maxHeartbeats 4000000 in
set_option maxRecDepth 100000 in
theorem T_law (nm : String) (L : Nat) (hL : L ≤ 320) (xs : Nat → Int32) : T (some (L, xs)) (mLn nm) 9 NF 148 18214 (SH.take 1) 0 [(0, vscr)] [] (fun _ _ => 0) (fun v _ _ => v = some (vi 1)) := by
  refine N_new (n := 1) (bc := 147) (bs := 18200) (ci := 10) (r := (RX10, TX10, 14)) dL_law_0 rfl nL_7 wn_X10 wi_X10 (by decide) (by decide) rfl (by decide) ?_
  refine T_dup dL_law_3 rfl ?_
  refine T_callI (As := []) (bc := 27) (bs := 13017) (mc := 120) (ms := 5183) dL_law_4 kL_9 (k_rw (fun _ _ => 0)) (by decide) (by decide) rfl (leb rfl) (fun v_ s_ c_ hq => ?_)
  obtain ⟨rfl, rfl, rfl⟩ := hq
  refine T_astoren dL_law_7 rfl (by show _ < 4; decide) rfl ?_
  refine N_new (n := 122) (bc := 26) (bs := 12973) (ci := 11) (r := (RX11, TX11, 44)) dL_law_8 rfl nL_10 wn_X11 wi_X11 (by decide) (by decide) rfl (by decide) ?_
  refine T_dup dL_law_11 rfl ?_
  refine T_callI (As := []) (bc := 0) (bs := 0) (mc := 26) (ms := 12973) dL_law_12 kL_12 (k_md (e_rw (fun _ _ => 0))) (by decide) (by decide) rfl (leb rfl) (fun v_ s_ c_ hq => ?_)
  obtain ⟨rfl, rfl, rfl⟩ := hq
  refine T_astoren dL_law_15 rfl (by show _ < 4; decide) rfl ?_
  refine T_iconst dL_law_16 (inr rfl) ?_
  refine T_istoren dL_law_17 rfl (by show _ < 4; decide) rfl ?_
  refine T_sh SH_all ?_
  refine T_fin0 (fin2 := FIN) (fun a k r h => (CF_at h).1) (fun a k r h => finB_at (CF_at h).2) ?_
  refine T_keep [0, 1, 2, 3] ?_
  exact l_law nm L hL xs L 0 CF (by omega) (by omega) INV_0
