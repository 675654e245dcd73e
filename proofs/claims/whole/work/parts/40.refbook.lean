/-! the reference: book, text, speakers told -/
def wtR (c : HC) (m : Nat) (r p : Int) : HC := if (r < 0 ∨ 999 < r) ∨ (p < -500 ∨ 500 < p) then c else if 15 ≤ m then c else up2 (up2 (up2 c 145 m r) 146 m p) 122 39 ((m : Int) + 1)
def fdR (c : HC) (m : Nat) (x : Int) : HC := if x < 0 ∨ 255 < x then c else if 250 ≤ m then c else up2 (up2 c 131 m x) 122 15 ((m : Int) + 1)
set_option maxHeartbeats 4000000 in
set_option maxRecDepth 100000 in
theorem y_write (c : HC) (m : Nat) (hm : c 122 39 = (m : Int)) (h8 : m ≤ 15) (r p : Int) : RW mX11_write 1 c [vr 122, vi r, vi p] (wtF m r p) (wtR c m r p) := by
  refine CC.of (by decide +kernel) (leb rfl) (fun hok => ?_)
  unfold wtF wtR OUT FUL
  refine T_iloadn dX11_write_0 rfl rfl ?_
  refine T_i2l dX11_write_1 ?_
  refine T_lconst (z := 0) dX11_write_2 rfl (inl rfl) ?_
  refine T_ldc2 dX11_write_3 clX11_303 (inl rfl) ?_
  refine TT_Si dX11_write_6 (r_in c r 0 999) kX11_96 (by decide) rfl (leb rfl) ?_
  refine T_if_eq (tgt := 26) dX11_write_9 rfl (fun b9 => ?_) (fun b9 => ?_)
  · refine T_ldc dX11_write_26 cX11_106 (inr rfl) ?_
    refine TT_ri dX11_write_28 trivial ?_
    have hi := inF_f b9
    exact ⟨by rw [if_pos (by omega)], by rw [if_pos (by omega)]⟩
  · have hi := inF_t b9
    refine T_iloadn dX11_write_12 rfl rfl ?_
    refine T_i2l dX11_write_13 ?_
    refine T_ldc2 dX11_write_14 clX11_305 (inl rfl) ?_
    refine T_ldc2 dX11_write_17 clX11_307 (inl rfl) ?_
    refine TT_Si dX11_write_20 (r_in c p (-500) 500) kX11_96 (by decide) rfl (leb rfl) ?_
    refine T_if_ne (tgt := 29) dX11_write_23 rfl (fun b23 => ?_) (fun b23 => ?_)
    · have hj := inF_t b23
      refine T_aloadn dX11_write_29 rfl rfl ?_
      refine T_getv dX11_write_30 fX11_194 (by first | assumption | rfl) (by first | decide | omega) rfl hm ?_
      refine T_bipush dX11_write_33 (bp8 rfl) (inr rfl) ?_
      refine T_icmp_ne (tgt := 41) dX11_write_35 rfl (fun b35 => ?_) (fun b35 => ?_)
      · refine T_aloadn dX11_write_41 rfl rfl ?_
        refine T_getfin dX11_write_42 fX11_80 (by first | assumption | rfl) (by first | decide | omega) rfl (by first | assumption | rfl) ?_
        refine T_aloadn dX11_write_45 rfl rfl ?_
        refine T_getv dX11_write_46 fX11_194 (by first | assumption | rfl) (by first | decide | omega) rfl hm ?_
        refine T_iloadn dX11_write_49 rfl rfl ?_
        refine T_iast (j := m) dX11_write_50 (by first | assumption | rfl) (by first | decide | omega) (by omega) (by omega) ?_
        refine T_aloadn dX11_write_51 rfl rfl ?_
        refine T_getfin dX11_write_52 fX11_83 (by first | assumption | rfl) (by first | decide | omega) rfl (by first | assumption | rfl) ?_
        refine T_aloadn dX11_write_55 rfl rfl ?_
        refine T_getv dX11_write_56 fX11_194 (by first | assumption | rfl) (by first | decide | omega) rfl ((up2_a _ _ (by decide)).trans hm) ?_
        refine T_iloadn dX11_write_59 rfl rfl ?_
        refine T_iast (j := m) dX11_write_60 (by first | assumption | rfl) (by first | decide | omega) (by omega) (by omega) ?_
        refine T_aloadn dX11_write_61 rfl rfl ?_
        refine T_dup dX11_write_62 rfl ?_
        refine T_getv dX11_write_63 fX11_194 (by first | assumption | rfl) (by first | decide | omega) rfl ((up2_a _ _ (by decide)).trans ((up2_a _ _ (by decide)).trans hm)) ?_
        refine T_iconst dX11_write_66 (inr rfl) ?_
        first | refine T_iaddN dX11_write_67 (by omega) ?_ | refine T_iadd dX11_write_67 ?_
        refine T_puti dX11_write_68 fX11_194 (by first | assumption | rfl) (by first | decide | omega) rfl rfl ?_
        refine T_aloadn dX11_write_71 rfl rfl ?_
        refine T_getv dX11_write_72 fX11_194 (by first | assumption | rfl) (by first | decide | omega) rfl (up2_s _ _ _ _) ?_
        refine TT_ri dX11_write_75 trivial ?_
        exact ⟨by rw [if_neg (by omega), if_neg (by omega)], by rw [if_neg (by omega), if_neg (by omega)]⟩
      · refine T_ldc dX11_write_38 cX11_110 (inr rfl) ?_
        refine TT_ri dX11_write_40 trivial ?_
        exact ⟨by rw [if_neg (by omega), if_pos (by omega)], by rw [if_neg (by omega), if_pos (by omega)]⟩
    · refine T_ldc dX11_write_26 cX11_106 (inr rfl) ?_
      refine TT_ri dX11_write_28 trivial ?_
      have hj := inF_f b23
      exact ⟨by rw [if_pos (by omega)], by rw [if_pos (by omega)]⟩
set_option maxHeartbeats 4000000 in
set_option maxRecDepth 100000 in
theorem y_feed (c : HC) (m : Nat) (hm : c 122 15 = (m : Int)) (h8 : m ≤ 250) (x : Int) : RW mX11_feed 1 c [vr 122, vi x] (fdF m x) (fdR c m x) := by
  refine CC.of (by decide +kernel) (leb rfl) (fun hok => ?_)
  unfold fdF fdR OUT FUL
  refine T_iloadn dX11_feed_0 rfl rfl ?_
  refine T_i2l dX11_feed_1 ?_
  refine T_lconst (z := 0) dX11_feed_2 rfl (inl rfl) ?_
  refine T_ldc2 dX11_feed_3 clX11_104 (inl rfl) ?_
  refine TT_Si dX11_feed_6 (r_in c x 0 255) kX11_96 (by decide) rfl (leb rfl) ?_
  refine T_if_ne (tgt := 15) dX11_feed_9 rfl (fun b9 => ?_) (fun b9 => ?_)
  · have hi := inF_t b9
    refine T_aloadn dX11_feed_15 rfl rfl ?_
    refine T_getv dX11_feed_16 fX11_107 (by first | assumption | rfl) (by first | decide | omega) rfl hm ?_
    refine T_sipush dX11_feed_19 (bp16 rfl) (inr rfl) ?_
    refine T_icmp_ne (tgt := 28) dX11_feed_22 rfl (fun b22 => ?_) (fun b22 => ?_)
    · refine T_aloadn dX11_feed_28 rfl rfl ?_
      refine T_getfin dX11_feed_29 fX11_34 (by first | assumption | rfl) (by first | decide | omega) rfl (by first | assumption | rfl) ?_
      refine T_aloadn dX11_feed_32 rfl rfl ?_
      refine T_getv dX11_feed_33 fX11_107 (by first | assumption | rfl) (by first | decide | omega) rfl hm ?_
      refine T_iloadn dX11_feed_36 rfl rfl ?_
      refine T_iast (j := m) dX11_feed_37 (by first | assumption | rfl) (by first | decide | omega) (by omega) (by omega) ?_
      refine T_aloadn dX11_feed_38 rfl rfl ?_
      refine T_dup dX11_feed_39 rfl ?_
      refine T_getv dX11_feed_40 fX11_107 (by first | assumption | rfl) (by first | decide | omega) rfl ((up2_a _ _ (by decide)).trans hm) ?_
      refine T_iconst dX11_feed_43 (inr rfl) ?_
      first | refine T_iaddN dX11_feed_44 (by omega) ?_ | refine T_iadd dX11_feed_44 ?_
      refine T_puti dX11_feed_45 fX11_107 (by first | assumption | rfl) (by first | decide | omega) rfl rfl ?_
      refine T_aloadn dX11_feed_48 rfl rfl ?_
      refine T_getv dX11_feed_49 fX11_107 (by first | assumption | rfl) (by first | decide | omega) rfl (up2_s _ _ _ _) ?_
      refine TT_ri dX11_feed_52 trivial ?_
      exact ⟨by rw [if_neg (by omega), if_neg (by omega)], by rw [if_neg (by omega), if_neg (by omega)]⟩
    · refine T_ldc dX11_feed_25 cX11_110 (inr rfl) ?_
      refine TT_ri dX11_feed_27 trivial ?_
      exact ⟨by rw [if_neg (by omega), if_pos (by omega)], by rw [if_neg (by omega), if_pos (by omega)]⟩
  · refine T_ldc dX11_feed_12 cX11_106 (inr rfl) ?_
    refine TT_ri dX11_feed_14 trivial ?_
    have hi := inF_f b9
    exact ⟨by rw [if_pos (by omega)], by rw [if_pos (by omega)]⟩
set_option maxHeartbeats 4000000 in
set_option maxRecDepth 100000 in
theorem y_speaker (c : HC) {n : Nat} (hv : RSV c n) (p w : Int) : RO mX11_speaker 2 c [vr 122, vi p, vi w] (spkF n (c 125) (c 126) (fun j => c 130 (2 + j)) (c 127) (c 128) p w) := by
  have hv0 := hv
  obtain ⟨hn, hn10, hv⟩ := id hv
  refine CC.of (by decide +kernel) (leb rfl) (fun hok => ?_)
  unfold spkF UNK OUT
  refine T_aloadn dX11_speaker_0 rfl rfl ?_
  refine T_iloadn dX11_speaker_1 rfl rfl ?_
  refine TT_Vi dX11_speaker_2 (r_isSpeaker c hv0 p) kX11_100 (by decide) (by first | decide | omega) (by first | assumption | rfl) rfl (leb rfl) ?_
  refine T_if_ne (tgt := 11) dX11_speaker_5 rfl (fun b5 => ?_) (fun b5 => ?_)
  · have hi := inF_t b5
    refine T_iloadn dX11_speaker_11 rfl rfl ?_
    by_cases e12_0 : w = 0
    · refine T_tsIn (tgt := 48) dX11_speaker_12 (by omega) (by omega) (by rw [e12_0]; rfl) rfl ?_
      refine T_aloadn dX11_speaker_48 rfl rfl ?_
      refine T_getfin dX11_speaker_49 fX11_16 (by first | assumption | rfl) (by first | decide | omega) rfl (by first | assumption | rfl) ?_
      refine T_iloadn dX11_speaker_52 rfl rfl ?_
      refine T_iald (j := p.toNat) dX11_speaker_53 (by first | assumption | rfl) (by first | decide | omega) (by omega) (by omega) ?_
      refine TT_ri dX11_speaker_54 trivial ?_
      exact ro_q (by rw [if_neg (by omega)]; rw [if_pos e12_0])
    · skip
      by_cases e12_1 : w = 1
      · refine T_tsIn (tgt := 55) dX11_speaker_12 (by omega) (by omega) (by rw [e12_1]; rfl) rfl ?_
        refine T_aloadn dX11_speaker_55 rfl rfl ?_
        refine T_getfin dX11_speaker_56 fX11_19 (by first | assumption | rfl) (by first | decide | omega) rfl (by first | assumption | rfl) ?_
        refine T_iloadn dX11_speaker_59 rfl rfl ?_
        refine T_iald (j := p.toNat) dX11_speaker_60 (by first | assumption | rfl) (by first | decide | omega) (by omega) (by omega) ?_
        refine TT_ri dX11_speaker_61 trivial ?_
        exact ro_q (by rw [if_neg (by omega)]; rw [if_neg e12_0]; rw [if_pos e12_1])
      · skip
        by_cases e12_2 : w = 2
        · refine T_tsIn (tgt := 62) dX11_speaker_12 (by omega) (by omega) (by rw [e12_2]; rfl) rfl ?_
          refine T_aloadn dX11_speaker_62 rfl rfl ?_
          refine T_getfin dX11_speaker_63 fX11_31 (by first | assumption | rfl) (by first | decide | omega) rfl (by first | assumption | rfl) ?_
          refine T_iconst dX11_speaker_66 (inr rfl) ?_
          refine T_iloadn dX11_speaker_67 rfl rfl ?_
          first | refine T_iaddN dX11_speaker_68 (by omega) ?_ | refine T_iadd dX11_speaker_68 ?_
          refine T_iald (j := 2 + p.toNat) dX11_speaker_69 (by first | assumption | rfl) (by first | decide | omega) (by omega) (by omega) ?_
          refine TT_ri dX11_speaker_70 trivial ?_
          exact ro_q (by rw [if_neg (by omega)]; rw [if_neg e12_0]; rw [if_neg e12_1]; rw [if_pos e12_2])
        · skip
          by_cases e12_3 : w = 3
          · refine T_tsIn (tgt := 71) dX11_speaker_12 (by omega) (by omega) (by rw [e12_3]; rfl) rfl ?_
            refine T_aloadn dX11_speaker_71 rfl rfl ?_
            refine T_getfin dX11_speaker_72 fX11_22 (by first | assumption | rfl) (by first | decide | omega) rfl (by first | assumption | rfl) ?_
            refine T_iloadn dX11_speaker_75 rfl rfl ?_
            refine T_iald (j := p.toNat) dX11_speaker_76 (by first | assumption | rfl) (by first | decide | omega) (by omega) (by omega) ?_
            refine TT_ri dX11_speaker_77 trivial ?_
            exact ro_q (by rw [if_neg (by omega)]; rw [if_neg e12_0]; rw [if_neg e12_1]; rw [if_neg e12_2]; rw [if_pos e12_3])
          · skip
            by_cases e12_4 : w = 4
            · refine T_tsIn (tgt := 78) dX11_speaker_12 (by omega) (by omega) (by rw [e12_4]; rfl) rfl ?_
              refine T_aloadn dX11_speaker_78 rfl rfl ?_
              refine T_getfin dX11_speaker_79 fX11_25 (by first | assumption | rfl) (by first | decide | omega) rfl (by first | assumption | rfl) ?_
              refine T_iloadn dX11_speaker_82 rfl rfl ?_
              refine T_iald (j := p.toNat) dX11_speaker_83 (by first | assumption | rfl) (by first | decide | omega) (by omega) (by omega) ?_
              refine TT_ri dX11_speaker_84 trivial ?_
              exact ro_q (by rw [if_neg (by omega)]; rw [if_neg e12_0]; rw [if_neg e12_1]; rw [if_neg e12_2]; rw [if_neg e12_3]; rw [if_pos e12_4])
            · skip
              refine T_tsOut (tgt := 85) dX11_speaker_12 (by omega) rfl ?_
              refine T_ldc dX11_speaker_85 cX11_106 (inr rfl) ?_
              refine TT_ri dX11_speaker_87 trivial ?_
              exact ro_q (by rw [if_neg (by omega)]; rw [if_neg e12_0]; rw [if_neg e12_1]; rw [if_neg e12_2]; rw [if_neg e12_3]; rw [if_neg e12_4])
  · refine T_ldc dX11_speaker_8 cX11_200 (inr rfl) ?_
    refine TT_ri dX11_speaker_10 trivial ?_
    have hi := inF_f b5
    exact ro_q (by rw [if_pos (by omega)])
