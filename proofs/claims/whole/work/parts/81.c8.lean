set_option maxRecDepth 100000 in
set_option maxHeartbeats 4000000 in
theorem c_X10_played {B : Bs} {S : Stt} {V : Va} (text : Int) (a : Int → Int) (tx : Int → Int) (hS : Stat S) (hW : WSim V 1 a) (hB : WB V 1) (hM : MIv a) (hTx : TSim S V 133 a tx) (hch : 0 ≤ (V 1 10) ∧ (V 1 10) ≤ 900000) (htext : InR text) : C B yX10_played cX10_played 4 (some .int) 8 0 0 [vR B 0, vI text] S V (rIR S (if 0 ≤ text ∧ text < a 3 then mPlayR a tx text else -2) (fun VN => PlR 24 a (if 0 ≤ text ∧ text < a 3 then mPlayG a tx text else a) V VN)) := by
  refine C.of [some (vR B 0), some (vI text), none, none] ?_
  intro Γ hQ
  have w7 : V 1 7 = a 0 := hW.1.1
  have w8 : V 1 8 = a 3 := hW.1.2.1
  have w9 : V 1 9 = a 4 := hW.1.2.2
  have w55 : V 5 5 = a 1 := hW.2.2.2.1.1
  have i0 := hM.1.2.1
  have i1 := hM.1.2.2.1
  have i2 := hM.1.2.2.2.1
  have i4 := hM.1.2.2.2.2.1
  have i3 := hM.2.1
  refine x_il1 dX10_played_0 ?_
  refine x_if_lt (tgt := 15) dX10_played_1 (inr (by omega)) (fun c1_1 => ?_) (fun c1_1 => ?_)
  · -- 1 lt -> 15
    refine x_bipush dX10_played_15 ?_
    exact x_iret hQ ⟨(by rw [if_neg (by omega)]), rfl, (by rw [if_neg (by omega)]; exact PlR_0 hW hB hM)⟩ dX10_played_17
  · -- 1 lt -> 4
    refine x_il1 dX10_played_4 ?_
    refine x_al0 dX10_played_5 ?_
    refine x_getR fl_X10_12 (sh_0 hS) (lq_0 hS) (rf_0_0 hS) dX10_played_6 ?_
    refine x_getI fl_X10_78 (sh_1 hS) (lq_1 hS) dX10_played_9 ?_
    refine x_topI (a' := V 1 8) rfl ?_
    refine x_icmp_lt (tgt := 18) dX10_played_12 (inr (by omega)) (inr (by omega)) (fun c12_2 => ?_) (fun c12_2 => ?_)
    · -- 12 lt -> 18
      obtain ⟨id, cl, cd, e1, e2, e3⟩ := hTx text (by omega) (by omega)
      have hid := e2.1
      have hcn := e3.1
      refine x_al0 dX10_played_18 ?_
      refine x_getR fl_X10_12 (sh_0 hS) (lq_0 hS) (rf_0_0 hS) dX10_played_19 ?_
      refine x_getR fl_X10_116 (sh_1 hS) (lq_1 hS) (rf_1_5 hS) dX10_played_22 ?_
      refine x_il1 dX10_played_25 ?_
      refine x_taldR (sh_133 hS) (lq_133 hS) (by omega) (by omega) e1 dX10_played_26 ?_
      refine x_as2 dX10_played_27 ?_
      refine x_al2 dX10_played_28 ?_
      refine x_nonnull (tgt := 35) dX10_played_29 ?_
      refine x_iconst dX10_played_35 ?_
      refine x_is3 dX10_played_36 ?_
      have lp37 : ∀ (N37 : Nat) (i : Int) (W : Va), (0 ≤ i ∧ i ≤ tx (700 * text)) → (PlR i a (mPlayK a tx text i.toNat) V W) → (∀ j, 0 ≤ j → j < i → mPlayC (mPlayK a tx text j.toNat) tx (700 * text + 1 + 4 * j)) → (tx (700 * text) - i).toNat < N37 → X Γ B RX10 "played" cX10_played 4 (some .int) 8 0 0 37 [some (vR B 0), some (vI text), some (vR B id), some (vI i)] [] 0 0 S W := by
        intro N37
        induction N37 with
        | zero => intro i W hi hP hok hN; exact absurd hN (Nat.not_lt_zero _)
        | succ N37 ih37 =>
          intro i W hi hP hok hN37
          have hTw := TSim_F (a' := mPlayK a tx text i.toNat) hP.2.2.2.1 (mPlayK_3 hM _) hTx
          have e3w := TxV_c hid.1 (fun q hq => hP.2.2.2.1 q (by omega) (by omega) (by omega)) e3
          have hcw : W id 1 = tx (700 * text) := e3w.1.1
          have hchw : 0 ≤ W 1 10 ∧ W 1 10 ≤ 1000000 := by rcases hP.2.2.2.2 with z | z; (rw [z.1]; omega); omega
          refine x_il3 dX10_played_37 ?_
          refine x_al2 dX10_played_38 ?_
          refine x_getI fl_X10_120 (e2.2.1) ((by have := e2.1.2.1; omega)) dX10_played_39 ?_
          refine x_topI (a' := W id 1) rfl ?_
          refine x_icmp_ge (tgt := 69) dX10_played_42 (inr (by omega)) (inr (by omega)) (fun c42_3 => ?_) (fun c42_3 => ?_)
          · -- 42 ge -> 69
            have hRn : mPlayR a tx text = -1 := findT_no (fun j j0 j1 => by rw [decide_eq_true (hok j j0 (by omega))]; rfl)
            refine x_iconst dX10_played_69 ?_
            exact x_iret hQ ⟨(by rw [if_pos (by omega)]; exact congrArg some (congrArg vI hRn)), rfl, (by rw [if_pos (by omega)]; simp only [mPlayG]; rw [hRn, if_pos (by omega), show (tx (700 * text)).toNat = i.toNat by omega]; exact PlR_n (by omega) hP)⟩ dX10_played_70
          · -- 42 ge -> 45
            refine x_al0 dX10_played_45 ?_
            refine x_getR fl_X10_12 (sh_0 hS) (lq_0 hS) (rf_0_0 hS) dX10_played_46 ?_
            refine x_al2 dX10_played_49 ?_
            refine x_il3 dX10_played_50 ?_
            refine x_al0 dX10_played_51 ?_
            refine x_getR fl_X10_31 (sh_0 hS) (lq_0 hS) (rf_0_3 hS) dX10_played_52 ?_
            refine x_cViR mm_X9_perform ml_X10_125 dX10_played_55 (c_X9_perform id i (mPlayK a tx text i.toNat) tx text cl cd hS hP.1 hP.2.1 hP.2.2.1 hTw hchw e2 e3w (by omega)) (sh_1 hS) (lq_1 hS) (fun W4 hw4 => ?_)
            refine x_ifb_ne (tgt := 63) dX10_played_58 (fun c58_5 => ?_) (fun c58_5 => ?_)
            · -- 58 ne -> 63
              refine x_inc3 dX10_played_63 ?_
              refine x_goto (tgt := 37) dX10_played_66 ?_
              exact x_fg (ih37 (i + 1) W4 (by omega) (by have q := PlR_t hi.1 (by omega) hP hw4; rw [show (i + 1).toNat = i.toNat + 1 by omega]; simp only [mPlayK]; rw [show ((i.toNat : Nat) : Int) = i by omega]; exact q) (fun j j0 j1 => by rcases (show j < i ∨ j = i by omega) with q | q; (exact hok j j0 q); (rw [q]; exact c58_5)) (by omega)) (And.intro rfl (And.intro rfl (And.intro rfl (And.intro rfl trivial))))
            · -- 58 ne -> 61
              have c58 := c58_5
              refine x_il3 dX10_played_61 ?_
              exact x_iret hQ (by have hRi : mPlayR a tx text = i := findT_at hi.1 (by omega) (by rw [decide_eq_false c58]; rfl) (fun j j0 j1 => by rw [decide_eq_true (hok j j0 j1)]; rfl); exact ⟨(by rw [if_pos (by omega)]; exact congrArg some (congrArg vI hRi)), rfl, (by rw [if_pos (by omega)]; simp only [mPlayG]; rw [hRi, if_neg (by omega)]; have q := hw4; rw [mPlayF_no c58] at q; exact PlR_n (by omega) (PlR_t hi.1 (by omega) hP q))⟩) dX10_played_62
      exact x_fg (lp37 _ 0 V (by omega) (PlR_0 hW hB hM) (fun j j0 j1 => by omega) (Nat.lt_succ_self _)) (And.intro rfl (And.intro rfl (And.intro rfl (And.intro rfl trivial))))
    · -- 12 lt -> 15
      refine x_bipush dX10_played_15 ?_
      exact x_iret hQ ⟨(by rw [if_neg (by omega)]), rfl, (by rw [if_neg (by omega)]; exact PlR_0 hW hB hM)⟩ dX10_played_17
set_option maxRecDepth 100000 in
set_option maxHeartbeats 4000000 in
theorem c_X10_of {B : Bs} {S : Stt} {V : Va} (bone : Int) (what : Int) (a : Int → Int) (tx : Int → Int) (hS : Stat S) (hW : WSim V 1 a) (hB : WB V 1) (hM : MIv a) (hTx : TSim S V 133 a tx) (hbone : InR bone) (hwhat : InR what) : C B yX10_of cX10_of 3 (some .int) 6 0 0 [vR B 0, vI bone, vI what] S V (rIc S V (if 0 ≤ bone ∧ bone < a 1 then (if 0 ≤ what ∧ what ≤ 4 then a (30 + 6 * bone + what) else if what = 5 then sumT (fun k => a (30 + 6 * bone + 5) / p2 k % 2) 16 else if what = 6 then (if mHoly a tx bone then 1 else 0) else -2) else -2)) := by
  refine C.of [some (vR B 0), some (vI bone), some (vI what)] ?_
  intro Γ hQ
  have w7 : V 1 7 = a 0 := hW.1.1
  have w8 : V 1 8 = a 3 := hW.1.2.1
  have w9 : V 1 9 = a 4 := hW.1.2.2
  have w55 : V 5 5 = a 1 := hW.2.2.2.1.1
  have i0 := hM.1.2.1
  have i1 := hM.1.2.2.1
  have i2 := hM.1.2.2.2.1
  have i4 := hM.1.2.2.2.2.1
  have i3 := hM.2.1
  have bb := WB_BB hB
  refine x_al0 dX10_of_0 ?_
  refine x_getR fl_X10_12 (sh_0 hS) (lq_0 hS) (rf_0_0 hS) dX10_of_1 ?_
  refine x_il1 dX10_of_4 ?_
  refine x_cVi mm_X9_hasBone ml_X10_133 dX10_of_5 (c_X9_hasBone bone hS (by omega) (inr (by omega))) (sh_1 hS) (lq_1 hS) ?_
  refine x_ifb_ne (tgt := 14) dX10_of_8 (fun c8_1 => ?_) (fun c8_1 => ?_)
  · -- 8 ne -> 14
    simp only [cBoneOk] at *
    refine x_il2 dX10_of_14 ?_
    by_cases hs2 : what = 0
    · refine x_tswIn (tgt := 56) (off := 41) dX10_of_15 0 hs2 ?_
      refine x_al0 dX10_of_56 ?_
      refine x_getR fl_X10_12 (sh_0 hS) (lq_0 hS) (rf_0_0 hS) dX10_of_57 ?_
      refine x_getR fl_X10_136 (sh_1 hS) (lq_1 hS) (rf_1_2 hS) dX10_of_60 ?_
      refine x_il1 dX10_of_63 ?_
      refine x_iald (sh_4 hS) (lq_4 hS) (by omega) (by omega) dX10_of_64 ?_
      refine x_topI (a' := V 4 bone) rfl ?_
      exact x_iret hQ ⟨V 287, V 288, congrArg some (congrArg vI (by rw [if_pos (by omega), if_pos (by omega), show what = 0 by omega, Int.add_zero]; exact (hW.2.2.1 bone (by omega) (by omega)).symm)), rfl, lw_self V⟩ dX10_of_65
    by_cases hs3 : what = 1
    · refine x_tswIn (tgt := 66) (off := 51) dX10_of_15 1 hs3 ?_
      refine x_al0 dX10_of_66 ?_
      refine x_getR fl_X10_12 (sh_0 hS) (lq_0 hS) (rf_0_0 hS) dX10_of_67 ?_
      refine x_getR fl_X10_140 (sh_1 hS) (lq_1 hS) (rf_1_3 hS) dX10_of_70 ?_
      refine x_getR fl_X10_144 (sh_5 hS) (lq_5 hS) (rf_5_0 hS) dX10_of_73 ?_
      refine x_il1 dX10_of_76 ?_
      refine x_iald (sh_6 hS) (lq_6 hS) (by omega) (by omega) dX10_of_77 ?_
      refine x_topI (a' := V 6 bone) rfl ?_
      exact x_iret hQ ⟨V 287, V 288, congrArg some (congrArg vI (by rw [if_pos (by omega), if_pos (by omega)]; have kq := W_bone hW hM (b := bone) (by omega) (by omega); rw [show what = 1 by omega]; exact kq.1.1.symm)), rfl, lw_self V⟩ dX10_of_78
    by_cases hs4 : what = 2
    · refine x_tswIn (tgt := 79) (off := 64) dX10_of_15 2 hs4 ?_
      refine x_al0 dX10_of_79 ?_
      refine x_getR fl_X10_12 (sh_0 hS) (lq_0 hS) (rf_0_0 hS) dX10_of_80 ?_
      refine x_getR fl_X10_140 (sh_1 hS) (lq_1 hS) (rf_1_3 hS) dX10_of_83 ?_
      refine x_getR fl_X10_149 (sh_5 hS) (lq_5 hS) (rf_5_1 hS) dX10_of_86 ?_
      refine x_il1 dX10_of_89 ?_
      refine x_iald (sh_7 hS) (lq_7 hS) (by omega) (by omega) dX10_of_90 ?_
      refine x_topI (a' := V 7 bone) rfl ?_
      exact x_iret hQ ⟨V 287, V 288, congrArg some (congrArg vI (by rw [if_pos (by omega), if_pos (by omega)]; have kq := W_bone hW hM (b := bone) (by omega) (by omega); rw [show what = 2 by omega]; exact kq.1.2.1.symm)), rfl, lw_self V⟩ dX10_of_91
    by_cases hs5 : what = 3
    · refine x_tswIn (tgt := 92) (off := 77) dX10_of_15 3 hs5 ?_
      refine x_al0 dX10_of_92 ?_
      refine x_getR fl_X10_12 (sh_0 hS) (lq_0 hS) (rf_0_0 hS) dX10_of_93 ?_
      refine x_getR fl_X10_140 (sh_1 hS) (lq_1 hS) (rf_1_3 hS) dX10_of_96 ?_
      refine x_getR fl_X10_152 (sh_5 hS) (lq_5 hS) (rf_5_2 hS) dX10_of_99 ?_
      refine x_il1 dX10_of_102 ?_
      refine x_iald (sh_8 hS) (lq_8 hS) (by omega) (by omega) dX10_of_103 ?_
      refine x_topI (a' := V 8 bone) rfl ?_
      exact x_iret hQ ⟨V 287, V 288, congrArg some (congrArg vI (by rw [if_pos (by omega), if_pos (by omega)]; have kq := W_bone hW hM (b := bone) (by omega) (by omega); rw [show what = 3 by omega]; exact kq.1.2.2.1.symm)), rfl, lw_self V⟩ dX10_of_104
    by_cases hs6 : what = 4
    · refine x_tswIn (tgt := 105) (off := 90) dX10_of_15 4 hs6 ?_
      refine x_al0 dX10_of_105 ?_
      refine x_getR fl_X10_12 (sh_0 hS) (lq_0 hS) (rf_0_0 hS) dX10_of_106 ?_
      refine x_getR fl_X10_140 (sh_1 hS) (lq_1 hS) (rf_1_3 hS) dX10_of_109 ?_
      refine x_getR fl_X10_155 (sh_5 hS) (lq_5 hS) (rf_5_3 hS) dX10_of_112 ?_
      refine x_il1 dX10_of_115 ?_
      refine x_iald (sh_9 hS) (lq_9 hS) (by omega) (by omega) dX10_of_116 ?_
      refine x_topI (a' := V 9 bone) rfl ?_
      exact x_iret hQ ⟨V 287, V 288, congrArg some (congrArg vI (by rw [if_pos (by omega), if_pos (by omega)]; have kq := W_bone hW hM (b := bone) (by omega) (by omega); rw [show what = 4 by omega]; exact kq.1.2.2.2.symm)), rfl, lw_self V⟩ dX10_of_117
    by_cases hs7 : what = 5
    · refine x_tswIn (tgt := 118) (off := 103) dX10_of_15 5 hs7 ?_
      refine x_al0 dX10_of_118 ?_
      refine x_getR fl_X10_12 (sh_0 hS) (lq_0 hS) (rf_0_0 hS) dX10_of_119 ?_
      refine x_il1 dX10_of_122 ?_
      refine x_cVi mm_X9_proofsOf ml_X10_158 dX10_of_123 (c_X9_proofsOf bone hS (by omega) bb.1 (by omega)) (sh_1 hS) (lq_1 hS) ?_
      exact x_iret hQ ⟨V 287, V 288, congrArg some (congrArg vI (by rw [if_pos (by omega), if_neg (by omega), if_pos (by omega)]; exact (cProofs_eq hW hM (by omega) (by omega)).symm)), rfl, lw_self V⟩ dX10_of_126
    by_cases hs8 : what = 6
    · refine x_tswIn (tgt := 127) (off := 112) dX10_of_15 6 hs8 ?_
      refine x_al0 dX10_of_127 ?_
      refine x_getR fl_X10_31 (sh_0 hS) (lq_0 hS) (rf_0_3 hS) dX10_of_128 ?_
      refine x_il1 dX10_of_131 ?_
      refine x_cVic mm_X2_isHoly ml_X10_161 dX10_of_132 (c_X2_isHoly bone a tx hS hW hB hM hTx (by omega)) (sh_287 hS) (lq_287 hS) (fun f9 g9 => ?_)
      refine x_ifb_eq (tgt := 142) dX10_of_135 (fun c135_10 => ?_) (fun c135_10 => ?_)
      · -- 135 eq -> 142
        refine x_iconst dX10_of_142 ?_
        exact x_iret hQ ⟨f9, g9, congrArg some (congrArg vI (by rw [if_pos (by omega), if_neg (by omega), if_neg (by omega), if_pos (by omega)]; first | exact if_pos (by assumption) | exact if_neg (by assumption))), rfl, rfl⟩ dX10_of_143
      · -- 135 eq -> 138
        refine x_iconst dX10_of_138 ?_
        refine x_goto (tgt := 143) dX10_of_139 ?_
        exact x_iret hQ ⟨f9, g9, congrArg some (congrArg vI (by rw [if_pos (by omega), if_neg (by omega), if_neg (by omega), if_pos (by omega)]; first | exact if_pos (by assumption) | exact if_neg (by assumption))), rfl, rfl⟩ dX10_of_143
    refine x_tswOut (tgt := 144) dX10_of_15 (inr (by omega)) (by omega) ?_
    refine x_bipush dX10_of_144 ?_
    exact x_iret hQ ⟨V 287, V 288, congrArg some (congrArg vI (by rw [if_pos (by omega), if_neg (by omega), if_neg (by omega), if_neg (by omega)])), rfl, lw_self V⟩ dX10_of_146
  · -- 8 ne -> 11
    refine x_bipush dX10_of_11 ?_
    exact x_iret hQ ⟨V 287, V 288, congrArg some (congrArg vI (by rw [if_neg (by simp only [cBoneOk] at *; omega)])), rfl, lw_self V⟩ dX10_of_13
set_option maxRecDepth 100000 in
set_option maxHeartbeats 4000000 in
theorem c_X10_power {B : Bs} {S : Stt} {V : Va} (base : Int) (exponent : Int) (hbase : InR base) (hn : 0 ≤ exponent ∧ exponent ≤ 20) : C B yX10_power cX10_power 5 (some .long) 1 0 0 [vI base, vI exponent] S V (rL S V (pw base exponent)) := by
  refine C.of [some (vI base), some (vI exponent), none, none, none] ?_
  intro Γ hQ
  refine x_lconst1 dX10_power_0 ?_
  refine x_ls2 dX10_power_1 ?_
  refine x_iconst dX10_power_2 ?_
  refine x_is4 dX10_power_3 ?_
  have lp5 : ∀ (N5 : Nat) (v : Int) (k : Int), (0 ≤ k ∧ k ≤ exponent) → (v = pw base k) → (exponent - k).toNat < N5 → X Γ B RX10 "power" cX10_power 5 (some .long) 1 0 0 5 [some (vI base), some (vI exponent), some (vL v), none, some (vI k)] [] 0 0 S V := by
    intro N5
    induction N5 with
    | zero => intro v k hk hv hN; exact absurd hN (Nat.not_lt_zero _)
    | succ N5 ih5 =>
      intro v k hk hv hN5
      refine x_il4 dX10_power_5 ?_
      refine x_il1 dX10_power_7 ?_
      refine x_icmp_ge (tgt := 22) dX10_power_8 (inr (by omega)) (inr (by omega)) (fun c8_1 => ?_) (fun c8_1 => ?_)
      · -- 8 ge -> 22
        refine x_ll2 dX10_power_22 ?_
        exact x_lret hQ (rL.mk (by rw [hv, show k = exponent by omega]) rfl) dX10_power_23
      · -- 8 ge -> 11
        refine x_ll2 dX10_power_11 ?_
        refine x_il0 dX10_power_12 ?_
        refine x_i2l (inr (by omega)) dX10_power_13 ?_
        refine x_lmul dX10_power_14 ?_
        refine x_ls2 dX10_power_15 ?_
        refine x_inc4 dX10_power_16 ?_
        refine x_goto (tgt := 5) dX10_power_19 ?_
        exact x_fg (ih5 (v * base) (k + 1) (by omega) (by rw [pw_s _ hk.1, hv]) (by omega)) (And.intro rfl (And.intro rfl (And.intro rfl (And.intro rfl trivial))))
  exact x_fg (lp5 _ 1 0 (by omega) (pw_0 _).symm (Nat.lt_succ_self _)) (And.intro rfl (And.intro rfl (And.intro rfl (And.intro rfl trivial))))
set_option maxRecDepth 100000 in
set_option maxHeartbeats 4000000 in
theorem c_X10_commonWithSixes {B : Bs} {S : Stt} {V : Va} (upper : Int) (n : Int) (hu : 0 ≤ upper ∧ upper ≤ 3656158440062976) (hn : 0 ≤ n ∧ n ≤ 20) : C B yX10_commonWithSixes cX10_commonWithSixes 8 (some .long) 1 0 0 [vL upper, vI n] S V (rL S V (cCom upper n.toNat)) := by
  refine C.of [some (vL upper), none, some (vI n), none, none, none, none, none] ?_
  intro Γ hQ
  refine x_lconst1 dX10_commonWithSixes_0 ?_
  refine x_ls3 dX10_commonWithSixes_1 ?_
  refine x_ll0 dX10_commonWithSixes_2 ?_
  refine x_ls5 dX10_commonWithSixes_3 ?_
  refine x_iconst dX10_commonWithSixes_5 ?_
  refine x_is7 dX10_commonWithSixes_6 ?_
  have lp8 : ∀ (N8 : Nat) (co : Int) (re : Int) (i : Int), (0 ≤ i ∧ i ≤ n) → (0 ≤ re ∧ re ≤ 3656158440062976) → (strp 2 (n - i).toNat (re, co) = strp 2 n.toNat (upper, 1)) → (n - i).toNat < N8 → X Γ B RX10 "commonWithSixes" cX10_commonWithSixes 8 (some .long) 1 0 0 8 [some (vL upper), none, some (vI n), some (vL co), none, some (vL re), none, some (vI i)] [] 0 0 S V := by
    intro N8
    induction N8 with
    | zero => intro co re i hi hr hs hN; exact absurd hN (Nat.not_lt_zero _)
    | succ N8 ih8 =>
      intro co re i hi hr hs hN8
      refine x_il7 dX10_commonWithSixes_8 ?_
      refine x_il2 dX10_commonWithSixes_10 ?_
      refine x_icmp_ge (tgt := 45) dX10_commonWithSixes_11 (inr (by omega)) (inr (by omega)) (fun c11_1 => ?_) (fun c11_1 => ?_)
      · -- 11 ge -> 45
        refine x_iconst dX10_commonWithSixes_45 ?_
        refine x_is7 dX10_commonWithSixes_46 ?_
        have lp48 : ∀ (N48 : Nat) (co : Int) (re : Int) (i : Int), (0 ≤ i ∧ i ≤ n) → (0 ≤ re ∧ re ≤ 3656158440062976) → (strp 3 (n - i).toNat (re, co) = strp 3 n.toNat (strp 2 n.toNat (upper, 1))) → (n - i).toNat < N48 → X Γ B RX10 "commonWithSixes" cX10_commonWithSixes 8 (some .long) 1 0 0 48 [some (vL upper), none, some (vI n), some (vL co), none, some (vL re), none, some (vI i)] [] 0 0 S V := by
          intro N48
          induction N48 with
          | zero => intro co re i hi3 hr3 hs3 hN; exact absurd hN (Nat.not_lt_zero _)
          | succ N48 ih48 =>
            intro co re i hi3 hr3 hs3 hN48
            refine x_il7 dX10_commonWithSixes_48 ?_
            refine x_il2 dX10_commonWithSixes_50 ?_
            refine x_icmp_ge (tgt := 85) dX10_commonWithSixes_51 (inr (by omega)) (inr (by omega)) (fun c51_2 => ?_) (fun c51_2 => ?_)
            · -- 51 ge -> 85
              refine x_ll3 dX10_commonWithSixes_85 ?_
              exact x_lret hQ (rL.mk (by simp only [cCom]; rw [← hs3]; first | (rw [show (n - i).toNat = 0 by omega]; rfl) | (rw [show (n - i).toNat = (n - (i + 1)).toNat + 1 by omega]; simp only [strp]; rw [if_neg (by omega)])) rfl) dX10_commonWithSixes_86
            · -- 51 ge -> 54
              refine x_ll5 dX10_commonWithSixes_54 ?_
              refine x_ldc2 (a := 3) kl_X10_272 (by decide) dX10_commonWithSixes_56 ?_
              refine x_lrem (inl_ (by omega)) (inl_ (by decide)) (by decide) dX10_commonWithSixes_59 ?_
              refine x_topL (a' := re % 3) (Int.tmod_eq_emod_of_nonneg (by omega)) ?_
              refine x_lconst0 dX10_commonWithSixes_60 ?_
              refine x_lcmp_ne (tgt := 85) dX10_commonWithSixes_61 dX10_commonWithSixes_62 (inl_ (by omega)) (inl_ (by decide)) (fun c61_3 => ?_) (fun c61_3 => ?_)
              · -- 61 ne -> 85
                refine x_ll3 dX10_commonWithSixes_85 ?_
                exact x_lret hQ (rL.mk (by simp only [cCom]; rw [← hs3]; first | (rw [show (n - i).toNat = 0 by omega]; rfl) | (rw [show (n - i).toNat = (n - (i + 1)).toNat + 1 by omega]; simp only [strp]; rw [if_neg (by omega)])) rfl) dX10_commonWithSixes_86
              · -- 61 ne -> 65
                refine x_ll5 dX10_commonWithSixes_65 ?_
                refine x_ldc2 (a := 3) kl_X10_272 (by decide) dX10_commonWithSixes_67 ?_
                refine x_ldiv (inl_ (by omega)) (inl_ (by decide)) (by decide) dX10_commonWithSixes_70 ?_
                refine x_topL (a' := re / 3) (Int.tdiv_eq_ediv_of_nonneg (by omega)) ?_
                refine x_ls5 dX10_commonWithSixes_71 ?_
                refine x_ll3 dX10_commonWithSixes_73 ?_
                refine x_ldc2 (a := 3) kl_X10_272 (by decide) dX10_commonWithSixes_74 ?_
                refine x_lmul dX10_commonWithSixes_77 ?_
                refine x_ls3 dX10_commonWithSixes_78 ?_
                refine x_inc7 dX10_commonWithSixes_79 ?_
                refine x_goto (tgt := 48) dX10_commonWithSixes_82 ?_
                exact x_fg (ih48 (co * 3) (re / 3) (i + 1) (by omega) ⟨Int.ediv_nonneg hr3.1 (by omega), Int.le_trans (Int.ediv_le_self _ hr3.1) hr3.2⟩ (by rw [← hs3, show (n - i).toNat = (n - (i + 1)).toNat + 1 by omega]; simp only [strp]; rw [if_pos (by omega)]) (by omega)) (And.intro rfl (And.intro rfl (And.intro rfl (And.intro rfl (And.intro rfl trivial)))))
        exact x_fg (lp48 _ co re 0 (by omega) hr (by rw [show n - 0 = n by omega, ← hs]; first | (rw [show (n - i).toNat = 0 by omega]; rfl) | (rw [show (n - i).toNat = (n - (i + 1)).toNat + 1 by omega]; simp only [strp]; rw [if_neg (by omega)])) (Nat.lt_succ_self _)) (And.intro rfl (And.intro rfl (And.intro rfl (And.intro rfl (And.intro rfl trivial)))))
      · -- 11 ge -> 14
        refine x_ll5 dX10_commonWithSixes_14 ?_
        refine x_ldc2 (a := 2) kl_X10_270 (by decide) dX10_commonWithSixes_16 ?_
        refine x_lrem (inl_ (by omega)) (inl_ (by decide)) (by decide) dX10_commonWithSixes_19 ?_
        refine x_topL (a' := re % 2) (Int.tmod_eq_emod_of_nonneg (by omega)) ?_
        refine x_lconst0 dX10_commonWithSixes_20 ?_
        refine x_lcmp_ne (tgt := 45) dX10_commonWithSixes_21 dX10_commonWithSixes_22 (inl_ (by omega)) (inl_ (by decide)) (fun c21_4 => ?_) (fun c21_4 => ?_)
        · -- 21 ne -> 45
          refine x_iconst dX10_commonWithSixes_45 ?_
          refine x_is7 dX10_commonWithSixes_46 ?_
          have lp48 : ∀ (N48 : Nat) (co : Int) (re : Int) (i : Int), (0 ≤ i ∧ i ≤ n) → (0 ≤ re ∧ re ≤ 3656158440062976) → (strp 3 (n - i).toNat (re, co) = strp 3 n.toNat (strp 2 n.toNat (upper, 1))) → (n - i).toNat < N48 → X Γ B RX10 "commonWithSixes" cX10_commonWithSixes 8 (some .long) 1 0 0 48 [some (vL upper), none, some (vI n), some (vL co), none, some (vL re), none, some (vI i)] [] 0 0 S V := by
            intro N48
            induction N48 with
            | zero => intro co re i hi3 hr3 hs3 hN; exact absurd hN (Nat.not_lt_zero _)
            | succ N48 ih48 =>
              intro co re i hi3 hr3 hs3 hN48
              refine x_il7 dX10_commonWithSixes_48 ?_
              refine x_il2 dX10_commonWithSixes_50 ?_
              refine x_icmp_ge (tgt := 85) dX10_commonWithSixes_51 (inr (by omega)) (inr (by omega)) (fun c51_5 => ?_) (fun c51_5 => ?_)
              · -- 51 ge -> 85
                refine x_ll3 dX10_commonWithSixes_85 ?_
                exact x_lret hQ (rL.mk (by simp only [cCom]; rw [← hs3]; first | (rw [show (n - i).toNat = 0 by omega]; rfl) | (rw [show (n - i).toNat = (n - (i + 1)).toNat + 1 by omega]; simp only [strp]; rw [if_neg (by omega)])) rfl) dX10_commonWithSixes_86
              · -- 51 ge -> 54
                refine x_ll5 dX10_commonWithSixes_54 ?_
                refine x_ldc2 (a := 3) kl_X10_272 (by decide) dX10_commonWithSixes_56 ?_
                refine x_lrem (inl_ (by omega)) (inl_ (by decide)) (by decide) dX10_commonWithSixes_59 ?_
                refine x_topL (a' := re % 3) (Int.tmod_eq_emod_of_nonneg (by omega)) ?_
                refine x_lconst0 dX10_commonWithSixes_60 ?_
                refine x_lcmp_ne (tgt := 85) dX10_commonWithSixes_61 dX10_commonWithSixes_62 (inl_ (by omega)) (inl_ (by decide)) (fun c61_6 => ?_) (fun c61_6 => ?_)
                · -- 61 ne -> 85
                  refine x_ll3 dX10_commonWithSixes_85 ?_
                  exact x_lret hQ (rL.mk (by simp only [cCom]; rw [← hs3]; first | (rw [show (n - i).toNat = 0 by omega]; rfl) | (rw [show (n - i).toNat = (n - (i + 1)).toNat + 1 by omega]; simp only [strp]; rw [if_neg (by omega)])) rfl) dX10_commonWithSixes_86
                · -- 61 ne -> 65
                  refine x_ll5 dX10_commonWithSixes_65 ?_
                  refine x_ldc2 (a := 3) kl_X10_272 (by decide) dX10_commonWithSixes_67 ?_
                  refine x_ldiv (inl_ (by omega)) (inl_ (by decide)) (by decide) dX10_commonWithSixes_70 ?_
                  refine x_topL (a' := re / 3) (Int.tdiv_eq_ediv_of_nonneg (by omega)) ?_
                  refine x_ls5 dX10_commonWithSixes_71 ?_
                  refine x_ll3 dX10_commonWithSixes_73 ?_
                  refine x_ldc2 (a := 3) kl_X10_272 (by decide) dX10_commonWithSixes_74 ?_
                  refine x_lmul dX10_commonWithSixes_77 ?_
                  refine x_ls3 dX10_commonWithSixes_78 ?_
                  refine x_inc7 dX10_commonWithSixes_79 ?_
                  refine x_goto (tgt := 48) dX10_commonWithSixes_82 ?_
                  exact x_fg (ih48 (co * 3) (re / 3) (i + 1) (by omega) ⟨Int.ediv_nonneg hr3.1 (by omega), Int.le_trans (Int.ediv_le_self _ hr3.1) hr3.2⟩ (by rw [← hs3, show (n - i).toNat = (n - (i + 1)).toNat + 1 by omega]; simp only [strp]; rw [if_pos (by omega)]) (by omega)) (And.intro rfl (And.intro rfl (And.intro rfl (And.intro rfl (And.intro rfl trivial)))))
          exact x_fg (lp48 _ co re 0 (by omega) hr (by rw [show n - 0 = n by omega, ← hs]; first | (rw [show (n - i).toNat = 0 by omega]; rfl) | (rw [show (n - i).toNat = (n - (i + 1)).toNat + 1 by omega]; simp only [strp]; rw [if_neg (by omega)])) (Nat.lt_succ_self _)) (And.intro rfl (And.intro rfl (And.intro rfl (And.intro rfl (And.intro rfl trivial)))))
        · -- 21 ne -> 25
          refine x_ll5 dX10_commonWithSixes_25 ?_
          refine x_ldc2 (a := 2) kl_X10_270 (by decide) dX10_commonWithSixes_27 ?_
          refine x_ldiv (inl_ (by omega)) (inl_ (by decide)) (by decide) dX10_commonWithSixes_30 ?_
          refine x_topL (a' := re / 2) (Int.tdiv_eq_ediv_of_nonneg (by omega)) ?_
          refine x_ls5 dX10_commonWithSixes_31 ?_
          refine x_ll3 dX10_commonWithSixes_33 ?_
          refine x_ldc2 (a := 2) kl_X10_270 (by decide) dX10_commonWithSixes_34 ?_
          refine x_lmul dX10_commonWithSixes_37 ?_
          refine x_ls3 dX10_commonWithSixes_38 ?_
          refine x_inc7 dX10_commonWithSixes_39 ?_
          refine x_goto (tgt := 8) dX10_commonWithSixes_42 ?_
          exact x_fg (ih8 (co * 2) (re / 2) (i + 1) (by omega) ⟨Int.ediv_nonneg hr.1 (by omega), Int.le_trans (Int.ediv_le_self _ hr.1) hr.2⟩ (by rw [← hs, show (n - i).toNat = (n - (i + 1)).toNat + 1 by omega]; simp only [strp]; rw [if_pos (by omega)]) (by omega)) (And.intro rfl (And.intro rfl (And.intro rfl (And.intro rfl (And.intro rfl trivial)))))
  exact x_fg (lp8 _ 1 upper 0 (by omega) hu (by rw [show n - 0 = n by omega]) (Nat.lt_succ_self _)) (And.intro rfl (And.intro rfl (And.intro rfl (And.intro rfl (And.intro rfl trivial)))))
set_option maxRecDepth 100000 in
set_option maxHeartbeats 4000000 in
theorem c_X10_chance {B : Bs} {S : Stt} {V : Va} (n : Int) (h : Int) (c : Int) (what : Int) (hS : Stat S) (hn : InR n) (hh : InR h) (hc : InR c) (hwhat : InR what) : C B yX10_chance cX10_chance 11 (some .long) 2 0 0 [vR B 0, vI n, vI h, vI c, vI what] S V (rL S V (mChance n h c what)) := by
  refine C.of [some (vR B 0), some (vI n), some (vI h), some (vI c), some (vI what), none, none, none, none, none, none] ?_
  intro Γ hQ
  refine x_il1 dX10_chance_0 ?_
  refine x_iconst dX10_chance_1 ?_
  refine x_bipush dX10_chance_2 ?_
  refine x_cSi mm_X10_within ml_X10_207 dX10_chance_4 (c_X10_within n 0 20 (inr (by omega)) (inr (by decide)) (inr (by decide))) ?_
  refine x_ifb_eq (tgt := 39) dX10_chance_7 (fun c7_1 => ?_) (fun c7_1 => ?_)
  · -- 7 eq -> 39
    refine x_ldc2 (a := (-1)) kl_X10_211 (by decide) dX10_chance_39 ?_
    exact x_lret hQ (rL.mk (by simp only [mChance]; rw [if_neg (by omega)]) rfl) dX10_chance_42
  · -- 7 eq -> 10
    refine x_il2 dX10_chance_10 ?_
    refine x_iconst dX10_chance_11 ?_
    refine x_il1 dX10_chance_12 ?_
    refine x_cSi mm_X10_within ml_X10_207 dX10_chance_13 (c_X10_within h 0 n (inr (by omega)) (inr (by decide)) (inr (by omega))) ?_
    refine x_ifb_eq (tgt := 39) dX10_chance_16 (fun c16_2 => ?_) (fun c16_2 => ?_)
    · -- 16 eq -> 39
      refine x_ldc2 (a := (-1)) kl_X10_211 (by decide) dX10_chance_39 ?_
      exact x_lret hQ (rL.mk (by simp only [mChance]; rw [if_neg (by omega)]) rfl) dX10_chance_42
    · -- 16 eq -> 19
      refine x_il3 dX10_chance_19 ?_
      refine x_iconst dX10_chance_20 ?_
      refine x_bipush dX10_chance_21 ?_
      refine x_cSi mm_X10_within ml_X10_207 dX10_chance_23 (c_X10_within c 0 6 (inr (by omega)) (inr (by decide)) (inr (by decide))) ?_
      refine x_ifb_eq (tgt := 39) dX10_chance_26 (fun c26_3 => ?_) (fun c26_3 => ?_)
      · -- 26 eq -> 39
        refine x_ldc2 (a := (-1)) kl_X10_211 (by decide) dX10_chance_39 ?_
        exact x_lret hQ (rL.mk (by simp only [mChance]; rw [if_neg (by omega)]) rfl) dX10_chance_42
      · -- 26 eq -> 29
        refine x_il4 dX10_chance_29 ?_
        refine x_iconst dX10_chance_31 ?_
        refine x_iconst dX10_chance_32 ?_
        refine x_cSi mm_X10_within ml_X10_207 dX10_chance_33 (c_X10_within what 0 1 (inr (by omega)) (inr (by decide)) (inr (by decide))) ?_
        refine x_ifb_ne (tgt := 43) dX10_chance_36 (fun c36_4 => ?_) (fun c36_4 => ?_)
        · -- 36 ne -> 43
          refine x_lconst0 dX10_chance_43 ?_
          refine x_ls5 dX10_chance_44 ?_
          refine x_lconst1 dX10_chance_46 ?_
          refine x_ls7 dX10_chance_47 ?_
          refine x_iconst dX10_chance_49 ?_
          refine x_is9 dX10_chance_50 ?_
          have lp52 : ∀ (N52 : Nat) (u : Int) (ch : Int) (k : Int), (0 ≤ k ∧ k ≤ n + 1) → (u = cUp n h c k.toNat) → (ch = cCho n k.toNat) → (n + 1 - k).toNat < N52 → X Γ B RX10 "chance" cX10_chance 11 (some .long) 2 0 0 52 [some (vR B 0), some (vI n), some (vI h), some (vI c), some (vI what), some (vL u), none, some (vL ch), none, some (vI k), none] [] 0 0 S V := by
            intro N52
            induction N52 with
            | zero => intro u ch k hk hu hcc hN; exact absurd hN (Nat.not_lt_zero _)
            | succ N52 ih52 =>
              intro u ch k hk hu hcc hN52
              have hcr := cCho_r (n := n) (k := k.toNat) (by omega) (by omega)
              rw [← hcc] at hcr
              refine x_il9 dX10_chance_52 ?_
              refine x_il1 dX10_chance_54 ?_
              refine x_icmp_gt (tgt := 112) dX10_chance_55 (inr (by omega)) (inr (by omega)) (fun c55_5 => ?_) (fun c55_5 => ?_)
              · -- 55 gt -> 112
                have hce := cha_eq (n := n) (h := h) (c := c) (by omega) (by omega) (by omega)
                have hvv : u = chaS n h c := by rw [hu, show k.toNat = n.toNat + 1 by omega]; exact hce.1
                have hsr := chaS_rI (n := n) (h := h) (c := c) (by omega) (by omega) (by omega)
                have hsr0 := hsr
                rw [← hvv] at hsr
                have hpr := pw6_rI (n := n) (by omega)
                have hgr := gcdI_r (x := u) (y := pw 6 n) (by omega)
                have hcm : cCom u n.toNat = gcdI u (pw 6 n) := by rw [hvv]; exact hce.2
                refine x_ll5 dX10_chance_112 ?_
                refine x_il1 dX10_chance_114 ?_
                refine x_cSl mm_X10_commonWithSixes ml_X10_217 dX10_chance_115 (c_X10_commonWithSixes u n hsr (by omega)) ?_
                refine x_topL (a' := gcdI u (pw 6 n)) hcm ?_
                refine x_ls9 dX10_chance_118 ?_
                refine x_il4 dX10_chance_120 ?_
                refine x_if_ne (tgt := 133) dX10_chance_122 (inr (by omega)) (fun c122_6 => ?_) (fun c122_6 => ?_)
                · -- 122 ne -> 133
                  refine x_bipush dX10_chance_133 ?_
                  refine x_il1 dX10_chance_135 ?_
                  refine x_cSl mm_X10_power ml_X10_213 dX10_chance_136 (c_X10_power 6 n (inr (by decide)) (by omega)) ?_
                  refine x_ll9 dX10_chance_139 ?_
                  refine x_ldiv (inl_ (by omega)) (inl_ (by omega)) (by omega) dX10_chance_141 ?_
                  refine x_topL (a' := (pw 6 n) / (gcdI u (pw 6 n))) (Int.tdiv_eq_ediv_of_nonneg (by omega)) ?_
                  exact x_lret hQ (rL.mk (by simp only [mChance]; rw [if_pos (by omega), ← hvv]; first | (rw [if_pos (by omega)]) | (rw [if_neg (by omega)])) rfl) dX10_chance_142
                · -- 122 ne -> 125
                  refine x_ll5 dX10_chance_125 ?_
                  refine x_ll9 dX10_chance_127 ?_
                  refine x_ldiv (inl_ (by omega)) (inl_ (by omega)) (by omega) dX10_chance_129 ?_
                  refine x_topL (a' := u / (gcdI u (pw 6 n))) (Int.tdiv_eq_ediv_of_nonneg (by omega)) ?_
                  refine x_goto (tgt := 142) dX10_chance_130 ?_
                  exact x_lret hQ (rL.mk (by simp only [mChance]; rw [if_pos (by omega), ← hvv]; first | (rw [if_pos (by omega)]) | (rw [if_neg (by omega)])) rfl) dX10_chance_142
              · -- 55 gt -> 58
                refine x_il9 dX10_chance_58 ?_
                refine x_il2 dX10_chance_60 ?_
                refine x_icmp_lt (tgt := 90) dX10_chance_61 (inr (by omega)) (inr (by omega)) (fun c61_7 => ?_) (fun c61_7 => ?_)
                · -- 61 lt -> 90
                  have hmr : 0 ≤ ch * (n - k) ∧ ch * (n - k) ≤ 200000 * 20 := ⟨Int.mul_nonneg hcr.1 (by omega), Int.mul_le_mul hcr.2 (by omega) (by omega) (by omega)⟩
                  refine x_ll7 dX10_chance_90 ?_
                  refine x_il1 dX10_chance_92 ?_
                  refine x_il9 dX10_chance_93 ?_
                  refine x_isub dX10_chance_95 ?_
                  refine x_i2l (inr (by omega)) dX10_chance_96 ?_
                  refine x_lmul dX10_chance_97 ?_
                  refine x_il9 dX10_chance_98 ?_
                  refine x_iconst dX10_chance_100 ?_
                  refine x_iadd dX10_chance_101 ?_
                  refine x_i2l (inr (by omega)) dX10_chance_102 ?_
                  refine x_ldiv (inl_ (by omega)) (inl_ (by omega)) (by omega) dX10_chance_103 ?_
                  refine x_topL (a' := (ch * (n - k)) / (k + 1)) (Int.tdiv_eq_ediv_of_nonneg (by omega)) ?_
                  refine x_ls7 dX10_chance_104 ?_
                  refine x_inc9 dX10_chance_106 ?_
                  refine x_goto (tgt := 52) dX10_chance_109 ?_
                  exact x_fg (ih52 u ((ch * (n - k)) / (k + 1)) (k + 1) (by omega) (by rw [show (k + 1).toNat = k.toNat + 1 by omega]; simp only [cUp]; rw [show ((k.toNat : Nat) : Int) = k by omega, ← hu, ← hcc]; first | (rw [if_pos (by omega)]) | (rw [if_neg (by omega), Int.add_zero])) (by rw [show (k + 1).toNat = k.toNat + 1 by omega]; simp only [cCho]; rw [show ((k.toNat : Nat) : Int) = k by omega, ← hcc]) (by omega)) (And.intro rfl (And.intro rfl (And.intro rfl (And.intro rfl (And.intro rfl (And.intro rfl (And.intro rfl (And.intro rfl trivial))))))))
                · -- 61 lt -> 64
                  refine x_ll5 dX10_chance_64 ?_
                  refine x_ll7 dX10_chance_66 ?_
                  refine x_il3 dX10_chance_68 ?_
                  refine x_il9 dX10_chance_69 ?_
                  refine x_cSl mm_X10_power ml_X10_213 dX10_chance_71 (c_X10_power c k (inr (by omega)) (by omega)) ?_
                  refine x_lmul dX10_chance_74 ?_
                  refine x_bipush dX10_chance_75 ?_
                  refine x_il3 dX10_chance_77 ?_
                  refine x_isub dX10_chance_78 ?_
                  refine x_il1 dX10_chance_79 ?_
                  refine x_il9 dX10_chance_80 ?_
                  refine x_isub dX10_chance_82 ?_
                  refine x_cSl mm_X10_power ml_X10_213 dX10_chance_83 (c_X10_power (6 - c) (n - k) (inr (by omega)) (by omega)) ?_
                  refine x_lmul dX10_chance_86 ?_
                  refine x_ladd dX10_chance_87 ?_
                  refine x_ls5 dX10_chance_88 ?_
                  have hmr : 0 ≤ ch * (n - k) ∧ ch * (n - k) ≤ 200000 * 20 := ⟨Int.mul_nonneg hcr.1 (by omega), Int.mul_le_mul hcr.2 (by omega) (by omega) (by omega)⟩
                  refine x_ll7 dX10_chance_90 ?_
                  refine x_il1 dX10_chance_92 ?_
                  refine x_il9 dX10_chance_93 ?_
                  refine x_isub dX10_chance_95 ?_
                  refine x_i2l (inr (by omega)) dX10_chance_96 ?_
                  refine x_lmul dX10_chance_97 ?_
                  refine x_il9 dX10_chance_98 ?_
                  refine x_iconst dX10_chance_100 ?_
                  refine x_iadd dX10_chance_101 ?_
                  refine x_i2l (inr (by omega)) dX10_chance_102 ?_
                  refine x_ldiv (inl_ (by omega)) (inl_ (by omega)) (by omega) dX10_chance_103 ?_
                  refine x_topL (a' := (ch * (n - k)) / (k + 1)) (Int.tdiv_eq_ediv_of_nonneg (by omega)) ?_
                  refine x_ls7 dX10_chance_104 ?_
                  refine x_inc9 dX10_chance_106 ?_
                  refine x_goto (tgt := 52) dX10_chance_109 ?_
                  exact x_fg (ih52 (u + ((ch * (pw c k)) * (pw (6 - c) (n - k)))) ((ch * (n - k)) / (k + 1)) (k + 1) (by omega) (by rw [show (k + 1).toNat = k.toNat + 1 by omega]; simp only [cUp]; rw [show ((k.toNat : Nat) : Int) = k by omega, ← hu, ← hcc]; first | (rw [if_pos (by omega)]) | (rw [if_neg (by omega), Int.add_zero])) (by rw [show (k + 1).toNat = k.toNat + 1 by omega]; simp only [cCho]; rw [show ((k.toNat : Nat) : Int) = k by omega, ← hcc]) (by omega)) (And.intro rfl (And.intro rfl (And.intro rfl (And.intro rfl (And.intro rfl (And.intro rfl (And.intro rfl (And.intro rfl trivial))))))))
          exact x_fg (lp52 _ 0 1 0 (by omega) rfl rfl (Nat.lt_succ_self _)) (And.intro rfl (And.intro rfl (And.intro rfl (And.intro rfl (And.intro rfl (And.intro rfl (And.intro rfl (And.intro rfl trivial))))))))
        · -- 36 ne -> 39
          refine x_ldc2 (a := (-1)) kl_X10_211 (by decide) dX10_chance_39 ?_
          exact x_lret hQ (rL.mk (by simp only [mChance]; rw [if_neg (by omega)]) rfl) dX10_chance_42
