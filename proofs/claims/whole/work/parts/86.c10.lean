set_option maxRecDepth 100000 in
set_option maxHeartbeats 4000000 in
theorem c_X9_become_1 {B : Bs} {S : Stt} {V : Va} (hS : Stat S) (hBb : WB V 1) (hBc : WB V 139) (htc : 0 ≤ (V 143 5) ∧ (V 143 5) ≤ 16) (hchb : 0 ≤ (V 1 10) ∧ (V 1 10) ≤ 1000000) (hTr : ∀ k j, S.2.1 271 k = some j → S.1 j = (13, 0) ∧ j < S.2.2) : C B yX9_become cX9_become 3 none 3 0 0 [vR B 1, vR B 139] S V (rVR (tcpS S 133 271) (fun VN => (∀ a, MIv a → WSim V 139 a → WSim VN 1 a) ∧ WB VN 1 ∧ (∀ q : Nat, q < 1 ∨ 138 < q → VN q = V q) ∧ VN 1 10 = V 1 10 + 1)) := by
  refine C.of [some (vR B 1), some (vR B 139), none] ?_
  intro Γ hQ
  refine x_al1 dX9_become_0 ?_
  refine x_getR fl_X9_9 (sh_139 hS) (lq_139 hS) (rf_139_0 hS) dX9_become_1 ?_
  refine x_iconst dX9_become_4 ?_
  refine x_al0 dX9_become_5 ?_
  refine x_getR fl_X9_9 (sh_1 hS) (lq_1 hS) (rf_1_0 hS) dX9_become_6 ?_
  refine x_iconst dX9_become_9 ?_
  refine x_bipush dX9_become_10 ?_
  refine x_copyi mc_X9_52 dX9_become_12 (sh_2 hS) (lq_2 hS) (sh_140 hS) (lq_140 hS) (by decide) (by decide) (by decide) ?_
  refine x_mem (V' := (up V 2 (cpK (V 140) (V 2) 10))) (congrArg (up _ 2) (cpE rfl rfl)) ?_
  refine x_al1 dX9_become_15 ?_
  refine x_getR fl_X9_15 (sh_139 hS) (lq_139 hS) (rf_139_1 hS) dX9_become_16 ?_
  refine x_iconst dX9_become_19 ?_
  refine x_al0 dX9_become_20 ?_
  refine x_getR fl_X9_15 (sh_1 hS) (lq_1 hS) (rf_1_1 hS) dX9_become_21 ?_
  refine x_iconst dX9_become_24 ?_
  refine x_bipush dX9_become_25 ?_
  refine x_copyi mc_X9_52 dX9_become_27 (sh_3 hS) (lq_3 hS) (sh_141 hS) (lq_141 hS) (by decide) (by decide) (by decide) ?_
  refine x_mem (V' := (up (up V 2 (cpK (V 140) (V 2) 10)) 3 (cpK (V 141) (V 3) 10))) (congrArg (up _ 3) (cpE (up_ne (by decide)) (up_ne (by decide)))) ?_
  refine x_al1 dX9_become_30 ?_
  refine x_getR fl_X9_18 (sh_139 hS) (lq_139 hS) (rf_139_2 hS) dX9_become_31 ?_
  refine x_iconst dX9_become_34 ?_
  refine x_al0 dX9_become_35 ?_
  refine x_getR fl_X9_18 (sh_1 hS) (lq_1 hS) (rf_1_2 hS) dX9_become_36 ?_
  refine x_iconst dX9_become_39 ?_
  refine x_bipush dX9_become_40 ?_
  refine x_copyi mc_X9_52 dX9_become_42 (sh_4 hS) (lq_4 hS) (sh_142 hS) (lq_142 hS) (by decide) (by decide) (by decide) ?_
  refine x_mem (V' := (up (up (up V 2 (cpK (V 140) (V 2) 10)) 3 (cpK (V 141) (V 3) 10)) 4 (cpK (V 142) (V 4) 16))) (congrArg (up _ 4) (cpE ((up_ne (by decide)).trans (up_ne (by decide))) ((up_ne (by decide)).trans (up_ne (by decide))))) ?_
  obtain ⟨V1, hV1⟩ : ∃ z : Va, z = (up (up (up V 2 (cpK (V 140) (V 2) 10)) 3 (cpK (V 141) (V 3) 10)) 4 (cpK (V 142) (V 4) 16)) := ⟨_, rfl⟩
  refine x_mem (V' := V1) hV1.symm ?_
  refine x_al0 dX9_become_45 ?_
  refine x_getR fl_X9_24 (sh_1 hS) (lq_1 hS) (rf_1_3 hS) dX9_become_46 ?_
  refine x_al1 dX9_become_49 ?_
  refine x_getR fl_X9_24 (sh_139 hS) (lq_139 hS) (rf_139_3 hS) dX9_become_50 ?_
  refine x_cVv mm_X0_become ml_X9_58 dX9_become_53 (c_X0_become 5 143 (BoS_5 hS) (BoS_143 hS) (by omega) (by rw [hV1]; exact htc)) (sh_5 hS) (lq_5 hS) ?_
  obtain ⟨V2, hV2⟩ : ∃ z : Va, z = (bcp V1 5 143) := ⟨_, rfl⟩
  refine x_mem (V' := V2) hV2.symm ?_
  refine x_al0 dX9_become_56 ?_
  refine x_getR fl_X9_31 (sh_1 hS) (lq_1 hS) (rf_1_4 hS) dX9_become_57 ?_
  refine x_al1 dX9_become_60 ?_
  refine x_getR fl_X9_31 (sh_139 hS) (lq_139 hS) (rf_139_4 hS) dX9_become_61 ?_
  refine x_cVv mm_X7_become ml_X9_62 dX9_become_64 (c_X7_become_11 hS (fun k hk => by rw [hV2, bcp_o (by omega), hV1, up_ne (by omega), up_ne (by omega), up_ne (by omega)]; exact (hBc.2.2.2.2.2.2.2.2.2.2.2 k hk).1)) (sh_11 hS) (lq_11 hS) ?_
  obtain ⟨V3, hV3⟩ : ∃ z : Va, z = (up (stcp V2 13 151 20) 11 (ua (ua ((V2 11)) 1 (V2 149 1)) 2 (V2 149 2))) := ⟨_, rfl⟩
  refine x_mem (V' := V3) hV3.symm ?_
  refine x_iconst dX9_become_67 ?_
  refine x_is2 dX9_become_68 ?_
  refine x_il2 dX9_become_69 ?_
  refine x_iconst dX9_become_70 ?_
  refine x_icmp_ge (tgt := 92) dX9_become_71 (inr (by decide)) (inr (by decide)) (fun c71_1 => ?_) (fun c71_1 => ?_)
  · exact absurd c71_1 (by decide)
  · -- 71 ge -> 74
    refine x_al0 dX9_become_74 ?_
    refine x_getR fl_X9_37 (sh_1 hS) (lq_1 hS) (rf_1_5 hS) dX9_become_75 ?_
    refine x_il2 dX9_become_78 ?_
    refine x_al1 dX9_become_79 ?_
    refine x_getR fl_X9_37 (sh_139 hS) (lq_139 hS) (rf_139_5 hS) dX9_become_80 ?_
    refine x_il2 dX9_become_83 ?_
    refine x_tald (sh_271 hS) (lq_271 hS) (by omega) (by omega) dX9_become_84 ?_
    refine x_tastQ (sh_133 hS) (lq_133 hS) (by omega) (by omega) (fun j hz => hTr _ j hz) dX9_become_85 ?_
    obtain ⟨S1, hS1e⟩ : ∃ z : Stt, z = sq2 S 133 0 (S.2.1 271 0) := ⟨_, rfl⟩
    rw [← hS1e]
    have hS1 : Stat S1 := by rw [hS1e]; exact Stat_sq hS (by omega) _ _
    have hTrS1 : ∀ k j, S1.2.1 271 k = some j → S1.1 j = (13, 0) ∧ j < S1.2.2 := by rw [hS1e]; intro k j hz; rw [sq2_row (by omega)] at hz; exact hTr k j hz
    refine x_inc2 dX9_become_86 ?_
    refine x_goto (tgt := 69) dX9_become_89 ?_
    refine x_il2 dX9_become_69 ?_
    refine x_iconst dX9_become_70 ?_
    refine x_icmp_ge (tgt := 92) dX9_become_71 (inr (by omega)) (inr (by decide)) (fun c71_2 => ?_) (fun c71_2 => ?_)
    · exact absurd c71_2 (by decide)
    · -- 71 ge -> 74
      refine x_al0 dX9_become_74 ?_
      refine x_getR fl_X9_37 (sh_1 hS1) (lq_1 hS1) (rf_1_5 hS1) dX9_become_75 ?_
      refine x_il2 dX9_become_78 ?_
      refine x_al1 dX9_become_79 ?_
      refine x_getR fl_X9_37 (sh_139 hS1) (lq_139 hS1) (rf_139_5 hS1) dX9_become_80 ?_
      refine x_il2 dX9_become_83 ?_
      refine x_tald (sh_271 hS1) (lq_271 hS1) (by omega) (by omega) dX9_become_84 ?_
      refine x_tastQ (sh_133 hS1) (lq_133 hS1) (by omega) (by omega) (fun j hz => hTrS1 _ j hz) dX9_become_85 ?_
      obtain ⟨S2, hS2e⟩ : ∃ z : Stt, z = sq2 S1 133 (0 + 1) (S1.2.1 271 (0 + 1)) := ⟨_, rfl⟩
      rw [← hS2e]
      have hS2 : Stat S2 := by rw [hS2e]; exact Stat_sq hS1 (by omega) _ _
      have hTrS2 : ∀ k j, S2.2.1 271 k = some j → S2.1 j = (13, 0) ∧ j < S2.2.2 := by rw [hS2e]; intro k j hz; rw [sq2_row (by omega)] at hz; exact hTrS1 k j hz
      refine x_inc2 dX9_become_86 ?_
      refine x_goto (tgt := 69) dX9_become_89 ?_
      refine x_il2 dX9_become_69 ?_
      refine x_iconst dX9_become_70 ?_
      refine x_icmp_ge (tgt := 92) dX9_become_71 (inr (by omega)) (inr (by decide)) (fun c71_3 => ?_) (fun c71_3 => ?_)
      · exact absurd c71_3 (by decide)
      · -- 71 ge -> 74
        refine x_al0 dX9_become_74 ?_
        refine x_getR fl_X9_37 (sh_1 hS2) (lq_1 hS2) (rf_1_5 hS2) dX9_become_75 ?_
        refine x_il2 dX9_become_78 ?_
        refine x_al1 dX9_become_79 ?_
        refine x_getR fl_X9_37 (sh_139 hS2) (lq_139 hS2) (rf_139_5 hS2) dX9_become_80 ?_
        refine x_il2 dX9_become_83 ?_
        refine x_tald (sh_271 hS2) (lq_271 hS2) (by omega) (by omega) dX9_become_84 ?_
        refine x_tastQ (sh_133 hS2) (lq_133 hS2) (by omega) (by omega) (fun j hz => hTrS2 _ j hz) dX9_become_85 ?_
        obtain ⟨S3, hS3e⟩ : ∃ z : Stt, z = sq2 S2 133 ((0 + 1) + 1) (S2.2.1 271 ((0 + 1) + 1)) := ⟨_, rfl⟩
        rw [← hS3e]
        have hS3 : Stat S3 := by rw [hS3e]; exact Stat_sq hS2 (by omega) _ _
        have hTrS3 : ∀ k j, S3.2.1 271 k = some j → S3.1 j = (13, 0) ∧ j < S3.2.2 := by rw [hS3e]; intro k j hz; rw [sq2_row (by omega)] at hz; exact hTrS2 k j hz
        refine x_inc2 dX9_become_86 ?_
        refine x_goto (tgt := 69) dX9_become_89 ?_
        refine x_il2 dX9_become_69 ?_
        refine x_iconst dX9_become_70 ?_
        refine x_icmp_ge (tgt := 92) dX9_become_71 (inr (by omega)) (inr (by decide)) (fun c71_4 => ?_) (fun c71_4 => ?_)
        · exact absurd c71_4 (by decide)
        · -- 71 ge -> 74
          refine x_al0 dX9_become_74 ?_
          refine x_getR fl_X9_37 (sh_1 hS3) (lq_1 hS3) (rf_1_5 hS3) dX9_become_75 ?_
          refine x_il2 dX9_become_78 ?_
          refine x_al1 dX9_become_79 ?_
          refine x_getR fl_X9_37 (sh_139 hS3) (lq_139 hS3) (rf_139_5 hS3) dX9_become_80 ?_
          refine x_il2 dX9_become_83 ?_
          refine x_tald (sh_271 hS3) (lq_271 hS3) (by omega) (by omega) dX9_become_84 ?_
          refine x_tastQ (sh_133 hS3) (lq_133 hS3) (by omega) (by omega) (fun j hz => hTrS3 _ j hz) dX9_become_85 ?_
          obtain ⟨S4, hS4e⟩ : ∃ z : Stt, z = sq2 S3 133 (((0 + 1) + 1) + 1) (S3.2.1 271 (((0 + 1) + 1) + 1)) := ⟨_, rfl⟩
          rw [← hS4e]
          have hS4 : Stat S4 := by rw [hS4e]; exact Stat_sq hS3 (by omega) _ _
          have hTrS4 : ∀ k j, S4.2.1 271 k = some j → S4.1 j = (13, 0) ∧ j < S4.2.2 := by rw [hS4e]; intro k j hz; rw [sq2_row (by omega)] at hz; exact hTrS3 k j hz
          refine x_inc2 dX9_become_86 ?_
          refine x_goto (tgt := 69) dX9_become_89 ?_
          refine x_il2 dX9_become_69 ?_
          refine x_iconst dX9_become_70 ?_
          refine x_icmp_ge (tgt := 92) dX9_become_71 (inr (by omega)) (inr (by decide)) (fun c71_5 => ?_) (fun c71_5 => ?_)
          · -- 71 ge -> 92
            refine x_al0 dX9_become_92 ?_
            refine x_getR fl_X9_44 (sh_1 hS4) (lq_1 hS4) (rf_1_6 hS4) dX9_become_93 ?_
            refine x_al1 dX9_become_96 ?_
            refine x_getR fl_X9_44 (sh_139 hS4) (lq_139 hS4) (rf_139_6 hS4) dX9_become_97 ?_
            refine x_cVv mm_X5_become ml_X9_65 dX9_become_100 (c_X5_become_134 hS4) (sh_134 hS4) (lq_134 hS4) ?_
            refine x_al0 dX9_become_103 ?_
            refine x_al1 dX9_become_104 ?_
            refine x_getI fl_X9_68 (sh_139 hS4) (lq_139 hS4) dX9_become_105 ?_
            refine x_topI (a' := V3 139 7) rfl ?_
            refine x_putI fl_X9_68 (sh_1 hS4) (lq_1 hS4) dX9_become_108 ?_
            refine x_mem (V' := (up (up (up (up (up (up V3 1 (ua (V3 1) 7 (V3 139 7))) 134 (ua (ua (ua (V3 134) 4 (V3 272 4)) 5 (V3 272 5)) 6 (V3 272 6))) 135 (cpK (V3 273) (V3 135) 12)) 136 (cpK (V3 274) (V3 136) 12)) 137 (cpK (V3 275) (V3 137) 12)) 138 (cpK (V3 276) (V3 138) 12))) (st2_c (by decide) (st2_c (by decide) (st2_c (by decide) (st2_c (by decide) (st2_c (by decide) rfl))))) ?_
            refine x_al0 dX9_become_111 ?_
            refine x_al1 dX9_become_112 ?_
            refine x_getI fl_X9_71 (sh_139 hS4) (lq_139 hS4) dX9_become_113 ?_
            refine x_topI (a' := V3 139 8) rfl ?_
            refine x_putI fl_X9_71 (sh_1 hS4) (lq_1 hS4) dX9_become_116 ?_
            refine x_mem (V' := (up (up (up (up (up (up V3 1 (ua (ua (V3 1) 7 (V3 139 7)) 8 (V3 139 8))) 134 (ua (ua (ua (V3 134) 4 (V3 272 4)) 5 (V3 272 5)) 6 (V3 272 6))) 135 (cpK (V3 273) (V3 135) 12)) 136 (cpK (V3 274) (V3 136) 12)) 137 (cpK (V3 275) (V3 137) 12)) 138 (cpK (V3 276) (V3 138) 12))) (st2_c (by decide) (st2_c (by decide) (st2_c (by decide) (st2_c (by decide) (st2_c (by decide) (st2_up _ _ _ _ _)))))) ?_
            refine x_al0 dX9_become_119 ?_
            refine x_al1 dX9_become_120 ?_
            refine x_getI fl_X9_48 (sh_139 hS4) (lq_139 hS4) dX9_become_121 ?_
            refine x_topI (a' := V3 139 9) rfl ?_
            refine x_putI fl_X9_48 (sh_1 hS4) (lq_1 hS4) dX9_become_124 ?_
            refine x_mem (V' := (up (up (up (up (up (up V3 1 (ua (ua (ua (V3 1) 7 (V3 139 7)) 8 (V3 139 8)) 9 (V3 139 9))) 134 (ua (ua (ua (V3 134) 4 (V3 272 4)) 5 (V3 272 5)) 6 (V3 272 6))) 135 (cpK (V3 273) (V3 135) 12)) 136 (cpK (V3 274) (V3 136) 12)) 137 (cpK (V3 275) (V3 137) 12)) 138 (cpK (V3 276) (V3 138) 12))) (st2_c (by decide) (st2_c (by decide) (st2_c (by decide) (st2_c (by decide) (st2_c (by decide) (st2_up _ _ _ _ _)))))) ?_
            refine x_al0 dX9_become_127 ?_
            refine x_dup dX9_become_128 ?_
            refine x_getI fl_X9_74 (sh_1 hS4) (lq_1 hS4) dX9_become_129 ?_
            refine x_topI (a' := V3 1 10) (show (ua (ua (ua (V3 1) 7 (V3 139 7)) 8 (V3 139 8)) 9 (V3 139 9)) 10 = V3 1 10 from ((ua_ne (by decide)).trans ((ua_ne (by decide)).trans (ua_ne (by decide))))) ?_
            refine x_iconst dX9_become_132 ?_
            refine x_iadd dX9_become_133 ?_
            refine x_putI fl_X9_74 (sh_1 hS4) (lq_1 hS4) dX9_become_134 ?_
            refine x_mem (V' := (up (up (up (up (up (up V3 1 (ua (ua (ua (ua (V3 1) 7 (V3 139 7)) 8 (V3 139 8)) 9 (V3 139 9)) 10 ((V3 1 10) + 1))) 134 (ua (ua (ua (V3 134) 4 (V3 272 4)) 5 (V3 272 5)) 6 (V3 272 6))) 135 (cpK (V3 273) (V3 135) 12)) 136 (cpK (V3 274) (V3 136) 12)) 137 (cpK (V3 275) (V3 137) 12)) 138 (cpK (V3 276) (V3 138) 12))) (st2_c (by decide) (st2_c (by decide) (st2_c (by decide) (st2_c (by decide) (st2_c (by decide) (st2_up _ _ _ _ _)))))) ?_
            exact x_vret hQ ⟨rfl, (by rw [hS4e, hS3e, sq2_row (by omega), hS2e, sq2_row (by omega), hS1e, sq2_row (by omega)]; exact (tcp4 (by omega)).symm), become_fin (b := 1) (c := 139) (by omega) hV1 hV2 hV3 rfl hBb hBc⟩ dX9_become_137
          · exact absurd c71_5 (by decide)
set_option maxRecDepth 100000 in
set_option maxHeartbeats 4000000 in
theorem c_X9_become_139 {B : Bs} {S : Stt} {V : Va} (hS : Stat S) (hBb : WB V 139) (hBc : WB V 1) (htc : 0 ≤ (V 5 5) ∧ (V 5 5) ≤ 16) (hchb : 0 ≤ (V 139 10) ∧ (V 139 10) ≤ 1000000) (hTr : ∀ k j, S.2.1 133 k = some j → S.1 j = (13, 0) ∧ j < S.2.2) : C B yX9_become cX9_become 3 none 3 0 0 [vR B 139, vR B 1] S V (rVR (tcpS S 271 133) (fun VN => (∀ a, MIv a → WSim V 1 a → WSim VN 139 a) ∧ WB VN 139 ∧ (∀ q : Nat, q < 139 ∨ 276 < q → VN q = V q) ∧ VN 139 10 = V 139 10 + 1)) := by
  refine C.of [some (vR B 139), some (vR B 1), none] ?_
  intro Γ hQ
  refine x_al1 dX9_become_0 ?_
  refine x_getR fl_X9_9 (sh_1 hS) (lq_1 hS) (rf_1_0 hS) dX9_become_1 ?_
  refine x_iconst dX9_become_4 ?_
  refine x_al0 dX9_become_5 ?_
  refine x_getR fl_X9_9 (sh_139 hS) (lq_139 hS) (rf_139_0 hS) dX9_become_6 ?_
  refine x_iconst dX9_become_9 ?_
  refine x_bipush dX9_become_10 ?_
  refine x_copyi mc_X9_52 dX9_become_12 (sh_140 hS) (lq_140 hS) (sh_2 hS) (lq_2 hS) (by decide) (by decide) (by decide) ?_
  refine x_mem (V' := (up V 140 (cpK (V 2) (V 140) 10))) (congrArg (up _ 140) (cpE rfl rfl)) ?_
  refine x_al1 dX9_become_15 ?_
  refine x_getR fl_X9_15 (sh_1 hS) (lq_1 hS) (rf_1_1 hS) dX9_become_16 ?_
  refine x_iconst dX9_become_19 ?_
  refine x_al0 dX9_become_20 ?_
  refine x_getR fl_X9_15 (sh_139 hS) (lq_139 hS) (rf_139_1 hS) dX9_become_21 ?_
  refine x_iconst dX9_become_24 ?_
  refine x_bipush dX9_become_25 ?_
  refine x_copyi mc_X9_52 dX9_become_27 (sh_141 hS) (lq_141 hS) (sh_3 hS) (lq_3 hS) (by decide) (by decide) (by decide) ?_
  refine x_mem (V' := (up (up V 140 (cpK (V 2) (V 140) 10)) 141 (cpK (V 3) (V 141) 10))) (congrArg (up _ 141) (cpE (up_ne (by decide)) (up_ne (by decide)))) ?_
  refine x_al1 dX9_become_30 ?_
  refine x_getR fl_X9_18 (sh_1 hS) (lq_1 hS) (rf_1_2 hS) dX9_become_31 ?_
  refine x_iconst dX9_become_34 ?_
  refine x_al0 dX9_become_35 ?_
  refine x_getR fl_X9_18 (sh_139 hS) (lq_139 hS) (rf_139_2 hS) dX9_become_36 ?_
  refine x_iconst dX9_become_39 ?_
  refine x_bipush dX9_become_40 ?_
  refine x_copyi mc_X9_52 dX9_become_42 (sh_142 hS) (lq_142 hS) (sh_4 hS) (lq_4 hS) (by decide) (by decide) (by decide) ?_
  refine x_mem (V' := (up (up (up V 140 (cpK (V 2) (V 140) 10)) 141 (cpK (V 3) (V 141) 10)) 142 (cpK (V 4) (V 142) 16))) (congrArg (up _ 142) (cpE ((up_ne (by decide)).trans (up_ne (by decide))) ((up_ne (by decide)).trans (up_ne (by decide))))) ?_
  obtain ⟨V1, hV1⟩ : ∃ z : Va, z = (up (up (up V 140 (cpK (V 2) (V 140) 10)) 141 (cpK (V 3) (V 141) 10)) 142 (cpK (V 4) (V 142) 16)) := ⟨_, rfl⟩
  refine x_mem (V' := V1) hV1.symm ?_
  refine x_al0 dX9_become_45 ?_
  refine x_getR fl_X9_24 (sh_139 hS) (lq_139 hS) (rf_139_3 hS) dX9_become_46 ?_
  refine x_al1 dX9_become_49 ?_
  refine x_getR fl_X9_24 (sh_1 hS) (lq_1 hS) (rf_1_3 hS) dX9_become_50 ?_
  refine x_cVv mm_X0_become ml_X9_58 dX9_become_53 (c_X0_become 143 5 (BoS_143 hS) (BoS_5 hS) (by omega) (by rw [hV1]; exact htc)) (sh_143 hS) (lq_143 hS) ?_
  obtain ⟨V2, hV2⟩ : ∃ z : Va, z = (bcp V1 143 5) := ⟨_, rfl⟩
  refine x_mem (V' := V2) hV2.symm ?_
  refine x_al0 dX9_become_56 ?_
  refine x_getR fl_X9_31 (sh_139 hS) (lq_139 hS) (rf_139_4 hS) dX9_become_57 ?_
  refine x_al1 dX9_become_60 ?_
  refine x_getR fl_X9_31 (sh_1 hS) (lq_1 hS) (rf_1_4 hS) dX9_become_61 ?_
  refine x_cVv mm_X7_become ml_X9_62 dX9_become_64 (c_X7_become_149 hS (fun k hk => by rw [hV2, bcp_o (by omega), hV1, up_ne (by omega), up_ne (by omega), up_ne (by omega)]; exact (hBc.2.2.2.2.2.2.2.2.2.2.2 k hk).1)) (sh_149 hS) (lq_149 hS) ?_
  obtain ⟨V3, hV3⟩ : ∃ z : Va, z = (up (stcp V2 151 13 20) 149 (ua (ua ((V2 149)) 1 (V2 11 1)) 2 (V2 11 2))) := ⟨_, rfl⟩
  refine x_mem (V' := V3) hV3.symm ?_
  refine x_iconst dX9_become_67 ?_
  refine x_is2 dX9_become_68 ?_
  refine x_il2 dX9_become_69 ?_
  refine x_iconst dX9_become_70 ?_
  refine x_icmp_ge (tgt := 92) dX9_become_71 (inr (by decide)) (inr (by decide)) (fun c71_1 => ?_) (fun c71_1 => ?_)
  · exact absurd c71_1 (by decide)
  · -- 71 ge -> 74
    refine x_al0 dX9_become_74 ?_
    refine x_getR fl_X9_37 (sh_139 hS) (lq_139 hS) (rf_139_5 hS) dX9_become_75 ?_
    refine x_il2 dX9_become_78 ?_
    refine x_al1 dX9_become_79 ?_
    refine x_getR fl_X9_37 (sh_1 hS) (lq_1 hS) (rf_1_5 hS) dX9_become_80 ?_
    refine x_il2 dX9_become_83 ?_
    refine x_tald (sh_133 hS) (lq_133 hS) (by omega) (by omega) dX9_become_84 ?_
    refine x_tastQ (sh_271 hS) (lq_271 hS) (by omega) (by omega) (fun j hz => hTr _ j hz) dX9_become_85 ?_
    obtain ⟨S1, hS1e⟩ : ∃ z : Stt, z = sq2 S 271 0 (S.2.1 133 0) := ⟨_, rfl⟩
    rw [← hS1e]
    have hS1 : Stat S1 := by rw [hS1e]; exact Stat_sq hS (by omega) _ _
    have hTrS1 : ∀ k j, S1.2.1 133 k = some j → S1.1 j = (13, 0) ∧ j < S1.2.2 := by rw [hS1e]; intro k j hz; rw [sq2_row (by omega)] at hz; exact hTr k j hz
    refine x_inc2 dX9_become_86 ?_
    refine x_goto (tgt := 69) dX9_become_89 ?_
    refine x_il2 dX9_become_69 ?_
    refine x_iconst dX9_become_70 ?_
    refine x_icmp_ge (tgt := 92) dX9_become_71 (inr (by omega)) (inr (by decide)) (fun c71_2 => ?_) (fun c71_2 => ?_)
    · exact absurd c71_2 (by decide)
    · -- 71 ge -> 74
      refine x_al0 dX9_become_74 ?_
      refine x_getR fl_X9_37 (sh_139 hS1) (lq_139 hS1) (rf_139_5 hS1) dX9_become_75 ?_
      refine x_il2 dX9_become_78 ?_
      refine x_al1 dX9_become_79 ?_
      refine x_getR fl_X9_37 (sh_1 hS1) (lq_1 hS1) (rf_1_5 hS1) dX9_become_80 ?_
      refine x_il2 dX9_become_83 ?_
      refine x_tald (sh_133 hS1) (lq_133 hS1) (by omega) (by omega) dX9_become_84 ?_
      refine x_tastQ (sh_271 hS1) (lq_271 hS1) (by omega) (by omega) (fun j hz => hTrS1 _ j hz) dX9_become_85 ?_
      obtain ⟨S2, hS2e⟩ : ∃ z : Stt, z = sq2 S1 271 (0 + 1) (S1.2.1 133 (0 + 1)) := ⟨_, rfl⟩
      rw [← hS2e]
      have hS2 : Stat S2 := by rw [hS2e]; exact Stat_sq hS1 (by omega) _ _
      have hTrS2 : ∀ k j, S2.2.1 133 k = some j → S2.1 j = (13, 0) ∧ j < S2.2.2 := by rw [hS2e]; intro k j hz; rw [sq2_row (by omega)] at hz; exact hTrS1 k j hz
      refine x_inc2 dX9_become_86 ?_
      refine x_goto (tgt := 69) dX9_become_89 ?_
      refine x_il2 dX9_become_69 ?_
      refine x_iconst dX9_become_70 ?_
      refine x_icmp_ge (tgt := 92) dX9_become_71 (inr (by omega)) (inr (by decide)) (fun c71_3 => ?_) (fun c71_3 => ?_)
      · exact absurd c71_3 (by decide)
      · -- 71 ge -> 74
        refine x_al0 dX9_become_74 ?_
        refine x_getR fl_X9_37 (sh_139 hS2) (lq_139 hS2) (rf_139_5 hS2) dX9_become_75 ?_
        refine x_il2 dX9_become_78 ?_
        refine x_al1 dX9_become_79 ?_
        refine x_getR fl_X9_37 (sh_1 hS2) (lq_1 hS2) (rf_1_5 hS2) dX9_become_80 ?_
        refine x_il2 dX9_become_83 ?_
        refine x_tald (sh_133 hS2) (lq_133 hS2) (by omega) (by omega) dX9_become_84 ?_
        refine x_tastQ (sh_271 hS2) (lq_271 hS2) (by omega) (by omega) (fun j hz => hTrS2 _ j hz) dX9_become_85 ?_
        obtain ⟨S3, hS3e⟩ : ∃ z : Stt, z = sq2 S2 271 ((0 + 1) + 1) (S2.2.1 133 ((0 + 1) + 1)) := ⟨_, rfl⟩
        rw [← hS3e]
        have hS3 : Stat S3 := by rw [hS3e]; exact Stat_sq hS2 (by omega) _ _
        have hTrS3 : ∀ k j, S3.2.1 133 k = some j → S3.1 j = (13, 0) ∧ j < S3.2.2 := by rw [hS3e]; intro k j hz; rw [sq2_row (by omega)] at hz; exact hTrS2 k j hz
        refine x_inc2 dX9_become_86 ?_
        refine x_goto (tgt := 69) dX9_become_89 ?_
        refine x_il2 dX9_become_69 ?_
        refine x_iconst dX9_become_70 ?_
        refine x_icmp_ge (tgt := 92) dX9_become_71 (inr (by omega)) (inr (by decide)) (fun c71_4 => ?_) (fun c71_4 => ?_)
        · exact absurd c71_4 (by decide)
        · -- 71 ge -> 74
          refine x_al0 dX9_become_74 ?_
          refine x_getR fl_X9_37 (sh_139 hS3) (lq_139 hS3) (rf_139_5 hS3) dX9_become_75 ?_
          refine x_il2 dX9_become_78 ?_
          refine x_al1 dX9_become_79 ?_
          refine x_getR fl_X9_37 (sh_1 hS3) (lq_1 hS3) (rf_1_5 hS3) dX9_become_80 ?_
          refine x_il2 dX9_become_83 ?_
          refine x_tald (sh_133 hS3) (lq_133 hS3) (by omega) (by omega) dX9_become_84 ?_
          refine x_tastQ (sh_271 hS3) (lq_271 hS3) (by omega) (by omega) (fun j hz => hTrS3 _ j hz) dX9_become_85 ?_
          obtain ⟨S4, hS4e⟩ : ∃ z : Stt, z = sq2 S3 271 (((0 + 1) + 1) + 1) (S3.2.1 133 (((0 + 1) + 1) + 1)) := ⟨_, rfl⟩
          rw [← hS4e]
          have hS4 : Stat S4 := by rw [hS4e]; exact Stat_sq hS3 (by omega) _ _
          have hTrS4 : ∀ k j, S4.2.1 133 k = some j → S4.1 j = (13, 0) ∧ j < S4.2.2 := by rw [hS4e]; intro k j hz; rw [sq2_row (by omega)] at hz; exact hTrS3 k j hz
          refine x_inc2 dX9_become_86 ?_
          refine x_goto (tgt := 69) dX9_become_89 ?_
          refine x_il2 dX9_become_69 ?_
          refine x_iconst dX9_become_70 ?_
          refine x_icmp_ge (tgt := 92) dX9_become_71 (inr (by omega)) (inr (by decide)) (fun c71_5 => ?_) (fun c71_5 => ?_)
          · -- 71 ge -> 92
            refine x_al0 dX9_become_92 ?_
            refine x_getR fl_X9_44 (sh_139 hS4) (lq_139 hS4) (rf_139_6 hS4) dX9_become_93 ?_
            refine x_al1 dX9_become_96 ?_
            refine x_getR fl_X9_44 (sh_1 hS4) (lq_1 hS4) (rf_1_6 hS4) dX9_become_97 ?_
            refine x_cVv mm_X5_become ml_X9_65 dX9_become_100 (c_X5_become_272 hS4) (sh_272 hS4) (lq_272 hS4) ?_
            refine x_al0 dX9_become_103 ?_
            refine x_al1 dX9_become_104 ?_
            refine x_getI fl_X9_68 (sh_1 hS4) (lq_1 hS4) dX9_become_105 ?_
            refine x_topI (a' := V3 1 7) rfl ?_
            refine x_putI fl_X9_68 (sh_139 hS4) (lq_139 hS4) dX9_become_108 ?_
            refine x_mem (V' := (up (up (up (up (up (up V3 139 (ua (V3 139) 7 (V3 1 7))) 272 (ua (ua (ua (V3 272) 4 (V3 134 4)) 5 (V3 134 5)) 6 (V3 134 6))) 273 (cpK (V3 135) (V3 273) 12)) 274 (cpK (V3 136) (V3 274) 12)) 275 (cpK (V3 137) (V3 275) 12)) 276 (cpK (V3 138) (V3 276) 12))) (st2_c (by decide) (st2_c (by decide) (st2_c (by decide) (st2_c (by decide) (st2_c (by decide) rfl))))) ?_
            refine x_al0 dX9_become_111 ?_
            refine x_al1 dX9_become_112 ?_
            refine x_getI fl_X9_71 (sh_1 hS4) (lq_1 hS4) dX9_become_113 ?_
            refine x_topI (a' := V3 1 8) rfl ?_
            refine x_putI fl_X9_71 (sh_139 hS4) (lq_139 hS4) dX9_become_116 ?_
            refine x_mem (V' := (up (up (up (up (up (up V3 139 (ua (ua (V3 139) 7 (V3 1 7)) 8 (V3 1 8))) 272 (ua (ua (ua (V3 272) 4 (V3 134 4)) 5 (V3 134 5)) 6 (V3 134 6))) 273 (cpK (V3 135) (V3 273) 12)) 274 (cpK (V3 136) (V3 274) 12)) 275 (cpK (V3 137) (V3 275) 12)) 276 (cpK (V3 138) (V3 276) 12))) (st2_c (by decide) (st2_c (by decide) (st2_c (by decide) (st2_c (by decide) (st2_c (by decide) (st2_up _ _ _ _ _)))))) ?_
            refine x_al0 dX9_become_119 ?_
            refine x_al1 dX9_become_120 ?_
            refine x_getI fl_X9_48 (sh_1 hS4) (lq_1 hS4) dX9_become_121 ?_
            refine x_topI (a' := V3 1 9) rfl ?_
            refine x_putI fl_X9_48 (sh_139 hS4) (lq_139 hS4) dX9_become_124 ?_
            refine x_mem (V' := (up (up (up (up (up (up V3 139 (ua (ua (ua (V3 139) 7 (V3 1 7)) 8 (V3 1 8)) 9 (V3 1 9))) 272 (ua (ua (ua (V3 272) 4 (V3 134 4)) 5 (V3 134 5)) 6 (V3 134 6))) 273 (cpK (V3 135) (V3 273) 12)) 274 (cpK (V3 136) (V3 274) 12)) 275 (cpK (V3 137) (V3 275) 12)) 276 (cpK (V3 138) (V3 276) 12))) (st2_c (by decide) (st2_c (by decide) (st2_c (by decide) (st2_c (by decide) (st2_c (by decide) (st2_up _ _ _ _ _)))))) ?_
            refine x_al0 dX9_become_127 ?_
            refine x_dup dX9_become_128 ?_
            refine x_getI fl_X9_74 (sh_139 hS4) (lq_139 hS4) dX9_become_129 ?_
            refine x_topI (a' := V3 139 10) (show (ua (ua (ua (V3 139) 7 (V3 1 7)) 8 (V3 1 8)) 9 (V3 1 9)) 10 = V3 139 10 from ((ua_ne (by decide)).trans ((ua_ne (by decide)).trans (ua_ne (by decide))))) ?_
            refine x_iconst dX9_become_132 ?_
            refine x_iadd dX9_become_133 ?_
            refine x_putI fl_X9_74 (sh_139 hS4) (lq_139 hS4) dX9_become_134 ?_
            refine x_mem (V' := (up (up (up (up (up (up V3 139 (ua (ua (ua (ua (V3 139) 7 (V3 1 7)) 8 (V3 1 8)) 9 (V3 1 9)) 10 ((V3 139 10) + 1))) 272 (ua (ua (ua (V3 272) 4 (V3 134 4)) 5 (V3 134 5)) 6 (V3 134 6))) 273 (cpK (V3 135) (V3 273) 12)) 274 (cpK (V3 136) (V3 274) 12)) 275 (cpK (V3 137) (V3 275) 12)) 276 (cpK (V3 138) (V3 276) 12))) (st2_c (by decide) (st2_c (by decide) (st2_c (by decide) (st2_c (by decide) (st2_c (by decide) (st2_up _ _ _ _ _)))))) ?_
            exact x_vret hQ ⟨rfl, (by rw [hS4e, hS3e, sq2_row (by omega), hS2e, sq2_row (by omega), hS1e, sq2_row (by omega)]; exact (tcp4 (by omega)).symm), become_fin (b := 139) (c := 1) (by omega) hV1 hV2 hV3 rfl hBb hBc⟩ dX9_become_137
          · exact absurd c71_5 (by decide)
