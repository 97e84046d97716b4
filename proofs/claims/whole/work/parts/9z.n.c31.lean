set_option maxRecDepth 100000 in
set_option maxHeartbeats 4000000 in
theorem c_X10_saints {B : Bs} {S : Stt} {V : Va} (set : Int) (bone : Int) (a : Int → Int) (tx : Int → Int) (hS : Stat S) (hW : WSim V 1 a) (hB : WB V 1) (hM : MIv a) (hTx : TSim S V 133 a tx) (hch : 0 ≤ (V 1 10) ∧ (V 1 10) ≤ 1000000) (hShC : ShC a tx V) (hShK : ShK V) (hset : InR set) (hbone : InR bone) : C B yX10_saints cX10_saints 3 (some .int) 18 0 0 [vR B 0, vI set, vI bone] S V (rIX S (fun r VN => SaR a tx set bone r ∧ FrS V VN ∧ ShC a tx VN ∧ ShK VN)) := by
  refine C.of [some (vR B 0), some (vI set), some (vI bone)] ?_
  intro Γ hQ
  have w7 : V 1 7 = a 0 := hW.1.1
  have w8 : V 1 8 = a 3 := hW.1.2.1
  have w9 : V 1 9 = a 4 := hW.1.2.2
  have w55 : V 5 5 = a 1 := hW.2.2.2.1.1
  have i0 := hM.1.2.1
  have i1 := hM.1.2.2.1
  have i2 := hM.1.2.2.2.1
  have i4 := hM.1.2.2.2.2.1
  have i3 := hM.2.1
  have hpb := p2_le (t := a 0) (u := 10) (by omega)
  have hp10 : p2 10 = 1024 := by decide
  have w8b : p2 (V 1 7) = p2 (a 0) := by rw [w7]
  have nr := mAc_r a tx set (a 1).toNat
  refine x_al0 dX10_saints_0 ?_
  refine x_getR fl_X10_12 (sh_0 hS) (lq_0 hS) (rf_0_0 hS) dX10_saints_1 ?_
  refine x_il1 dX10_saints_4 ?_
  refine x_cVi mm_X9_hasTowns ml_X10_164 dX10_saints_5 (c_X9_hasTowns set hS (by omega) (inr (by omega))) (sh_1 hS) (lq_1 hS) ?_
  refine x_ifb_eq (tgt := 38) dX10_saints_8 (fun c8_1 => ?_) (fun c8_1 => ?_)
  · -- 8 eq -> 38
    refine x_bipush dX10_saints_38 ?_
    exact x_iret hQ ⟨_, rfl, rfl, SaR_no (by simp only [mBoneOk]; omega), fun q _ => rfl, hShC, hShK⟩ dX10_saints_40
  · -- 8 eq -> 11
    refine x_il2 dX10_saints_11 ?_
    refine x_iconst dX10_saints_12 ?_
    refine x_icmp_eq (tgt := 27) dX10_saints_13 (inr (by omega)) (inr (by decide)) (fun c13_2 => ?_) (fun c13_2 => ?_)
    · -- 13 eq -> 27
      refine x_al0 dX10_saints_27 ?_
      refine x_getR fl_X10_40 (sh_0 hS) (lq_0 hS) (rf_0_4 hS) dX10_saints_28 ?_
      refine x_il1 dX10_saints_31 ?_
      refine x_cViR mm_X6_share ml_X10_167 dX10_saints_32 (c_X6_share set a tx hS hW hB hM hTx (by omega) hch hShC hShK) (sh_289 hS) (lq_289 hS) (fun W3 hw3 => ?_)
      refine x_ifb_ne (tgt := 41) dX10_saints_35 (fun c35_4 => ?_) (fun c35_4 => ?_)
      · -- 35 ne -> 41
        refine x_il2 dX10_saints_41 ?_
        refine x_iconst dX10_saints_42 ?_
        refine x_icmp_ne (tgt := 56) dX10_saints_43 (inr (by omega)) (inr (by decide)) (fun c43_5 => ?_) (fun c43_5 => ?_)
        · -- 43 ne -> 56
          refine x_al0 dX10_saints_56 ?_
          refine x_getR fl_X10_40 (sh_0 hS) (lq_0 hS) (rf_0_4 hS) dX10_saints_57 ?_
          refine x_il2 dX10_saints_60 ?_
          refine x_cVi mm_X6_saintOf ml_X10_173 dX10_saints_61 (c_X6_saintOf bone hS (by have k := (hw3.2.2.2 (by omega)).2.1; omega) (fun i j0 j1 => by obtain ⟨⟨row, k1⟩, k2, k3⟩ := hw3.2.2.2 (by omega); have q := mAr_r a tx set row (a 1).toNat i j0 (by omega); rw [k1]; omega) (inr (by omega))) (sh_289 hS) (lq_289 hS) ?_
          exact x_iret hQ ⟨_, rfl, rfl, SaR_yes (by simp only [mBoneOk]; omega) (hw3.2.2.2 (by omega)) (by first | (exfalso; omega) | (rw [if_pos (by omega)]) | (rw [if_neg (by omega)])), hw3.1, hw3.2.1, hw3.2.2.1⟩ dX10_saints_64
        · -- 43 ne -> 46
          refine x_al0 dX10_saints_46 ?_
          refine x_getR fl_X10_40 (sh_0 hS) (lq_0 hS) (rf_0_4 hS) dX10_saints_47 ?_
          refine x_getI fl_X10_170 (sh_289 hS) (lq_289 hS) dX10_saints_50 ?_
          refine x_topI (a' := W3 289 13) rfl ?_
          refine x_goto (tgt := 64) dX10_saints_53 ?_
          exact x_iret hQ ⟨_, rfl, rfl, SaR_yes (by simp only [mBoneOk]; omega) (hw3.2.2.2 (by omega)) (by first | (exfalso; omega) | (rw [if_pos (by omega)]) | (rw [if_neg (by omega)])), hw3.1, hw3.2.1, hw3.2.2.1⟩ dX10_saints_64
      · -- 35 ne -> 38
        refine x_bipush dX10_saints_38 ?_
        exact x_iret hQ ⟨_, rfl, rfl, SaR_no (by simp only [mBoneOk]; omega), hw3.1, hw3.2.1, hw3.2.2.1⟩ dX10_saints_40
    · -- 13 eq -> 16
      refine x_al0 dX10_saints_16 ?_
      refine x_getR fl_X10_12 (sh_0 hS) (lq_0 hS) (rf_0_0 hS) dX10_saints_17 ?_
      refine x_il2 dX10_saints_20 ?_
      refine x_cVi mm_X9_hasBone ml_X10_133 dX10_saints_21 (c_X9_hasBone bone hS (by omega) (inr (by omega))) (sh_1 hS) (lq_1 hS) ?_
      refine x_ifb_eq (tgt := 38) dX10_saints_24 (fun c24_6 => ?_) (fun c24_6 => ?_)
      · -- 24 eq -> 38
        refine x_bipush dX10_saints_38 ?_
        exact x_iret hQ ⟨_, rfl, rfl, SaR_no (by simp only [mBoneOk]; omega), fun q _ => rfl, hShC, hShK⟩ dX10_saints_40
      · -- 24 eq -> 27
        refine x_al0 dX10_saints_27 ?_
        refine x_getR fl_X10_40 (sh_0 hS) (lq_0 hS) (rf_0_4 hS) dX10_saints_28 ?_
        refine x_il1 dX10_saints_31 ?_
        refine x_cViR mm_X6_share ml_X10_167 dX10_saints_32 (c_X6_share set a tx hS hW hB hM hTx (by omega) hch hShC hShK) (sh_289 hS) (lq_289 hS) (fun W7 hw7 => ?_)
        refine x_ifb_ne (tgt := 41) dX10_saints_35 (fun c35_8 => ?_) (fun c35_8 => ?_)
        · -- 35 ne -> 41
          refine x_il2 dX10_saints_41 ?_
          refine x_iconst dX10_saints_42 ?_
          refine x_icmp_ne (tgt := 56) dX10_saints_43 (inr (by omega)) (inr (by decide)) (fun c43_9 => ?_) (fun c43_9 => ?_)
          · -- 43 ne -> 56
            refine x_al0 dX10_saints_56 ?_
            refine x_getR fl_X10_40 (sh_0 hS) (lq_0 hS) (rf_0_4 hS) dX10_saints_57 ?_
            refine x_il2 dX10_saints_60 ?_
            refine x_cVi mm_X6_saintOf ml_X10_173 dX10_saints_61 (c_X6_saintOf bone hS (by have k := (hw7.2.2.2 (by omega)).2.1; omega) (fun i j0 j1 => by obtain ⟨⟨row, k1⟩, k2, k3⟩ := hw7.2.2.2 (by omega); have q := mAr_r a tx set row (a 1).toNat i j0 (by omega); rw [k1]; omega) (inr (by omega))) (sh_289 hS) (lq_289 hS) ?_
            exact x_iret hQ ⟨_, rfl, rfl, SaR_yes (by simp only [mBoneOk]; omega) (hw7.2.2.2 (by omega)) (by first | (exfalso; omega) | (rw [if_pos (by omega)]) | (rw [if_neg (by omega)])), hw7.1, hw7.2.1, hw7.2.2.1⟩ dX10_saints_64
          · -- 43 ne -> 46
            refine x_al0 dX10_saints_46 ?_
            refine x_getR fl_X10_40 (sh_0 hS) (lq_0 hS) (rf_0_4 hS) dX10_saints_47 ?_
            refine x_getI fl_X10_170 (sh_289 hS) (lq_289 hS) dX10_saints_50 ?_
            refine x_topI (a' := W7 289 13) rfl ?_
            refine x_goto (tgt := 64) dX10_saints_53 ?_
            exact x_iret hQ ⟨_, rfl, rfl, SaR_yes (by simp only [mBoneOk]; omega) (hw7.2.2.2 (by omega)) (by first | (exfalso; omega) | (rw [if_pos (by omega)]) | (rw [if_neg (by omega)])), hw7.1, hw7.2.1, hw7.2.2.1⟩ dX10_saints_64
        · -- 35 ne -> 38
          refine x_bipush dX10_saints_38 ?_
          exact x_iret hQ ⟨_, rfl, rfl, SaR_no (by simp only [mBoneOk]; omega), hw7.1, hw7.2.1, hw7.2.2.1⟩ dX10_saints_40
