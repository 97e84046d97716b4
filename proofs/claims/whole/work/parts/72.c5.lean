set_option maxRecDepth 100000 in
set_option maxHeartbeats 4000000 in
theorem c_X9_age {B : Bs} {S : Stt} {V : Va} (bone : Int) (a : Int → Int) (tx : Int → Int) (hS : Stat S) (hW : WSim V 1 a) (hB : WB V 1) (hM : MIv a) (hTx : TSim S V 133 a tx) (hb : 0 ≤ bone ∧ bone < a 1) : C B yX9_age cX9_age 4 none 5 0 0 [vR B 1, vI bone, vR B 287] S V (rVR S (fun VN => WSim VN 1 (mAgeB a tx (mClause a tx 0) bone) ∧ WB VN 1 ∧ FrB V VN ∧ VN 5 = V 5)) := by
  refine C.of [some (vR B 1), some (vI bone), some (vR B 287), none] ?_
  intro Γ hQ
  have w7 : V 1 7 = a 0 := hW.1.1
  have w8 : V 1 8 = a 3 := hW.1.2.1
  have w9 : V 1 9 = a 4 := hW.1.2.2
  have w55 : V 5 5 = a 1 := hW.2.2.2.1.1
  have i0 := hM.1.2.1
  have i1 := hM.1.2.2.1
  have i2 := hM.1.2.2.2.1
  have i4 := hM.1.2.2.2.2.1
  have i3 := hM.2.1
  have hcv := cVal16_r (b := bone) (o := bone) hM hTx
  have hbb := WB_BB hB
  have kb := hW.2.2.2.1.2.2.1 bone hb.1 hb.2
  have kok := hM.2.2.2.2.2.2.1 bone hb.1 hb.2
  have hw6 : V 6 bone = a (30 + 6 * bone + 1) := kb.1.trans (congrArg a (by omega))
  have hg0 : gNow a bone 0 = a (30 + 6 * bone + 1) := congrArg a (by omega)
  have hk0 := kok.1
  rw [hg0] at hk0
  have hb9 := hbb.2.2.2.2 bone
  have w56 : V 5 6 = a 2 := hW.2.2.2.1.2.1
  refine x_iconst dX9_age_0 ?_
  refine x_al2 dX9_age_1 ?_
  refine x_bipush dX9_age_2 ?_
  refine x_il1 dX9_age_4 ?_
  refine x_il1 dX9_age_5 ?_
  refine x_iconst dX9_age_6 ?_
  refine x_cVic mm_X2_value ml_X9_127 dX9_age_7 (c_X2_value 16 bone bone 0 a tx hS hW hB hM hTx (by omega) hb hb (inr (by decide))) (sh_287 hS) (lq_287 hS) (fun f1 g1 => ?_)
  refine x_mmax ml_X9_133 dX9_age_10 (inr (by decide)) (inr (by omega)) ?_
  refine x_is3 dX9_age_13 ?_
  obtain ⟨wn, hwn⟩ : ∃ z : Int, z = if 0 < cVal a tx 16 bone bone 0 then cVal a tx 16 bone bone 0 else 0 := ⟨_, rfl⟩
  have hwr : 0 ≤ wn ∧ wn ≤ 1000000 := by rw [hwn]; split <;> omega
  refine x_al0 dX9_age_14 ?_
  refine x_getR fl_X9_24 (sh_1 hS) (lq_1 hS) (rf_1_3 hS) dX9_age_15 ?_
  refine x_getR fl_X9_105 (sh_5 hS) (lq_5 hS) (rf_5_0 hS) dX9_age_18 ?_
  refine x_il1 dX9_age_21 ?_
  refine x_iconst dX9_age_22 ?_
  refine x_al0 dX9_age_23 ?_
  refine x_getR fl_X9_24 (sh_1 hS) (lq_1 hS) (rf_1_3 hS) dX9_age_24 ?_
  refine x_getR fl_X9_105 (sh_5 hS) (lq_5 hS) (rf_5_0 hS) dX9_age_27 ?_
  refine x_il1 dX9_age_30 ?_
  refine x_iald (sh_6 hS) (lq_6 hS) (by omega) (by omega) dX9_age_31 ?_
  refine x_topI (a' := V 6 bone) rfl ?_
  refine x_il3 dX9_age_32 ?_
  refine x_isub dX9_age_33 ?_
  refine x_mmax ml_X9_133 dX9_age_34 (inr (by decide)) (inr (by rw [← hwn]; omega)) ?_
  refine x_iast (sh_6 hS) (lq_6 hS) (by omega) (by omega) dX9_age_37 ?_
  refine x_mem (V' := (up (up (up V 6 (ua (V 6) bone (if 1 < (V 6 bone) - (if 0 < cVal a tx 16 bone bone 0 then cVal a tx 16 bone bone 0 else 0) then (V 6 bone) - (if 0 < cVal a tx 16 bone bone 0 then cVal a tx 16 bone bone 0 else 0) else 1))) 287 f1) 288 g1)) (st2_c (by decide) (st2_c (by decide) rfl)) ?_
  refine x_al0 dX9_age_38 ?_
  refine x_getR fl_X9_24 (sh_1 hS) (lq_1 hS) (rf_1_3 hS) dX9_age_39 ?_
  refine x_getR fl_X9_111 (sh_5 hS) (lq_5 hS) (rf_5_3 hS) dX9_age_42 ?_
  refine x_il1 dX9_age_45 ?_
  refine x_iald (sh_9 hS) (lq_9 hS) (by omega) (by omega) dX9_age_46 ?_
  refine x_topI (a' := V 9 bone) rfl ?_
  refine x_al0 dX9_age_47 ?_
  refine x_getR fl_X9_24 (sh_1 hS) (lq_1 hS) (rf_1_3 hS) dX9_age_48 ?_
  refine x_getI fl_X9_120 (sh_5 hS) (lq_5 hS) dX9_age_51 ?_
  refine x_topI (a' := V 5 6) rfl ?_
  refine x_icmp_ne (tgt := 85) dX9_age_54 (inr (by omega)) (inr (by omega)) (fun c54_2 => ?_) (fun c54_2 => ?_)
  · -- 54 ne -> 85
    exact x_vret hQ ⟨rfl, rfl, (by
    have he := age_e (e := (if 1 < (V 6 bone) - (if 0 < cVal a tx 16 bone bone 0 then cVal a tx 16 bone bone 0 else 0) then (V 6 bone) - (if 0 < cVal a tx 16 bone bone 0 then cVal a tx 16 bone bone 0 else 0) else 1)) (x := V 6 bone) hTx i3.2.2 (by omega) hw6 rfl
    have hbo := age_bo (V' := (up (up (up V 6 (ua (V 6) bone (if 1 < (V 6 bone) - (if 0 < cVal a tx 16 bone bone 0 then cVal a tx 16 bone bone 0 else 0) then (V 6 bone) - (if 0 < cVal a tx 16 bone bone 0 then cVal a tx 16 bone bone 0 else 0) else 1))) 287 f1) 288 g1)) (tx := tx) (w := mClause a tx 0) hW.2.2.2.1 hb he rfl rfl rfl (show V 8 = _ by rw [if_neg (by omega)]) (show V 9 = _ by rw [if_neg (by omega)]) rfl
    have hfr : ∀ q : Nat, q < 5 ∨ 10 < q → q ≠ 287 → q ≠ 288 → (up (up (up V 6 (ua (V 6) bone (if 1 < (V 6 bone) - (if 0 < cVal a tx 16 bone bone 0 then cVal a tx 16 bone bone 0 else 0) then (V 6 bone) - (if 0 < cVal a tx 16 bone bone 0 then cVal a tx 16 bone bone 0 else 0) else 1))) 287 f1) 288 g1) q = V q := fun q q0 q1 q2 => by rw [up_ne (by omega), up_ne (by omega), up_ne (by omega)]
    have hrr : ∀ q : Nat, 1 ≤ q → q ≤ 138 → q < 5 ∨ 10 < q → (up (up (up V 6 (ua (V 6) bone (if 1 < (V 6 bone) - (if 0 < cVal a tx 16 bone bone 0 then cVal a tx 16 bone bone 0 else 0) then (V 6 bone) - (if 0 < cVal a tx 16 bone bone 0 then cVal a tx 16 bone bone 0 else 0) else 1))) 287 f1) 288 g1) q = V q := fun q q0 q1 q2 => hfr q q2 (by omega) (by omega)
    refine ⟨WSim_bones hW (by omega) (fun q q0 q1 => mAgeB_o (by omega)) (fun x => mAgeB_o (by omega)) (fun q q0 => mAgeB_o (by omega)) hrr ?_, WB_bb hB hrr ⟨hbb.1, AB_ua hbb.2.1 (by split <;> omega), hbb.2.2.1, hbb.2.2.2.1, hbb.2.2.2.2⟩, hfr, rfl⟩
    rw [mAgeB_o (q := 1) (by omega), mAgeB_o (q := 2) (by omega)]
    exact hbo)⟩ dX9_age_85
  · -- 54 ne -> 57
    refine x_al0 dX9_age_57 ?_
    refine x_getR fl_X9_24 (sh_1 hS) (lq_1 hS) (rf_1_3 hS) dX9_age_58 ?_
    refine x_getR fl_X9_98 (sh_5 hS) (lq_5 hS) (rf_5_2 hS) dX9_age_61 ?_
    refine x_il1 dX9_age_64 ?_
    refine x_al0 dX9_age_65 ?_
    refine x_getR fl_X9_24 (sh_1 hS) (lq_1 hS) (rf_1_3 hS) dX9_age_66 ?_
    refine x_getR fl_X9_108 (sh_5 hS) (lq_5 hS) (rf_5_1 hS) dX9_age_69 ?_
    refine x_il1 dX9_age_72 ?_
    refine x_iald (sh_7 hS) (lq_7 hS) (by omega) (by omega) dX9_age_73 ?_
    refine x_topI (a' := V 7 bone) rfl ?_
    refine x_iast (sh_8 hS) (lq_8 hS) (by omega) (by omega) dX9_age_74 ?_
    refine x_mem (V' := (up (up (up (up V 6 (ua (V 6) bone (if 1 < (V 6 bone) - (if 0 < cVal a tx 16 bone bone 0 then cVal a tx 16 bone bone 0 else 0) then (V 6 bone) - (if 0 < cVal a tx 16 bone bone 0 then cVal a tx 16 bone bone 0 else 0) else 1))) 8 (ua (V 8) bone (V 7 bone))) 287 f1) 288 g1)) (st2_c (by decide) (st2_c (by decide) rfl)) ?_
    refine x_al0 dX9_age_75 ?_
    refine x_getR fl_X9_24 (sh_1 hS) (lq_1 hS) (rf_1_3 hS) dX9_age_76 ?_
    refine x_getR fl_X9_111 (sh_5 hS) (lq_5 hS) (rf_5_3 hS) dX9_age_79 ?_
    refine x_il1 dX9_age_82 ?_
    refine x_iconst dX9_age_83 ?_
    refine x_iast (sh_9 hS) (lq_9 hS) (by omega) (by omega) dX9_age_84 ?_
    refine x_mem (V' := (up (up (up (up (up V 6 (ua (V 6) bone (if 1 < (V 6 bone) - (if 0 < cVal a tx 16 bone bone 0 then cVal a tx 16 bone bone 0 else 0) then (V 6 bone) - (if 0 < cVal a tx 16 bone bone 0 then cVal a tx 16 bone bone 0 else 0) else 1))) 8 (ua (V 8) bone (V 7 bone))) 9 (ua (V 9) bone (-1))) 287 f1) 288 g1)) (st2_c (by decide) (st2_c (by decide) rfl)) ?_
    exact x_vret hQ ⟨rfl, rfl, (by
    have he := age_e (e := (if 1 < (V 6 bone) - (if 0 < cVal a tx 16 bone bone 0 then cVal a tx 16 bone bone 0 else 0) then (V 6 bone) - (if 0 < cVal a tx 16 bone bone 0 then cVal a tx 16 bone bone 0 else 0) else 1)) (x := V 6 bone) hTx i3.2.2 (by omega) hw6 rfl
    have hbo := age_bo (V' := (up (up (up (up (up V 6 (ua (V 6) bone (if 1 < (V 6 bone) - (if 0 < cVal a tx 16 bone bone 0 then cVal a tx 16 bone bone 0 else 0) then (V 6 bone) - (if 0 < cVal a tx 16 bone bone 0 then cVal a tx 16 bone bone 0 else 0) else 1))) 8 (ua (V 8) bone (V 7 bone))) 9 (ua (V 9) bone (-1))) 287 f1) 288 g1)) (tx := tx) (w := mClause a tx 0) hW.2.2.2.1 hb he rfl rfl rfl (show ua (V 8) bone (V 7 bone) = _ by rw [if_pos (by omega)]) (show ua (V 9) bone (-1) = _ by rw [if_pos (by omega)]) rfl
    have hfr : ∀ q : Nat, q < 5 ∨ 10 < q → q ≠ 287 → q ≠ 288 → (up (up (up (up (up V 6 (ua (V 6) bone (if 1 < (V 6 bone) - (if 0 < cVal a tx 16 bone bone 0 then cVal a tx 16 bone bone 0 else 0) then (V 6 bone) - (if 0 < cVal a tx 16 bone bone 0 then cVal a tx 16 bone bone 0 else 0) else 1))) 8 (ua (V 8) bone (V 7 bone))) 9 (ua (V 9) bone (-1))) 287 f1) 288 g1) q = V q := fun q q0 q1 q2 => by rw [up_ne (by omega), up_ne (by omega), up_ne (by omega), up_ne (by omega), up_ne (by omega)]
    have hrr : ∀ q : Nat, 1 ≤ q → q ≤ 138 → q < 5 ∨ 10 < q → (up (up (up (up (up V 6 (ua (V 6) bone (if 1 < (V 6 bone) - (if 0 < cVal a tx 16 bone bone 0 then cVal a tx 16 bone bone 0 else 0) then (V 6 bone) - (if 0 < cVal a tx 16 bone bone 0 then cVal a tx 16 bone bone 0 else 0) else 1))) 8 (ua (V 8) bone (V 7 bone))) 9 (ua (V 9) bone (-1))) 287 f1) 288 g1) q = V q := fun q q0 q1 q2 => hfr q q2 (by omega) (by omega)
    refine ⟨WSim_bones hW (by omega) (fun q q0 q1 => mAgeB_o (by omega)) (fun x => mAgeB_o (by omega)) (fun q q0 => mAgeB_o (by omega)) hrr ?_, WB_bb hB hrr ⟨hbb.1, AB_ua hbb.2.1 (by split <;> omega), hbb.2.2.1, AB_ua hbb.2.2.2.1 (hbb.2.2.1 _), AB_ua hbb.2.2.2.2 (by omega)⟩, hfr, rfl⟩
    rw [mAgeB_o (q := 1) (by omega), mAgeB_o (q := 2) (by omega)]
    exact hbo)⟩ dX9_age_85
set_option maxRecDepth 100000 in
set_option maxHeartbeats 4000000 in
theorem c_X9_passYears {B : Bs} {S : Stt} {V : Va} (years : Int) (a : Int → Int) (tx : Int → Int) (hS : Stat S) (hW : WSim V 1 a) (hB : WB V 1) (hM : MIv a) (hTx : TSim S V 133 a tx) (hch : 0 ≤ (V 1 10) ∧ (V 1 10) ≤ 1000000) (hyears : InR years) : C B yX9_passYears cX9_passYears 5 (some .int) 6 0 0 [vR B 1, vI years, vR B 287] S V (rIR S (if 0 ≤ years ∧ years ≤ 99 ∧ a 2 + years ≤ 999 then a 2 + years else -1) (fun VN => StpR (0 ≤ years ∧ years ≤ 99 ∧ a 2 + years ≤ 999) (mPassF a tx years) V VN)) := by
  refine C.of [some (vR B 1), some (vI years), some (vR B 287), none, none] ?_
  intro Γ hQ
  have w7 : V 1 7 = a 0 := hW.1.1
  have w8 : V 1 8 = a 3 := hW.1.2.1
  have w9 : V 1 9 = a 4 := hW.1.2.2
  have w55 : V 5 5 = a 1 := hW.2.2.2.1.1
  have i0 := hM.1.2.1
  have i1 := hM.1.2.2.1
  have i2 := hM.1.2.2.2.1
  have i4 := hM.1.2.2.2.2.1
  have i3 := hM.2.1
  have w56 : V 5 6 = a 2 := hW.2.2.2.1.2.1
  have h5 := hM.1.2.2.2.2.2.1
  have r2 : V 11 2 = a 5 := hW.2.2.2.2.1.1
  have r0 : 0 ≤ V 11 1 := hW.2.2.2.2.1.2.1
  have r1 : V 11 1 < 20 := hW.2.2.2.2.1.2.2.1
  have hMk := MIv_keep hM
  have hWk := WSim_keep hW hM
  have hBk := WB_keep hB r0 r1 (by omega)
  have k2 : mKeep a 2 = a 2 := mKeep_lo (by omega) (by omega) h5
  have k1 : mKeep a 1 = a 1 := mKeep_lo (by omega) (by omega) h5
  have k3 : mKeep a 3 = a 3 := mKeep_lo (by omega) (by omega) h5
  have k4 : mKeep a 4 = a 4 := mKeep_lo (by omega) (by omega) h5
  refine x_il1 dX9_passYears_0 ?_
  refine x_iconst dX9_passYears_1 ?_
  refine x_bipush dX9_passYears_2 ?_
  refine x_cSNi mm_X10_within (nw_X9_101) dX9_passYears_4 (c_X10_within years 0 99 (inr (by omega)) (inr (by decide)) (inr (by decide))) ?_
  refine x_ifb_eq (tgt := 25) dX9_passYears_7 (fun c7_1 => ?_) (fun c7_1 => ?_)
  · -- 7 eq -> 25
    refine x_iconst dX9_passYears_25 ?_
    exact x_iret hQ ⟨(by rw [if_neg (by omega)]), rfl, Or.inr ⟨by omega, rfl⟩⟩ dX9_passYears_26
  · -- 7 eq -> 10
    refine x_al0 dX9_passYears_10 ?_
    refine x_getR fl_X9_24 (sh_1 hS) (lq_1 hS) (rf_1_3 hS) dX9_passYears_11 ?_
    refine x_getI fl_X9_120 (sh_5 hS) (lq_5 hS) dX9_passYears_14 ?_
    refine x_topI (a' := V 5 6) rfl ?_
    refine x_il1 dX9_passYears_17 ?_
    refine x_iadd dX9_passYears_18 ?_
    refine x_sipush dX9_passYears_19 ?_
    refine x_icmp_le (tgt := 27) dX9_passYears_22 (inr (by omega)) (inr (by decide)) (fun c22_2 => ?_) (fun c22_2 => ?_)
    · -- 22 le -> 27
      refine x_al0 dX9_passYears_27 ?_
      refine x_cVv mm_X9_remember ml_X9_117 dX9_passYears_28 (c_X9_remember hS (by omega) (by omega) hch) (sh_1 hS) (lq_1 hS) ?_
      refine x_iconst dX9_passYears_31 ?_
      refine x_is3 dX9_passYears_32 ?_
      have lp33 : ∀ (N33 : Nat) (i : Int) (W : Va), (0 ≤ i ∧ i ≤ years) → (WSim W 1 (mPassK (mKeep a) tx i.toNat)) → (WB W 1) → (FrN V W) → (W 1 10 = V 1 10 + 1) → (years - i).toNat < N33 → X Γ B RX9 "passYears" cX9_passYears 5 (some .int) 6 0 0 33 [some (vR B 1), some (vI years), some (vR B 287), some (vI i), none] [] 0 0 S W := by
        intro N33
        induction N33 with
        | zero => intro i W hi hWi hBi hFi hci hN; exact absurd hN (Nat.not_lt_zero _)
        | succ N33 ih33 =>
          intro i W hi hWi hBi hFi hci hN33
          have hMi : MIv (mPassK (mKeep a) tx i.toNat) := MIv_passK hMk _ (by omega)
          have y2 : (mPassK (mKeep a) tx i.toNat) 2 = mKeep a 2 + i := by rw [mPassK_2]; omega
          have y1 : (mPassK (mKeep a) tx i.toNat) 1 = a 1 := (mPassK_lo (by omega) (by omega) _).trans k1
          have y3 : (mPassK (mKeep a) tx i.toNat) 3 = a 3 := (mPassK_lo (by omega) (by omega) _).trans k3
          have y4 : (mPassK (mKeep a) tx i.toNat) 4 = a 4 := (mPassK_lo (by omega) (by omega) _).trans k4
          have z56 : W 5 6 = (mPassK (mKeep a) tx i.toNat) 2 := hWi.2.2.2.1.2.1
          refine x_il3 dX9_passYears_33 ?_
          refine x_il1 dX9_passYears_34 ?_
          refine x_icmp_ge (tgt := 85) dX9_passYears_35 (inr (by omega)) (inr (by omega)) (fun c35_3 => ?_) (fun c35_3 => ?_)
          · -- 35 ge -> 85
            refine x_al0 dX9_passYears_85 ?_
            refine x_getR fl_X9_24 (sh_1 hS) (lq_1 hS) (rf_1_3 hS) dX9_passYears_86 ?_
            refine x_getI fl_X9_120 (sh_5 hS) (lq_5 hS) dX9_passYears_89 ?_
            refine x_topI (a' := W 5 6) rfl ?_
            exact x_iret hQ ⟨(by rw [if_pos (by omega)]; exact congrArg some (congrArg vI (by omega))), rfl, Or.inl ⟨by omega, (by simp only [mPassF]; rw [if_pos (by omega), show years.toNat = i.toNat by omega]; exact hWi), hBi, hFi, hci⟩⟩ dX9_passYears_92
          · -- 35 ge -> 38
            refine x_al0 dX9_passYears_38 ?_
            refine x_getR fl_X9_24 (sh_1 hS) (lq_1 hS) (rf_1_3 hS) dX9_passYears_39 ?_
            refine x_dup dX9_passYears_42 ?_
            refine x_getI fl_X9_120 (sh_5 hS) (lq_5 hS) dX9_passYears_43 ?_
            refine x_topI (a' := W 5 6) rfl ?_
            refine x_iconst dX9_passYears_46 ?_
            refine x_iadd dX9_passYears_47 ?_
            refine x_putI fl_X9_120 (sh_5 hS) (lq_5 hS) dX9_passYears_48 ?_
            refine x_mem (V' := (up W 5 (ua (W 5) 6 ((W 5 6) + 1)))) rfl ?_
            refine x_iconst dX9_passYears_51 ?_
            refine x_is4 dX9_passYears_52 ?_
            have lp54 : ∀ (N54 : Nat) (b : Int) (U : Va), (0 ≤ b ∧ b ≤ a 1) → (WSim U 1 (mAgeK (ua (mPassK (mKeep a) tx i.toNat) 2 (mKeep a 2 + i + 1)) tx (mClause (mPassK (mKeep a) tx i.toNat) tx 0) b.toNat)) → (WB U 1) → (FrN V U) → (U 1 10 = V 1 10 + 1) → (a 1 - b).toNat < N54 → X Γ B RX9 "passYears" cX9_passYears 5 (some .int) 6 0 0 54 [some (vR B 1), some (vI years), some (vR B 287), some (vI i), some (vI b)] [] 0 0 S U := by
              intro N54
              induction N54 with
              | zero => intro b U hb hWb hBb hFb hcb hN; exact absurd hN (Nat.not_lt_zero _)
              | succ N54 ih54 =>
                intro b U hb hWb hBb hFb hcb hN54
                have hMy : MIv (ua (mPassK (mKeep a) tx i.toNat) 2 (mKeep a 2 + i + 1)) := by have q := MIv_year hMi (by omega); rw [y2] at q; exact q
                have hMb : MIv (mAgeK (ua (mPassK (mKeep a) tx i.toNat) 2 (mKeep a 2 + i + 1)) tx (mClause (mPassK (mKeep a) tx i.toNat) tx 0) b.toNat) := MIv_ageK hMy _ (by rw [ua_ne (by omega), y1]; omega)
                have v1 : (mAgeK (ua (mPassK (mKeep a) tx i.toNat) 2 (mKeep a 2 + i + 1)) tx (mClause (mPassK (mKeep a) tx i.toNat) tx 0) b.toNat) 1 = a 1 := by rw [mAgeK_l _ (by omega), ua_ne (by omega), y1]
                have v55 : U 5 5 = a 1 := hWb.2.2.2.1.1.trans v1
                have v3 : (mAgeK (ua (mPassK (mKeep a) tx i.toNat) 2 (mKeep a 2 + i + 1)) tx (mClause (mPassK (mKeep a) tx i.toNat) tx 0) b.toNat) 3 = a 3 := by rw [mAgeK_l _ (by omega), ua_ne (by omega), y3]
                have v4 : (mAgeK (ua (mPassK (mKeep a) tx i.toNat) 2 (mKeep a 2 + i + 1)) tx (mClause (mPassK (mKeep a) tx i.toNat) tx 0) b.toNat) 4 = (mPassK (mKeep a) tx i.toNat) 4 := by rw [mAgeK_l _ (by omega), ua_ne (by omega)]
                have hTb := TSim_F (a' := mAgeK (ua (mPassK (mKeep a) tx i.toNat) 2 (mKeep a 2 + i + 1)) tx (mClause (mPassK (mKeep a) tx i.toNat) tx 0) b.toNat) hFb v3 hTx
                refine x_il4 dX9_passYears_54 ?_
                refine x_al0 dX9_passYears_56 ?_
                refine x_getR fl_X9_24 (sh_1 hS) (lq_1 hS) (rf_1_3 hS) dX9_passYears_57 ?_
                refine x_getI fl_X9_77 (sh_5 hS) (lq_5 hS) dX9_passYears_60 ?_
                refine x_topI (a' := U 5 5) rfl ?_
                refine x_icmp_ge (tgt := 79) dX9_passYears_63 (inr (by omega)) (inr (by omega)) (fun c63_4 => ?_) (fun c63_4 => ?_)
                · -- 63 ge -> 79
                  refine x_inc3 dX9_passYears_79 ?_
                  refine x_goto (tgt := 33) dX9_passYears_82 ?_
                  exact x_fg (ih33 (i + 1) U (by omega) (by rw [show (i + 1).toNat = i.toNat + 1 by omega]; simp only [mPassK, mPassOne]; rw [y1, y2, show (a 1).toNat = b.toNat by omega]; exact hWb) hBb hFb hcb (by omega)) (And.intro rfl (And.intro rfl (And.intro rfl (And.intro rfl trivial))))
                · -- 63 ge -> 66
                  refine x_al0 dX9_passYears_66 ?_
                  refine x_il4 dX9_passYears_67 ?_
                  refine x_al2 dX9_passYears_69 ?_
                  refine x_cVvR mm_X9_age ml_X9_123 dX9_passYears_70 (c_X9_age b (mAgeK (ua (mPassK (mKeep a) tx i.toNat) 2 (mKeep a 2 + i + 1)) tx (mClause (mPassK (mKeep a) tx i.toNat) tx 0) b.toNat) tx hS hWb hBb hMb hTb (by rw [v1]; omega)) (sh_1 hS) (lq_1 hS) (fun W5 hw5 => ?_)
                  refine x_inc4 dX9_passYears_73 ?_
                  refine x_goto (tgt := 54) dX9_passYears_76 ?_
                  exact x_fg (ih54 (b + 1) W5 (by omega) (by rw [show (b + 1).toNat = b.toNat + 1 by omega]; simp only [mAgeK]; rw [show ((b.toNat : Nat) : Int) = b by omega]; have q := hw5.1; rw [mClause_c v4] at q; exact q) hw5.2.1 (FrN_t hFb (FrB_N hw5.2.2.1)) ((congrFun (hw5.2.2.1 1 (by omega) (by omega) (by omega)) 10).trans hcb) (by omega)) (And.intro rfl (And.intro rfl (And.intro rfl (And.intro rfl (And.intro rfl trivial)))))
            exact x_fg (lp54 _ 0 (up W 5 (ua (W 5) 6 ((W 5 6) + 1))) (by omega) (by have q := WSim_year hWi hMi; rw [y2] at q; exact q) (WB_bb hBi (fun q q0 q1 q2 => up_ne (by omega)) (show BB W from WB_BB hBi)) (fun q q0 q1 q2 => (up_ne (by omega)).trans (hFi q q0 q1 q2)) hci (Nat.lt_succ_self _)) (And.intro rfl (And.intro rfl (And.intro rfl (And.intro rfl (And.intro rfl trivial)))))
      exact x_fg (lp33 _ 0 (cRem V) (by omega) hWk hBk (fun q q0 q1 q2 => cRem_o r0 r1 (by omega)) (by simp only [cRem]; rw [up_same, ua_same]) (Nat.lt_succ_self _)) (And.intro rfl (And.intro rfl (And.intro rfl (And.intro rfl trivial))))
    · -- 22 le -> 25
      refine x_iconst dX9_passYears_25 ?_
      exact x_iret hQ ⟨(by rw [if_neg (by omega)]), rfl, Or.inr ⟨by omega, rfl⟩⟩ dX9_passYears_26
