theorem cVal17_r (a tx : Int → Int) (b o : Int) : 0 ≤ cVal a tx 17 b o 1 ∧ cVal a tx 17 b o 1 ≤ 1 := by
  simp only [cVal]
  split
  · omega
  · rw [if_neg (by decide)]
    have := mTru_01 a tx (mClause a tx (17 - 16)) b o
    omega
theorem cVal18_r (a tx : Int → Int) (b o : Int) : 0 ≤ cVal a tx 18 b o 0 ∧ cVal a tx 18 b o 0 ≤ 1 := by
  simp only [cVal]
  split
  · omega
  · rw [if_neg (by decide)]
    have := mTru_01 a tx (mClause a tx (18 - 16)) b o
    omega

set_option maxRecDepth 100000 in
set_option maxHeartbeats 4000000 in
theorem c_X9_ruler {B : Bs} {S : Stt} {V : Va} (hS : Stat S) (h18 : 0 ≤ (V 1 8) ∧ (V 1 8) ≤ 4) (h19 : -1 ≤ (V 1 9) ∧ (V 1 9) ≤ 3) : C B yX9_ruler cX9_ruler 1 (some (.object "NineGraves$Text")) 1 0 0 [vR B 1] S V (rQ B S V (if (V 1 9) < 0 ∨ (V 1 8) ≤ (V 1 9) then none else S.2.1 133 (V 1 9))) := by
  refine C.of [some (vR B 1)] ?_
  intro Γ hQ
  refine x_al0 dX9_ruler_0 ?_
  refine x_getI fl_X9_48 (sh_1 hS) (lq_1 hS) dX9_ruler_1 ?_
  refine x_topI (a' := V 1 9) rfl ?_
  refine x_if_lt (tgt := 18) dX9_ruler_4 (inr (by omega)) (fun c4_1 => ?_) (fun c4_1 => ?_)
  · -- 4 lt -> 18
    refine x_null dX9_ruler_18 ?_
    refine x_goto (tgt := 31) dX9_ruler_19 ?_
    exact x_aret (r := none) hQ ⟨(by rw [if_pos (by omega)]), rfl, rfl⟩ dX9_ruler_31
  · -- 4 lt -> 7
    refine x_al0 dX9_ruler_7 ?_
    refine x_getI fl_X9_48 (sh_1 hS) (lq_1 hS) dX9_ruler_8 ?_
    refine x_topI (a' := V 1 9) rfl ?_
    refine x_al0 dX9_ruler_11 ?_
    refine x_getI fl_X9_71 (sh_1 hS) (lq_1 hS) dX9_ruler_12 ?_
    refine x_topI (a' := V 1 8) rfl ?_
    refine x_icmp_lt (tgt := 22) dX9_ruler_15 (inr (by omega)) (inr (by omega)) (fun c15_2 => ?_) (fun c15_2 => ?_)
    · -- 15 lt -> 22
      refine x_al0 dX9_ruler_22 ?_
      refine x_getR fl_X9_37 (sh_1 hS) (lq_1 hS) (rf_1_5 hS) dX9_ruler_23 ?_
      refine x_al0 dX9_ruler_26 ?_
      refine x_getI fl_X9_48 (sh_1 hS) (lq_1 hS) dX9_ruler_27 ?_
      refine x_topI (a' := V 1 9) rfl ?_
      refine x_tald (sh_133 hS) (lq_133 hS) (by omega) (by omega) dX9_ruler_30 ?_
      exact x_aret (r := (S.2.1 133 (V 1 9))) hQ ⟨(by rw [if_neg (by omega)]), rfl, rfl⟩ dX9_ruler_31
    · -- 15 lt -> 18
      refine x_null dX9_ruler_18 ?_
      refine x_goto (tgt := 31) dX9_ruler_19 ?_
      exact x_aret (r := none) hQ ⟨(by rw [if_pos (by omega)]), rfl, rfl⟩ dX9_ruler_31
set_option maxRecDepth 100000 in
set_option maxHeartbeats 4000000 in
theorem c_X2_value {B : Bs} {S : Stt} {V : Va} (clause : Int) (bone : Int) (otherBone : Int) (without : Int) (a : Int → Int) (tx : Int → Int) (hS : Stat S) (hW : WSim V 1 a) (hB : WB V 1) (hM : MIv a) (hTx : TSim S V 133 a tx) (hcl : 16 ≤ clause ∧ clause ≤ 18) (hb : 0 ≤ bone ∧ bone < a 1) (ho : 0 ≤ otherBone ∧ otherBone < a 1) (hwithout : InR without) : C B yX2_value cX2_value 6 (some .int) 4 0 0 [vR B 287, vI clause, vI bone, vI otherBone, vI without] S V (rIc S V (cVal a tx clause bone otherBone without)) := by
  refine C.of [some (vR B 287), some (vI clause), some (vI bone), some (vI otherBone), some (vI without), none] ?_
  intro Γ hQ
  have w7 : V 1 7 = a 0 := hW.1.1
  have w8 : V 1 8 = a 3 := hW.1.2.1
  have w9 : V 1 9 = a 4 := hW.1.2.2
  have w55 : V 5 5 = a 1 := hW.2.2.2.1.1
  have i0 := hM.1.2.1
  have i1 := hM.1.2.2.1
  have i2 := hM.1.2.2.2.1
  have i4 := hM.1.2.2.2.2.1
  have i3 := hM.2.1
  refine x_al0 dX2_value_0 ?_
  refine x_getR fl_X2_15 (sh_287 hS) (lq_287 hS) (rf_287_0 hS) dX2_value_1 ?_
  refine x_cVq mm_X9_ruler ml_X2_23 dX2_value_4 (c_X9_ruler hS (by omega) (by omega)) (sh_1 hS) (lq_1 hS) ?_
  by_cases hru : V 1 9 < 0 ∨ V 1 8 ≤ V 1 9
  · refine x_top (v' := .null) (by rw [if_pos hru]; rfl) ?_
    refine x_ns5 dX2_value_7 ?_
    refine x_nl5 dX2_value_9 ?_
    refine x_isnullN (tgt := 28) dX2_value_11 ?_
    refine x_il4 dX2_value_28 ?_
    exact x_iret hQ ⟨V 287, V 288, congrArg some (congrArg vI (cVal_no (by simp only [mClause]; rw [if_pos (by omega)]; omega))), rfl, lw_self V⟩ dX2_value_30
  obtain ⟨id, cl, cd, e1, e2, e3⟩ := hTx (V 1 9) (by omega) (by omega)
  refine x_top (v' := vR B id) (by rw [if_neg hru, e1]; rfl) ?_
  have hid := e2.1
  rw [w9] at e1 e3
  have h40 : 0 ≤ a 4 := by omega
  refine x_as5 dX2_value_7 ?_
  refine x_al5 dX2_value_9 ?_
  refine x_isnull dX2_value_11 ?_
  refine x_al5 dX2_value_14 ?_
  refine x_getR fl_X2_51 (e2.2.1) ((by have := e2.1.2.1; omega)) (e2.2.2.1.2.2.1) dX2_value_16 ?_
  refine x_il1 dX2_value_19 ?_
  refine x_bipush dX2_value_20 ?_
  refine x_isub dX2_value_22 ?_
  have hfr := e3.2.2.2.1 (clause - 16) (by omega) (by omega)
  have hfq := fSort_r (s := clause - 16) e3.1.2.1
  have hfv : InR (V (id + 3) (clause - 16)) := by rcases hfq with z | z; (have := hfr.1 (by omega); exact inr (by omega)); (have := hfr.2 z.1; have y := this.2.2; have y1 := y.1; have y2 := y.2.1; have y3 := y.2.2.1; exact inr (by omega))
  refine x_iald (e2.2.2.2.2.2.1) ((by have := e2.1.2.1; omega)) (by omega) (by omega) dX2_value_23 ?_
  refine x_topI (a' := (V (id + 3)) (clause - 16)) rfl ?_
  refine x_iconst dX2_value_24 ?_
  refine x_icmp_ne (tgt := 31) dX2_value_25 hfv (inr (by decide)) (fun c25_1 => ?_) (fun c25_1 => ?_)
  · -- 25 ne -> 31
    have hfs : 0 ≤ fSort tx (a 4) (clause - 16) := by rcases hfq with z | z; (have := hfr.1 (by omega); omega); exact z.1
    refine x_al0 dX2_value_31 ?_
    refine x_il2 dX2_value_32 ?_
    refine x_putI fl_X2_54 (sh_287 hS) (lq_287 hS) dX2_value_33 ?_
    refine x_mem (V' := (up V 287 (ua (V 287) 2 bone))) rfl ?_
    refine x_al0 dX2_value_36 ?_
    refine x_il3 dX2_value_37 ?_
    refine x_putI fl_X2_57 (sh_287 hS) (lq_287 hS) dX2_value_38 ?_
    refine x_mem (V' := (up V 287 (ua (ua (V 287) 2 bone) 3 otherBone))) (st2_up _ _ _ _ _) ?_
    refine x_al0 dX2_value_41 ?_
    refine x_al5 dX2_value_42 ?_
    refine x_getR fl_X2_60 (e2.2.1) ((by have := e2.1.2.1; omega)) (e2.2.2.1.2.1) dX2_value_44 ?_
    refine x_al5 dX2_value_47 ?_
    refine x_getR fl_X2_51 (e2.2.1) ((by have := e2.1.2.1; omega)) (e2.2.2.1.2.2.1) dX2_value_49 ?_
    refine x_il1 dX2_value_52 ?_
    refine x_bipush dX2_value_53 ?_
    refine x_isub dX2_value_55 ?_
    refine x_iald (e2.2.2.2.2.2.1) ((by have := e2.1.2.1; omega)) (by omega) (by omega) dX2_value_56 ?_
    refine x_topI (a' := (V (id + 3)) (clause - 16)) (congrFun (up_ne (by omega)) (clause - 16)) ?_
    refine x_al5 dX2_value_57 ?_
    refine x_getR fl_X2_63 (e2.2.1) ((by have := e2.1.2.1; omega)) (e2.2.2.1.2.2.2.1) dX2_value_59 ?_
    refine x_il1 dX2_value_62 ?_
    refine x_bipush dX2_value_63 ?_
    refine x_isub dX2_value_65 ?_
    refine x_iald (e2.2.2.2.2.2.2.1) ((by have := e2.1.2.1; omega)) (by omega) (by omega) dX2_value_66 ?_
    refine x_topI (a' := (V (id + 4)) (clause - 16)) (congrFun (up_ne (by omega)) (clause - 16)) ?_
    have hWc : WSim (up V 287 (ua (ua (V 287) 2 bone) 3 otherBone)) 1 a := WSim_c (fun q q0 q1 => up_ne (by omega)) hW
    obtain ⟨t1, t2, r1, r2, r3, r4, r5⟩ := (e3.2.2.2.1 (clause - 16) (by omega) (by omega)).2 hfs
    refine x_cVih mm_X2_reckon ml_X2_66 dX2_value_67 (c_X2_reckon (id + 2) (V (id + 3) (clause - 16)) (V (id + 4) (clause - 16)) cd (mNm a zf bone otherBone) (tOp tx (a 4)) (tArg tx (a 4)) (if clause - 16 = 0 then 1 else 0) (if clause - 16 = 0 then 0 else 1) hS e2.2.2.2.2.1 (by have := e2.1.2.1; omega) (by omega) (by rw [t1, t2]; exact ⟨r1, r2, r3⟩) (fun q q0 q1 => by rw [up_ne (by omega)]; exact e3.2.2.1 q (by omega) (by omega)) (by rw [t1, t2]; exact r4) (by by_cases z : clause - 16 = 0; (rw [if_pos z, if_pos z]; exact Or.inl ⟨rfl, rfl⟩); (rw [if_neg z, if_neg z]; exact Or.inr ⟨rfl, rfl⟩)) (cName_eq hWc hM rfl rfl hb ho) (fun k _ _ => AB_mNm hM.1.1 AB_zf bone otherBone k) (show (0 ≤ bone ∧ bone < 16) ∧ 0 ≤ otherBone ∧ otherBone < 16 by omega) (show 0 ≤ V 1 7 ∧ V 1 7 ≤ 10 by omega) hB.2.2.2.1) (sh_287 hS) (lq_287 hS) (fun r h hr => ?_)
    rw [t1, t2] at hr
    refine x_mem (V' := (up (up V 287 (ua (ua (V 287) 2 bone) 3 otherBone)) 288 h)) rfl ?_
    exact x_iret hQ ⟨ua (ua (V 287) 2 bone) 3 otherBone, h, congrArg some (congrArg vI (cVal_fin hcl h40 hfs hr).symm), rfl, rfl⟩ dX2_value_70
  · -- 25 ne -> 28
    refine x_il4 dX2_value_28 ?_
    exact x_iret hQ ⟨V 287, V 288, congrArg some (congrArg vI (cVal_no (by rw [mClause_f h40]; rcases hfq with z | z; omega; (have := (hfr.2 z.1).1; have := (hfr.2 z.1).2.2.1; omega)))), rfl, lw_self V⟩ dX2_value_30
set_option maxRecDepth 100000 in
set_option maxHeartbeats 4000000 in
theorem c_X2_isHoly {B : Bs} {S : Stt} {V : Va} (bone : Int) (a : Int → Int) (tx : Int → Int) (hS : Stat S) (hW : WSim V 1 a) (hB : WB V 1) (hM : MIv a) (hTx : TSim S V 133 a tx) (hb : 0 ≤ bone ∧ bone < a 1) : C B yX2_isHoly cX2_isHoly 2 (some .boolean) 5 0 0 [vR B 287, vI bone] S V (rIc S V (if mHoly a tx bone then 1 else 0)) := by
  refine C.of [some (vR B 287), some (vI bone)] ?_
  intro Γ hQ
  have w7 : V 1 7 = a 0 := hW.1.1
  have w8 : V 1 8 = a 3 := hW.1.2.1
  have w9 : V 1 9 = a 4 := hW.1.2.2
  have w55 : V 5 5 = a 1 := hW.2.2.2.1.1
  have i0 := hM.1.2.1
  have i1 := hM.1.2.2.1
  have i2 := hM.1.2.2.2.1
  have i4 := hM.1.2.2.2.2.1
  have i3 := hM.2.1
  refine x_al0 dX2_isHoly_0 ?_
  refine x_bipush dX2_isHoly_1 ?_
  refine x_il1 dX2_isHoly_3 ?_
  refine x_il1 dX2_isHoly_4 ?_
  refine x_iconst dX2_isHoly_5 ?_
  refine x_cVic mm_X2_value ml_X2_19 dX2_isHoly_6 (c_X2_value 17 bone bone 1 a tx hS hW hB hM hTx (by omega) hb hb (inr (by decide))) (sh_287 hS) (lq_287 hS) (fun f1 g1 => ?_)
  refine x_if_eq (tgt := 16) dX2_isHoly_9 (inr (by have := cVal17_r a tx bone bone; omega)) (fun c9_2 => ?_) (fun c9_2 => ?_)
  · -- 9 eq -> 16
    refine x_iconst dX2_isHoly_16 ?_
    exact x_zret hQ ⟨f1, g1, congrArg some (congrArg vI (by first | (rw [if_pos ((holy_c hTx i3.2.2).mp (by omega))]) | (rw [if_neg (fun z => by have := (holy_c hTx i3.2.2).mpr z; omega)]))), rfl, rfl⟩ (by decide) dX2_isHoly_17
  · -- 9 eq -> 12
    refine x_iconst dX2_isHoly_12 ?_
    refine x_goto (tgt := 17) dX2_isHoly_13 ?_
    exact x_zret hQ ⟨f1, g1, congrArg some (congrArg vI (by first | (rw [if_pos ((holy_c hTx i3.2.2).mp (by omega))]) | (rw [if_neg (fun z => by have := (holy_c hTx i3.2.2).mpr z; omega)]))), rfl, rfl⟩ (by decide) dX2_isHoly_17
set_option maxRecDepth 100000 in
set_option maxHeartbeats 4000000 in
theorem c_X2_manyOf {B : Bs} {S : Stt} {V : Va} (kind : Int) (a : Int → Int) (tx : Int → Int) (hS : Stat S) (hW : WSim V 1 a) (hB : WB V 1) (hM : MIv a) (hTx : TSim S V 133 a tx) (hk : 0 ≤ kind ∧ kind ≤ 19) : C B yX2_manyOf cX2_manyOf 3 (some .int) 2 0 0 [vR B 287, vI kind] S V (rI S V (mMany a tx kind)) := by
  refine C.of [some (vR B 287), some (vI kind), none] ?_
  intro Γ hQ
  have w7 : V 1 7 = a 0 := hW.1.1
  have w8 : V 1 8 = a 3 := hW.1.2.1
  have w9 : V 1 9 = a 4 := hW.1.2.2
  have w55 : V 5 5 = a 1 := hW.2.2.2.1.1
  have i0 := hM.1.2.1
  have i1 := hM.1.2.2.1
  have i2 := hM.1.2.2.2.1
  have i4 := hM.1.2.2.2.2.1
  have i3 := hM.2.1
  refine x_al0 dX2_manyOf_0 ?_
  refine x_getR fl_X2_15 (sh_287 hS) (lq_287 hS) (rf_287_0 hS) dX2_manyOf_1 ?_
  refine x_cVq mm_X9_ruler ml_X2_23 dX2_manyOf_4 (c_X9_ruler hS (by omega) (by omega)) (sh_1 hS) (lq_1 hS) ?_
  by_cases hru : V 1 9 < 0 ∨ V 1 8 ≤ V 1 9
  · refine x_top (v' := .null) (by rw [if_pos hru]; rfl) ?_
    refine x_ns2 dX2_manyOf_7 ?_
    refine x_nl2 dX2_manyOf_8 ?_
    refine x_isnullN (tgt := 21) dX2_manyOf_9 ?_
    refine x_iconst dX2_manyOf_21 ?_
    refine x_goto (tgt := 31) dX2_manyOf_22 ?_
    exact x_iret hQ (rI.mk (by have e : mManyK a tx kind < 0 := (by simp only [mManyK]; rw [if_pos (by omega)]; omega); simp only [mMany]; rw [if_pos e]) rfl) dX2_manyOf_31
  obtain ⟨id, cl, cd, e1, e2, e3⟩ := hTx (V 1 9) (by omega) (by omega)
  refine x_top (v' := vR B id) (by rw [if_neg hru, e1]; rfl) ?_
  have hid := e2.1
  rw [w9] at e1 e3
  have h40 : 0 ≤ a 4 := by omega
  refine x_as2 dX2_manyOf_7 ?_
  refine x_al2 dX2_manyOf_8 ?_
  refine x_isnull dX2_manyOf_9 ?_
  refine x_al2 dX2_manyOf_12 ?_
  refine x_getR fl_X2_29 (e2.2.1) ((by have := e2.1.2.1; omega)) (e2.2.2.1.2.2.2.2) dX2_manyOf_13 ?_
  refine x_il1 dX2_manyOf_16 ?_
  have hmy := many_c (S := S) hk h40 e3
  refine x_iald (e2.2.2.2.2.2.2.2) ((by have := e2.1.2.1; omega)) (by omega) (by omega) dX2_manyOf_17 ?_
  refine x_topI (a' := (V (id + 5)) kind) rfl ?_
  refine x_if_ne (tgt := 25) dX2_manyOf_18 (inr (by omega)) (fun c18_1 => ?_) (fun c18_1 => ?_)
  · -- 18 ne -> 25
    refine x_al2 dX2_manyOf_25 ?_
    refine x_getR fl_X2_29 (e2.2.1) ((by have := e2.1.2.1; omega)) (e2.2.2.1.2.2.2.2) dX2_manyOf_26 ?_
    refine x_il1 dX2_manyOf_29 ?_
    refine x_iald (e2.2.2.2.2.2.2.2) ((by have := e2.1.2.1; omega)) (by omega) (by omega) dX2_manyOf_30 ?_
    refine x_topI (a' := (V (id + 5)) kind) rfl ?_
    exact x_iret hQ (rI.mk (by rw [← hmy.1]; first | (rw [if_pos (by omega)]) | (rw [if_neg (by omega)])) rfl) dX2_manyOf_31
  · -- 18 ne -> 21
    refine x_iconst dX2_manyOf_21 ?_
    refine x_goto (tgt := 31) dX2_manyOf_22 ?_
    exact x_iret hQ (rI.mk (by rw [← hmy.1]; first | (rw [if_pos (by omega)]) | (rw [if_neg (by omega)])) rfl) dX2_manyOf_31
