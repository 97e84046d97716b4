set_option maxRecDepth 100000 in
set_option maxHeartbeats 4000000 in
theorem c_X1_bones {B : Bs} {S : Stt} {V : Va} (a : Int → Int) (hS : Stat S) (hW : WSim V 1 a) (hB : WB V 1) (hM : MIv a) (hch : 0 ≤ (V 1 10) ∧ (V 1 10) ≤ 1000000) (hPI : PsI a V) : C B yX1_bones cX1_bones 1 (some .int) 5 0 0 [vR B 297] S V (rIR S ((mDP (smf a) a (a 6) (a 6).toNat 0).1 / 100) (fun VN => FrP V VN ∧ PsI a VN)) := by
  refine C.of [some (vR B 297)] ?_
  intro Γ hQ
  refine x_al0 dX1_bones_0 ?_
  refine x_cVvR mm_X1_solve ml_X1_36 dX1_bones_1 (c_X1_solve a hS hW hB hM hch hPI.2.2.1 hPI.1 hPI.2.1) (sh_297 hS) (lq_297 hS) (fun W1 hw1 => ?_)
  have hz0 := hw1.2.1 0
  have hzE := hw1.2.2.1
  have hzI := PsI_of hw1 hch
  refine x_al0 dX1_bones_4 ?_
  refine x_getR fl_X1_22 (sh_297 hS) (lq_297 hS) (rf_297_5 hS) dX1_bones_5 ?_
  refine x_iconst dX1_bones_8 ?_
  refine x_lald (sh_301 hS) (lq_301 hS) (by omega) (by omega) dX1_bones_9 ?_
  refine x_topL (a' := W1 301 0) rfl ?_
  refine x_bipush dX1_bones_10 ?_
  refine x_lshr (inl_ (by omega)) (dv_inl hz0) (by decide) (by decide) dX1_bones_12 ?_
  refine x_l2i dX1_bones_13 ?_
  exact x_iret hQ ⟨(by rw [ps_b hzE]), rfl, hzI⟩ dX1_bones_14
set_option maxRecDepth 100000 in
set_option maxHeartbeats 4000000 in
theorem c_X1_thefts {B : Bs} {S : Stt} {V : Va} (a : Int → Int) (hS : Stat S) (hW : WSim V 1 a) (hB : WB V 1) (hM : MIv a) (hch : 0 ≤ (V 1 10) ∧ (V 1 10) ≤ 1000000) (hPI : PsI a V) : C B yX1_thefts cX1_thefts 1 (some .int) 5 0 0 [vR B 297] S V (rIR S ((mDP (smf a) a (a 6) (a 6).toNat 0).1 % 100) (fun VN => FrP V VN ∧ PsI a VN)) := by
  refine C.of [some (vR B 297)] ?_
  intro Γ hQ
  refine x_al0 dX1_thefts_0 ?_
  refine x_cVvR mm_X1_solve ml_X1_36 dX1_thefts_1 (c_X1_solve a hS hW hB hM hch hPI.2.2.1 hPI.1 hPI.2.1) (sh_297 hS) (lq_297 hS) (fun W1 hw1 => ?_)
  have hz0 := hw1.2.1 0
  have hzE := hw1.2.2.1
  have hzI := PsI_of hw1 hch
  refine x_al0 dX1_thefts_4 ?_
  refine x_getR fl_X1_22 (sh_297 hS) (lq_297 hS) (rf_297_5 hS) dX1_thefts_5 ?_
  refine x_iconst dX1_thefts_8 ?_
  refine x_lald (sh_301 hS) (lq_301 hS) (by omega) (by omega) dX1_thefts_9 ?_
  refine x_topL (a' := W1 301 0) rfl ?_
  refine x_bipush dX1_thefts_10 ?_
  refine x_lshr (inl_ (by omega)) (dv_inl hz0) (by decide) (by decide) dX1_thefts_12 ?_
  refine x_ldc2 (a := 15) kl_X1_39 (by decide) dX1_thefts_13 ?_
  refine x_land (Int.ediv_nonneg hz0.1 (Int.le_of_lt (p2_pos _))) (by decide) dX1_thefts_16 ?_
  refine x_l2i dX1_thefts_17 ?_
  exact x_iret hQ ⟨(by rw [ps_t hzE hz0.1]), rfl, hzI⟩ dX1_thefts_18
set_option maxRecDepth 100000 in
set_option maxHeartbeats 4000000 in
theorem c_X1_aheadOf {B : Bs} {S : Stt} {V : Va} (one : Int) (a : Int → Int) (hS : Stat S) (hW : WSim V 1 a) (hB : WB V 1) (hM : MIv a) (hch : 0 ≤ (V 1 10) ∧ (V 1 10) ≤ 1000000) (hPI : PsI a V) (ho : 0 ≤ one ∧ one < a 6) : C B yX1_aheadOf cX1_aheadOf 2 (some .int) 5 0 0 [vR B 297, vI one] S V (rIR S (lCh (smf a) a (a 6) one (lSet (smf a) a (a 6) one.toNat)) (fun VN => FrP V VN ∧ PsI a VN)) := by
  refine C.of [some (vR B 297), some (vI one)] ?_
  intro Γ hQ
  have i6 := hM.2.2.1
  refine x_al0 dX1_aheadOf_0 ?_
  refine x_cVvR mm_X1_solve ml_X1_36 dX1_aheadOf_1 (c_X1_solve a hS hW hB hM hch hPI.2.2.1 hPI.1 hPI.2.1) (sh_297 hS) (lq_297 hS) (fun W1 hw1 => ?_)
  have hz0 := hw1.2.1 0
  have hzE := hw1.2.2.1
  have hzI := PsI_of hw1 hch
  refine x_al0 dX1_aheadOf_4 ?_
  refine x_getR fl_X1_22 (sh_297 hS) (lq_297 hS) (rf_297_5 hS) dX1_aheadOf_5 ?_
  refine x_iconst dX1_aheadOf_8 ?_
  refine x_lald (sh_301 hS) (lq_301 hS) (by omega) (by omega) dX1_aheadOf_9 ?_
  refine x_topL (a' := W1 301 0) rfl ?_
  refine x_il1 dX1_aheadOf_10 ?_
  refine x_cSi mm_X1_digitOf ml_X1_41 dX1_aheadOf_11 (c_X1_digitOf one (by omega)) ?_
  refine x_lshr (inl_ (by omega)) (dv_inl hz0) (by omega) (by omega) dX1_aheadOf_14 ?_
  refine x_ldc2 (a := 15) kl_X1_39 (by decide) dX1_aheadOf_15 ?_
  refine x_land (Int.ediv_nonneg hz0.1 (Int.le_of_lt (p2_pos _))) (by decide) dX1_aheadOf_18 ?_
  refine x_l2i dX1_aheadOf_19 ?_
  refine x_iconst dX1_aheadOf_20 ?_
  refine x_isub dX1_aheadOf_21 ?_
  exact x_iret hQ ⟨(by rw [ps_l hzE hz0.1 i6 ho.1 ho.2]), rfl, hzI⟩ dX1_aheadOf_22
