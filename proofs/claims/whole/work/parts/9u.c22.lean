set_option maxRecDepth 100000 in
set_option maxHeartbeats 4000000 in
theorem c_X1_count {B : Bs} {S : Stt} {V : Va} (a : Int → Int) (hS : Stat S) (hW : WSim V 1 a) (hB : WB V 1) (hM : MIv a) (hch : 0 ≤ (V 1 10) ∧ (V 1 10) ≤ 1000000) (hPI : PsI a V) : C B yX1_count cX1_count 1 (some .long) 5 0 0 [vR B 297] S V (rLR S ((mDP (smf a) a (a 6) (a 6).toNat 0).2) (fun VN => FrP V VN ∧ PsI a VN)) := by
  refine C.of [some (vR B 297)] ?_
  intro Γ hQ
  refine x_al0 dX1_count_0 ?_
  refine x_cVvR mm_X1_solve ml_X1_36 dX1_count_1 (c_X1_solve a hS hW hB hM hch hPI.2.2.1 hPI.1 hPI.2.1) (sh_297 hS) (lq_297 hS) (fun W1 hw1 => ?_)
  have hz0 := hw1.2.1 0
  have hzE := hw1.2.2.1
  have hzI := PsI_of hw1 hch
  refine x_al0 dX1_count_4 ?_
  refine x_getR fl_X1_25 (sh_297 hS) (lq_297 hS) (rf_297_6 hS) dX1_count_5 ?_
  refine x_iconst dX1_count_8 ?_
  refine x_lald (sh_302 hS) (lq_302 hS) (by omega) (by omega) dX1_count_9 ?_
  refine x_topL (a' := W1 302 0) rfl ?_
  exact x_lret hQ ⟨(by rw [hzE.2.1]), rfl, hzI⟩ dX1_count_10
set_option maxRecDepth 100000 in
set_option maxHeartbeats 4000000 in
theorem c_X10_histories {B : Bs} {S : Stt} {V : Va} (a : Int → Int) (hS : Stat S) (hW : WSim V 1 a) (hB : WB V 1) (hM : MIv a) (hch : 0 ≤ (V 1 10) ∧ (V 1 10) ≤ 1000000) (hPI : PsI a V) : C B yX10_histories cX10_histories 1 (some .long) 6 0 0 [vR B 0] S V (rLR S ((mDP (smf a) a (a 6) (a 6).toNat 0).2) (fun VN => FrP V VN ∧ PsI a VN)) := by
  refine C.of [some (vR B 0)] ?_
  intro Γ hQ
  refine x_al0 dX10_histories_0 ?_
  refine x_getR fl_X10_47 (sh_0 hS) (lq_0 hS) (rf_0_5 hS) dX10_histories_1 ?_
  refine x_cVlR mm_X1_count ml_X10_194 dX10_histories_4 (c_X1_count a hS hW hB hM hch hPI) (sh_297 hS) (lq_297 hS) (fun W1 hw1 => ?_)
  exact x_lret hQ ⟨rfl, rfl, hw1⟩ dX10_histories_7
