set_option maxRecDepth 100000 in
set_option maxHeartbeats 4000000 in
theorem c_X10_image {B : Bs} {S : Stt} {V : Va} (a : Int → Int) (hS : Stat S) (hBb : WB V 139) (hBc : WB V 1) (hWc : WSim V 1 a) (hM : MIv a) (hchb : 0 ≤ (V 139 10) ∧ (V 139 10) ≤ 1000000) (hTr : ∀ k j, S.2.1 133 k = some j → S.1 j = (13, 0) ∧ j < S.2.2) : C B yX10_image cX10_image 1 (some .int) 4 0 0 [vR B 0] S V (rIR (tcpS S 271 133) (a 2) (fun VN => WSim VN 139 a ∧ WB VN 139 ∧ (∀ q : Nat, q < 139 ∨ 276 < q → VN q = V q) ∧ VN 139 10 = V 139 10 + 1)) := by
  refine C.of [some (vR B 0)] ?_
  intro Γ hQ
  have i1 := hM.1.2.2.1
  refine x_al0 dX10_image_0 ?_
  refine x_getR fl_X10_16 (sh_0 hS) (lq_0 hS) (rf_0_1 hS) dX10_image_1 ?_
  refine x_al0 dX10_image_4 ?_
  refine x_getR fl_X10_12 (sh_0 hS) (lq_0 hS) (rf_0_0 hS) dX10_image_5 ?_
  refine x_cVvR mm_X9_become ml_X10_242 dX10_image_8 (c_X9_become_139 hS hBb hBc (by have z := hWc.2.2.2.1.1; show 0 ≤ V 5 5 ∧ V 5 5 ≤ 16; rw [z]; omega) hchb hTr) (sh_139 hS) (lq_139 hS) (fun W1 hw1 => ?_)
  obtain ⟨S1, hS1e⟩ : ∃ z : Stt, z = tcpS S 271 133 := ⟨_, rfl⟩
  rw [← hS1e]
  have hS1 : Stat S1 := by rw [hS1e]; exact Stat_tcp hS (by omega) (by omega)
  refine x_al0 dX10_image_11 ?_
  refine x_getR fl_X10_12 (sh_0 hS1) (lq_0 hS1) (rf_0_0 hS1) dX10_image_12 ?_
  refine x_getR fl_X10_140 (sh_1 hS1) (lq_1 hS1) (rf_1_3 hS1) dX10_image_15 ?_
  refine x_getI fl_X10_245 (sh_5 hS1) (lq_5 hS1) dX10_image_18 ?_
  refine x_topI (a' := W1 5 6) rfl ?_
  exact x_iret hQ ⟨(by rw [show W1 5 6 = a 2 from ((congrFun (hw1.2.2.1 5 (by omega)) 6).trans hWc.2.2.2.1.2.1)]), hS1e.symm, hw1.1 a hM hWc, hw1.2⟩ dX10_image_21
set_option maxRecDepth 100000 in
set_option maxHeartbeats 4000000 in
theorem c_X10_back {B : Bs} {S : Stt} {V : Va} (a : Int → Int) (hS : Stat S) (hBb : WB V 1) (hBc : WB V 139) (hWc : WSim V 139 a) (hM : MIv a) (hchb : 0 ≤ (V 1 10) ∧ (V 1 10) ≤ 1000000) (hTr : ∀ k j, S.2.1 271 k = some j → S.1 j = (13, 0) ∧ j < S.2.2) : C B yX10_back cX10_back 1 (some .int) 4 0 0 [vR B 0] S V (rIR (tcpS S 133 271) (a 2) (fun VN => WSim VN 1 a ∧ WB VN 1 ∧ (∀ q : Nat, q < 1 ∨ 138 < q → VN q = V q) ∧ VN 1 10 = V 1 10 + 1)) := by
  refine C.of [some (vR B 0)] ?_
  intro Γ hQ
  have i1 := hM.1.2.2.1
  refine x_al0 dX10_back_0 ?_
  refine x_getR fl_X10_12 (sh_0 hS) (lq_0 hS) (rf_0_0 hS) dX10_back_1 ?_
  refine x_al0 dX10_back_4 ?_
  refine x_getR fl_X10_16 (sh_0 hS) (lq_0 hS) (rf_0_1 hS) dX10_back_5 ?_
  refine x_cVvR mm_X9_become ml_X10_242 dX10_back_8 (c_X9_become_1 hS hBb hBc (by have z := hWc.2.2.2.1.1; show 0 ≤ V 143 5 ∧ V 143 5 ≤ 16; rw [z]; omega) hchb hTr) (sh_1 hS) (lq_1 hS) (fun W1 hw1 => ?_)
  obtain ⟨S1, hS1e⟩ : ∃ z : Stt, z = tcpS S 133 271 := ⟨_, rfl⟩
  rw [← hS1e]
  have hS1 : Stat S1 := by rw [hS1e]; exact Stat_tcp hS (by omega) (by omega)
  refine x_al0 dX10_back_11 ?_
  refine x_getR fl_X10_12 (sh_0 hS1) (lq_0 hS1) (rf_0_0 hS1) dX10_back_12 ?_
  refine x_getR fl_X10_140 (sh_1 hS1) (lq_1 hS1) (rf_1_3 hS1) dX10_back_15 ?_
  refine x_getI fl_X10_245 (sh_5 hS1) (lq_5 hS1) dX10_back_18 ?_
  refine x_topI (a' := W1 5 6) rfl ?_
  exact x_iret hQ ⟨(by rw [show W1 5 6 = a 2 from (hw1.1 a hM hWc).2.2.2.1.2.1]), hS1e.symm, hw1.1 a hM hWc, hw1.2⟩ dX10_back_21
