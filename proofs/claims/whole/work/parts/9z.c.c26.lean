set_option maxRecDepth 100000 in
set_option maxHeartbeats 4000000 in
theorem c_X6_areUnlike {B : Bs} {S : Stt} {V : Va} (one : Int) (other : Int) (a : Int → Int) (tx : Int → Int) (hS : Stat S) (hW : WSim V 1 a) (hB : WB V 1) (hM : MIv a) (hTx : TSim S V 133 a tx) (hn1 : 0 ≤ one ∧ one < a 1) (hn2 : 0 ≤ other ∧ other < a 1) : C B yX6_areUnlike cX6_areUnlike 3 (some .boolean) 5 0 0 [vR B 289, vI one, vI other] S V (rIc S V (if mUnl a tx one other then 1 else 0)) := by
  refine C.of [some (vR B 289), some (vI one), some (vI other)] ?_
  intro Γ hQ
  have w7 : V 1 7 = a 0 := hW.1.1
  have w8 : V 1 8 = a 3 := hW.1.2.1
  have w9 : V 1 9 = a 4 := hW.1.2.2
  have w55 : V 5 5 = a 1 := hW.2.2.2.1.1
  have i0 := hM.1.2.1
  have i1 := hM.1.2.2.1
  have i2 := hM.1.2.2.2.1
  have i4 := hM.1.2.2.2.2.1
  have i3 := hM.2.1
  refine x_al0 dX6_areUnlike_0 ?_
  refine x_getR fl_X6_41 (sh_289 hS) (lq_289 hS) (rf_289_1 hS) dX6_areUnlike_1 ?_
  refine x_bipush dX6_areUnlike_4 ?_
  refine x_il1 dX6_areUnlike_6 ?_
  refine x_il2 dX6_areUnlike_7 ?_
  refine x_iconst dX6_areUnlike_8 ?_
  refine x_cVic mm_X2_value ml_X6_105 dX6_areUnlike_9 (c_X2_value 18 one other 0 a tx hS hW hB hM hTx (by omega) hn1 hn2 (inr (by decide))) (sh_287 hS) (lq_287 hS) (fun f1 g1 => ?_)
  refine x_if_ne (tgt := 30) dX6_areUnlike_12 (inr (by have := cVal18_r a tx one other; omega)) (fun c12_2 => ?_) (fun c12_2 => ?_)
  · -- 12 ne -> 30
    refine x_iconst dX6_areUnlike_30 ?_
    refine x_goto (tgt := 35) dX6_areUnlike_31 ?_
    exact x_zret hQ ⟨f1, g1, congrArg some (congrArg vI (by first | (rw [if_pos (unl_c.mp (by omega))]) | (rw [if_neg (fun z => by have := unl_c.mpr z; omega)]))), rfl, rfl⟩ (by decide) dX6_areUnlike_35
  · -- 12 ne -> 15
    refine x_al0 dX6_areUnlike_15 ?_
    refine x_getR fl_X6_41 (sh_289 hS) (lq_289 hS) (rf_289_1 hS) dX6_areUnlike_16 ?_
    refine x_bipush dX6_areUnlike_19 ?_
    refine x_il2 dX6_areUnlike_21 ?_
    refine x_il1 dX6_areUnlike_22 ?_
    refine x_iconst dX6_areUnlike_23 ?_
    refine x_cVic mm_X2_value ml_X6_105 dX6_areUnlike_24 (c_X2_value 18 other one 0 a tx hS (WSim_c (fun q q0 q1 => (up_ne (by omega)).trans (up_ne (by omega))) hW) (WB_c (fun q q0 q1 => (up_ne (by omega)).trans (up_ne (by omega))) hB) hM (TSim_c (fun q hq => (up_ne (by omega)).trans (up_ne (by omega))) rfl hTx) (by omega) hn2 hn1 (inr (by decide))) (sh_287 hS) (lq_287 hS) (fun f3 g3 => ?_)
    refine x_mem (V' := (up (up V 287 f3) 288 g3)) (Eq.trans (congrArg (fun z => up z 288 _) (up_k (by decide) (up_up _ _ _ _))) (up_up _ _ _ _)) ?_
    refine x_if_eq (tgt := 34) dX6_areUnlike_27 (inr (by have := cVal18_r a tx other one; omega)) (fun c27_4 => ?_) (fun c27_4 => ?_)
    · -- 27 eq -> 34
      refine x_iconst dX6_areUnlike_34 ?_
      exact x_zret hQ ⟨f3, g3, congrArg some (congrArg vI (by first | (rw [if_pos (unl_c.mp (by omega))]) | (rw [if_neg (fun z => by have := unl_c.mpr z; omega)]))), rfl, rfl⟩ (by decide) dX6_areUnlike_35
    · -- 27 eq -> 30
      refine x_iconst dX6_areUnlike_30 ?_
      refine x_goto (tgt := 35) dX6_areUnlike_31 ?_
      exact x_zret hQ ⟨f3, g3, congrArg some (congrArg vI (by first | (rw [if_pos (unl_c.mp (by omega))]) | (rw [if_neg (fun z => by have := unl_c.mpr z; omega)]))), rfl, rfl⟩ (by decide) dX6_areUnlike_35
