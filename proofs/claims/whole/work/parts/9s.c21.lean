set_option maxRecDepth 100000 in
set_option maxHeartbeats 4000000 in
theorem c_X10_best {B : Bs} {S : Stt} {V : Va} (what : Int) (a : Int → Int) (hS : Stat S) (hW : WSim V 1 a) (hB : WB V 1) (hM : MIv a) (hch : 0 ≤ (V 1 10) ∧ (V 1 10) ≤ 1000000) (hPI : PsI a V) (hwhat : InR what) : C B yX10_best cX10_best 2 (some .int) 6 0 0 [vR B 0, vI what] S V (rIR S (if 0 ≤ what ∧ what ≤ 1 then (if what = 0 then (mDP (smf a) a (a 6) (a 6).toNat 0).1 / 100 else (mDP (smf a) a (a 6) (a 6).toNat 0).1 % 100) else -1) (fun VN => FrP V VN ∧ PsI a VN)) := by
  refine C.of [some (vR B 0), some (vI what)] ?_
  intro Γ hQ
  refine x_il1 dX10_best_0 ?_
  by_cases hs1 : what = 0
  · refine x_lsw (tgt := 28) (off := 27) dX10_best_1 (inr (by omega)) (by rw [hs1]; rfl) ?_
    refine x_al0 dX10_best_28 ?_
    refine x_getR fl_X10_47 (sh_0 hS) (lq_0 hS) (rf_0_5 hS) dX10_best_29 ?_
    refine x_cViR mm_X1_bones ml_X10_189 dX10_best_32 (c_X1_bones a hS hW hB hM hch hPI) (sh_297 hS) (lq_297 hS) (fun W2 hw2 => ?_)
    exact x_iret hQ ⟨(by rw [if_pos (by omega), if_pos (by omega)]), rfl, hw2⟩ dX10_best_35
  by_cases hs3 : what = 1
  · refine x_lsw (tgt := 36) (off := 35) dX10_best_1 (inr (by omega)) (by rw [hs3]; rfl) ?_
    refine x_al0 dX10_best_36 ?_
    refine x_getR fl_X10_47 (sh_0 hS) (lq_0 hS) (rf_0_5 hS) dX10_best_37 ?_
    refine x_cViR mm_X1_thefts ml_X10_191 dX10_best_40 (c_X1_thefts a hS hW hB hM hch hPI) (sh_297 hS) (lq_297 hS) (fun W4 hw4 => ?_)
    exact x_iret hQ ⟨(by rw [if_pos (by omega), if_neg (by omega)]), rfl, hw4⟩ dX10_best_43
  refine x_lsw (tgt := 44) (off := 43) dX10_best_1 (inr (by omega)) (by simp [Op.lookupswitch.offset, Ne.symm hs1, hs1, Ne.symm hs3, hs3]) ?_
  refine x_iconst dX10_best_44 ?_
  exact x_iret hQ ⟨(by rw [if_neg (by omega)]), rfl, fun q _ => rfl, hPI⟩ dX10_best_45
set_option maxRecDepth 100000 in
set_option maxHeartbeats 4000000 in
theorem c_X10_led {B : Bs} {S : Stt} {V : Va} (one : Int) (a : Int → Int) (hS : Stat S) (hW : WSim V 1 a) (hB : WB V 1) (hM : MIv a) (hch : 0 ≤ (V 1 10) ∧ (V 1 10) ≤ 1000000) (hPI : PsI a V) (hone : InR one) : C B yX10_led cX10_led 2 (some .int) 6 0 0 [vR B 0, vI one] S V (rIR S (if 0 ≤ one ∧ one ≤ a 6 - 1 then lCh (smf a) a (a 6) one (lSet (smf a) a (a 6) one.toNat) else -2) (fun VN => FrP V VN ∧ PsI a VN)) := by
  refine C.of [some (vR B 0), some (vI one)] ?_
  intro Γ hQ
  have s4 : V 134 4 = a 6 := hW.2.2.2.2.2.1
  have i6 := hM.2.2.1
  refine x_il1 dX10_led_0 ?_
  refine x_if_lt (tgt := 18) dX10_led_1 (inr (by omega)) (fun c1_1 => ?_) (fun c1_1 => ?_)
  · -- 1 lt -> 18
    refine x_bipush dX10_led_18 ?_
    exact x_iret hQ ⟨(by rw [if_neg (by omega)]), rfl, fun q _ => rfl, hPI⟩ dX10_led_20
  · -- 1 lt -> 4
    refine x_il1 dX10_led_4 ?_
    refine x_al0 dX10_led_5 ?_
    refine x_getR fl_X10_12 (sh_0 hS) (lq_0 hS) (rf_0_0 hS) dX10_led_6 ?_
    refine x_getR fl_X10_197 (sh_1 hS) (lq_1 hS) (rf_1_6 hS) dX10_led_9 ?_
    refine x_getI fl_X10_201 (sh_134 hS) (lq_134 hS) dX10_led_12 ?_
    refine x_topI (a' := V 134 4) rfl ?_
    refine x_icmp_lt (tgt := 21) dX10_led_15 (inr (by omega)) (inr (by omega)) (fun c15_2 => ?_) (fun c15_2 => ?_)
    · -- 15 lt -> 21
      refine x_al0 dX10_led_21 ?_
      refine x_getR fl_X10_47 (sh_0 hS) (lq_0 hS) (rf_0_5 hS) dX10_led_22 ?_
      refine x_il1 dX10_led_25 ?_
      refine x_cViR mm_X1_aheadOf ml_X10_204 dX10_led_26 (c_X1_aheadOf one a hS hW hB hM hch hPI (by omega)) (sh_297 hS) (lq_297 hS) (fun W3 hw3 => ?_)
      exact x_iret hQ ⟨(by rw [if_pos (by omega)]), rfl, hw3⟩ dX10_led_29
    · -- 15 lt -> 18
      refine x_bipush dX10_led_18 ?_
      exact x_iret hQ ⟨(by rw [if_neg (by omega)]), rfl, fun q _ => rfl, hPI⟩ dX10_led_20
