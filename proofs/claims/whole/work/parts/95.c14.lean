set_option maxRecDepth 100000 in
set_option maxHeartbeats 4000000 in
theorem c_X10_round {B : Bs} {S : Stt} {V : Va} (sm : Int) (i : Int) (a : Int → Int) (hS : Stat S) (hW : WSim V 1 a) (hB : WB V 1) (hM : MIv a) (hRB : RdB V) (hRC : RdC a V) (hch : 0 ≤ (V 1 10) ∧ (V 1 10) ≤ 1000000) (h36 : InR (V 303 6) ∧ InR (V 303 7)) (hsm : InR sm) (hi : InR i) : C B yX10_round cX10_round 3 (some .int) 6 0 0 [vR B 0, vI sm, vI i] S V (rIX S (fun r VN => RoR a sm i r ∧ FrR V VN ∧ RdB VN ∧ RdC a VN)) := by
  refine C.of [some (vR B 0), some (vI sm), some (vI i)] ?_
  intro Γ hQ
  have w7 : V 1 7 = a 0 := hW.1.1
  have i0 := hM.1.2.1
  have hpb := p2_le (t := V 1 7) (u := 10) (by omega)
  have hp10 : p2 10 = 1024 := by decide
  have hb16 := bN_r sm 16 (by omega)
  rw [← w7] at i0
  have h17 := i0
  have w8 : p2 (V 1 7) = p2 (a 0) := by rw [w7]
  refine x_al0 dX10_round_0 ?_
  refine x_getR fl_X10_12 (sh_0 hS) (lq_0 hS) (rf_0_0 hS) dX10_round_1 ?_
  refine x_il1 dX10_round_4 ?_
  refine x_cVi mm_X9_hasTowns ml_X10_164 dX10_round_5 (c_X9_hasTowns sm hS h17 (inr (by omega))) (sh_1 hS) (lq_1 hS) ?_
  refine x_ifb_eq (tgt := 27) dX10_round_8 (fun c8_1 => ?_) (fun c8_1 => ?_)
  · -- 8 eq -> 27
    refine x_iconst dX10_round_27 ?_
    exact x_iret hQ ⟨_, rfl, rfl, RoR_no (by omega), fun q _ => rfl, hRB, hRC⟩ dX10_round_28
  · -- 8 eq -> 11
    refine x_il2 dX10_round_11 ?_
    refine x_iconst dX10_round_12 ?_
    refine x_icmp_lt (tgt := 27) dX10_round_13 (inr (by omega)) (inr (by decide)) (fun c13_2 => ?_) (fun c13_2 => ?_)
    · -- 13 lt -> 27
      refine x_iconst dX10_round_27 ?_
      exact x_iret hQ ⟨_, rfl, rfl, RoR_no (by omega), fun q _ => rfl, hRB, hRC⟩ dX10_round_28
    · -- 13 lt -> 16
      refine x_al0 dX10_round_16 ?_
      refine x_getR fl_X10_54 (sh_0 hS) (lq_0 hS) (rf_0_6 hS) dX10_round_17 ?_
      refine x_il1 dX10_round_20 ?_
      refine x_cViR mm_X4_plan ml_X10_221 dX10_round_21 (c_X4_plan sm a hS hW hB hM (by omega) hRB hRC hch h36) (sh_303 hS) (lq_303 hS) (fun W3 hw3 => ?_)
      refine x_ifb_ne (tgt := 29) dX10_round_24 (fun c24_4 => ?_) (fun c24_4 => ?_)
      · -- 24 ne -> 29
        refine x_il2 dX10_round_29 ?_
        refine x_iconst dX10_round_30 ?_
        refine x_icmp_ne (tgt := 44) dX10_round_31 (inr (by omega)) (inr (by decide)) (fun c31_5 => ?_) (fun c31_5 => ?_)
        · -- 31 ne -> 44
          refine x_al0 dX10_round_44 ?_
          refine x_getR fl_X10_54 (sh_0 hS) (lq_0 hS) (rf_0_6 hS) dX10_round_45 ?_
          refine x_il2 dX10_round_48 ?_
          refine x_cVi mm_X4_townAt ml_X10_227 dX10_round_49 (c_X4_townAt i hS (by have k := hw3.2.2.2 (by omega); have k3 := k.2.2.1; have k2 := k.2.1; omega) (inr (by omega))) (sh_303 hS) (lq_303 hS) ?_
          exact x_iret hQ (by
    have k := hw3
    first
    | exact ⟨_, rfl, rfl, RoR_no (by omega), k.1, k.2.1, k.2.2.1⟩
    | exact ⟨_, rfl, rfl, RoR_yes (by omega) (by omega) (k.2.2.2 (by omega)) (by first | exact (if_neg (show ¬ i = -1 by omega)).symm | exact (if_pos (show i = -1 by omega)).symm), k.1, k.2.1, k.2.2.1⟩) dX10_round_52
        · -- 31 ne -> 34
          refine x_al0 dX10_round_34 ?_
          refine x_getR fl_X10_54 (sh_0 hS) (lq_0 hS) (rf_0_6 hS) dX10_round_35 ?_
          refine x_getI fl_X10_224 (sh_303 hS) (lq_303 hS) dX10_round_38 ?_
          refine x_topI (a' := W3 303 8) rfl ?_
          refine x_goto (tgt := 52) dX10_round_41 ?_
          exact x_iret hQ (by
    have k := hw3
    first
    | exact ⟨_, rfl, rfl, RoR_no (by omega), k.1, k.2.1, k.2.2.1⟩
    | exact ⟨_, rfl, rfl, RoR_yes (by omega) (by omega) (k.2.2.2 (by omega)) (by first | exact (if_neg (show ¬ i = -1 by omega)).symm | exact (if_pos (show i = -1 by omega)).symm), k.1, k.2.1, k.2.2.1⟩) dX10_round_52
      · -- 24 ne -> 27
        refine x_iconst dX10_round_27 ?_
        exact x_iret hQ (by
    have k := hw3
    first
    | exact ⟨_, rfl, rfl, RoR_no (by omega), k.1, k.2.1, k.2.2.1⟩
    | exact ⟨_, rfl, rfl, RoR_yes (by omega) (by omega) (k.2.2.2 (by omega)) (by first | exact (if_neg (show ¬ i = -1 by omega)).symm | exact (if_pos (show i = -1 by omega)).symm), k.1, k.2.1, k.2.2.1⟩) dX10_round_28
