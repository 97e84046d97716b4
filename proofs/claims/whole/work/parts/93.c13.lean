set_option maxRecDepth 100000 in
set_option maxHeartbeats 4000000 in
theorem c_X4_plan {B : Bs} {S : Stt} {V : Va} (sm : Int) (a : Int → Int) (hS : Stat S) (hW : WSim V 1 a) (hB : WB V 1) (hM : MIv a) (hs : 0 ≤ sm ∧ sm < p2 (V 1 7)) (hRB : RdB V) (hRC : RdC a V) (hch : 0 ≤ (V 1 10) ∧ (V 1 10) ≤ 1000000) (h36 : InR (V 303 6) ∧ InR (V 303 7)) : C B yX4_plan cX4_plan 2 (some .boolean) 5 0 0 [vR B 303, vI sm] S V (rIR S (if sm ≠ 0 ∧ bN sm 16 ≤ 8 then 1 else 0) (fun VN => FrR V VN ∧ RdB VN ∧ RdC a VN ∧ (sm ≠ 0 ∧ bN sm 16 ≤ 8 → RdOK a sm VN))) := by
  refine C.of [some (vR B 303), some (vI sm)] ?_
  intro Γ hQ
  have w7 : V 1 7 = a 0 := hW.1.1
  have i0 := hM.1.2.1
  have hpb := p2_le (t := V 1 7) (u := 10) (by omega)
  have hp10 : p2 10 = 1024 := by decide
  have hb16 := bN_r sm 16 (by omega)
  have i36a := h36.1
  have i36b := h36.2
  refine x_il1 dX4_plan_0 ?_
  refine x_if_eq (tgt := 13) dX4_plan_1 (inr (by omega)) (fun c1_1 => ?_) (fun c1_1 => ?_)
  · -- 1 eq -> 13
    refine x_iconst dX4_plan_13 ?_
    exact x_zret hQ ⟨(by rw [if_neg (by omega)]), rfl, ⟨fun q _ => rfl, hRB, hRC, fun z => by omega⟩⟩ (by decide) dX4_plan_14
  · -- 1 eq -> 4
    refine x_il1 dX4_plan_4 ?_
    refine x_cSi mm_J6_bitCount_0f7a4 ml_X4_32 dX4_plan_5 (c_J6_bitCount_0f7a4 sm (by omega)) ?_
    refine x_bipush dX4_plan_8 ?_
    refine x_icmp_le (tgt := 15) dX4_plan_10 (inr (by omega)) (inr (by decide)) (fun c10_2 => ?_) (fun c10_2 => ?_)
    · -- 10 le -> 15
      refine x_il1 dX4_plan_15 ?_
      refine x_al0 dX4_plan_16 ?_
      refine x_getI fl_X4_24 (sh_303 hS) (lq_303 hS) dX4_plan_17 ?_
      refine x_topI (a' := V 303 6) rfl ?_
      refine x_icmp_ne (tgt := 37) dX4_plan_20 (inr (by omega)) (inr (by omega)) (fun c20_3 => ?_) (fun c20_3 => ?_)
      · -- 20 ne -> 37
        refine x_al0 dX4_plan_37 ?_
        refine x_il1 dX4_plan_38 ?_
        refine x_putI fl_X4_24 (sh_303 hS) (lq_303 hS) dX4_plan_39 ?_
        refine x_mem (V' := (up V 303 (ua (V 303) 6 sm))) rfl ?_
        refine x_al0 dX4_plan_42 ?_
        refine x_al0 dX4_plan_43 ?_
        refine x_getR fl_X4_28 (sh_303 hS) (lq_303 hS) (rf_303_0 hS) dX4_plan_44 ?_
        refine x_getI fl_X4_41 (sh_1 hS) (lq_1 hS) dX4_plan_47 ?_
        refine x_topI (a' := V 1 10) rfl ?_
        refine x_putI fl_X4_38 (sh_303 hS) (lq_303 hS) dX4_plan_50 ?_
        refine x_mem (V' := (up V 303 (ua (ua (V 303) 6 sm) 7 (V 1 10)))) (st2_up _ _ _ _ _) ?_
        obtain ⟨V0, hV0⟩ : ∃ z : Va, z = (up V 303 (ua (ua (V 303) 6 sm) 7 (V 1 10))) := ⟨_, rfl⟩
        refine x_mem (V' := V0) hV0.symm ?_
        refine x_al0 dX4_plan_53 ?_
        refine x_cVvR mm_X4_gather ml_X4_44 dX4_plan_54 (c_X4_gather hS (by rw [hV0]; show 0 ≤ V 1 7 ∧ V 1 7 ≤ 10; omega) (by rw [hV0]; show 1 ≤ sm ∧ sm < p2 (V 1 7); omega) (by rw [hV0]; show bN sm 16 ≤ 8; omega) (by rw [hV0]; exact hB.1) (by rw [hV0]; exact hB.2.1) (fun s t s0 s1 t0 t1 => by rw [hV0] at s1 t1 ⊢; exact (cMiles_eq hW hM s0 (w7 ▸ s1) t0 (w7 ▸ t1)).2) (by rw [hV0]; exact hRB.1)) (sh_303 hS) (lq_303 hS) (fun W4 hw4 => ?_)
        obtain ⟨c, tw, bw, ea, ga, gb, gc⟩ := hw4
        refine x_al0 dX4_plan_57 ?_
        have hcm : ∀ s t, cMiles V0 s t = cMiles V s t := fun s t => by rw [hV0]; rfl
        have c5 : 1 ≤ W4 303 5 ∧ W4 303 5 ≤ 8 := by rw [ea]; show 1 ≤ c ∧ c ≤ 8; have q := ga; rw [hV0] at q; exact plan_c (set := sm) (m := V 1 7) (by omega) (by omega) (by omega) (by omega) q
        refine x_cVvR mm_X4_measure ml_X4_47 dX4_plan_58 (c_X4_measure hS c5 (by rw [ea]; exact gc) (by rw [ea, hV0]; exact hRB.2)) (sh_303 hS) (lq_303 hS) (fun W5 hw5 => ?_)
        obtain ⟨h, eb, ta, tb⟩ := hw5
        refine x_al0 dX4_plan_61 ?_
        have c5b : W5 303 5 = W4 303 5 := by rw [eb]; rfl
        refine x_cVvR mm_X4_walk ml_X4_50 dX4_plan_62 (c_X4_walk hS (by rw [c5b]; exact c5) (by rw [eb, ea]; exact gc) (by rw [eb]; exact tb) (by rw [eb]; exact ta)) (sh_303 hS) (lq_303 hS) (fun W6 hw6 => ?_)
        obtain ⟨wy, w, rs, ec, pa, pb, pc_⟩ := hw6
        refine x_iconst dX4_plan_65 ?_
        exact x_zret hQ (by
    have hs6 : V0 303 6 = sm := by rw [hV0]; rfl
    have hs7 : V0 303 7 = V 1 10 := by rw [hV0]; rfl
    have h17' : V0 1 7 = a 0 := by rw [hV0]; exact hW.1.1
    rw [hs6, h17'] at ga
    have pf := plan_fin (a := a) (set := sm) (V0 := V0) hM.1.2.1 (by omega) (by rw [← w7]; exact hs.2) (by omega) ea ga (fun i j i0 i1 j0 j1 => (gb i j i0 i1 j0 j1).trans ((hcm _ _).trans (cMiles_eq hW hM (ga.2.2.1 i i0 i1).1 (ga.2.2.1 i i0 i1).2.1 (ga.2.2.1 j j0 j1).1 (ga.2.2.1 j j0 j1).2.1).1)) gc eb ta tb ec pa pb pc_
    have fr : FrR V W6 := fun q hq => (pf.1 q hq).trans (by rw [hV0]; exact up_ne (by omega))
    refine ⟨by rw [if_pos (by omega)], rfl, fr, pf.2.1, ⟨fun _ _ => ?_, ⟨by rw [pf.2.2.2.1, hs6]; exact inr (by omega), by rw [pf.2.2.2.2, hs7]; exact inr (by omega)⟩, by rw [pf.2.2.2.2, hs7, fr 1 (by omega)]; exact Int.le_refl _⟩, fun _ => pf.2.2.1⟩
    rw [pf.2.2.2.1, hs6]
    exact pf.2.2.1) (by decide) dX4_plan_66
      · -- 20 ne -> 23
        refine x_al0 dX4_plan_23 ?_
        refine x_getI fl_X4_38 (sh_303 hS) (lq_303 hS) dX4_plan_24 ?_
        refine x_topI (a' := V 303 7) rfl ?_
        refine x_al0 dX4_plan_27 ?_
        refine x_getR fl_X4_28 (sh_303 hS) (lq_303 hS) (rf_303_0 hS) dX4_plan_28 ?_
        refine x_getI fl_X4_41 (sh_1 hS) (lq_1 hS) dX4_plan_31 ?_
        refine x_topI (a' := V 1 10) rfl ?_
        refine x_icmp_eq (tgt := 65) dX4_plan_34 (inr (by omega)) (inr (by omega)) (fun c34_7 => ?_) (fun c34_7 => ?_)
        · -- 34 eq -> 65
          refine x_iconst dX4_plan_65 ?_
          exact x_zret hQ ⟨(by rw [if_pos (by omega)]), rfl, ⟨fun q _ => rfl, hRB, hRC, fun z => (by have q := hRC.1 (by omega) (by omega); rw [show V 303 6 = sm by omega] at q; exact q)⟩⟩ (by decide) dX4_plan_66
        · -- 34 eq -> 37
          refine x_al0 dX4_plan_37 ?_
          refine x_il1 dX4_plan_38 ?_
          refine x_putI fl_X4_24 (sh_303 hS) (lq_303 hS) dX4_plan_39 ?_
          refine x_mem (V' := (up V 303 (ua (V 303) 6 sm))) rfl ?_
          refine x_al0 dX4_plan_42 ?_
          refine x_al0 dX4_plan_43 ?_
          refine x_getR fl_X4_28 (sh_303 hS) (lq_303 hS) (rf_303_0 hS) dX4_plan_44 ?_
          refine x_getI fl_X4_41 (sh_1 hS) (lq_1 hS) dX4_plan_47 ?_
          refine x_topI (a' := V 1 10) rfl ?_
          refine x_putI fl_X4_38 (sh_303 hS) (lq_303 hS) dX4_plan_50 ?_
          refine x_mem (V' := (up V 303 (ua (ua (V 303) 6 sm) 7 (V 1 10)))) (st2_up _ _ _ _ _) ?_
          obtain ⟨V0, hV0⟩ : ∃ z : Va, z = (up V 303 (ua (ua (V 303) 6 sm) 7 (V 1 10))) := ⟨_, rfl⟩
          refine x_mem (V' := V0) hV0.symm ?_
          refine x_al0 dX4_plan_53 ?_
          refine x_cVvR mm_X4_gather ml_X4_44 dX4_plan_54 (c_X4_gather hS (by rw [hV0]; show 0 ≤ V 1 7 ∧ V 1 7 ≤ 10; omega) (by rw [hV0]; show 1 ≤ sm ∧ sm < p2 (V 1 7); omega) (by rw [hV0]; show bN sm 16 ≤ 8; omega) (by rw [hV0]; exact hB.1) (by rw [hV0]; exact hB.2.1) (fun s t s0 s1 t0 t1 => by rw [hV0] at s1 t1 ⊢; exact (cMiles_eq hW hM s0 (w7 ▸ s1) t0 (w7 ▸ t1)).2) (by rw [hV0]; exact hRB.1)) (sh_303 hS) (lq_303 hS) (fun W8 hw8 => ?_)
          obtain ⟨c, tw, bw, ea, ga, gb, gc⟩ := hw8
          refine x_al0 dX4_plan_57 ?_
          have hcm : ∀ s t, cMiles V0 s t = cMiles V s t := fun s t => by rw [hV0]; rfl
          have c5 : 1 ≤ W8 303 5 ∧ W8 303 5 ≤ 8 := by rw [ea]; show 1 ≤ c ∧ c ≤ 8; have q := ga; rw [hV0] at q; exact plan_c (set := sm) (m := V 1 7) (by omega) (by omega) (by omega) (by omega) q
          refine x_cVvR mm_X4_measure ml_X4_47 dX4_plan_58 (c_X4_measure hS c5 (by rw [ea]; exact gc) (by rw [ea, hV0]; exact hRB.2)) (sh_303 hS) (lq_303 hS) (fun W9 hw9 => ?_)
          obtain ⟨h, eb, ta, tb⟩ := hw9
          refine x_al0 dX4_plan_61 ?_
          have c5b : W9 303 5 = W8 303 5 := by rw [eb]; rfl
          refine x_cVvR mm_X4_walk ml_X4_50 dX4_plan_62 (c_X4_walk hS (by rw [c5b]; exact c5) (by rw [eb, ea]; exact gc) (by rw [eb]; exact tb) (by rw [eb]; exact ta)) (sh_303 hS) (lq_303 hS) (fun W10 hw10 => ?_)
          obtain ⟨wy, w, rs, ec, pa, pb, pc_⟩ := hw10
          refine x_iconst dX4_plan_65 ?_
          exact x_zret hQ (by
    have hs6 : V0 303 6 = sm := by rw [hV0]; rfl
    have hs7 : V0 303 7 = V 1 10 := by rw [hV0]; rfl
    have h17' : V0 1 7 = a 0 := by rw [hV0]; exact hW.1.1
    rw [hs6, h17'] at ga
    have pf := plan_fin (a := a) (set := sm) (V0 := V0) hM.1.2.1 (by omega) (by rw [← w7]; exact hs.2) (by omega) ea ga (fun i j i0 i1 j0 j1 => (gb i j i0 i1 j0 j1).trans ((hcm _ _).trans (cMiles_eq hW hM (ga.2.2.1 i i0 i1).1 (ga.2.2.1 i i0 i1).2.1 (ga.2.2.1 j j0 j1).1 (ga.2.2.1 j j0 j1).2.1).1)) gc eb ta tb ec pa pb pc_
    have fr : FrR V W10 := fun q hq => (pf.1 q hq).trans (by rw [hV0]; exact up_ne (by omega))
    refine ⟨by rw [if_pos (by omega)], rfl, fr, pf.2.1, ⟨fun _ _ => ?_, ⟨by rw [pf.2.2.2.1, hs6]; exact inr (by omega), by rw [pf.2.2.2.2, hs7]; exact inr (by omega)⟩, by rw [pf.2.2.2.2, hs7, fr 1 (by omega)]; exact Int.le_refl _⟩, fun _ => pf.2.2.1⟩
    rw [pf.2.2.2.1, hs6]
    exact pf.2.2.1) (by decide) dX4_plan_66
    · -- 10 le -> 13
      refine x_iconst dX4_plan_13 ?_
      exact x_zret hQ ⟨(by rw [if_neg (by omega)]), rfl, ⟨fun q _ => rfl, hRB, hRC, fun z => by omega⟩⟩ (by decide) dX4_plan_14
set_option maxRecDepth 100000 in
set_option maxHeartbeats 4000000 in
theorem c_X4_townAt {B : Bs} {S : Stt} {V : Va} (i : Int) (hS : Stat S) (h35 : 0 ≤ (V 303 5) ∧ (V 303 5) ≤ 8) (hi : InR i) : C B yX4_townAt cX4_townAt 2 (some .int) 1 0 0 [vR B 303, vI i] S V (rI S V (if 0 ≤ i ∧ i < (V 303 5) then (V 305) i else -1)) := by
  refine C.of [some (vR B 303), some (vI i)] ?_
  intro Γ hQ
  refine x_il1 dX4_townAt_0 ?_
  refine x_if_lt (tgt := 21) dX4_townAt_1 (inr (by omega)) (fun c1_1 => ?_) (fun c1_1 => ?_)
  · -- 1 lt -> 21
    refine x_iconst dX4_townAt_21 ?_
    exact x_iret hQ (rI.mk (by first | (rw [if_pos (by omega)]) | (rw [if_neg (by omega)])) rfl) dX4_townAt_22
  · -- 1 lt -> 4
    refine x_il1 dX4_townAt_4 ?_
    refine x_al0 dX4_townAt_5 ?_
    refine x_getI fl_X4_53 (sh_303 hS) (lq_303 hS) dX4_townAt_6 ?_
    refine x_topI (a' := V 303 5) rfl ?_
    refine x_icmp_ge (tgt := 21) dX4_townAt_9 (inr (by omega)) (inr (by omega)) (fun c9_2 => ?_) (fun c9_2 => ?_)
    · -- 9 ge -> 21
      refine x_iconst dX4_townAt_21 ?_
      exact x_iret hQ (rI.mk (by first | (rw [if_pos (by omega)]) | (rw [if_neg (by omega)])) rfl) dX4_townAt_22
    · -- 9 ge -> 12
      refine x_al0 dX4_townAt_12 ?_
      refine x_getR fl_X4_15 (sh_303 hS) (lq_303 hS) (rf_303_2 hS) dX4_townAt_13 ?_
      refine x_il1 dX4_townAt_16 ?_
      refine x_iald (sh_305 hS) (lq_305 hS) (by omega) (by omega) dX4_townAt_17 ?_
      refine x_topI (a' := V 305 i) rfl ?_
      refine x_goto (tgt := 22) dX4_townAt_18 ?_
      exact x_iret hQ (rI.mk (by first | (rw [if_pos (by omega)]) | (rw [if_neg (by omega)])) rfl) dX4_townAt_22
