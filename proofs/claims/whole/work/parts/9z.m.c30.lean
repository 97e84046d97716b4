set_option maxRecDepth 100000 in
set_option maxHeartbeats 4000000 in
theorem c_X6_settle {B : Bs} {S : Stt} {V : Va} (kd : Int → Int) (my : Int → Int) (br : Int → Int) (cl : Int → Int → Prop) (hS : Stat S) (hSB : ShB V kd my cl (V 289 9)) (hC : ClB kd my br cl (V 289 9)) (hTw : ∀ i, 0 ≤ i → i < (V 289 9) → TwL V i i ((V 295) i)) (h93 : ∀ s, 0 ≤ s → s < 12 → (V 293) s = 0) : C B yX6_settle cX6_settle 2 none 16 0 0 [vR B 289] S V (rVR S (fun VN => ∃ h g most, VN = up (up (up V 289 (ua (V 289) 13 most)) 293 h) 296 g ∧ Best kd br my (V 289 9) most g)) := by
  refine C.of [some (vR B 289), none] ?_
  intro Γ hQ
  have hn9 := hSB.1
  refine x_al0 dX6_settle_0 ?_
  refine x_al0 dX6_settle_1 ?_
  refine x_getI fl_X6_68 (sh_289 hS) (lq_289 hS) dX6_settle_2 ?_
  refine x_topI (a' := V 289 9) rfl ?_
  refine x_putI fl_X6_109 (sh_289 hS) (lq_289 hS) dX6_settle_5 ?_
  refine x_mem (V' := (up V 289 (ua (V 289) 13 (V 289 9)))) rfl ?_
  refine x_al0 dX6_settle_8 ?_
  refine x_cVix mm_X6_fewest ml_X6_112 dX6_settle_9 (c_X6_fewest kd my cl hS hSB hC.2.2.1 (ClB_sy hC)) (sh_289 hS) (lq_289 hS) (fun r VX hq => ?_)
  obtain ⟨rfl, hq0, hq1, hLb⟩ := hq
  have hLb : Lb kd my cl (V 289 9) r := hLb
  refine x_is1 dX6_settle_12 ?_
  have lp13 : ∀ (N13 : Nat) (most : Int) (g : Int → Int), (0 ≤ most ∧ most ≤ 101) → (∀ m, 0 ≤ m → m < most → ∀ f, ¬ Full kd br my (V 289 9) m f) → (V 289 9 + 1 - most).toNat < N13 → X Γ B RX6 "settle" cX6_settle 2 none 16 0 0 13 [some (vR B 289), some (vI most)] [] 0 0 S (up (up (up V 289 (ua (V 289) 13 (V 289 9))) 293 (V 293)) 296 g) := by
    intro N13
    induction N13 with
    | zero => intro most g hmo hno hN; exact absurd hN (Nat.not_lt_zero _)
    | succ N13 ih13 =>
      intro most g hmo hno hN13
      refine x_il1 dX6_settle_13 ?_
      refine x_al0 dX6_settle_14 ?_
      refine x_getI fl_X6_68 (sh_289 hS) (lq_289 hS) dX6_settle_15 ?_
      refine x_topI (a' := V 289 9) (show (ua (V 289) 13 (V 289 9)) 9 = V 289 9 from (ua_ne (by decide))) ?_
      refine x_icmp_gt (tgt := 43) dX6_settle_18 (inr (by omega)) (inr (by omega)) (fun c18_1 => ?_) (fun c18_1 => ?_)
      · -- 18 gt -> 43
        exact x_vret hQ (by exfalso; exact hno (V 289 9) (by omega) (by omega) _ (Full_id hC.2.2.2)) dX6_settle_43
      · -- 18 gt -> 21
        refine x_al0 dX6_settle_21 ?_
        refine x_iconst dX6_settle_22 ?_
        refine x_iconst dX6_settle_23 ?_
        refine x_il1 dX6_settle_24 ?_
        refine x_cVPl mm_X6_place ml_X6_116 dX6_settle_25 (c_X6_place hS kd my br cl (V 289 9) 12 (up (up (up V 289 (ua (V 289) 13 (V 289 9))) 293 (V 293)) 296 g) 0 0 most rfl hSB hC (fun i i0 i1 => TwL_r i0 (hTw i i0 i1)) (HasI_0 h93) rfl (fun k k0 k1 => by omega) (by omega) (by omega) (by omega)) (sh_289 hS) (lq_289 hS) (fun q h' g' hr0 hr01 hP => ?_)
        have hP : PlP kd br my (V 295) (V 289 9) most 0 g q g' := hP
        have hr0 : q = 0 → h' = V 293 := hr0
        refine x_mem (V' := (up (up (up V 289 (ua (V 289) 13 (V 289 9))) 293 h') 296 g')) (Eq.trans (congrArg (fun z => up z 296 _) (up_k (by decide) (up_up _ _ _ _))) (up_up _ _ _ _)) ?_
        refine x_if_eq (tgt := 37) dX6_settle_28 (inr (by omega)) (fun c28_2 => ?_) (fun c28_2 => ?_)
        · -- 28 eq -> 37
          obtain rfl := hr0 c28_2
          have hP0 := hP
          rw [c28_2] at hP0
          have hnf := set_no hSB hC hTw hP0
          refine x_inc1 dX6_settle_37 ?_
          refine x_goto (tgt := 13) dX6_settle_40 ?_
          exact x_fg (ih13 (most + 1) g' (by omega) (fun m m0 m1 => by rcases (show m < most ∨ m = most by omega) with z | z; (exact hno m m0 z); (rw [z]; exact hnf)) (by omega)) (And.intro rfl (And.intro rfl trivial))
        · -- 28 eq -> 31
          refine x_al0 dX6_settle_31 ?_
          refine x_il1 dX6_settle_32 ?_
          refine x_putI fl_X6_109 (sh_289 hS) (lq_289 hS) dX6_settle_33 ?_
          refine x_mem (V' := (up (up (up V 289 (ua (ua (V 289) 13 (V 289 9)) 13 most)) 293 h') 296 g')) (st2_c (by decide) (st2_c (by decide) (st2_up _ _ _ _ _))) ?_
          exact x_vret hQ (by
      have hq1 : q = 1 := (by omega)
      rw [hq1] at hP
      exact ⟨rfl, rfl, h', g', most, (by rw [ua_ua]), set_yes hSB hC hTw (by omega) hno hP⟩) dX6_settle_36
  refine x_mem (V' := (up (up (up V 289 (ua (V 289) 13 (V 289 9))) 293 (V 293)) 296 (V 296))) (Eq.trans (show _ = (up (up V 289 (ua (V 289) 13 (V 289 9))) 293 (V 293)) from (Eq.symm (up_self _ 293))) (show _ = (up (up (up V 289 (ua (V 289) 13 (V 289 9))) 293 (V 293)) 296 (V 296)) from (Eq.symm (up_self _ 296)))) ?_
  exact x_fg (lp13 _ r (V 296) (by omega) (fun m m0 m1 f hf => by have y := hLb m f m0 (Full_Val hC hf); omega) (Nat.lt_succ_self _)) (And.intro rfl (And.intro rfl trivial))
set_option maxRecDepth 100000 in
set_option maxHeartbeats 4000000 in
theorem c_X6_share {B : Bs} {S : Stt} {V : Va} (towns : Int) (a : Int → Int) (tx : Int → Int) (hS : Stat S) (hW : WSim V 1 a) (hB : WB V 1) (hM : MIv a) (hTx : TSim S V 133 a tx) (ht : 0 ≤ towns ∧ towns < 1024) (hch : 0 ≤ (V 1 10) ∧ (V 1 10) ≤ 1000000) (hShC : ShC a tx V) (hShK : ShK V) : C B yX6_share cX6_share 2 (some .boolean) 17 0 0 [vR B 289, vI towns] S V (rIR S (if mAc a tx towns (a 1).toNat ≤ 12 then 1 else 0) (fun VN => FrS V VN ∧ ShC a tx VN ∧ ShK VN ∧ (mAc a tx towns (a 1).toNat ≤ 12 → ShE a tx towns VN))) := by
  refine C.of [some (vR B 289), some (vI towns)] ?_
  intro Γ hQ
  have w7 : V 1 7 = a 0 := hW.1.1
  have w8 : V 1 8 = a 3 := hW.1.2.1
  have w9 : V 1 9 = a 4 := hW.1.2.2
  have w55 : V 5 5 = a 1 := hW.2.2.2.1.1
  have i0 := hM.1.2.1
  have i1 := hM.1.2.2.1
  have i2 := hM.1.2.2.2.1
  have i4 := hM.1.2.2.2.2.1
  have i3 := hM.2.1
  have k10 := hShK.1
  have k11 := hShK.2.1
  have k12 := hShK.2.2.1
  refine x_il1 dX6_share_0 ?_
  refine x_al0 dX6_share_1 ?_
  refine x_getI fl_X6_33 (sh_289 hS) (lq_289 hS) dX6_share_2 ?_
  refine x_topI (a' := V 289 10) rfl ?_
  refine x_icmp_ne (tgt := 22) dX6_share_5 (inr (by omega)) (inr (by omega)) (fun c5_1 => ?_) (fun c5_1 => ?_)
  · -- 5 ne -> 22
    refine x_al0 dX6_share_22 ?_
    refine x_il1 dX6_share_23 ?_
    refine x_putI fl_X6_33 (sh_289 hS) (lq_289 hS) dX6_share_24 ?_
    refine x_mem (V' := (up V 289 (ua (V 289) 10 towns))) rfl ?_
    refine x_al0 dX6_share_27 ?_
    refine x_al0 dX6_share_28 ?_
    refine x_getR fl_X6_37 (sh_289 hS) (lq_289 hS) (rf_289_0 hS) dX6_share_29 ?_
    refine x_getI fl_X6_48 (sh_1 hS) (lq_1 hS) dX6_share_32 ?_
    refine x_topI (a' := V 1 10) rfl ?_
    refine x_putI fl_X6_45 (sh_289 hS) (lq_289 hS) dX6_share_35 ?_
    refine x_mem (V' := (up V 289 (ua (ua (V 289) 10 towns) 11 (V 1 10)))) (st2_up _ _ _ _ _) ?_
    obtain ⟨V0, hV0⟩ : ∃ z : Va, z = (up V 289 (ua (ua (V 289) 10 towns) 11 (V 1 10))) := ⟨_, rfl⟩
    refine x_mem (V' := V0) hV0.symm ?_
    refine x_al0 dX6_share_38 ?_
    refine x_al0 dX6_share_39 ?_
    refine x_cViR mm_X6_gather ml_X6_51 dX6_share_40 (c_X6_gather a tx hS (WSim_c (fun q q0 q1 => by rw [hV0]; exact up_ne (by omega)) hW) (WB_c (fun q q0 q1 => by rw [hV0]; exact up_ne (by omega)) hB) hM (TSim_c (fun q q0 => by rw [hV0]; exact up_ne (by omega)) rfl hTx) (by rw [hV0]; exact ht)) (sh_289 hS) (lq_289 hS) (fun W2 hw2 => ?_)
    obtain ⟨ga, gb, gc, gd⟩ := hw2
    refine x_putZ fl_X6_55 (sh_289 hS) (lq_289 hS) (ite_01 _) dX6_share_43 ?_
    refine x_mem (V' := (up W2 289 (ua (W2 289) 12 (if mAc a tx (V0 289 10) (a 1).toNat ≤ 12 then 1 else 0)))) rfl ?_
    obtain ⟨V1, hV1⟩ : ∃ z : Va, z = (up W2 289 (ua (W2 289) 12 (if mAc a tx (V0 289 10) (a 1).toNat ≤ 12 then 1 else 0))) := ⟨_, rfl⟩
    refine x_mem (V' := V1) hV1.symm ?_
    refine x_al0 dX6_share_46 ?_
    have hs10 : V0 289 10 = towns := by rw [hV0]; rfl
    have h12 : V1 289 12 = if mAc a tx (V0 289 10) (a 1).toNat ≤ 12 then 1 else 0 := by rw [hV1]; rfl
    refine x_getZ fl_X6_55 (sh_289 hS) (lq_289 hS) dX6_share_47 ?_
    refine x_topI (a' := V1 289 12) rfl ?_
    refine x_if_eq (tgt := 65) dX6_share_50 (inr (by omega)) (fun c50_3 => ?_) (fun c50_3 => ?_)
    · -- 50 eq -> 65
      have hnf : ¬ mAc a tx towns (a 1).toNat ≤ 12 := fun z => by rw [hs10, if_pos z] at h12; omega
      have z65 : V1 289 12 = 0 ∨ V1 289 12 = 1 := by rw [h12]; split <;> omega
      refine x_al0 dX6_share_65 ?_
      refine x_getZ fl_X6_55 (sh_289 hS) (lq_289 hS) dX6_share_66 ?_
      refine x_topI (a' := V1 289 12) rfl ?_
      exact x_zret hQ (by have q := share_no ht hch hV0 ga gb hV1 hnf; exact ⟨congrArg some (congrArg vI (h12.trans (by rw [hs10])).symm), rfl, q.1, q.2.1, q.2.2, fun z => absurd z hnf⟩) (by omega) dX6_share_69
    · -- 50 eq -> 53
      have hfew : mAc a tx towns (a 1).toNat ≤ 12 := by by_cases z : mAc a tx towns (a 1).toNat ≤ 12; (exact z); (exfalso; rw [hs10, if_neg z] at h12; omega)
      have hmc := gd (by rw [hs10]; exact hfew)
      rw [hs10] at hmc
      have n9 : V1 289 9 = mAc a tx towns (a 1).toNat := by rw [hV1]; exact hmc.1
      have v290 : V1 290 = mAr a tx towns (V0 290) (a 1).toNat := by rw [hV1, up_ne (by omega)]; exact hmc.2
      have nr := mAc_r a tx towns (a 1).toNat
      have fr1 : ∀ q : Nat, q < 287 ∨ 290 < q → V1 q = V q := fun q hq => by rw [hV1, up_ne (by omega), ga q hq, hV0, up_ne (by omega)]
      have hbo1 : ∀ i, 0 ≤ i → i < V1 289 9 → 0 ≤ V1 290 i ∧ V1 290 i < a 1 := fun i j0 j1 => by have q := mAr_r a tx towns (V0 290) (a 1).toNat i j0 (by omega); rw [v290]; omega
      have hW1 : WSim V1 1 a := WSim_c (fun q q0 q1 => fr1 q (by omega)) hW
      have hTx1 : TSim S V1 133 a tx := TSim_c (fun q q0 => fr1 q (by omega)) rfl hTx
      have hkd : ∀ i, 0 ≤ i → i < V1 289 9 → V1 4 (V1 290 i) = a (30 + 6 * V1 290 i) ∧ 0 ≤ V1 4 (V1 290 i) ∧ V1 4 (V1 290 i) ≤ 19 := fun i j0 j1 => by have k1 := hW1.2.2.1 (V1 290 i) (hbo1 i j0 j1).1 (hbo1 i j0 j1).2; have k2 := hM.2.2.2.2.2.1 (V1 290 i) (hbo1 i j0 j1).1 (hbo1 i j0 j1).2; have k3 : V1 4 (V1 290 i) = a (30 + 6 * V1 290 i) := k1; exact ⟨k3, by omega, by omega⟩
      refine x_al0 dX6_share_53 ?_
      refine x_cVvR mm_X6_compare ml_X6_59 dX6_share_54 (c_X6_compare a tx hS hW1 (WB_c (fun q q0 q1 => fr1 q (by omega)) hB) hM hTx1 (by omega) hbo1) (sh_289 hS) (lq_289 hS) (fun W4 hw4 => ?_)
      obtain ⟨ca, cb, cc1, cd, ce⟩ := hw4
      refine x_al0 dX6_share_57 ?_
      have n92 : W4 289 9 = V1 289 9 := congrFun (ca 289 (by omega)) 9
      have hSB2 := ShB_of hTx1 i3.2.2 (show 0 ≤ V1 289 9 ∧ V1 289 9 ≤ 12 by omega) hkd cb cc1 cd
      refine x_cVvR mm_X6_findTwins ml_X6_62 dX6_share_58 (c_X6_findTwins hS (by omega) (fun i i0 i1 => cb.2 i i0 i1) (fun i i0 i1 => cc1.2 i i0 i1)) (sh_289 hS) (lq_289 hS) (fun W5 hw5 => ?_)
      obtain ⟨tw, e3, htw⟩ := hw5
      refine x_al0 dX6_share_61 ?_
      have n93 : W5 289 9 = V1 289 9 := by rw [e3]; exact n92
      refine x_cVvR mm_X6_settle ml_X6_65 dX6_share_62 (c_X6_settle (fun z => a (30 + 6 * V1 290 z)) (fun z => mMany a tx (a (30 + 6 * V1 290 z))) (fun z => mBr a tx (V1 290) z (W5 289 9).toNat) (fun x y => ClV V1 a tx x y) hS (by rw [n93, e3]; exact hSB2) (by rw [n93]; exact ClB_of hTx1 i3.2.2 (by omega) hkd) (fun i i0 i1 => by rw [n93, ← n92] at i1; rw [e3]; exact htw i i0 i1) (by rw [e3]; exact ce)) (sh_289 hS) (lq_289 hS) (fun W6 hw6 => ?_)
      obtain ⟨h, g, most, e4, hbest⟩ := hw6
      have v4 : W6 289 12 = V1 289 12 := by rw [e4]; show W5 289 12 = _; rw [e3]; show W4 289 12 = _; rw [ca 289 (by omega)]
      have z65 : W6 289 12 = 0 ∨ W6 289 12 = 1 := by rw [v4, h12]; split <;> omega
      refine x_al0 dX6_share_65 ?_
      refine x_getZ fl_X6_55 (sh_289 hS) (lq_289 hS) dX6_share_66 ?_
      refine x_topI (a' := W6 289 12) rfl ?_
      exact x_zret hQ (by have q := share_fin ht hch hV0 ga gb hmc hV1 hfew ca e3 e4 hbest; exact ⟨congrArg some (congrArg vI (v4.trans (h12.trans (by rw [hs10]))).symm), rfl, q.1, q.2.1, q.2.2.1, fun _ => q.2.2.2⟩) (by omega) dX6_share_69
  · -- 5 ne -> 8
    refine x_al0 dX6_share_8 ?_
    refine x_getI fl_X6_45 (sh_289 hS) (lq_289 hS) dX6_share_9 ?_
    refine x_topI (a' := V 289 11) rfl ?_
    refine x_al0 dX6_share_12 ?_
    refine x_getR fl_X6_37 (sh_289 hS) (lq_289 hS) (rf_289_0 hS) dX6_share_13 ?_
    refine x_getI fl_X6_48 (sh_1 hS) (lq_1 hS) dX6_share_16 ?_
    refine x_topI (a' := V 1 10) rfl ?_
    refine x_icmp_eq (tgt := 65) dX6_share_19 (inr (by omega)) (inr (by omega)) (fun c19_7 => ?_) (fun c19_7 => ?_)
    · -- 19 eq -> 65
      have z65 := hShK.2.2.1
      refine x_al0 dX6_share_65 ?_
      refine x_getZ fl_X6_55 (sh_289 hS) (lq_289 hS) dX6_share_66 ?_
      refine x_topI (a' := V 289 12) rfl ?_
      exact x_zret hQ (by have q := hShC (by omega) (by omega); rw [show V 289 10 = towns by omega] at q; exact ⟨congrArg some (congrArg vI q.1.symm), rfl, fun q _ => rfl, hShC, hShK, fun z => q.2 z⟩) (by omega) dX6_share_69
    · -- 19 eq -> 22
      refine x_al0 dX6_share_22 ?_
      refine x_il1 dX6_share_23 ?_
      refine x_putI fl_X6_33 (sh_289 hS) (lq_289 hS) dX6_share_24 ?_
      refine x_mem (V' := (up V 289 (ua (V 289) 10 towns))) rfl ?_
      refine x_al0 dX6_share_27 ?_
      refine x_al0 dX6_share_28 ?_
      refine x_getR fl_X6_37 (sh_289 hS) (lq_289 hS) (rf_289_0 hS) dX6_share_29 ?_
      refine x_getI fl_X6_48 (sh_1 hS) (lq_1 hS) dX6_share_32 ?_
      refine x_topI (a' := V 1 10) rfl ?_
      refine x_putI fl_X6_45 (sh_289 hS) (lq_289 hS) dX6_share_35 ?_
      refine x_mem (V' := (up V 289 (ua (ua (V 289) 10 towns) 11 (V 1 10)))) (st2_up _ _ _ _ _) ?_
      obtain ⟨V0, hV0⟩ : ∃ z : Va, z = (up V 289 (ua (ua (V 289) 10 towns) 11 (V 1 10))) := ⟨_, rfl⟩
      refine x_mem (V' := V0) hV0.symm ?_
      refine x_al0 dX6_share_38 ?_
      refine x_al0 dX6_share_39 ?_
      refine x_cViR mm_X6_gather ml_X6_51 dX6_share_40 (c_X6_gather a tx hS (WSim_c (fun q q0 q1 => by rw [hV0]; exact up_ne (by omega)) hW) (WB_c (fun q q0 q1 => by rw [hV0]; exact up_ne (by omega)) hB) hM (TSim_c (fun q q0 => by rw [hV0]; exact up_ne (by omega)) rfl hTx) (by rw [hV0]; exact ht)) (sh_289 hS) (lq_289 hS) (fun W8 hw8 => ?_)
      obtain ⟨ga, gb, gc, gd⟩ := hw8
      refine x_putZ fl_X6_55 (sh_289 hS) (lq_289 hS) (ite_01 _) dX6_share_43 ?_
      refine x_mem (V' := (up W8 289 (ua (W8 289) 12 (if mAc a tx (V0 289 10) (a 1).toNat ≤ 12 then 1 else 0)))) rfl ?_
      obtain ⟨V1, hV1⟩ : ∃ z : Va, z = (up W8 289 (ua (W8 289) 12 (if mAc a tx (V0 289 10) (a 1).toNat ≤ 12 then 1 else 0))) := ⟨_, rfl⟩
      refine x_mem (V' := V1) hV1.symm ?_
      refine x_al0 dX6_share_46 ?_
      have hs10 : V0 289 10 = towns := by rw [hV0]; rfl
      have h12 : V1 289 12 = if mAc a tx (V0 289 10) (a 1).toNat ≤ 12 then 1 else 0 := by rw [hV1]; rfl
      refine x_getZ fl_X6_55 (sh_289 hS) (lq_289 hS) dX6_share_47 ?_
      refine x_topI (a' := V1 289 12) rfl ?_
      refine x_if_eq (tgt := 65) dX6_share_50 (inr (by omega)) (fun c50_9 => ?_) (fun c50_9 => ?_)
      · -- 50 eq -> 65
        have hnf : ¬ mAc a tx towns (a 1).toNat ≤ 12 := fun z => by rw [hs10, if_pos z] at h12; omega
        have z65 : V1 289 12 = 0 ∨ V1 289 12 = 1 := by rw [h12]; split <;> omega
        refine x_al0 dX6_share_65 ?_
        refine x_getZ fl_X6_55 (sh_289 hS) (lq_289 hS) dX6_share_66 ?_
        refine x_topI (a' := V1 289 12) rfl ?_
        exact x_zret hQ (by have q := share_no ht hch hV0 ga gb hV1 hnf; exact ⟨congrArg some (congrArg vI (h12.trans (by rw [hs10])).symm), rfl, q.1, q.2.1, q.2.2, fun z => absurd z hnf⟩) (by omega) dX6_share_69
      · -- 50 eq -> 53
        have hfew : mAc a tx towns (a 1).toNat ≤ 12 := by by_cases z : mAc a tx towns (a 1).toNat ≤ 12; (exact z); (exfalso; rw [hs10, if_neg z] at h12; omega)
        have hmc := gd (by rw [hs10]; exact hfew)
        rw [hs10] at hmc
        have n9 : V1 289 9 = mAc a tx towns (a 1).toNat := by rw [hV1]; exact hmc.1
        have v290 : V1 290 = mAr a tx towns (V0 290) (a 1).toNat := by rw [hV1, up_ne (by omega)]; exact hmc.2
        have nr := mAc_r a tx towns (a 1).toNat
        have fr1 : ∀ q : Nat, q < 287 ∨ 290 < q → V1 q = V q := fun q hq => by rw [hV1, up_ne (by omega), ga q hq, hV0, up_ne (by omega)]
        have hbo1 : ∀ i, 0 ≤ i → i < V1 289 9 → 0 ≤ V1 290 i ∧ V1 290 i < a 1 := fun i j0 j1 => by have q := mAr_r a tx towns (V0 290) (a 1).toNat i j0 (by omega); rw [v290]; omega
        have hW1 : WSim V1 1 a := WSim_c (fun q q0 q1 => fr1 q (by omega)) hW
        have hTx1 : TSim S V1 133 a tx := TSim_c (fun q q0 => fr1 q (by omega)) rfl hTx
        have hkd : ∀ i, 0 ≤ i → i < V1 289 9 → V1 4 (V1 290 i) = a (30 + 6 * V1 290 i) ∧ 0 ≤ V1 4 (V1 290 i) ∧ V1 4 (V1 290 i) ≤ 19 := fun i j0 j1 => by have k1 := hW1.2.2.1 (V1 290 i) (hbo1 i j0 j1).1 (hbo1 i j0 j1).2; have k2 := hM.2.2.2.2.2.1 (V1 290 i) (hbo1 i j0 j1).1 (hbo1 i j0 j1).2; have k3 : V1 4 (V1 290 i) = a (30 + 6 * V1 290 i) := k1; exact ⟨k3, by omega, by omega⟩
        refine x_al0 dX6_share_53 ?_
        refine x_cVvR mm_X6_compare ml_X6_59 dX6_share_54 (c_X6_compare a tx hS hW1 (WB_c (fun q q0 q1 => fr1 q (by omega)) hB) hM hTx1 (by omega) hbo1) (sh_289 hS) (lq_289 hS) (fun W10 hw10 => ?_)
        obtain ⟨ca, cb, cc1, cd, ce⟩ := hw10
        refine x_al0 dX6_share_57 ?_
        have n92 : W10 289 9 = V1 289 9 := congrFun (ca 289 (by omega)) 9
        have hSB2 := ShB_of hTx1 i3.2.2 (show 0 ≤ V1 289 9 ∧ V1 289 9 ≤ 12 by omega) hkd cb cc1 cd
        refine x_cVvR mm_X6_findTwins ml_X6_62 dX6_share_58 (c_X6_findTwins hS (by omega) (fun i i0 i1 => cb.2 i i0 i1) (fun i i0 i1 => cc1.2 i i0 i1)) (sh_289 hS) (lq_289 hS) (fun W11 hw11 => ?_)
        obtain ⟨tw, e3, htw⟩ := hw11
        refine x_al0 dX6_share_61 ?_
        have n93 : W11 289 9 = V1 289 9 := by rw [e3]; exact n92
        refine x_cVvR mm_X6_settle ml_X6_65 dX6_share_62 (c_X6_settle (fun z => a (30 + 6 * V1 290 z)) (fun z => mMany a tx (a (30 + 6 * V1 290 z))) (fun z => mBr a tx (V1 290) z (W11 289 9).toNat) (fun x y => ClV V1 a tx x y) hS (by rw [n93, e3]; exact hSB2) (by rw [n93]; exact ClB_of hTx1 i3.2.2 (by omega) hkd) (fun i i0 i1 => by rw [n93, ← n92] at i1; rw [e3]; exact htw i i0 i1) (by rw [e3]; exact ce)) (sh_289 hS) (lq_289 hS) (fun W12 hw12 => ?_)
        obtain ⟨h, g, most, e4, hbest⟩ := hw12
        have v4 : W12 289 12 = V1 289 12 := by rw [e4]; show W11 289 12 = _; rw [e3]; show W10 289 12 = _; rw [ca 289 (by omega)]
        have z65 : W12 289 12 = 0 ∨ W12 289 12 = 1 := by rw [v4, h12]; split <;> omega
        refine x_al0 dX6_share_65 ?_
        refine x_getZ fl_X6_55 (sh_289 hS) (lq_289 hS) dX6_share_66 ?_
        refine x_topI (a' := W12 289 12) rfl ?_
        exact x_zret hQ (by have q := share_fin ht hch hV0 ga gb hmc hV1 hfew ca e3 e4 hbest; exact ⟨congrArg some (congrArg vI (v4.trans (h12.trans (by rw [hs10]))).symm), rfl, q.1, q.2.1, q.2.2.1, fun _ => q.2.2.2⟩) (by omega) dX6_share_69
