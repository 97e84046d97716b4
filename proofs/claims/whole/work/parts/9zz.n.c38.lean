set_option maxRecDepth 100000 in
set_option maxHeartbeats 4000000 in
theorem c_X3_readNumber {B : Bs} {S : Stt} {V : Va} (least : Int) (most : Int) (T : Int → Int) (n : Int) (N : Nat) (i : Nat) (R : Int × Int × List Int) (vs : List Int) (L : List (Int × Int × Int)) (hS : Stat S) (hH : RdH T n N V) (hNc : NcS T n N i R vs ((1, least, most) :: L) (V 277)) (hlm : 0 ≤ least ∧ least ≤ most ∧ most ≤ 9999) : C B yX3_readNumber cX3_readNumber 4 (some .int) 2 0 0 [vR B 277, vI least, vI most] S V (rNu S V (fun v f => (least ≤ v ∧ v ≤ most) ∧ NcS T n N i R (vs ++ [v]) L f ∧ ∀ k, k ≠ 2 → k ≠ 3 → k ≠ 8 → f k = (V 277) k)) := by
  refine C.of [some (vR B 277), some (vI least), some (vI most), none] ?_
  intro Γ hQ
  have hK := hH.1
  have h7 := hH.2.1
  have hn := hH.2.2.1
  have hTp := hH.2.2.2
  have hN := hK.1
  have hnq := NcS_q hNc
  have hbk := TkR_r hK hnq.2.1 hnq.2.2
  have hbv := TkR_v hTp hn.1 hK hnq.2.1 hnq.2.2
  refine x_al0 dX3_readNumber_0 ?_
  refine x_getR fl_X3_28 (sh_277 hS) (lq_277 hS) (rf_277_6 hS) dX3_readNumber_1 ?_
  refine x_al0 dX3_readNumber_4 ?_
  refine x_getI fl_X3_52 (sh_277 hS) (lq_277 hS) dX3_readNumber_5 ?_
  refine x_topI (a' := V 277 8) rfl ?_
  refine x_iald (sh_281 hS) (lq_281 hS) (by omega) (by omega) dX3_readNumber_8 ?_
  refine x_topI (a' := V 281 (V 277 8)) rfl ?_
  refine x_is3 dX3_readNumber_9 ?_
  refine x_al0 dX3_readNumber_10 ?_
  refine x_getR fl_X3_22 (sh_277 hS) (lq_277 hS) (rf_277_4 hS) dX3_readNumber_11 ?_
  refine x_al0 dX3_readNumber_14 ?_
  refine x_getI fl_X3_52 (sh_277 hS) (lq_277 hS) dX3_readNumber_15 ?_
  refine x_topI (a' := V 277 8) rfl ?_
  refine x_iald (sh_279 hS) (lq_279 hS) (by omega) (by omega) dX3_readNumber_18 ?_
  refine x_topI (a' := V 279 (V 277 8)) rfl ?_
  refine x_iconst dX3_readNumber_19 ?_
  refine x_icmp_eq (tgt := 32) dX3_readNumber_20 (inr (by omega)) (inr (by decide)) (fun c20_1 => ?_) (fun c20_1 => ?_)
  · -- 20 eq -> 32
    have hx8 := TkR_x hK hnq.2.1 hnq.2.2 (by omega)
    refine x_al0 dX3_readNumber_32 ?_
    refine x_il3 dX3_readNumber_33 ?_
    refine x_il1 dX3_readNumber_34 ?_
    refine x_il2 dX3_readNumber_35 ?_
    refine x_cSNi mm_X10_within (nw_X3_150) dX3_readNumber_36 (c_X10_within (V 281 (V 277 8)) least most (inr (by omega)) (inr (by omega)) (inr (by omega))) ?_
    by_cases gw : least ≤ (V 281 (V 277 8)) ∧ (V 281 (V 277 8)) ≤ most
    · refine x_top (v' := vI 1) (by rw [if_pos gw]) ?_
      refine x_iconst dX3_readNumber_39 ?_
      by_cases hz : V 277 2 = 0
      · skip
        refine x_cVi mm_X3_take ml_X3_125 dX3_readNumber_40 (c_X3_take 1 2 hS (by omega) (by omega) (inr (by omega)) (inr (by omega)) (inr (by decide))) (sh_277 hS) (lq_277 hS) ?_
        refine x_mem (V' := (up V 277 (ua (V 277) 8 (V 277 8 + 1)))) (upE rfl (takF_1 (show (V 277) 2 = 0 by omega) (show (V 277) 8 + 1 < (V 277) 7 by omega))) ?_
        refine x_topI (a' := 1) (takV_1 (show (V 277) 2 = 0 by omega)) ?_
        refine x_if_eq (tgt := 50) dX3_readNumber_43 (inr (by decide)) (fun c43_2 => ?_) (fun c43_2 => ?_)
        · exact absurd c43_2 (by decide)
        · -- 43 eq -> 46
          refine x_il3 dX3_readNumber_46 ?_
          refine x_goto (tgt := 51) dX3_readNumber_47 ?_
          exact x_iret hQ ⟨V 281 (V 277 8), ua (V 277) 8 (V 277 8 + 1), ⟨by omega, NcS_num hNc hz (fun j hj e => by have q := TkQ_mk (show V 279 (V 277 8) = cTk T n (pos T n j) by rw [e]; exact (hK.2.1 j hj).1); have qv : V 281 (V 277 8) = cVl T n (pos T n j) := (by rw [e]; exact (hK.2.1 j hj).2.2); have pj := pos_le hTp hn.1 j; have t := q.a2 (by omega); have y := (cVl_q hTp pj.2).2 t; rw [← qv] at y; exact ⟨TkR_lt hK hj (by omega), t, (y.2 (y.1.mp (by omega))).symm⟩) (by omega), (fun k k2 k3 k8 => by rw [ua_ne k8])⟩, rfl, rfl, rfl⟩ dX3_readNumber_51
      refine x_cVi mm_X3_take ml_X3_125 dX3_readNumber_40 (c_X3_take 1 2 hS (by omega) (by omega) (inr (by omega)) (inr (by omega)) (inr (by decide))) (sh_277 hS) (lq_277 hS) ?_
      refine x_mem (V' := (up V 277 (V 277))) (upE rfl (takF_f hz)) ?_
      refine x_topI (a' := 0) (if_pos hz) ?_
      refine x_if_eq (tgt := 50) dX3_readNumber_43 (inr (by decide)) (fun c43_3 => ?_) (fun c43_3 => ?_)
      · -- 43 eq -> 50
        refine x_il1 dX3_readNumber_50 ?_
        exact x_iret hQ ⟨least, V 277, ⟨by omega, NcS_fl hNc hz, (fun k k2 k3 k8 => by rfl)⟩, rfl, rfl, rfl⟩ dX3_readNumber_51
      · exact absurd c43_3 (by decide)
    refine x_top (v' := vI 0) (by rw [if_neg gw]) ?_
    refine x_iconst dX3_readNumber_39 ?_
    by_cases hz : V 277 2 = 0
    · skip
      refine x_cVi mm_X3_take ml_X3_125 dX3_readNumber_40 (c_X3_take 0 2 hS (by omega) (by omega) (inr (by omega)) (inr (by omega)) (inr (by decide))) (sh_277 hS) (lq_277 hS) ?_
      refine x_mem (V' := (up V 277 (ua (ua (V 277) 2 2) 3 (V 280 (V 277 8))))) (upE rfl (takF_0 (show (V 277) 2 = 0 by omega))) ?_
      refine x_topI (a' := 0) (takV_1 (show (V 277) 2 = 0 by omega)) ?_
      refine x_if_eq (tgt := 50) dX3_readNumber_43 (inr (by decide)) (fun c43_4 => ?_) (fun c43_4 => ?_)
      · -- 43 eq -> 50
        refine x_il1 dX3_readNumber_50 ?_
        exact x_iret hQ ⟨least, ua (ua (V 277) 2 2) 3 (V 280 (V 277 8)), ⟨by omega, NcS_bad (fun k hk => (hK.2.1 k hk).2.1) hNc hz (fun j hj e => by have q := TkQ_mk (show V 279 (V 277 8) = cTk T n (pos T n j) by rw [e]; exact (hK.2.1 j hj).1); have qv : V 281 (V 277 8) = cVl T n (pos T n j) := (by rw [e]; exact (hK.2.1 j hj).2.2); have pj := pos_le hTp hn.1 j; have t := q.a2 (by omega); have y := (cVl_q hTp pj.2).2 t; rw [← qv] at y; exact Or.inr ⟨t, fun x => by have x1 := y.2 (by omega); omega, rfl⟩), (fun k k2 k3 k8 => by rw [ua_ne k3, ua_ne k2])⟩, rfl, rfl, rfl⟩ dX3_readNumber_51
      · exact absurd c43_4 (by decide)
    refine x_cVi mm_X3_take ml_X3_125 dX3_readNumber_40 (c_X3_take 0 2 hS (by omega) (by omega) (inr (by omega)) (inr (by omega)) (inr (by decide))) (sh_277 hS) (lq_277 hS) ?_
    refine x_mem (V' := (up V 277 (V 277))) (upE rfl (takF_f hz)) ?_
    refine x_topI (a' := 0) (if_pos hz) ?_
    refine x_if_eq (tgt := 50) dX3_readNumber_43 (inr (by decide)) (fun c43_5 => ?_) (fun c43_5 => ?_)
    · -- 43 eq -> 50
      refine x_il1 dX3_readNumber_50 ?_
      exact x_iret hQ ⟨least, V 277, ⟨by omega, NcS_fl hNc hz, (fun k k2 k3 k8 => by rfl)⟩, rfl, rfl, rfl⟩ dX3_readNumber_51
    · exact absurd c43_5 (by decide)
  · -- 20 eq -> 23
    refine x_al0 dX3_readNumber_23 ?_
    refine x_iconst dX3_readNumber_24 ?_
    refine x_iconst dX3_readNumber_25 ?_
    by_cases hz : V 277 2 = 0
    · skip
      refine x_cVi mm_X3_take ml_X3_125 dX3_readNumber_26 (c_X3_take 0 1 hS (by omega) (by omega) (inr (by omega)) (inr (by omega)) (inr (by decide))) (sh_277 hS) (lq_277 hS) ?_
      refine x_mem (V' := (up V 277 (ua (ua (V 277) 2 1) 3 (V 280 (V 277 8))))) (upE rfl (takF_0 (show (V 277) 2 = 0 by omega))) ?_
      refine x_topI (a' := 0) (takV_1 (show (V 277) 2 = 0 by omega)) ?_
      refine x_pop dX3_readNumber_29 ?_
      refine x_il1 dX3_readNumber_30 ?_
      exact x_iret hQ ⟨least, ua (ua (V 277) 2 1) 3 (V 280 (V 277 8)), ⟨by omega, NcS_bad (fun k hk => (hK.2.1 k hk).2.1) hNc hz (fun j hj e => by have q := TkQ_mk (show V 279 (V 277 8) = cTk T n (pos T n j) by rw [e]; exact (hK.2.1 j hj).1); have qv : V 281 (V 277 8) = cVl T n (pos T n j) := (by rw [e]; exact (hK.2.1 j hj).2.2); have pj := pos_le hTp hn.1 j; exact Or.inl ⟨q.b2 (by omega), rfl⟩), (fun k k2 k3 k8 => by rw [ua_ne k3, ua_ne k2])⟩, rfl, rfl, rfl⟩ dX3_readNumber_31
    refine x_cVi mm_X3_take ml_X3_125 dX3_readNumber_26 (c_X3_take 0 1 hS (by omega) (by omega) (inr (by omega)) (inr (by omega)) (inr (by decide))) (sh_277 hS) (lq_277 hS) ?_
    refine x_mem (V' := (up V 277 (V 277))) (upE rfl (takF_f hz)) ?_
    refine x_topI (a' := 0) (if_pos hz) ?_
    refine x_pop dX3_readNumber_29 ?_
    refine x_il1 dX3_readNumber_30 ?_
    exact x_iret hQ ⟨least, V 277, ⟨by omega, NcS_fl hNc hz, (fun k k2 k3 k8 => by rfl)⟩, rfl, rfl, rfl⟩ dX3_readNumber_31
set_option maxRecDepth 100000 in
set_option maxHeartbeats 4000000 in
theorem c_X3_readMany {B : Bs} {S : Stt} {V : Va} (T : Int → Int) (n : Int) (N : Nat) (i : Nat) (K : Int → Prop) (hS : Stat S) (hH : RdH T n N V) (hMb : ∀ v, 0 ≤ v → v ≤ 19 → 0 ≤ (V 286) v ∧ (V 286) v ≤ 9) (hKm : ∀ v, 0 ≤ v → v ≤ 19 → ((V 286) v ≠ 0 ↔ K v)) (r2 : (V 277 2) = 0) (r33 : (V 277 3) = -1) (r8 : (V 277 8) = i) (r3 : i ≤ N) : C B yX3_readMany cX3_readMany 3 none 3 0 0 [vR B 277] S V (rMy S V (fun f my => MyP T n N i K (V 277) (V 286) f my)) := by
  refine C.of [some (vR B 277), none, none] ?_
  intro Γ hQ
  have hK := hH.1
  have h7 := hH.2.1
  have hn := hH.2.2.1
  have hTp := hH.2.2.2
  have hN := hK.1
  have hbk := TkR_r hK (show 0 ≤ V 277 8 by omega) (by omega)
  have hbv := TkR_v hTp hn.1 hK (show 0 ≤ V 277 8 by omega) (by omega)
  have hp := pos_le hTp hn.1 i
  have htk : V 279 (V 277 8) = cTk T n (pos T n i) := by rw [r8]; exact (hK.2.1 i r3).1
  have hvl : V 281 (V 277 8) = cVl T n (pos T n i) := by rw [r8]; exact (hK.2.1 i r3).2.2
  have hsr : V 280 (V 277 8) = tPl T n (pos T n i) := by rw [r8]; exact (hK.2.1 i r3).2.1
  have hq := TkQ_mk htk
  refine x_al0 dX3_readMany_0 ?_
  refine x_getR fl_X3_22 (sh_277 hS) (lq_277 hS) (rf_277_4 hS) dX3_readMany_1 ?_
  refine x_al0 dX3_readMany_4 ?_
  refine x_getI fl_X3_52 (sh_277 hS) (lq_277 hS) dX3_readMany_5 ?_
  refine x_topI (a' := V 277 8) rfl ?_
  refine x_iald (sh_279 hS) (lq_279 hS) (by omega) (by omega) dX3_readMany_8 ?_
  refine x_topI (a' := V 279 (V 277 8)) rfl ?_
  refine x_iconst dX3_readMany_9 ?_
  refine x_icmp_ne (tgt := 31) dX3_readMany_10 (inr (by omega)) (inr (by decide)) (fun c10_1 => ?_) (fun c10_1 => ?_)
  · -- 10 ne -> 31
    refine x_iconst dX3_readMany_31 ?_
    refine x_is1 dX3_readMany_32 ?_
    refine x_il1 dX3_readMany_33 ?_
    refine x_if_eq (tgt := 61) dX3_readMany_34 (inr (by decide)) (fun c34_2 => ?_) (fun c34_2 => ?_)
    · -- 34 eq -> 61
      have hnk : ¬ (tTok T n (pos T n i) = 1 ∧ (0 ≤ tNum T n (pos T n i) ∧ tNum T n (pos T n i) ≤ 19) ∧ K (tNum T n (pos T n i))) := fun z => by have y := (cVl_q hTp hp.2).2 z.1; rw [← hvl] at y; have y2 := y.2 (by omega); have z2 := hq.a2; first | (exfalso; have x := (tk_q hq).2.1.mpr z.1; omega) | (have x := (hKm (V 281 (V 277 8)) (by omega) (by omega)).mpr (by rw [y2]; exact z.2.2); omega)
      obtain ⟨R, hRe⟩ : ∃ z, z = numR T n (itm 3) (pos T n i) := ⟨_, rfl⟩
      have hKn : KnR T n K (pos T n i) R := Or.inr ⟨hnk, hRe⟩
      have hns : NcS T n N i R [] [(1, 0, 19), (0, wMany, 0), (1, 1, 9)] (V 277) := Or.inl ⟨r2, r33, i, Nat.le_refl _, r3, r8, by rw [hRe]; simp only [preN, List.nil_append]; rfl⟩
      clear hnk
      refine x_al0 dX3_readMany_61 ?_
      refine x_iconst dX3_readMany_62 ?_
      refine x_bipush dX3_readMany_63 ?_
      refine x_cVnu mm_X3_readNumber ml_X3_147 dX3_readMany_65 (c_X3_readNumber 0 19 T n N i R [] [(0, wMany, 0), (1, 1, 9)] hS (RdH_c hH rfl rfl rfl (show V 277 7 = V 277 7 from rfl)) (show NcS T n N i R [] ((1, 0, 19) :: [(0, wMany, 0), (1, 1, 9)]) (V 277) from hns) (by decide)) (sh_277 hS) (lq_277 hS) (fun v1 f1 hr1 => ?_)
      obtain ⟨hv1, hn1x, hf1x⟩ := hr1
      have hn1 : NcS T n N i R ([] ++ [v1]) [(0, wMany, 0), (1, 1, 9)] f1 := hn1x
      have hn1q := NcS_q hn1
      have hf1 : ∀ k, k ≠ 2 → k ≠ 3 → k ≠ 8 → f1 k = V 277 k := fun k k2 k3 k8 => (hf1x k k2 k3 k8).trans rfl
      have hbk1 := TkR_r hK hn1q.2.1 hn1q.2.2
      have hf17 := hf1 7 (by decide) (by decide) (by decide)
      clear hn1x hf1x
      refine x_is2 dX3_readMany_68 ?_
      refine x_al0 dX3_readMany_69 ?_
      refine x_al0 dX3_readMany_70 ?_
      refine x_getR fl_X3_22 (sh_277 hS) (lq_277 hS) (rf_277_4 hS) dX3_readMany_71 ?_
      refine x_al0 dX3_readMany_74 ?_
      refine x_getI fl_X3_52 (sh_277 hS) (lq_277 hS) dX3_readMany_75 ?_
      refine x_topI (a' := f1 8) rfl ?_
      refine x_iald (sh_279 hS) (lq_279 hS) (by omega) (by omega) dX3_readMany_78 ?_
      refine x_topI (a' := V 279 (f1 8)) rfl ?_
      refine x_bipush dX3_readMany_79 ?_
      refine x_icmp_ne (tgt := 88) dX3_readMany_81 (inr (by omega)) (inr (by decide)) (fun c81_3 => ?_) (fun c81_3 => ?_)
      · -- 81 ne -> 88
        refine x_iconst dX3_readMany_88 ?_
        refine x_iconst dX3_readMany_89 ?_
        refine x_cVi mm_X3_take ml_X3_125 dX3_readMany_90 (c_X3_take 0 1 hS (by omega) (show 0 ≤ (f1 8) ∧ (f1 8) < 301 from (by omega)) (show InR (f1 7) from (inr (by omega))) (show InR (f1 2) from (inr (by omega))) (inr (by decide))) (sh_277 hS) (lq_277 hS) ?_
        refine x_topI (a' := takV f1 0) rfl ?_
        refine x_mem (V' := (up V 277 (takF f1 (V 280) 0 1))) (up_up _ _ _ _) ?_
        obtain ⟨f2, hf2e⟩ : ∃ z : Int → Int, z = takF f1 (V 280) 0 1 := ⟨_, rfl⟩
        have hn2 : NcS T n N i R ([] ++ [v1]) [(1, 1, 9)] f2 := by rw [hf2e]; exact NcS_take (by omega) (fun k hk => (hK.2.1 k hk).2.1) hn1 (fun j hj e => by have y := TkQ_mk (show V 279 (f1 8) = cTk T n (pos T n j) by rw [e]; exact (hK.2.1 j hj).1); have x := y.w (k := 9) (by decide) rfl; first | (have x1 := x.mp (by omega); exact Or.inl ⟨rfl, TkR_lt hK hj (by omega), x1.1, x1.2⟩) | exact Or.inr ⟨rfl, fun x1 => by have x2 := x.mpr x1; omega⟩)
        have hf2 : ∀ k, k ≠ 2 → k ≠ 3 → k ≠ 8 → f2 k = V 277 k := fun k k2 k3 k8 => by rw [hf2e]; exact (takF_k ⟨k2, k3, k8⟩).trans (hf1 k k2 k3 k8)
        refine x_mem (V' := (up V 277 f2)) (upE rfl hf2e.symm) ?_
        clear hf2e
        have hn2q := NcS_q hn2
        have hf27 := hf2 7 (by decide) (by decide) (by decide)
        refine x_pop dX3_readMany_93 ?_
        refine x_al0 dX3_readMany_94 ?_
        refine x_getR fl_X3_43 (sh_277 hS) (lq_277 hS) (rf_277_16 hS) dX3_readMany_95 ?_
        refine x_il2 dX3_readMany_98 ?_
        refine x_al0 dX3_readMany_99 ?_
        refine x_iconst dX3_readMany_100 ?_
        refine x_bipush dX3_readMany_101 ?_
        refine x_cVnu mm_X3_readNumber ml_X3_147 dX3_readMany_103 (c_X3_readNumber 1 9 T n N i R ([] ++ [v1]) [] hS (RdH_c hH rfl rfl rfl (show f2 7 = V 277 7 from hf2 7 (by decide) (by decide) (by decide))) (show NcS T n N i R ([] ++ [v1]) ((1, 1, 9) :: []) f2 from hn2) (by decide)) (sh_277 hS) (lq_277 hS) (fun v3 f3 hr3 => ?_)
        obtain ⟨hv3, hn3x, hf3x⟩ := hr3
        have hn3 : NcS T n N i R (([] ++ [v1]) ++ [v3]) [] f3 := hn3x
        have hn3q := NcS_q hn3
        have hf3 : ∀ k, k ≠ 2 → k ≠ 3 → k ≠ 8 → f3 k = V 277 k := fun k k2 k3 k8 => (hf3x k k2 k3 k8).trans (hf2 k k2 k3 k8)
        have hbk3 := TkR_r hK hn3q.2.1 hn3q.2.2
        have hf37 := hf3 7 (by decide) (by decide) (by decide)
        clear hn3x hf3x
        refine x_mem (V' := (up V 277 f3)) (up_up _ _ _ _) ?_
        refine x_iast (sh_286 hS) (lq_286 hS) (by omega) (by omega) dX3_readMany_106 ?_
        refine x_mem (V' := (up (up V 277 f3) 286 (ua (V 286) v1 v3))) rfl ?_
        exact x_vret hQ ⟨f3, ua (V 286) v1 v3, ⟨R, hKn, v1, v3, NcS_e hn3, hf3, rfl, ⟨hv1.1, hv1.2⟩, hv3.1, hv3.2⟩, rfl, rfl, rfl⟩ dX3_readMany_107
      · -- 81 ne -> 84
        refine x_iconst dX3_readMany_84 ?_
        refine x_goto (tgt := 89) dX3_readMany_85 ?_
        refine x_iconst dX3_readMany_89 ?_
        refine x_cVi mm_X3_take ml_X3_125 dX3_readMany_90 (c_X3_take 1 1 hS (by omega) (show 0 ≤ (f1 8) ∧ (f1 8) < 301 from (by omega)) (show InR (f1 7) from (inr (by omega))) (show InR (f1 2) from (inr (by omega))) (inr (by decide))) (sh_277 hS) (lq_277 hS) ?_
        refine x_topI (a' := takV f1 1) rfl ?_
        refine x_mem (V' := (up V 277 (takF f1 (V 280) 1 1))) (up_up _ _ _ _) ?_
        obtain ⟨f4, hf4e⟩ : ∃ z : Int → Int, z = takF f1 (V 280) 1 1 := ⟨_, rfl⟩
        have hn4 : NcS T n N i R ([] ++ [v1]) [(1, 1, 9)] f4 := by rw [hf4e]; exact NcS_take (by omega) (fun k hk => (hK.2.1 k hk).2.1) hn1 (fun j hj e => by have y := TkQ_mk (show V 279 (f1 8) = cTk T n (pos T n j) by rw [e]; exact (hK.2.1 j hj).1); have x := y.w (k := 9) (by decide) rfl; first | (have x1 := x.mp (by omega); exact Or.inl ⟨rfl, TkR_lt hK hj (by omega), x1.1, x1.2⟩) | exact Or.inr ⟨rfl, fun x1 => by have x2 := x.mpr x1; omega⟩)
        have hf4 : ∀ k, k ≠ 2 → k ≠ 3 → k ≠ 8 → f4 k = V 277 k := fun k k2 k3 k8 => by rw [hf4e]; exact (takF_k ⟨k2, k3, k8⟩).trans (hf1 k k2 k3 k8)
        refine x_mem (V' := (up V 277 f4)) (upE rfl hf4e.symm) ?_
        clear hf4e
        have hn4q := NcS_q hn4
        have hf47 := hf4 7 (by decide) (by decide) (by decide)
        refine x_pop dX3_readMany_93 ?_
        refine x_al0 dX3_readMany_94 ?_
        refine x_getR fl_X3_43 (sh_277 hS) (lq_277 hS) (rf_277_16 hS) dX3_readMany_95 ?_
        refine x_il2 dX3_readMany_98 ?_
        refine x_al0 dX3_readMany_99 ?_
        refine x_iconst dX3_readMany_100 ?_
        refine x_bipush dX3_readMany_101 ?_
        refine x_cVnu mm_X3_readNumber ml_X3_147 dX3_readMany_103 (c_X3_readNumber 1 9 T n N i R ([] ++ [v1]) [] hS (RdH_c hH rfl rfl rfl (show f4 7 = V 277 7 from hf4 7 (by decide) (by decide) (by decide))) (show NcS T n N i R ([] ++ [v1]) ((1, 1, 9) :: []) f4 from hn4) (by decide)) (sh_277 hS) (lq_277 hS) (fun v5 f5 hr5 => ?_)
        obtain ⟨hv5, hn5x, hf5x⟩ := hr5
        have hn5 : NcS T n N i R (([] ++ [v1]) ++ [v5]) [] f5 := hn5x
        have hn5q := NcS_q hn5
        have hf5 : ∀ k, k ≠ 2 → k ≠ 3 → k ≠ 8 → f5 k = V 277 k := fun k k2 k3 k8 => (hf5x k k2 k3 k8).trans (hf4 k k2 k3 k8)
        have hbk5 := TkR_r hK hn5q.2.1 hn5q.2.2
        have hf57 := hf5 7 (by decide) (by decide) (by decide)
        clear hn5x hf5x
        refine x_mem (V' := (up V 277 f5)) (up_up _ _ _ _) ?_
        refine x_iast (sh_286 hS) (lq_286 hS) (by omega) (by omega) dX3_readMany_106 ?_
        refine x_mem (V' := (up (up V 277 f5) 286 (ua (V 286) v1 v5))) rfl ?_
        exact x_vret hQ ⟨f5, ua (V 286) v1 v5, ⟨R, hKn, v1, v5, NcS_e hn5, hf5, rfl, ⟨hv1.1, hv1.2⟩, hv5.1, hv5.2⟩, rfl, rfl, rfl⟩ dX3_readMany_107
    · exact absurd c34_2 (by decide)
  · -- 10 ne -> 13
    refine x_al0 dX3_readMany_13 ?_
    refine x_getR fl_X3_28 (sh_277 hS) (lq_277 hS) (rf_277_6 hS) dX3_readMany_14 ?_
    refine x_al0 dX3_readMany_17 ?_
    refine x_getI fl_X3_52 (sh_277 hS) (lq_277 hS) dX3_readMany_18 ?_
    refine x_topI (a' := V 277 8) rfl ?_
    refine x_iald (sh_281 hS) (lq_281 hS) (by omega) (by omega) dX3_readMany_21 ?_
    refine x_topI (a' := V 281 (V 277 8)) rfl ?_
    refine x_bipush dX3_readMany_22 ?_
    refine x_icmp_ge (tgt := 31) dX3_readMany_24 (inr (by omega)) (inr (by decide)) (fun c24_4 => ?_) (fun c24_4 => ?_)
    · -- 24 ge -> 31
      refine x_iconst dX3_readMany_31 ?_
      refine x_is1 dX3_readMany_32 ?_
      refine x_il1 dX3_readMany_33 ?_
      refine x_if_eq (tgt := 61) dX3_readMany_34 (inr (by decide)) (fun c34_5 => ?_) (fun c34_5 => ?_)
      · -- 34 eq -> 61
        have hnk : ¬ (tTok T n (pos T n i) = 1 ∧ (0 ≤ tNum T n (pos T n i) ∧ tNum T n (pos T n i) ≤ 19) ∧ K (tNum T n (pos T n i))) := fun z => by have y := (cVl_q hTp hp.2).2 z.1; rw [← hvl] at y; have y2 := y.2 (by omega); have z2 := hq.a2; first | (exfalso; have x := (tk_q hq).2.1.mpr z.1; omega) | (have x := (hKm (V 281 (V 277 8)) (by omega) (by omega)).mpr (by rw [y2]; exact z.2.2); omega)
        obtain ⟨R, hRe⟩ : ∃ z, z = numR T n (itm 3) (pos T n i) := ⟨_, rfl⟩
        have hKn : KnR T n K (pos T n i) R := Or.inr ⟨hnk, hRe⟩
        have hns : NcS T n N i R [] [(1, 0, 19), (0, wMany, 0), (1, 1, 9)] (V 277) := Or.inl ⟨r2, r33, i, Nat.le_refl _, r3, r8, by rw [hRe]; simp only [preN, List.nil_append]; rfl⟩
        clear hnk
        refine x_al0 dX3_readMany_61 ?_
        refine x_iconst dX3_readMany_62 ?_
        refine x_bipush dX3_readMany_63 ?_
        refine x_cVnu mm_X3_readNumber ml_X3_147 dX3_readMany_65 (c_X3_readNumber 0 19 T n N i R [] [(0, wMany, 0), (1, 1, 9)] hS (RdH_c hH rfl rfl rfl (show V 277 7 = V 277 7 from rfl)) (show NcS T n N i R [] ((1, 0, 19) :: [(0, wMany, 0), (1, 1, 9)]) (V 277) from hns) (by decide)) (sh_277 hS) (lq_277 hS) (fun v6 f6 hr6 => ?_)
        obtain ⟨hv6, hn6x, hf6x⟩ := hr6
        have hn6 : NcS T n N i R ([] ++ [v6]) [(0, wMany, 0), (1, 1, 9)] f6 := hn6x
        have hn6q := NcS_q hn6
        have hf6 : ∀ k, k ≠ 2 → k ≠ 3 → k ≠ 8 → f6 k = V 277 k := fun k k2 k3 k8 => (hf6x k k2 k3 k8).trans rfl
        have hbk6 := TkR_r hK hn6q.2.1 hn6q.2.2
        have hf67 := hf6 7 (by decide) (by decide) (by decide)
        clear hn6x hf6x
        refine x_is2 dX3_readMany_68 ?_
        refine x_al0 dX3_readMany_69 ?_
        refine x_al0 dX3_readMany_70 ?_
        refine x_getR fl_X3_22 (sh_277 hS) (lq_277 hS) (rf_277_4 hS) dX3_readMany_71 ?_
        refine x_al0 dX3_readMany_74 ?_
        refine x_getI fl_X3_52 (sh_277 hS) (lq_277 hS) dX3_readMany_75 ?_
        refine x_topI (a' := f6 8) rfl ?_
        refine x_iald (sh_279 hS) (lq_279 hS) (by omega) (by omega) dX3_readMany_78 ?_
        refine x_topI (a' := V 279 (f6 8)) rfl ?_
        refine x_bipush dX3_readMany_79 ?_
        refine x_icmp_ne (tgt := 88) dX3_readMany_81 (inr (by omega)) (inr (by decide)) (fun c81_6 => ?_) (fun c81_6 => ?_)
        · -- 81 ne -> 88
          refine x_iconst dX3_readMany_88 ?_
          refine x_iconst dX3_readMany_89 ?_
          refine x_cVi mm_X3_take ml_X3_125 dX3_readMany_90 (c_X3_take 0 1 hS (by omega) (show 0 ≤ (f6 8) ∧ (f6 8) < 301 from (by omega)) (show InR (f6 7) from (inr (by omega))) (show InR (f6 2) from (inr (by omega))) (inr (by decide))) (sh_277 hS) (lq_277 hS) ?_
          refine x_topI (a' := takV f6 0) rfl ?_
          refine x_mem (V' := (up V 277 (takF f6 (V 280) 0 1))) (up_up _ _ _ _) ?_
          obtain ⟨f7, hf7e⟩ : ∃ z : Int → Int, z = takF f6 (V 280) 0 1 := ⟨_, rfl⟩
          have hn7 : NcS T n N i R ([] ++ [v6]) [(1, 1, 9)] f7 := by rw [hf7e]; exact NcS_take (by omega) (fun k hk => (hK.2.1 k hk).2.1) hn6 (fun j hj e => by have y := TkQ_mk (show V 279 (f6 8) = cTk T n (pos T n j) by rw [e]; exact (hK.2.1 j hj).1); have x := y.w (k := 9) (by decide) rfl; first | (have x1 := x.mp (by omega); exact Or.inl ⟨rfl, TkR_lt hK hj (by omega), x1.1, x1.2⟩) | exact Or.inr ⟨rfl, fun x1 => by have x2 := x.mpr x1; omega⟩)
          have hf7 : ∀ k, k ≠ 2 → k ≠ 3 → k ≠ 8 → f7 k = V 277 k := fun k k2 k3 k8 => by rw [hf7e]; exact (takF_k ⟨k2, k3, k8⟩).trans (hf6 k k2 k3 k8)
          refine x_mem (V' := (up V 277 f7)) (upE rfl hf7e.symm) ?_
          clear hf7e
          have hn7q := NcS_q hn7
          have hf77 := hf7 7 (by decide) (by decide) (by decide)
          refine x_pop dX3_readMany_93 ?_
          refine x_al0 dX3_readMany_94 ?_
          refine x_getR fl_X3_43 (sh_277 hS) (lq_277 hS) (rf_277_16 hS) dX3_readMany_95 ?_
          refine x_il2 dX3_readMany_98 ?_
          refine x_al0 dX3_readMany_99 ?_
          refine x_iconst dX3_readMany_100 ?_
          refine x_bipush dX3_readMany_101 ?_
          refine x_cVnu mm_X3_readNumber ml_X3_147 dX3_readMany_103 (c_X3_readNumber 1 9 T n N i R ([] ++ [v6]) [] hS (RdH_c hH rfl rfl rfl (show f7 7 = V 277 7 from hf7 7 (by decide) (by decide) (by decide))) (show NcS T n N i R ([] ++ [v6]) ((1, 1, 9) :: []) f7 from hn7) (by decide)) (sh_277 hS) (lq_277 hS) (fun v8 f8 hr8 => ?_)
          obtain ⟨hv8, hn8x, hf8x⟩ := hr8
          have hn8 : NcS T n N i R (([] ++ [v6]) ++ [v8]) [] f8 := hn8x
          have hn8q := NcS_q hn8
          have hf8 : ∀ k, k ≠ 2 → k ≠ 3 → k ≠ 8 → f8 k = V 277 k := fun k k2 k3 k8 => (hf8x k k2 k3 k8).trans (hf7 k k2 k3 k8)
          have hbk8 := TkR_r hK hn8q.2.1 hn8q.2.2
          have hf87 := hf8 7 (by decide) (by decide) (by decide)
          clear hn8x hf8x
          refine x_mem (V' := (up V 277 f8)) (up_up _ _ _ _) ?_
          refine x_iast (sh_286 hS) (lq_286 hS) (by omega) (by omega) dX3_readMany_106 ?_
          refine x_mem (V' := (up (up V 277 f8) 286 (ua (V 286) v6 v8))) rfl ?_
          exact x_vret hQ ⟨f8, ua (V 286) v6 v8, ⟨R, hKn, v6, v8, NcS_e hn8, hf8, rfl, ⟨hv6.1, hv6.2⟩, hv8.1, hv8.2⟩, rfl, rfl, rfl⟩ dX3_readMany_107
        · -- 81 ne -> 84
          refine x_iconst dX3_readMany_84 ?_
          refine x_goto (tgt := 89) dX3_readMany_85 ?_
          refine x_iconst dX3_readMany_89 ?_
          refine x_cVi mm_X3_take ml_X3_125 dX3_readMany_90 (c_X3_take 1 1 hS (by omega) (show 0 ≤ (f6 8) ∧ (f6 8) < 301 from (by omega)) (show InR (f6 7) from (inr (by omega))) (show InR (f6 2) from (inr (by omega))) (inr (by decide))) (sh_277 hS) (lq_277 hS) ?_
          refine x_topI (a' := takV f6 1) rfl ?_
          refine x_mem (V' := (up V 277 (takF f6 (V 280) 1 1))) (up_up _ _ _ _) ?_
          obtain ⟨f9, hf9e⟩ : ∃ z : Int → Int, z = takF f6 (V 280) 1 1 := ⟨_, rfl⟩
          have hn9 : NcS T n N i R ([] ++ [v6]) [(1, 1, 9)] f9 := by rw [hf9e]; exact NcS_take (by omega) (fun k hk => (hK.2.1 k hk).2.1) hn6 (fun j hj e => by have y := TkQ_mk (show V 279 (f6 8) = cTk T n (pos T n j) by rw [e]; exact (hK.2.1 j hj).1); have x := y.w (k := 9) (by decide) rfl; first | (have x1 := x.mp (by omega); exact Or.inl ⟨rfl, TkR_lt hK hj (by omega), x1.1, x1.2⟩) | exact Or.inr ⟨rfl, fun x1 => by have x2 := x.mpr x1; omega⟩)
          have hf9 : ∀ k, k ≠ 2 → k ≠ 3 → k ≠ 8 → f9 k = V 277 k := fun k k2 k3 k8 => by rw [hf9e]; exact (takF_k ⟨k2, k3, k8⟩).trans (hf6 k k2 k3 k8)
          refine x_mem (V' := (up V 277 f9)) (upE rfl hf9e.symm) ?_
          clear hf9e
          have hn9q := NcS_q hn9
          have hf97 := hf9 7 (by decide) (by decide) (by decide)
          refine x_pop dX3_readMany_93 ?_
          refine x_al0 dX3_readMany_94 ?_
          refine x_getR fl_X3_43 (sh_277 hS) (lq_277 hS) (rf_277_16 hS) dX3_readMany_95 ?_
          refine x_il2 dX3_readMany_98 ?_
          refine x_al0 dX3_readMany_99 ?_
          refine x_iconst dX3_readMany_100 ?_
          refine x_bipush dX3_readMany_101 ?_
          refine x_cVnu mm_X3_readNumber ml_X3_147 dX3_readMany_103 (c_X3_readNumber 1 9 T n N i R ([] ++ [v6]) [] hS (RdH_c hH rfl rfl rfl (show f9 7 = V 277 7 from hf9 7 (by decide) (by decide) (by decide))) (show NcS T n N i R ([] ++ [v6]) ((1, 1, 9) :: []) f9 from hn9) (by decide)) (sh_277 hS) (lq_277 hS) (fun v10 f10 hr10 => ?_)
          obtain ⟨hv10, hn10x, hf10x⟩ := hr10
          have hn10 : NcS T n N i R (([] ++ [v6]) ++ [v10]) [] f10 := hn10x
          have hn10q := NcS_q hn10
          have hf10 : ∀ k, k ≠ 2 → k ≠ 3 → k ≠ 8 → f10 k = V 277 k := fun k k2 k3 k8 => (hf10x k k2 k3 k8).trans (hf9 k k2 k3 k8)
          have hbk10 := TkR_r hK hn10q.2.1 hn10q.2.2
          have hf107 := hf10 7 (by decide) (by decide) (by decide)
          clear hn10x hf10x
          refine x_mem (V' := (up V 277 f10)) (up_up _ _ _ _) ?_
          refine x_iast (sh_286 hS) (lq_286 hS) (by omega) (by omega) dX3_readMany_106 ?_
          refine x_mem (V' := (up (up V 277 f10) 286 (ua (V 286) v6 v10))) rfl ?_
          exact x_vret hQ ⟨f10, ua (V 286) v6 v10, ⟨R, hKn, v6, v10, NcS_e hn10, hf10, rfl, ⟨hv6.1, hv6.2⟩, hv10.1, hv10.2⟩, rfl, rfl, rfl⟩ dX3_readMany_107
      · exact absurd c34_5 (by decide)
    · -- 24 ge -> 27
      refine x_iconst dX3_readMany_27 ?_
      refine x_goto (tgt := 32) dX3_readMany_28 ?_
      refine x_is1 dX3_readMany_32 ?_
      refine x_il1 dX3_readMany_33 ?_
      refine x_if_eq (tgt := 61) dX3_readMany_34 (inr (by decide)) (fun c34_7 => ?_) (fun c34_7 => ?_)
      · exact absurd c34_7 (by decide)
      · -- 34 eq -> 37
        refine x_al0 dX3_readMany_37 ?_
        refine x_getR fl_X3_43 (sh_277 hS) (lq_277 hS) (rf_277_16 hS) dX3_readMany_38 ?_
        refine x_al0 dX3_readMany_41 ?_
        refine x_getR fl_X3_28 (sh_277 hS) (lq_277 hS) (rf_277_6 hS) dX3_readMany_42 ?_
        refine x_al0 dX3_readMany_45 ?_
        refine x_getI fl_X3_52 (sh_277 hS) (lq_277 hS) dX3_readMany_46 ?_
        refine x_topI (a' := V 277 8) rfl ?_
        refine x_iald (sh_281 hS) (lq_281 hS) (by omega) (by omega) dX3_readMany_49 ?_
        refine x_topI (a' := V 281 (V 277 8)) rfl ?_
        have hbm := hMb (V 281 (V 277 8)) (by omega) (by omega)
        refine x_iald (sh_286 hS) (lq_286 hS) (by omega) (by omega) dX3_readMany_50 ?_
        refine x_topI (a' := V 286 (V 281 (V 277 8))) rfl ?_
        refine x_if_eq (tgt := 61) dX3_readMany_51 (inr (by omega)) (fun c51_8 => ?_) (fun c51_8 => ?_)
        · -- 51 eq -> 61
          have hnk : ¬ (tTok T n (pos T n i) = 1 ∧ (0 ≤ tNum T n (pos T n i) ∧ tNum T n (pos T n i) ≤ 19) ∧ K (tNum T n (pos T n i))) := fun z => by have y := (cVl_q hTp hp.2).2 z.1; rw [← hvl] at y; have y2 := y.2 (by omega); have z2 := hq.a2; first | (exfalso; have x := (tk_q hq).2.1.mpr z.1; omega) | (have x := (hKm (V 281 (V 277 8)) (by omega) (by omega)).mpr (by rw [y2]; exact z.2.2); omega)
          obtain ⟨R, hRe⟩ : ∃ z, z = numR T n (itm 3) (pos T n i) := ⟨_, rfl⟩
          have hKn : KnR T n K (pos T n i) R := Or.inr ⟨hnk, hRe⟩
          have hns : NcS T n N i R [] [(1, 0, 19), (0, wMany, 0), (1, 1, 9)] (V 277) := Or.inl ⟨r2, r33, i, Nat.le_refl _, r3, r8, by rw [hRe]; simp only [preN, List.nil_append]; rfl⟩
          clear hnk
          refine x_al0 dX3_readMany_61 ?_
          refine x_iconst dX3_readMany_62 ?_
          refine x_bipush dX3_readMany_63 ?_
          refine x_cVnu mm_X3_readNumber ml_X3_147 dX3_readMany_65 (c_X3_readNumber 0 19 T n N i R [] [(0, wMany, 0), (1, 1, 9)] hS (RdH_c hH rfl rfl rfl (show V 277 7 = V 277 7 from rfl)) (show NcS T n N i R [] ((1, 0, 19) :: [(0, wMany, 0), (1, 1, 9)]) (V 277) from hns) (by decide)) (sh_277 hS) (lq_277 hS) (fun v11 f11 hr11 => ?_)
          obtain ⟨hv11, hn11x, hf11x⟩ := hr11
          have hn11 : NcS T n N i R ([] ++ [v11]) [(0, wMany, 0), (1, 1, 9)] f11 := hn11x
          have hn11q := NcS_q hn11
          have hf11 : ∀ k, k ≠ 2 → k ≠ 3 → k ≠ 8 → f11 k = V 277 k := fun k k2 k3 k8 => (hf11x k k2 k3 k8).trans rfl
          have hbk11 := TkR_r hK hn11q.2.1 hn11q.2.2
          have hf117 := hf11 7 (by decide) (by decide) (by decide)
          clear hn11x hf11x
          refine x_is2 dX3_readMany_68 ?_
          refine x_al0 dX3_readMany_69 ?_
          refine x_al0 dX3_readMany_70 ?_
          refine x_getR fl_X3_22 (sh_277 hS) (lq_277 hS) (rf_277_4 hS) dX3_readMany_71 ?_
          refine x_al0 dX3_readMany_74 ?_
          refine x_getI fl_X3_52 (sh_277 hS) (lq_277 hS) dX3_readMany_75 ?_
          refine x_topI (a' := f11 8) rfl ?_
          refine x_iald (sh_279 hS) (lq_279 hS) (by omega) (by omega) dX3_readMany_78 ?_
          refine x_topI (a' := V 279 (f11 8)) rfl ?_
          refine x_bipush dX3_readMany_79 ?_
          refine x_icmp_ne (tgt := 88) dX3_readMany_81 (inr (by omega)) (inr (by decide)) (fun c81_9 => ?_) (fun c81_9 => ?_)
          · -- 81 ne -> 88
            refine x_iconst dX3_readMany_88 ?_
            refine x_iconst dX3_readMany_89 ?_
            refine x_cVi mm_X3_take ml_X3_125 dX3_readMany_90 (c_X3_take 0 1 hS (by omega) (show 0 ≤ (f11 8) ∧ (f11 8) < 301 from (by omega)) (show InR (f11 7) from (inr (by omega))) (show InR (f11 2) from (inr (by omega))) (inr (by decide))) (sh_277 hS) (lq_277 hS) ?_
            refine x_topI (a' := takV f11 0) rfl ?_
            refine x_mem (V' := (up V 277 (takF f11 (V 280) 0 1))) (up_up _ _ _ _) ?_
            obtain ⟨f12, hf12e⟩ : ∃ z : Int → Int, z = takF f11 (V 280) 0 1 := ⟨_, rfl⟩
            have hn12 : NcS T n N i R ([] ++ [v11]) [(1, 1, 9)] f12 := by rw [hf12e]; exact NcS_take (by omega) (fun k hk => (hK.2.1 k hk).2.1) hn11 (fun j hj e => by have y := TkQ_mk (show V 279 (f11 8) = cTk T n (pos T n j) by rw [e]; exact (hK.2.1 j hj).1); have x := y.w (k := 9) (by decide) rfl; first | (have x1 := x.mp (by omega); exact Or.inl ⟨rfl, TkR_lt hK hj (by omega), x1.1, x1.2⟩) | exact Or.inr ⟨rfl, fun x1 => by have x2 := x.mpr x1; omega⟩)
            have hf12 : ∀ k, k ≠ 2 → k ≠ 3 → k ≠ 8 → f12 k = V 277 k := fun k k2 k3 k8 => by rw [hf12e]; exact (takF_k ⟨k2, k3, k8⟩).trans (hf11 k k2 k3 k8)
            refine x_mem (V' := (up V 277 f12)) (upE rfl hf12e.symm) ?_
            clear hf12e
            have hn12q := NcS_q hn12
            have hf127 := hf12 7 (by decide) (by decide) (by decide)
            refine x_pop dX3_readMany_93 ?_
            refine x_al0 dX3_readMany_94 ?_
            refine x_getR fl_X3_43 (sh_277 hS) (lq_277 hS) (rf_277_16 hS) dX3_readMany_95 ?_
            refine x_il2 dX3_readMany_98 ?_
            refine x_al0 dX3_readMany_99 ?_
            refine x_iconst dX3_readMany_100 ?_
            refine x_bipush dX3_readMany_101 ?_
            refine x_cVnu mm_X3_readNumber ml_X3_147 dX3_readMany_103 (c_X3_readNumber 1 9 T n N i R ([] ++ [v11]) [] hS (RdH_c hH rfl rfl rfl (show f12 7 = V 277 7 from hf12 7 (by decide) (by decide) (by decide))) (show NcS T n N i R ([] ++ [v11]) ((1, 1, 9) :: []) f12 from hn12) (by decide)) (sh_277 hS) (lq_277 hS) (fun v13 f13 hr13 => ?_)
            obtain ⟨hv13, hn13x, hf13x⟩ := hr13
            have hn13 : NcS T n N i R (([] ++ [v11]) ++ [v13]) [] f13 := hn13x
            have hn13q := NcS_q hn13
            have hf13 : ∀ k, k ≠ 2 → k ≠ 3 → k ≠ 8 → f13 k = V 277 k := fun k k2 k3 k8 => (hf13x k k2 k3 k8).trans (hf12 k k2 k3 k8)
            have hbk13 := TkR_r hK hn13q.2.1 hn13q.2.2
            have hf137 := hf13 7 (by decide) (by decide) (by decide)
            clear hn13x hf13x
            refine x_mem (V' := (up V 277 f13)) (up_up _ _ _ _) ?_
            refine x_iast (sh_286 hS) (lq_286 hS) (by omega) (by omega) dX3_readMany_106 ?_
            refine x_mem (V' := (up (up V 277 f13) 286 (ua (V 286) v11 v13))) rfl ?_
            exact x_vret hQ ⟨f13, ua (V 286) v11 v13, ⟨R, hKn, v11, v13, NcS_e hn13, hf13, rfl, ⟨hv11.1, hv11.2⟩, hv13.1, hv13.2⟩, rfl, rfl, rfl⟩ dX3_readMany_107
          · -- 81 ne -> 84
            refine x_iconst dX3_readMany_84 ?_
            refine x_goto (tgt := 89) dX3_readMany_85 ?_
            refine x_iconst dX3_readMany_89 ?_
            refine x_cVi mm_X3_take ml_X3_125 dX3_readMany_90 (c_X3_take 1 1 hS (by omega) (show 0 ≤ (f11 8) ∧ (f11 8) < 301 from (by omega)) (show InR (f11 7) from (inr (by omega))) (show InR (f11 2) from (inr (by omega))) (inr (by decide))) (sh_277 hS) (lq_277 hS) ?_
            refine x_topI (a' := takV f11 1) rfl ?_
            refine x_mem (V' := (up V 277 (takF f11 (V 280) 1 1))) (up_up _ _ _ _) ?_
            obtain ⟨f14, hf14e⟩ : ∃ z : Int → Int, z = takF f11 (V 280) 1 1 := ⟨_, rfl⟩
            have hn14 : NcS T n N i R ([] ++ [v11]) [(1, 1, 9)] f14 := by rw [hf14e]; exact NcS_take (by omega) (fun k hk => (hK.2.1 k hk).2.1) hn11 (fun j hj e => by have y := TkQ_mk (show V 279 (f11 8) = cTk T n (pos T n j) by rw [e]; exact (hK.2.1 j hj).1); have x := y.w (k := 9) (by decide) rfl; first | (have x1 := x.mp (by omega); exact Or.inl ⟨rfl, TkR_lt hK hj (by omega), x1.1, x1.2⟩) | exact Or.inr ⟨rfl, fun x1 => by have x2 := x.mpr x1; omega⟩)
            have hf14 : ∀ k, k ≠ 2 → k ≠ 3 → k ≠ 8 → f14 k = V 277 k := fun k k2 k3 k8 => by rw [hf14e]; exact (takF_k ⟨k2, k3, k8⟩).trans (hf11 k k2 k3 k8)
            refine x_mem (V' := (up V 277 f14)) (upE rfl hf14e.symm) ?_
            clear hf14e
            have hn14q := NcS_q hn14
            have hf147 := hf14 7 (by decide) (by decide) (by decide)
            refine x_pop dX3_readMany_93 ?_
            refine x_al0 dX3_readMany_94 ?_
            refine x_getR fl_X3_43 (sh_277 hS) (lq_277 hS) (rf_277_16 hS) dX3_readMany_95 ?_
            refine x_il2 dX3_readMany_98 ?_
            refine x_al0 dX3_readMany_99 ?_
            refine x_iconst dX3_readMany_100 ?_
            refine x_bipush dX3_readMany_101 ?_
            refine x_cVnu mm_X3_readNumber ml_X3_147 dX3_readMany_103 (c_X3_readNumber 1 9 T n N i R ([] ++ [v11]) [] hS (RdH_c hH rfl rfl rfl (show f14 7 = V 277 7 from hf14 7 (by decide) (by decide) (by decide))) (show NcS T n N i R ([] ++ [v11]) ((1, 1, 9) :: []) f14 from hn14) (by decide)) (sh_277 hS) (lq_277 hS) (fun v15 f15 hr15 => ?_)
            obtain ⟨hv15, hn15x, hf15x⟩ := hr15
            have hn15 : NcS T n N i R (([] ++ [v11]) ++ [v15]) [] f15 := hn15x
            have hn15q := NcS_q hn15
            have hf15 : ∀ k, k ≠ 2 → k ≠ 3 → k ≠ 8 → f15 k = V 277 k := fun k k2 k3 k8 => (hf15x k k2 k3 k8).trans (hf14 k k2 k3 k8)
            have hbk15 := TkR_r hK hn15q.2.1 hn15q.2.2
            have hf157 := hf15 7 (by decide) (by decide) (by decide)
            clear hn15x hf15x
            refine x_mem (V' := (up V 277 f15)) (up_up _ _ _ _) ?_
            refine x_iast (sh_286 hS) (lq_286 hS) (by omega) (by omega) dX3_readMany_106 ?_
            refine x_mem (V' := (up (up V 277 f15) 286 (ua (V 286) v11 v15))) rfl ?_
            exact x_vret hQ ⟨f15, ua (V 286) v11 v15, ⟨R, hKn, v11, v15, NcS_e hn15, hf15, rfl, ⟨hv11.1, hv11.2⟩, hv15.1, hv15.2⟩, rfl, rfl, rfl⟩ dX3_readMany_107
        · -- 51 eq -> 54
          refine x_al0 dX3_readMany_54 ?_
          refine x_iconst dX3_readMany_55 ?_
          refine x_iconst dX3_readMany_56 ?_
          refine x_cVi mm_X3_take ml_X3_125 dX3_readMany_57 (c_X3_take 0 4 hS (by omega) (by omega) (inr (by omega)) (inr (by omega)) (inr (by decide))) (sh_277 hS) (lq_277 hS) ?_
          refine x_mem (V' := (up V 277 (ua (ua (V 277) 2 4) 3 (V 280 (V 277 8))))) (upE rfl (takF_0 (show (V 277) 2 = 0 by omega))) ?_
          refine x_topI (a' := 0) (takV_1 (show (V 277) 2 = 0 by omega)) ?_
          refine x_pop dX3_readMany_60 ?_
          have hkt : tTok T n (pos T n i) = 1 ∧ (0 ≤ tNum T n (pos T n i) ∧ tNum T n (pos T n i) ≤ 19) ∧ K (tNum T n (pos T n i)) := by have t := hq.a2 (by omega); have y := (cVl_q hTp hp.2).2 t; rw [← hvl] at y; have y2 := y.2 (y.1.mp (by omega)); have x := (hKm (V 281 (V 277 8)) (by omega) (by omega)).mp (by omega); rw [y2] at x; exact ⟨t, by omega, x⟩
          obtain ⟨R, hRe⟩ : ∃ z : Int × Int × List Int, z = (4, pos T n i, []) := ⟨_, rfl⟩
          have hKn : KnR T n K (pos T n i) R := Or.inl ⟨hkt, hRe⟩
          obtain ⟨fz, hfze⟩ : ∃ z : Int → Int, z = ua (ua (V 277) 2 4) 3 (V 280 (V 277 8)) := ⟨_, rfl⟩
          have hns : NcS T n N i R [] [(1, 0, 19), (0, wMany, 0), (1, 1, 9)] fz := by rw [hfze, hRe]; exact Or.inr ⟨by rw [ua_ne (by decide), ua_same]; decide, by rw [ua_ne (by decide), ua_same], by rw [ua_same]; exact hsr, by rw [ua_ne (by decide), ua_ne (by decide)]; omega, by rw [ua_ne (by decide), ua_same]; decide, by rw [ua_ne (by decide), ua_same]; decide⟩
          have hfz : ∀ k, k ≠ 2 → k ≠ 3 → k ≠ 8 → fz k = V 277 k := fun k k2 k3 k8 => by rw [hfze, ua_ne k3, ua_ne k2]
          have hfz7 := hfz 7 (by decide) (by decide) (by decide)
          refine x_mem (V' := up V 277 fz) (by rw [hfze]) ?_
          clear hfze hkt
          refine x_al0 dX3_readMany_61 ?_
          refine x_iconst dX3_readMany_62 ?_
          refine x_bipush dX3_readMany_63 ?_
          refine x_cVnu mm_X3_readNumber ml_X3_147 dX3_readMany_65 (c_X3_readNumber 0 19 T n N i R [] [(0, wMany, 0), (1, 1, 9)] hS (RdH_c hH rfl rfl rfl (show fz 7 = V 277 7 from hfz 7 (by decide) (by decide) (by decide))) (show NcS T n N i R [] ((1, 0, 19) :: [(0, wMany, 0), (1, 1, 9)]) fz from hns) (by decide)) (sh_277 hS) (lq_277 hS) (fun v16 f16 hr16 => ?_)
          obtain ⟨hv16, hn16x, hf16x⟩ := hr16
          have hn16 : NcS T n N i R ([] ++ [v16]) [(0, wMany, 0), (1, 1, 9)] f16 := hn16x
          have hn16q := NcS_q hn16
          have hf16 : ∀ k, k ≠ 2 → k ≠ 3 → k ≠ 8 → f16 k = V 277 k := fun k k2 k3 k8 => (hf16x k k2 k3 k8).trans (hfz k k2 k3 k8)
          have hbk16 := TkR_r hK hn16q.2.1 hn16q.2.2
          have hf167 := hf16 7 (by decide) (by decide) (by decide)
          clear hn16x hf16x
          refine x_mem (V' := (up V 277 f16)) (up_up _ _ _ _) ?_
          refine x_is2 dX3_readMany_68 ?_
          refine x_al0 dX3_readMany_69 ?_
          refine x_al0 dX3_readMany_70 ?_
          refine x_getR fl_X3_22 (sh_277 hS) (lq_277 hS) (rf_277_4 hS) dX3_readMany_71 ?_
          refine x_al0 dX3_readMany_74 ?_
          refine x_getI fl_X3_52 (sh_277 hS) (lq_277 hS) dX3_readMany_75 ?_
          refine x_topI (a' := f16 8) rfl ?_
          refine x_iald (sh_279 hS) (lq_279 hS) (by omega) (by omega) dX3_readMany_78 ?_
          refine x_topI (a' := V 279 (f16 8)) rfl ?_
          refine x_bipush dX3_readMany_79 ?_
          refine x_icmp_ne (tgt := 88) dX3_readMany_81 (inr (by omega)) (inr (by decide)) (fun c81_10 => ?_) (fun c81_10 => ?_)
          · -- 81 ne -> 88
            refine x_iconst dX3_readMany_88 ?_
            refine x_iconst dX3_readMany_89 ?_
            refine x_cVi mm_X3_take ml_X3_125 dX3_readMany_90 (c_X3_take 0 1 hS (by omega) (show 0 ≤ (f16 8) ∧ (f16 8) < 301 from (by omega)) (show InR (f16 7) from (inr (by omega))) (show InR (f16 2) from (inr (by omega))) (inr (by decide))) (sh_277 hS) (lq_277 hS) ?_
            refine x_topI (a' := takV f16 0) rfl ?_
            refine x_mem (V' := (up V 277 (takF f16 (V 280) 0 1))) (up_up _ _ _ _) ?_
            obtain ⟨f17, hf17e⟩ : ∃ z : Int → Int, z = takF f16 (V 280) 0 1 := ⟨_, rfl⟩
            have hn17 : NcS T n N i R ([] ++ [v16]) [(1, 1, 9)] f17 := by rw [hf17e]; exact NcS_take (by omega) (fun k hk => (hK.2.1 k hk).2.1) hn16 (fun j hj e => by have y := TkQ_mk (show V 279 (f16 8) = cTk T n (pos T n j) by rw [e]; exact (hK.2.1 j hj).1); have x := y.w (k := 9) (by decide) rfl; first | (have x1 := x.mp (by omega); exact Or.inl ⟨rfl, TkR_lt hK hj (by omega), x1.1, x1.2⟩) | exact Or.inr ⟨rfl, fun x1 => by have x2 := x.mpr x1; omega⟩)
            have hf17 : ∀ k, k ≠ 2 → k ≠ 3 → k ≠ 8 → f17 k = V 277 k := fun k k2 k3 k8 => by rw [hf17e]; exact (takF_k ⟨k2, k3, k8⟩).trans (hf16 k k2 k3 k8)
            refine x_mem (V' := (up V 277 f17)) (upE rfl hf17e.symm) ?_
            clear hf17e
            have hn17q := NcS_q hn17
            have hf177 := hf17 7 (by decide) (by decide) (by decide)
            refine x_pop dX3_readMany_93 ?_
            refine x_al0 dX3_readMany_94 ?_
            refine x_getR fl_X3_43 (sh_277 hS) (lq_277 hS) (rf_277_16 hS) dX3_readMany_95 ?_
            refine x_il2 dX3_readMany_98 ?_
            refine x_al0 dX3_readMany_99 ?_
            refine x_iconst dX3_readMany_100 ?_
            refine x_bipush dX3_readMany_101 ?_
            refine x_cVnu mm_X3_readNumber ml_X3_147 dX3_readMany_103 (c_X3_readNumber 1 9 T n N i R ([] ++ [v16]) [] hS (RdH_c hH rfl rfl rfl (show f17 7 = V 277 7 from hf17 7 (by decide) (by decide) (by decide))) (show NcS T n N i R ([] ++ [v16]) ((1, 1, 9) :: []) f17 from hn17) (by decide)) (sh_277 hS) (lq_277 hS) (fun v18 f18 hr18 => ?_)
            obtain ⟨hv18, hn18x, hf18x⟩ := hr18
            have hn18 : NcS T n N i R (([] ++ [v16]) ++ [v18]) [] f18 := hn18x
            have hn18q := NcS_q hn18
            have hf18 : ∀ k, k ≠ 2 → k ≠ 3 → k ≠ 8 → f18 k = V 277 k := fun k k2 k3 k8 => (hf18x k k2 k3 k8).trans (hf17 k k2 k3 k8)
            have hbk18 := TkR_r hK hn18q.2.1 hn18q.2.2
            have hf187 := hf18 7 (by decide) (by decide) (by decide)
            clear hn18x hf18x
            refine x_mem (V' := (up V 277 f18)) (up_up _ _ _ _) ?_
            refine x_iast (sh_286 hS) (lq_286 hS) (by omega) (by omega) dX3_readMany_106 ?_
            refine x_mem (V' := (up (up V 277 f18) 286 (ua (V 286) v16 v18))) rfl ?_
            exact x_vret hQ ⟨f18, ua (V 286) v16 v18, ⟨R, hKn, v16, v18, NcS_e hn18, hf18, rfl, ⟨hv16.1, hv16.2⟩, hv18.1, hv18.2⟩, rfl, rfl, rfl⟩ dX3_readMany_107
          · -- 81 ne -> 84
            refine x_iconst dX3_readMany_84 ?_
            refine x_goto (tgt := 89) dX3_readMany_85 ?_
            refine x_iconst dX3_readMany_89 ?_
            refine x_cVi mm_X3_take ml_X3_125 dX3_readMany_90 (c_X3_take 1 1 hS (by omega) (show 0 ≤ (f16 8) ∧ (f16 8) < 301 from (by omega)) (show InR (f16 7) from (inr (by omega))) (show InR (f16 2) from (inr (by omega))) (inr (by decide))) (sh_277 hS) (lq_277 hS) ?_
            refine x_topI (a' := takV f16 1) rfl ?_
            refine x_mem (V' := (up V 277 (takF f16 (V 280) 1 1))) (up_up _ _ _ _) ?_
            obtain ⟨f19, hf19e⟩ : ∃ z : Int → Int, z = takF f16 (V 280) 1 1 := ⟨_, rfl⟩
            have hn19 : NcS T n N i R ([] ++ [v16]) [(1, 1, 9)] f19 := by rw [hf19e]; exact NcS_take (by omega) (fun k hk => (hK.2.1 k hk).2.1) hn16 (fun j hj e => by have y := TkQ_mk (show V 279 (f16 8) = cTk T n (pos T n j) by rw [e]; exact (hK.2.1 j hj).1); have x := y.w (k := 9) (by decide) rfl; first | (have x1 := x.mp (by omega); exact Or.inl ⟨rfl, TkR_lt hK hj (by omega), x1.1, x1.2⟩) | exact Or.inr ⟨rfl, fun x1 => by have x2 := x.mpr x1; omega⟩)
            have hf19 : ∀ k, k ≠ 2 → k ≠ 3 → k ≠ 8 → f19 k = V 277 k := fun k k2 k3 k8 => by rw [hf19e]; exact (takF_k ⟨k2, k3, k8⟩).trans (hf16 k k2 k3 k8)
            refine x_mem (V' := (up V 277 f19)) (upE rfl hf19e.symm) ?_
            clear hf19e
            have hn19q := NcS_q hn19
            have hf197 := hf19 7 (by decide) (by decide) (by decide)
            refine x_pop dX3_readMany_93 ?_
            refine x_al0 dX3_readMany_94 ?_
            refine x_getR fl_X3_43 (sh_277 hS) (lq_277 hS) (rf_277_16 hS) dX3_readMany_95 ?_
            refine x_il2 dX3_readMany_98 ?_
            refine x_al0 dX3_readMany_99 ?_
            refine x_iconst dX3_readMany_100 ?_
            refine x_bipush dX3_readMany_101 ?_
            refine x_cVnu mm_X3_readNumber ml_X3_147 dX3_readMany_103 (c_X3_readNumber 1 9 T n N i R ([] ++ [v16]) [] hS (RdH_c hH rfl rfl rfl (show f19 7 = V 277 7 from hf19 7 (by decide) (by decide) (by decide))) (show NcS T n N i R ([] ++ [v16]) ((1, 1, 9) :: []) f19 from hn19) (by decide)) (sh_277 hS) (lq_277 hS) (fun v20 f20 hr20 => ?_)
            obtain ⟨hv20, hn20x, hf20x⟩ := hr20
            have hn20 : NcS T n N i R (([] ++ [v16]) ++ [v20]) [] f20 := hn20x
            have hn20q := NcS_q hn20
            have hf20 : ∀ k, k ≠ 2 → k ≠ 3 → k ≠ 8 → f20 k = V 277 k := fun k k2 k3 k8 => (hf20x k k2 k3 k8).trans (hf19 k k2 k3 k8)
            have hbk20 := TkR_r hK hn20q.2.1 hn20q.2.2
            have hf207 := hf20 7 (by decide) (by decide) (by decide)
            clear hn20x hf20x
            refine x_mem (V' := (up V 277 f20)) (up_up _ _ _ _) ?_
            refine x_iast (sh_286 hS) (lq_286 hS) (by omega) (by omega) dX3_readMany_106 ?_
            refine x_mem (V' := (up (up V 277 f20) 286 (ua (V 286) v16 v20))) rfl ?_
            exact x_vret hQ ⟨f20, ua (V 286) v16 v20, ⟨R, hKn, v16, v20, NcS_e hn20, hf20, rfl, ⟨hv16.1, hv16.2⟩, hv20.1, hv20.2⟩, rfl, rfl, rfl⟩ dX3_readMany_107
