set_option maxRecDepth 100000 in
set_option maxHeartbeats 4000000 in
theorem c_X11_isHoly {B : Bs} {S : Stt} {V : Va} (bone : Int) (hS : Stat S) (hA : AB (V 309)) (hX : AB (V 311)) (h44 : -1 ≤ (V 309 4) ∧ (V 309 4) ≤ 3) (hW : 0 ≤ (V 309 4) → TW (V 311) (V 309 4)) (hN : AB (V 314)) (hTr : TRb (V 316)) (hbone : 0 ≤ bone ∧ bone < 16) : C B yX11_isHoly cX11_isHoly 3 (some .boolean) 4 0 0 [vR B 308, vI bone] S V (rIs S V (if mHoly (V 309) (V 311) bone then 1 else 0)) := by
  refine C.of [some (vR B 308), some (vI bone), none] ?_
  intro Γ hQ
  have hcr := mClause_r (s := 1) hW
  refine x_al0 dX11_isHoly_0 ?_
  refine x_iconst dX11_isHoly_1 ?_
  refine x_cVi mm_X11_clauseOf ml_X11_103 dX11_isHoly_2 (c_X11_clauseOf 1 hS hA hX h44 hW (inr (by decide))) (sh_308 hS) (lq_308 hS) ?_
  refine x_is2 dX11_isHoly_5 ?_
  refine x_il2 dX11_isHoly_6 ?_
  refine x_if_ge (tgt := 12) dX11_isHoly_7 (inr (by omega)) (fun c7_1 => ?_) (fun c7_1 => ?_)
  · -- 7 ge -> 12
    refine x_al0 dX11_isHoly_12 ?_
    refine x_il1 dX11_isHoly_13 ?_
    refine x_iconst dX11_isHoly_14 ?_
    refine x_cVv mm_X11_name ml_X11_106 dX11_isHoly_15 (c_X11_name bone 0 hS hA (by omega) (by omega)) (sh_308 hS) (lq_308 hS) ?_
    refine x_al0 dX11_isHoly_18 ?_
    refine x_il2 dX11_isHoly_19 ?_
    refine x_cVv mm_X11_work ml_X11_110 dX11_isHoly_20 (c_X11_work (mClause (V 309) (V 311) 1) hS (show AB (V 309) from hA) (show AB (V 311) from hX) (show -1 ≤ (V 309 4) ∧ (V 309 4) ≤ 3 from h44) (show 0 ≤ (V 309 4) from (by omega)) (show AB (mNm (V 309) (V 314) bone 0) from (AB_mNm hA hN _ _)) (show TRb (V 316) from hTr) (by omega) (show okCl (V 311) (V 309 4) (mClause (V 309) (V 311) 1) from (mClause_ok hW (by omega) (by omega)))) (sh_308 hS) (lq_308 hS) ?_
    refine x_mem (V' := (up (up (up V 314 (mNm (V 309) (V 314) bone 0)) 315 ((mCl (mNm (V 309) (V 314) bone 0) (V 311) (V 309 4) (mClause (V 309) (V 311) 1) (V 315) (V 316)).1)) 316 ((mCl (mNm (V 309) (V 314) bone 0) (V 311) (V 309 4) (mClause (V 309) (V 311) 1) (V 315) (V 316)).2.1))) rfl ?_
    refine x_al0 dX11_isHoly_23 ?_
    refine x_getR fl_X11_39 (sh_308 hS) (lq_308 hS) (rf_308_24 hS) dX11_isHoly_24 ?_
    refine x_iconst dX11_isHoly_27 ?_
    refine x_zald (sh_316 hS) (lq_316 hS) (by omega) (by omega) dX11_isHoly_28 ?_
    refine x_topI (a' := (mCl (mNm (V 309) (V 314) bone 0) (V 311) (V 309 4) (mClause (V 309) (V 311) 1) (V 315) (V 316)).2.1 0) rfl ?_
    exact x_zret hQ ⟨(mNm (V 309) (V 314) bone 0), ((mCl (mNm (V 309) (V 314) bone 0) (V 311) (V 309 4) (mClause (V 309) (V 311) 1) (V 315) (V 316)).1), ((mCl (mNm (V 309) (V 314) bone 0) (V 311) (V 309 4) (mClause (V 309) (V 311) 1) (V 315) (V 316)).2.1), (AB_mNm hA hN _ _), (TRb_mCl hTr), (congrArg (fun z : Int => some (vI z)) ((holy_v (by omega)).trans (mTru_eq (mClause_ok hW (by omega) (by omega)) (by omega)).symm)), rfl, (upE (upE (upE rfl rfl) rfl) rfl)⟩ ((TRb_mCl hTr) 0) dX11_isHoly_29
  · -- 7 ge -> 10
    refine x_iconst dX11_isHoly_10 ?_
    exact x_zret hQ ⟨(V 314), (V 315), (V 316), hN, hTr, (congrArg (fun z : Int => some (vI z)) (if_pos (Or.inl (by omega)))), rfl, (Eq.trans (upE (upE (upE rfl rfl) rfl) rfl) (scr_self _))⟩ (by decide) dX11_isHoly_11
set_option maxRecDepth 100000 in
set_option maxHeartbeats 4000000 in
theorem c_X11_isUnlike {B : Bs} {S : Stt} {V : Va} (one : Int) (other : Int) (hS : Stat S) (hA : AB (V 309)) (hX : AB (V 311)) (h44 : -1 ≤ (V 309 4) ∧ (V 309 4) ≤ 3) (hW : 0 ≤ (V 309 4) → TW (V 311) (V 309 4)) (hN : AB (V 314)) (hTr : TRb (V 316)) (hone : 0 ≤ one ∧ one < 16) (hother : 0 ≤ other ∧ other < 16) : C B yX11_isUnlike cX11_isUnlike 4 (some .boolean) 4 0 0 [vR B 308, vI one, vI other] S V (rIs S V (if mUnl (V 309) (V 311) one other then 1 else 0)) := by
  refine C.of [some (vR B 308), some (vI one), some (vI other), none] ?_
  intro Γ hQ
  have hcr := mClause_r (s := 2) hW
  refine x_al0 dX11_isUnlike_0 ?_
  refine x_iconst dX11_isUnlike_1 ?_
  refine x_cVi mm_X11_clauseOf ml_X11_103 dX11_isUnlike_2 (c_X11_clauseOf 2 hS hA hX h44 hW (inr (by decide))) (sh_308 hS) (lq_308 hS) ?_
  refine x_is3 dX11_isUnlike_5 ?_
  refine x_il3 dX11_isUnlike_6 ?_
  refine x_if_ge (tgt := 12) dX11_isUnlike_7 (inr (by omega)) (fun c7_1 => ?_) (fun c7_1 => ?_)
  · -- 7 ge -> 12
    refine x_al0 dX11_isUnlike_12 ?_
    refine x_il1 dX11_isUnlike_13 ?_
    refine x_il2 dX11_isUnlike_14 ?_
    refine x_cVv mm_X11_name ml_X11_106 dX11_isUnlike_15 (c_X11_name one other hS hA (by omega) (by omega)) (sh_308 hS) (lq_308 hS) ?_
    refine x_al0 dX11_isUnlike_18 ?_
    refine x_il3 dX11_isUnlike_19 ?_
    refine x_cVv mm_X11_work ml_X11_110 dX11_isUnlike_20 (c_X11_work (mClause (V 309) (V 311) 2) hS (show AB (V 309) from hA) (show AB (V 311) from hX) (show -1 ≤ (V 309 4) ∧ (V 309 4) ≤ 3 from h44) (show 0 ≤ (V 309 4) from (by omega)) (show AB (mNm (V 309) (V 314) one other) from (AB_mNm hA hN _ _)) (show TRb (V 316) from hTr) (by omega) (show okCl (V 311) (V 309 4) (mClause (V 309) (V 311) 2) from (mClause_ok hW (by omega) (by omega)))) (sh_308 hS) (lq_308 hS) ?_
    refine x_mem (V' := (up (up (up V 314 (mNm (V 309) (V 314) one other)) 315 ((mCl (mNm (V 309) (V 314) one other) (V 311) (V 309 4) (mClause (V 309) (V 311) 2) (V 315) (V 316)).1)) 316 ((mCl (mNm (V 309) (V 314) one other) (V 311) (V 309 4) (mClause (V 309) (V 311) 2) (V 315) (V 316)).2.1))) rfl ?_
    refine x_al0 dX11_isUnlike_23 ?_
    refine x_getR fl_X11_39 (sh_308 hS) (lq_308 hS) (rf_308_24 hS) dX11_isUnlike_24 ?_
    refine x_iconst dX11_isUnlike_27 ?_
    refine x_zald (sh_316 hS) (lq_316 hS) (by omega) (by omega) dX11_isUnlike_28 ?_
    refine x_topI (a' := (mCl (mNm (V 309) (V 314) one other) (V 311) (V 309 4) (mClause (V 309) (V 311) 2) (V 315) (V 316)).2.1 0) rfl ?_
    refine x_topI (a' := mTru (V 309) (V 311) (mClause (V 309) (V 311) 2) one other) (mTru_eq (mClause_ok hW (by omega) (by omega)) (by omega)) ?_
    have h01 := mTru_01 (V 309) (V 311) (mClause (V 309) (V 311) 2) one other
    refine x_if_eq (tgt := 34) dX11_isUnlike_29 (inr (by omega)) (fun c29_2 => ?_) (fun c29_2 => ?_)
    · -- 29 eq -> 34
      refine x_al0 dX11_isUnlike_34 ?_
      refine x_il2 dX11_isUnlike_35 ?_
      refine x_il1 dX11_isUnlike_36 ?_
      refine x_cVv mm_X11_name ml_X11_106 dX11_isUnlike_37 (c_X11_name other one hS (show AB (V 309) from hA) (by omega) (by omega)) (sh_308 hS) (lq_308 hS) ?_
      refine x_mem (V' := (up (up (up V 314 (mNm (V 309) (mNm (V 309) (V 314) one other) other one)) 315 ((mCl (mNm (V 309) (V 314) one other) (V 311) (V 309 4) (mClause (V 309) (V 311) 2) (V 315) (V 316)).1)) 316 ((mCl (mNm (V 309) (V 314) one other) (V 311) (V 309 4) (mClause (V 309) (V 311) 2) (V 315) (V 316)).2.1))) (up_k (by decide) (up_k (by decide) (up_up _ _ _ _))) ?_
      refine x_al0 dX11_isUnlike_40 ?_
      refine x_il3 dX11_isUnlike_41 ?_
      refine x_cVv mm_X11_work ml_X11_110 dX11_isUnlike_42 (c_X11_work (mClause (V 309) (V 311) 2) hS (show AB (V 309) from hA) (show AB (V 311) from hX) (show -1 ≤ (V 309 4) ∧ (V 309 4) ≤ 3 from h44) (show 0 ≤ (V 309 4) from (by omega)) (show AB (mNm (V 309) (mNm (V 309) (V 314) one other) other one) from (AB_mNm hA (AB_mNm hA hN _ _) _ _)) (show TRb ((mCl (mNm (V 309) (V 314) one other) (V 311) (V 309 4) (mClause (V 309) (V 311) 2) (V 315) (V 316)).2.1) from (TRb_mCl hTr)) (by omega) (show okCl (V 311) (V 309 4) (mClause (V 309) (V 311) 2) from (mClause_ok hW (by omega) (by omega)))) (sh_308 hS) (lq_308 hS) ?_
      refine x_mem (V' := (up (up (up V 314 (mNm (V 309) (mNm (V 309) (V 314) one other) other one)) 315 ((mCl (mNm (V 309) (mNm (V 309) (V 314) one other) other one) (V 311) (V 309 4) (mClause (V 309) (V 311) 2) ((mCl (mNm (V 309) (V 314) one other) (V 311) (V 309 4) (mClause (V 309) (V 311) 2) (V 315) (V 316)).1) ((mCl (mNm (V 309) (V 314) one other) (V 311) (V 309 4) (mClause (V 309) (V 311) 2) (V 315) (V 316)).2.1)).1)) 316 ((mCl (mNm (V 309) (mNm (V 309) (V 314) one other) other one) (V 311) (V 309 4) (mClause (V 309) (V 311) 2) ((mCl (mNm (V 309) (V 314) one other) (V 311) (V 309 4) (mClause (V 309) (V 311) 2) (V 315) (V 316)).1) ((mCl (mNm (V 309) (V 314) one other) (V 311) (V 309 4) (mClause (V 309) (V 311) 2) (V 315) (V 316)).2.1)).2.1))) (Eq.trans (congrArg (fun z => up z 316 _) (up_k (by decide) (up_up _ _ _ _))) (up_up _ _ _ _)) ?_
      refine x_al0 dX11_isUnlike_45 ?_
      refine x_getR fl_X11_39 (sh_308 hS) (lq_308 hS) (rf_308_24 hS) dX11_isUnlike_46 ?_
      refine x_iconst dX11_isUnlike_49 ?_
      refine x_zald (sh_316 hS) (lq_316 hS) (by omega) (by omega) dX11_isUnlike_50 ?_
      refine x_topI (a' := (mCl (mNm (V 309) (mNm (V 309) (V 314) one other) other one) (V 311) (V 309 4) (mClause (V 309) (V 311) 2) ((mCl (mNm (V 309) (V 314) one other) (V 311) (V 309 4) (mClause (V 309) (V 311) 2) (V 315) (V 316)).1) ((mCl (mNm (V 309) (V 314) one other) (V 311) (V 309 4) (mClause (V 309) (V 311) 2) (V 315) (V 316)).2.1)).2.1 0) rfl ?_
      exact x_zret hQ ⟨(mNm (V 309) (mNm (V 309) (V 314) one other) other one), ((mCl (mNm (V 309) (mNm (V 309) (V 314) one other) other one) (V 311) (V 309 4) (mClause (V 309) (V 311) 2) ((mCl (mNm (V 309) (V 314) one other) (V 311) (V 309 4) (mClause (V 309) (V 311) 2) (V 315) (V 316)).1) ((mCl (mNm (V 309) (V 314) one other) (V 311) (V 309 4) (mClause (V 309) (V 311) 2) (V 315) (V 316)).2.1)).1), ((mCl (mNm (V 309) (mNm (V 309) (V 314) one other) other one) (V 311) (V 309 4) (mClause (V 309) (V 311) 2) ((mCl (mNm (V 309) (V 314) one other) (V 311) (V 309 4) (mClause (V 309) (V 311) 2) (V 315) (V 316)).1) ((mCl (mNm (V 309) (V 314) one other) (V 311) (V 309 4) (mClause (V 309) (V 311) 2) (V 315) (V 316)).2.1)).2.1), (AB_mNm hA (AB_mNm hA hN _ _) _ _), (TRb_mCl (TRb_mCl hTr)), (congrArg (fun z : Int => some (vI z)) ((unl_v (by omega) (by omega)).trans (mTru_eq (mClause_ok hW (by omega) (by omega)) (by omega)).symm)), rfl, (upE (upE (upE rfl rfl) rfl) rfl)⟩ ((TRb_mCl (TRb_mCl hTr)) 0) dX11_isUnlike_51
    · -- 29 eq -> 32
      refine x_iconst dX11_isUnlike_32 ?_
      exact x_zret hQ ⟨(mNm (V 309) (V 314) one other), ((mCl (mNm (V 309) (V 314) one other) (V 311) (V 309 4) (mClause (V 309) (V 311) 2) (V 315) (V 316)).1), ((mCl (mNm (V 309) (V 314) one other) (V 311) (V 309 4) (mClause (V 309) (V 311) 2) (V 315) (V 316)).2.1), (AB_mNm hA hN _ _), (TRb_mCl hTr), (congrArg (fun z : Int => some (vI z)) (if_pos ⟨by omega, Or.inl (by omega)⟩)), rfl, (upE (upE (upE rfl rfl) rfl) rfl)⟩ (by decide) dX11_isUnlike_33
  · -- 7 ge -> 10
    refine x_iconst dX11_isUnlike_10 ?_
    exact x_zret hQ ⟨(V 314), (V 315), (V 316), hN, hTr, (congrArg (fun z : Int => some (vI z)) (if_neg (fun q => q.1 (by omega)))), rfl, (Eq.trans (upE (upE (upE rfl rfl) rfl) rfl) (scr_self _))⟩ (by decide) dX11_isUnlike_11
set_option maxRecDepth 100000 in
set_option maxHeartbeats 4000000 in
theorem c_X11_manyOf {B : Bs} {S : Stt} {V : Va} (kind : Int) (hS : Stat S) (hA : AB (V 309)) (hX : AB (V 311)) (h44 : -1 ≤ (V 309 4) ∧ (V 309 4) ≤ 3) (hW : 0 ≤ (V 309 4) → TW (V 311) (V 309 4)) (hkind : InR kind) : C B yX11_manyOf cX11_manyOf 4 (some .int) 1 0 0 [vR B 308, vI kind] S V (rI S V (mMany (V 309) (V 311) kind)) := by
  refine C.of [some (vR B 308), some (vI kind), none, none] ?_
  intro Γ hQ
  refine x_iconst dX11_manyOf_0 ?_
  refine x_is2 dX11_manyOf_1 ?_
  have lp2 : ∀ (N2 : Nat) (k : Int), (0 ≤ k ∧ (0 ≤ V 309 4 → k ≤ V 311 (700 * V 309 4))) → (∀ j, 0 ≤ j → j < k → ¬ (V 311 (700 * V 309 4 + 1 + 4 * j) = 3 ∧ V 311 (700 * V 309 4 + 1 + 4 * j + 1) = kind)) → (24 - k).toNat < N2 → X Γ B RX11 "manyOf" cX11_manyOf 4 (some .int) 1 0 0 2 [some (vR B 308), some (vI kind), some (vI k), none] [] 0 0 S V := by
    intro N2
    induction N2 with
    | zero => intro k hk hb hN; exact absurd hN (Nat.not_lt_zero _)
    | succ N2 ih2 =>
      intro k hk hb hN2
      refine x_al0 dX11_manyOf_2 ?_
      refine x_getR fl_X11_7 (sh_308 hS) (lq_308 hS) (rf_308_0 hS) dX11_manyOf_3 ?_
      refine x_iconst dX11_manyOf_6 ?_
      have hb1 := hA 4
      refine x_iald (sh_309 hS) (lq_309 hS) (by omega) (by omega) dX11_manyOf_7 ?_
      refine x_topI (a' := V 309 4) rfl ?_
      refine x_if_lt (tgt := 84) dX11_manyOf_8 (inr (by omega)) (fun c8_2 => ?_) (fun c8_2 => ?_)
      · -- 8 lt -> 84
        refine x_iconst dX11_manyOf_84 ?_
        exact x_iret hQ (rI.mk (by have e : mManyK (V 309) (V 311) kind = -1 := (by simp only [mManyK]; by_cases q : V 309 4 < 0; (rw [if_pos q]); rw [if_neg q]; exact findT_no (fun j h1 h2 => decide_eq_false (hb j h1 (by have := hk.2 (by omega); omega)))); simp only [mMany]; rw [e, if_pos (by omega)]) rfl) dX11_manyOf_85
      · -- 8 lt -> 11
        have hw := hW (by omega)
        have hw1 := hw.1
        have hw2 := hw.2.1
        refine x_il2 dX11_manyOf_11 ?_
        refine x_al0 dX11_manyOf_12 ?_
        refine x_getR fl_X11_16 (sh_308 hS) (lq_308 hS) (rf_308_2 hS) dX11_manyOf_13 ?_
        refine x_sipush dX11_manyOf_16 ?_
        refine x_al0 dX11_manyOf_19 ?_
        refine x_getR fl_X11_7 (sh_308 hS) (lq_308 hS) (rf_308_0 hS) dX11_manyOf_20 ?_
        refine x_iconst dX11_manyOf_23 ?_
        have hb3 := hA 4
        refine x_iald (sh_309 hS) (lq_309 hS) (by omega) (by omega) dX11_manyOf_24 ?_
        refine x_topI (a' := V 309 4) rfl ?_
        refine x_imul dX11_manyOf_25 ?_
        have hb4 := hX (700 * (V 309 4))
        refine x_iald (sh_311 hS) (lq_311 hS) (by omega) (by omega) dX11_manyOf_26 ?_
        refine x_topI (a' := V 311 (700 * (V 309 4))) rfl ?_
        refine x_icmp_ge (tgt := 84) dX11_manyOf_27 (inr (by omega)) (inr (by omega)) (fun c27_5 => ?_) (fun c27_5 => ?_)
        · -- 27 ge -> 84
          refine x_iconst dX11_manyOf_84 ?_
          exact x_iret hQ (rI.mk (by have e : mManyK (V 309) (V 311) kind = -1 := (by simp only [mManyK]; by_cases q : V 309 4 < 0; (rw [if_pos q]); rw [if_neg q]; exact findT_no (fun j h1 h2 => decide_eq_false (hb j h1 (by have := hk.2 (by omega); omega)))); simp only [mMany]; rw [e, if_pos (by omega)]) rfl) dX11_manyOf_85
        · -- 27 ge -> 30
          refine x_sipush dX11_manyOf_30 ?_
          refine x_al0 dX11_manyOf_33 ?_
          refine x_getR fl_X11_7 (sh_308 hS) (lq_308 hS) (rf_308_0 hS) dX11_manyOf_34 ?_
          refine x_iconst dX11_manyOf_37 ?_
          have hb6 := hA 4
          refine x_iald (sh_309 hS) (lq_309 hS) (by omega) (by omega) dX11_manyOf_38 ?_
          refine x_topI (a' := V 309 4) rfl ?_
          refine x_imul dX11_manyOf_39 ?_
          refine x_iconst dX11_manyOf_40 ?_
          refine x_iadd dX11_manyOf_41 ?_
          refine x_iconst dX11_manyOf_42 ?_
          refine x_il2 dX11_manyOf_43 ?_
          refine x_imul dX11_manyOf_44 ?_
          refine x_iadd dX11_manyOf_45 ?_
          refine x_is3 dX11_manyOf_46 ?_
          refine x_al0 dX11_manyOf_47 ?_
          refine x_getR fl_X11_16 (sh_308 hS) (lq_308 hS) (rf_308_2 hS) dX11_manyOf_48 ?_
          refine x_il3 dX11_manyOf_51 ?_
          have hb7 := hX (((700 * (V 309 4)) + 1) + (4 * k))
          refine x_iald (sh_311 hS) (lq_311 hS) (by omega) (by omega) dX11_manyOf_52 ?_
          refine x_topI (a' := V 311 (((700 * (V 309 4)) + 1) + (4 * k))) rfl ?_
          refine x_iconst dX11_manyOf_53 ?_
          refine x_icmp_ne (tgt := 78) dX11_manyOf_54 (inr (by omega)) (inr (by decide)) (fun c54_8 => ?_) (fun c54_8 => ?_)
          · -- 54 ne -> 78
            refine x_inc2 dX11_manyOf_78 ?_
            refine x_goto (tgt := 2) dX11_manyOf_81 ?_
            exact x_fg (ih2 (k + 1) ⟨by omega, fun _ => by omega⟩ (fun j h1 h2 => by rcases (show j < k ∨ j = k by omega) with q | rfl; (exact hb j h1 q); omega) (by omega)) (And.intro rfl (And.intro rfl (And.intro rfl trivial)))
          · -- 54 ne -> 57
            refine x_al0 dX11_manyOf_57 ?_
            refine x_getR fl_X11_16 (sh_308 hS) (lq_308 hS) (rf_308_2 hS) dX11_manyOf_58 ?_
            refine x_il3 dX11_manyOf_61 ?_
            refine x_iconst dX11_manyOf_62 ?_
            refine x_iadd dX11_manyOf_63 ?_
            have hb9 := hX ((((700 * (V 309 4)) + 1) + (4 * k)) + 1)
            refine x_iald (sh_311 hS) (lq_311 hS) (by omega) (by omega) dX11_manyOf_64 ?_
            refine x_topI (a' := V 311 ((((700 * (V 309 4)) + 1) + (4 * k)) + 1)) rfl ?_
            refine x_il1 dX11_manyOf_65 ?_
            refine x_icmp_ne (tgt := 78) dX11_manyOf_66 (inr (by omega)) (inr (by omega)) (fun c66_10 => ?_) (fun c66_10 => ?_)
            · -- 66 ne -> 78
              refine x_inc2 dX11_manyOf_78 ?_
              refine x_goto (tgt := 2) dX11_manyOf_81 ?_
              exact x_fg (ih2 (k + 1) ⟨by omega, fun _ => by omega⟩ (fun j h1 h2 => by rcases (show j < k ∨ j = k by omega) with q | rfl; (exact hb j h1 q); omega) (by omega)) (And.intro rfl (And.intro rfl (And.intro rfl trivial)))
            · -- 66 ne -> 69
              refine x_al0 dX11_manyOf_69 ?_
              refine x_getR fl_X11_16 (sh_308 hS) (lq_308 hS) (rf_308_2 hS) dX11_manyOf_70 ?_
              refine x_il3 dX11_manyOf_73 ?_
              refine x_iconst dX11_manyOf_74 ?_
              refine x_iadd dX11_manyOf_75 ?_
              have hb11 := hX ((((700 * (V 309 4)) + 1) + (4 * k)) + 2)
              refine x_iald (sh_311 hS) (lq_311 hS) (by omega) (by omega) dX11_manyOf_76 ?_
              refine x_topI (a' := V 311 ((((700 * (V 309 4)) + 1) + (4 * k)) + 2)) rfl ?_
              exact x_iret hQ (rI.mk (by have e : mManyK (V 309) (V 311) kind = k := (by simp only [mManyK]; rw [if_neg (by omega)]; exact findT_at (by omega) (by omega) (decide_eq_true ⟨by omega, by omega⟩) (fun j h1 h2 => decide_eq_false (hb j h1 h2))); simp only [mMany]; rw [e, if_neg (by omega)]) rfl) dX11_manyOf_77
  exact x_fg (lp2 _ 0 ⟨by omega, fun h => (hW h).1⟩ (fun j h1 h2 => by omega) (Nat.lt_succ_self _)) (And.intro rfl (And.intro rfl (And.intro rfl trivial)))
set_option maxRecDepth 100000 in
set_option maxHeartbeats 4000000 in
theorem c_X11_of {B : Bs} {S : Stt} {V : Va} (bone : Int) (what : Int) (hS : Stat S) (hA : AB (V 309)) (hX : AB (V 311)) (h44 : -1 ≤ (V 309 4) ∧ (V 309 4) ≤ 3) (hW : 0 ≤ (V 309 4) → TW (V 311) (V 309 4)) (hN : AB (V 314)) (hTr : TRb (V 316)) (h1 : 0 ≤ (V 309 1) ∧ (V 309 1) ≤ 16) (hbone : InR bone) (hwhat : InR what) : C B yX11_of cX11_of 3 (some .int) 5 0 0 [vR B 308, vI bone, vI what] S V (rIs S V (if mBoneOk (V 309) bone then (if 0 ≤ what ∧ what ≤ 4 then (V 309) (30 + 6 * bone + what) else if what = 5 then sumT (fun k => (V 309) (30 + 6 * bone + 5) / p2 k % 2) 16 else if what = 6 then (if mHoly (V 309) (V 311) bone then 1 else 0) else -2) else -2)) := by
  refine C.of [some (vR B 308), some (vI bone), some (vI what)] ?_
  intro Γ hQ
  refine x_al0 dX11_of_0 ?_
  refine x_il1 dX11_of_1 ?_
  refine x_cVi mm_X11_isBone ml_X11_91 dX11_of_2 (c_X11_isBone bone hS hA (inr (by omega))) (sh_308 hS) (lq_308 hS) ?_
  refine x_ifb_ne (tgt := 11) dX11_of_5 (fun c5_1 => ?_) (fun c5_1 => ?_)
  · -- 5 ne -> 11
    refine x_il2 dX11_of_11 ?_
    by_cases hs2 : what = 0
    · refine x_tswIn (tgt := 56) (off := 44) dX11_of_12 0 hs2 ?_
      refine x_al0 dX11_of_56 ?_
      refine x_getR fl_X11_7 (sh_308 hS) (lq_308 hS) (rf_308_0 hS) dX11_of_57 ?_
      refine x_il1 dX11_of_60 ?_
      refine x_cSi mm_X11_boneAt ml_X11_87 dX11_of_61 (c_X11_boneAt bone) ?_
      refine x_il2 dX11_of_64 ?_
      refine x_iadd dX11_of_65 ?_
      have hb3 := hA ((30 + 6 * bone) + what)
      refine x_iald (sh_309 hS) (lq_309 hS) (by omega) (by omega) dX11_of_66 ?_
      refine x_topI (a' := V 309 ((30 + 6 * bone) + what)) rfl ?_
      exact x_iret hQ ⟨(V 314), (V 315), (V 316), hN, hTr, (congrArg (fun z : Int => some (vI z)) (by rw [if_pos (by simp only [mBoneOk]; omega), if_pos (by omega)])), rfl, (Eq.trans (upE (upE (upE rfl rfl) rfl) rfl) (scr_self _))⟩ dX11_of_67
    by_cases hs4 : what = 1
    · refine x_tswIn (tgt := 56) (off := 44) dX11_of_12 1 hs4 ?_
      refine x_al0 dX11_of_56 ?_
      refine x_getR fl_X11_7 (sh_308 hS) (lq_308 hS) (rf_308_0 hS) dX11_of_57 ?_
      refine x_il1 dX11_of_60 ?_
      refine x_cSi mm_X11_boneAt ml_X11_87 dX11_of_61 (c_X11_boneAt bone) ?_
      refine x_il2 dX11_of_64 ?_
      refine x_iadd dX11_of_65 ?_
      have hb5 := hA ((30 + 6 * bone) + what)
      refine x_iald (sh_309 hS) (lq_309 hS) (by omega) (by omega) dX11_of_66 ?_
      refine x_topI (a' := V 309 ((30 + 6 * bone) + what)) rfl ?_
      exact x_iret hQ ⟨(V 314), (V 315), (V 316), hN, hTr, (congrArg (fun z : Int => some (vI z)) (by rw [if_pos (by simp only [mBoneOk]; omega), if_pos (by omega)])), rfl, (Eq.trans (upE (upE (upE rfl rfl) rfl) rfl) (scr_self _))⟩ dX11_of_67
    by_cases hs6 : what = 2
    · refine x_tswIn (tgt := 56) (off := 44) dX11_of_12 2 hs6 ?_
      refine x_al0 dX11_of_56 ?_
      refine x_getR fl_X11_7 (sh_308 hS) (lq_308 hS) (rf_308_0 hS) dX11_of_57 ?_
      refine x_il1 dX11_of_60 ?_
      refine x_cSi mm_X11_boneAt ml_X11_87 dX11_of_61 (c_X11_boneAt bone) ?_
      refine x_il2 dX11_of_64 ?_
      refine x_iadd dX11_of_65 ?_
      have hb7 := hA ((30 + 6 * bone) + what)
      refine x_iald (sh_309 hS) (lq_309 hS) (by omega) (by omega) dX11_of_66 ?_
      refine x_topI (a' := V 309 ((30 + 6 * bone) + what)) rfl ?_
      exact x_iret hQ ⟨(V 314), (V 315), (V 316), hN, hTr, (congrArg (fun z : Int => some (vI z)) (by rw [if_pos (by simp only [mBoneOk]; omega), if_pos (by omega)])), rfl, (Eq.trans (upE (upE (upE rfl rfl) rfl) rfl) (scr_self _))⟩ dX11_of_67
    by_cases hs8 : what = 3
    · refine x_tswIn (tgt := 56) (off := 44) dX11_of_12 3 hs8 ?_
      refine x_al0 dX11_of_56 ?_
      refine x_getR fl_X11_7 (sh_308 hS) (lq_308 hS) (rf_308_0 hS) dX11_of_57 ?_
      refine x_il1 dX11_of_60 ?_
      refine x_cSi mm_X11_boneAt ml_X11_87 dX11_of_61 (c_X11_boneAt bone) ?_
      refine x_il2 dX11_of_64 ?_
      refine x_iadd dX11_of_65 ?_
      have hb9 := hA ((30 + 6 * bone) + what)
      refine x_iald (sh_309 hS) (lq_309 hS) (by omega) (by omega) dX11_of_66 ?_
      refine x_topI (a' := V 309 ((30 + 6 * bone) + what)) rfl ?_
      exact x_iret hQ ⟨(V 314), (V 315), (V 316), hN, hTr, (congrArg (fun z : Int => some (vI z)) (by rw [if_pos (by simp only [mBoneOk]; omega), if_pos (by omega)])), rfl, (Eq.trans (upE (upE (upE rfl rfl) rfl) rfl) (scr_self _))⟩ dX11_of_67
    by_cases hs10 : what = 4
    · refine x_tswIn (tgt := 56) (off := 44) dX11_of_12 4 hs10 ?_
      refine x_al0 dX11_of_56 ?_
      refine x_getR fl_X11_7 (sh_308 hS) (lq_308 hS) (rf_308_0 hS) dX11_of_57 ?_
      refine x_il1 dX11_of_60 ?_
      refine x_cSi mm_X11_boneAt ml_X11_87 dX11_of_61 (c_X11_boneAt bone) ?_
      refine x_il2 dX11_of_64 ?_
      refine x_iadd dX11_of_65 ?_
      have hb11 := hA ((30 + 6 * bone) + what)
      refine x_iald (sh_309 hS) (lq_309 hS) (by omega) (by omega) dX11_of_66 ?_
      refine x_topI (a' := V 309 ((30 + 6 * bone) + what)) rfl ?_
      exact x_iret hQ ⟨(V 314), (V 315), (V 316), hN, hTr, (congrArg (fun z : Int => some (vI z)) (by rw [if_pos (by simp only [mBoneOk]; omega), if_pos (by omega)])), rfl, (Eq.trans (upE (upE (upE rfl rfl) rfl) rfl) (scr_self _))⟩ dX11_of_67
    by_cases hs12 : what = 5
    · refine x_tswIn (tgt := 68) (off := 56) dX11_of_12 5 hs12 ?_
      refine x_al0 dX11_of_68 ?_
      refine x_getR fl_X11_7 (sh_308 hS) (lq_308 hS) (rf_308_0 hS) dX11_of_69 ?_
      refine x_il1 dX11_of_72 ?_
      refine x_cSi mm_X11_boneAt ml_X11_87 dX11_of_73 (c_X11_boneAt bone) ?_
      refine x_iconst dX11_of_76 ?_
      refine x_iadd dX11_of_77 ?_
      have hb13 := hA ((30 + 6 * bone) + 5)
      refine x_iald (sh_309 hS) (lq_309 hS) (by omega) (by omega) dX11_of_78 ?_
      refine x_topI (a' := V 309 ((30 + 6 * bone) + 5)) rfl ?_
      refine x_cSi mm_X11_bits ml_X11_303 dX11_of_79 (c_X11_bits (V 309 ((30 + 6 * bone) + 5)) (inr (by omega))) ?_
      exact x_iret hQ ⟨(V 314), (V 315), (V 316), hN, hTr, (congrArg (fun z : Int => some (vI z)) (by rw [if_pos (by simp only [mBoneOk]; omega), if_neg (by omega), if_pos (by omega)])), rfl, (Eq.trans (upE (upE (upE rfl rfl) rfl) rfl) (scr_self _))⟩ dX11_of_82
    by_cases hs14 : what = 6
    · refine x_tswIn (tgt := 83) (off := 71) dX11_of_12 6 hs14 ?_
      refine x_al0 dX11_of_83 ?_
      refine x_il1 dX11_of_84 ?_
      refine x_cVis mm_X11_isHoly ml_X11_306 dX11_of_85 (c_X11_isHoly bone hS hA hX h44 hW hN hTr (by omega)) (sh_308 hS) (lq_308 hS) (fun f15 g15 h15 hf15 hh15 => ?_)
      refine x_ifb_eq (tgt := 95) dX11_of_88 (fun c88_16 => ?_) (fun c88_16 => ?_)
      · -- 88 eq -> 95
        refine x_iconst dX11_of_95 ?_
        exact x_iret hQ ⟨f15, g15, h15, hf15, hh15, (congrArg (fun z : Int => some (vI z)) (by rw [if_pos (by simp only [mBoneOk]; omega), if_neg (by omega), if_neg (by omega), if_pos (by omega)]; first | exact if_pos (by assumption) | exact if_neg (by assumption))), rfl, (upE (upE (upE rfl rfl) rfl) rfl)⟩ dX11_of_96
      · -- 88 eq -> 91
        refine x_iconst dX11_of_91 ?_
        refine x_goto (tgt := 96) dX11_of_92 ?_
        exact x_iret hQ ⟨f15, g15, h15, hf15, hh15, (congrArg (fun z : Int => some (vI z)) (by rw [if_pos (by simp only [mBoneOk]; omega), if_neg (by omega), if_neg (by omega), if_pos (by omega)]; first | exact if_pos (by assumption) | exact if_neg (by assumption))), rfl, (upE (upE (upE rfl rfl) rfl) rfl)⟩ dX11_of_96
    refine x_tswOut (tgt := 97) dX11_of_12 (inr (by omega)) (by omega) ?_
    refine x_bipush dX11_of_97 ?_
    exact x_iret hQ ⟨(V 314), (V 315), (V 316), hN, hTr, (congrArg (fun z : Int => some (vI z)) (by rw [if_pos (by simp only [mBoneOk]; omega), if_neg (by omega), if_neg (by omega), if_neg (by omega)])), rfl, (Eq.trans (upE (upE (upE rfl rfl) rfl) rfl) (scr_self _))⟩ dX11_of_99
  · -- 5 ne -> 8
    refine x_bipush dX11_of_8 ?_
    exact x_iret hQ ⟨(V 314), (V 315), (V 316), hN, hTr, (congrArg (fun z : Int => some (vI z)) (if_neg (by simp only [mBoneOk]; omega))), rfl, (Eq.trans (upE (upE (upE rfl rfl) rfl) rfl) (scr_self _))⟩ dX11_of_10
set_option maxRecDepth 100000 in
set_option maxHeartbeats 4000000 in
theorem c_X11_passOne {B : Bs} {S : Stt} {V : Va} (hS : Stat S) (hA : AB (V 309)) (hX : AB (V 311)) (h44 : -1 ≤ (V 309 4) ∧ (V 309 4) ≤ 3) (hW : 0 ≤ (V 309 4) → TW (V 311) (V 309 4)) (hN : AB (V 314)) (hTr : TRb (V 316)) (h1 : 0 ≤ (V 309 1) ∧ (V 309 1) ≤ 16) (h2 : 0 ≤ (V 309 2) ∧ (V 309 2) ≤ 999) : C B yX11_passOne cX11_passOne 6 none 4 0 0 [vR B 308] S V (rVs S (up V 309 (mPassOne (V 309) (V 311)))) := by
  refine C.of [some (vR B 308), none, none, none, none, none] ?_
  intro Γ hQ
  have hcr := mClause_r (s := 0) hW
  refine x_al0 dX11_passOne_0 ?_
  refine x_getR fl_X11_7 (sh_308 hS) (lq_308 hS) (rf_308_0 hS) dX11_passOne_1 ?_
  refine x_iconst dX11_passOne_4 ?_
  refine x_dup2 dX11_passOne_5 ?_
  have hb1 := hA 2
  refine x_iald (sh_309 hS) (lq_309 hS) (by omega) (by omega) dX11_passOne_6 ?_
  refine x_topI (a' := V 309 2) rfl ?_
  refine x_iconst dX11_passOne_7 ?_
  refine x_iadd dX11_passOne_8 ?_
  refine x_iast (sh_309 hS) (lq_309 hS) (by omega) (by omega) dX11_passOne_9 ?_
  refine x_mem (V' := (up V 309 (ua (V 309) 2 ((V 309 2) + 1)))) rfl ?_
  refine x_al0 dX11_passOne_10 ?_
  refine x_iconst dX11_passOne_11 ?_
  refine x_cVi mm_X11_clauseOf ml_X11_103 dX11_passOne_12 (c_X11_clauseOf 0 hS (show AB (ua (V 309) 2 ((V 309 2) + 1)) from (AB_ua hA (by have := hA 2; omega))) (show AB (V 311) from hX) (show -1 ≤ (V 309 4) ∧ (V 309 4) ≤ 3 from h44) (show 0 ≤ (V 309 4) → TW (V 311) (V 309 4) from hW) (inr (by decide))) (sh_308 hS) (lq_308 hS) ?_
  refine x_topI (a' := mClause (ua (V 309) 2 ((V 309 2) + 1)) (V 311) 0) rfl ?_
  refine x_topI (a' := mClause (V 309) (V 311) 0) rfl ?_
  refine x_is1 dX11_passOne_15 ?_
  refine x_iconst dX11_passOne_16 ?_
  refine x_is2 dX11_passOne_17 ?_
  have lp18 : ∀ (N18 : Nat) (b : Int) (cu : Int → Int) (f : Int → Int) (g : Int → Int) (h : Int → Int), (0 ≤ b ∧ b ≤ V 309 1) → (cu = mAgeK (ua (V 309) 2 (V 309 2 + 1)) (V 311) (mClause (V 309) (V 311) 0) b.toNat) → (AB f) → (TRb h) → (V 309 1 - b).toNat < N18 → X Γ B RX11 "passOne" cX11_passOne 6 none 4 0 0 18 [some (vR B 308), some (vI (mClause (V 309) (V 311) 0)), some (vI b), none, none, none] [] 0 0 S (up (up (up (up V 309 cu) 314 f) 315 g) 316 h) := by
    intro N18
    induction N18 with
    | zero => intro b cu f g h hb hcu hf hh hN; exact absurd hN (Nat.not_lt_zero _)
    | succ N18 ih18 =>
      intro b cu f g h hb hcu hf hh hN18
      have hB : AB cu := by rw [hcu]; exact AB_mAgeK (AB_ua hA (by have := hA 2; omega)) _
      have hc1 : cu 1 = V 309 1 := by rw [hcu, mAgeK_lo _ (by omega), ua_ne (by omega)]
      have hc4 : cu 4 = V 309 4 := by rw [hcu, mAgeK_lo _ (by omega), ua_ne (by omega)]
      have hc2 : cu 2 = V 309 2 + 1 := by rw [hcu, mAgeK_lo _ (by omega), ua_same]
      refine x_il2 dX11_passOne_18 ?_
      refine x_al0 dX11_passOne_19 ?_
      refine x_getR fl_X11_7 (sh_308 hS) (lq_308 hS) (rf_308_0 hS) dX11_passOne_20 ?_
      refine x_iconst dX11_passOne_23 ?_
      have hb2 := hB 1
      refine x_iald (sh_309 hS) (lq_309 hS) (by omega) (by omega) dX11_passOne_24 ?_
      refine x_topI (a' := cu 1) rfl ?_
      refine x_icmp_ge (tgt := 154) dX11_passOne_25 (inr (by omega)) (inr (by omega)) (fun c25_3 => ?_) (fun c25_3 => ?_)
      · -- 25 ge -> 154
        exact x_vret hQ ⟨f, g, h, hf, hh, rfl, rfl, (upE (upE (upE (by simp only [mPassOne]; rw [hcu, show b = V 309 1 by omega]) rfl) rfl) rfl)⟩ dX11_passOne_154
      · -- 25 ge -> 28
        have hq4 := hB (30 + 6 * b + 4)
        refine x_il2 dX11_passOne_28 ?_
        refine x_cSi mm_X11_boneAt ml_X11_87 dX11_passOne_29 (c_X11_boneAt b) ?_
        refine x_is3 dX11_passOne_32 ?_
        refine x_il1 dX11_passOne_33 ?_
        refine x_if_lt (tgt := 103) dX11_passOne_34 (inr (by omega)) (fun c34_4 => ?_) (fun c34_4 => ?_)
        · -- 34 lt -> 103
          refine x_al0 dX11_passOne_103 ?_
          refine x_getR fl_X11_7 (sh_308 hS) (lq_308 hS) (rf_308_0 hS) dX11_passOne_104 ?_
          refine x_il3 dX11_passOne_107 ?_
          refine x_iconst dX11_passOne_108 ?_
          refine x_iadd dX11_passOne_109 ?_
          have hb5 := hB ((30 + 6 * b) + 4)
          refine x_iald (sh_309 hS) (lq_309 hS) (by omega) (by omega) dX11_passOne_110 ?_
          refine x_topI (a' := cu ((30 + 6 * b) + 4)) rfl ?_
          refine x_al0 dX11_passOne_111 ?_
          refine x_getR fl_X11_7 (sh_308 hS) (lq_308 hS) (rf_308_0 hS) dX11_passOne_112 ?_
          refine x_iconst dX11_passOne_115 ?_
          have hb6 := hB 2
          refine x_iald (sh_309 hS) (lq_309 hS) (by omega) (by omega) dX11_passOne_116 ?_
          refine x_topI (a' := cu 2) rfl ?_
          refine x_icmp_eq (tgt := 123) dX11_passOne_117 (inr (by omega)) (inr (by omega)) (fun c117_7 => ?_) (fun c117_7 => ?_)
          · -- 117 eq -> 123
            refine x_al0 dX11_passOne_123 ?_
            refine x_getR fl_X11_7 (sh_308 hS) (lq_308 hS) (rf_308_0 hS) dX11_passOne_124 ?_
            refine x_il3 dX11_passOne_127 ?_
            refine x_iconst dX11_passOne_128 ?_
            refine x_iadd dX11_passOne_129 ?_
            refine x_al0 dX11_passOne_130 ?_
            refine x_getR fl_X11_7 (sh_308 hS) (lq_308 hS) (rf_308_0 hS) dX11_passOne_131 ?_
            refine x_il3 dX11_passOne_134 ?_
            refine x_iconst dX11_passOne_135 ?_
            refine x_iadd dX11_passOne_136 ?_
            have hb8 := hB ((30 + 6 * b) + 2)
            refine x_iald (sh_309 hS) (lq_309 hS) (by omega) (by omega) dX11_passOne_137 ?_
            refine x_topI (a' := cu ((30 + 6 * b) + 2)) rfl ?_
            refine x_iast (sh_309 hS) (lq_309 hS) (by omega) (by omega) dX11_passOne_138 ?_
            refine x_mem (V' := (up (up (up (up V 309 (ua cu ((30 + 6 * b) + 3) (cu ((30 + 6 * b) + 2)))) 314 f) 315 g) 316 h)) (st2_c (by decide) (st2_c (by decide) (st2_c (by decide) (st2_up _ _ _ _ _)))) ?_
            refine x_al0 dX11_passOne_139 ?_
            refine x_getR fl_X11_7 (sh_308 hS) (lq_308 hS) (rf_308_0 hS) dX11_passOne_140 ?_
            refine x_il3 dX11_passOne_143 ?_
            refine x_iconst dX11_passOne_144 ?_
            refine x_iadd dX11_passOne_145 ?_
            refine x_iconst dX11_passOne_146 ?_
            refine x_iast (sh_309 hS) (lq_309 hS) (by omega) (by omega) dX11_passOne_147 ?_
            refine x_mem (V' := (up (up (up (up V 309 (ua (ua cu ((30 + 6 * b) + 3) (cu ((30 + 6 * b) + 2))) ((30 + 6 * b) + 4) (-1))) 314 f) 315 g) 316 h)) (st2_c (by decide) (st2_c (by decide) (st2_c (by decide) (st2_up _ _ _ _ _)))) ?_
            refine x_inc2 dX11_passOne_148 ?_
            refine x_goto (tgt := 18) dX11_passOne_151 ?_
            exact x_fg (ih18 (b + 1) (ua (ua cu ((30 + 6 * b) + 3) (cu ((30 + 6 * b) + 2))) ((30 + 6 * b) + 4) (-1)) f g h (by omega) (by rw [show (b + 1).toNat = b.toNat + 1 by omega]; simp only [mAgeK]; rw [← hcu, show ((b.toNat : Nat) : Int) = b by omega]; first | exact mAgeB_a (by omega) (by omega) | exact mAgeB_b (by omega) (by omega) | exact mAgeB_c (by omega) (by omega) (by first | exact age_e0 (by omega) (by omega) | exact age_e1 (by omega) (by omega)) | exact mAgeB_d (by omega) (by omega) (by first | exact age_e0 (by omega) (by omega) | exact age_e1 (by omega) (by omega))) hf hh (by omega)) (And.intro rfl (And.intro rfl (And.intro rfl trivial)))
          · -- 117 eq -> 120
            refine x_goto (tgt := 148) dX11_passOne_120 ?_
            refine x_inc2 dX11_passOne_148 ?_
            refine x_goto (tgt := 18) dX11_passOne_151 ?_
            exact x_fg (ih18 (b + 1) cu f g h (by omega) (by rw [show (b + 1).toNat = b.toNat + 1 by omega]; simp only [mAgeK]; rw [← hcu, show ((b.toNat : Nat) : Int) = b by omega]; first | exact mAgeB_a (by omega) (by omega) | exact mAgeB_b (by omega) (by omega) | exact mAgeB_c (by omega) (by omega) (by first | exact age_e0 (by omega) (by omega) | exact age_e1 (by omega) (by omega)) | exact mAgeB_d (by omega) (by omega) (by first | exact age_e0 (by omega) (by omega) | exact age_e1 (by omega) (by omega))) hf hh (by omega)) (And.intro rfl (And.intro rfl (And.intro rfl trivial)))
        · -- 34 lt -> 37
          have hok : okCl (V 311) (cu 4) (mClause (V 309) (V 311) 0) := by rw [hc4]; exact mClause_ok hW (by omega) (by omega)
          have hks : V 311 (700 * cu 4 + 1 + 4 * mClause (V 309) (V 311) 0) = 0 := by rw [hc4]; omega
          have hvr := mVal_r (b := b) (o := 0) hB hok hks
          refine x_al0 dX11_passOne_37 ?_
          refine x_il2 dX11_passOne_38 ?_
          refine x_iconst dX11_passOne_39 ?_
          refine x_cVv mm_X11_name ml_X11_106 dX11_passOne_40 (c_X11_name b 0 hS (show AB cu from hB) (by omega) (by omega)) (sh_308 hS) (lq_308 hS) ?_
          refine x_mem (V' := (up (up (up (up V 309 cu) 314 (mNm cu f b 0)) 315 g) 316 h)) (up_k (by decide) (up_k (by decide) (up_up _ _ _ _))) ?_
          refine x_al0 dX11_passOne_43 ?_
          refine x_il1 dX11_passOne_44 ?_
          refine x_cVv mm_X11_work ml_X11_110 dX11_passOne_45 (c_X11_work (mClause (V 309) (V 311) 0) hS (show AB cu from hB) (show AB (V 311) from hX) (show -1 ≤ (cu 4) ∧ (cu 4) ≤ 3 from (by rw [hc4]; exact h44)) (show 0 ≤ (cu 4) from (by omega)) (show AB (mNm cu f b 0) from (AB_mNm hB hf _ _)) (show TRb h from hh) (by omega) (show okCl (V 311) (cu 4) (mClause (V 309) (V 311) 0) from hok)) (sh_308 hS) (lq_308 hS) ?_
          refine x_mem (V' := (up (up (up (up V 309 cu) 314 (mNm cu f b 0)) 315 ((mCl (mNm cu f b 0) (V 311) (cu 4) (mClause (V 309) (V 311) 0) g h).1)) 316 ((mCl (mNm cu f b 0) (V 311) (cu 4) (mClause (V 309) (V 311) 0) g h).2.1))) (Eq.trans (congrArg (fun z => up z 316 _) (up_k (by decide) (up_up _ _ _ _))) (up_up _ _ _ _)) ?_
          refine x_al0 dX11_passOne_48 ?_
          refine x_getR fl_X11_7 (sh_308 hS) (lq_308 hS) (rf_308_0 hS) dX11_passOne_49 ?_
          refine x_il3 dX11_passOne_52 ?_
          refine x_iconst dX11_passOne_53 ?_
          refine x_iadd dX11_passOne_54 ?_
          have hb9 := hB ((30 + 6 * b) + 1)
          refine x_iald (sh_309 hS) (lq_309 hS) (by omega) (by omega) dX11_passOne_55 ?_
          refine x_topI (a' := cu ((30 + 6 * b) + 1)) rfl ?_
          refine x_i2l (inr (by omega)) dX11_passOne_56 ?_
          refine x_al0 dX11_passOne_57 ?_
          refine x_getR fl_X11_35 (sh_308 hS) (lq_308 hS) (rf_308_23 hS) dX11_passOne_58 ?_
          refine x_iconst dX11_passOne_61 ?_
          refine x_lald (sh_315 hS) (lq_315 hS) (by omega) (by omega) dX11_passOne_62 ?_
          refine x_topL (a' := (mCl (mNm cu f b 0) (V 311) (cu 4) (mClause (V 309) (V 311) 0) g h).1 0) rfl ?_
          refine x_topL (a' := mVal cu (V 311) (mClause (V 309) (V 311) 0) b 0) (mVal_eqT rfl hok hks) ?_
          refine x_lconst0 dX11_passOne_63 ?_
          refine x_lcmp_ge (tgt := 72) dX11_passOne_64 dX11_passOne_65 (inl_ (by omega)) (inl_ (by decide)) (fun c64_10 => ?_) (fun c64_10 => ?_)
          · -- 64 ge -> 72
            refine x_al0 dX11_passOne_72 ?_
            refine x_getR fl_X11_35 (sh_308 hS) (lq_308 hS) (rf_308_23 hS) dX11_passOne_73 ?_
            refine x_iconst dX11_passOne_76 ?_
            refine x_lald (sh_315 hS) (lq_315 hS) (by omega) (by omega) dX11_passOne_77 ?_
            refine x_topL (a' := (mCl (mNm cu f b 0) (V 311) (cu 4) (mClause (V 309) (V 311) 0) g h).1 0) rfl ?_
            refine x_topL (a' := mVal cu (V 311) (mClause (V 309) (V 311) 0) b 0) (mVal_eqT rfl hok hks) ?_
            refine x_lsub dX11_passOne_78 ?_
            refine x_ls4 dX11_passOne_79 ?_
            refine x_al0 dX11_passOne_81 ?_
            refine x_getR fl_X11_7 (sh_308 hS) (lq_308 hS) (rf_308_0 hS) dX11_passOne_82 ?_
            refine x_il3 dX11_passOne_85 ?_
            refine x_iconst dX11_passOne_86 ?_
            refine x_iadd dX11_passOne_87 ?_
            refine x_ll4 dX11_passOne_88 ?_
            refine x_lconst1 dX11_passOne_90 ?_
            refine x_lcmp_ge (tgt := 99) dX11_passOne_91 dX11_passOne_92 (inl_ (by omega)) (inl_ (by decide)) (fun c91_11 => ?_) (fun c91_11 => ?_)
            · -- 91 ge -> 99
              refine x_ll4 dX11_passOne_99 ?_
              refine x_l2i dX11_passOne_101 ?_
              refine x_iast (sh_309 hS) (lq_309 hS) (by omega) (by omega) dX11_passOne_102 ?_
              refine x_mem (V' := (up (up (up (up V 309 (ua cu ((30 + 6 * b) + 1) ((cu ((30 + 6 * b) + 1)) - (mVal cu (V 311) (mClause (V 309) (V 311) 0) b 0)))) 314 (mNm cu f b 0)) 315 ((mCl (mNm cu f b 0) (V 311) (cu 4) (mClause (V 309) (V 311) 0) g h).1)) 316 ((mCl (mNm cu f b 0) (V 311) (cu 4) (mClause (V 309) (V 311) 0) g h).2.1))) (st2_c (by decide) (st2_c (by decide) (st2_c (by decide) (st2_up _ _ _ _ _)))) ?_
              refine x_al0 dX11_passOne_103 ?_
              refine x_getR fl_X11_7 (sh_308 hS) (lq_308 hS) (rf_308_0 hS) dX11_passOne_104 ?_
              refine x_il3 dX11_passOne_107 ?_
              refine x_iconst dX11_passOne_108 ?_
              refine x_iadd dX11_passOne_109 ?_
              have hb12 := hB ((30 + 6 * b) + 4)
              refine x_iald (sh_309 hS) (lq_309 hS) (by omega) (by omega) dX11_passOne_110 ?_
              refine x_topI (a' := cu ((30 + 6 * b) + 4)) (show (ua cu ((30 + 6 * b) + 1) ((cu ((30 + 6 * b) + 1)) - (mVal cu (V 311) (mClause (V 309) (V 311) 0) b 0))) ((30 + 6 * b) + 4) = cu ((30 + 6 * b) + 4) from (ua_ne (by omega))) ?_
              refine x_al0 dX11_passOne_111 ?_
              refine x_getR fl_X11_7 (sh_308 hS) (lq_308 hS) (rf_308_0 hS) dX11_passOne_112 ?_
              refine x_iconst dX11_passOne_115 ?_
              have hb13 := hB 2
              refine x_iald (sh_309 hS) (lq_309 hS) (by omega) (by omega) dX11_passOne_116 ?_
              refine x_topI (a' := cu 2) (show (ua cu ((30 + 6 * b) + 1) ((cu ((30 + 6 * b) + 1)) - (mVal cu (V 311) (mClause (V 309) (V 311) 0) b 0))) 2 = cu 2 from (ua_ne (by omega))) ?_
              refine x_icmp_eq (tgt := 123) dX11_passOne_117 (inr (by omega)) (inr (by omega)) (fun c117_14 => ?_) (fun c117_14 => ?_)
              · -- 117 eq -> 123
                refine x_al0 dX11_passOne_123 ?_
                refine x_getR fl_X11_7 (sh_308 hS) (lq_308 hS) (rf_308_0 hS) dX11_passOne_124 ?_
                refine x_il3 dX11_passOne_127 ?_
                refine x_iconst dX11_passOne_128 ?_
                refine x_iadd dX11_passOne_129 ?_
                refine x_al0 dX11_passOne_130 ?_
                refine x_getR fl_X11_7 (sh_308 hS) (lq_308 hS) (rf_308_0 hS) dX11_passOne_131 ?_
                refine x_il3 dX11_passOne_134 ?_
                refine x_iconst dX11_passOne_135 ?_
                refine x_iadd dX11_passOne_136 ?_
                have hb15 := hB ((30 + 6 * b) + 2)
                refine x_iald (sh_309 hS) (lq_309 hS) (by omega) (by omega) dX11_passOne_137 ?_
                refine x_topI (a' := cu ((30 + 6 * b) + 2)) (show (ua cu ((30 + 6 * b) + 1) ((cu ((30 + 6 * b) + 1)) - (mVal cu (V 311) (mClause (V 309) (V 311) 0) b 0))) ((30 + 6 * b) + 2) = cu ((30 + 6 * b) + 2) from (ua_ne (by omega))) ?_
                refine x_iast (sh_309 hS) (lq_309 hS) (by omega) (by omega) dX11_passOne_138 ?_
                refine x_mem (V' := (up (up (up (up V 309 (ua (ua cu ((30 + 6 * b) + 1) ((cu ((30 + 6 * b) + 1)) - (mVal cu (V 311) (mClause (V 309) (V 311) 0) b 0))) ((30 + 6 * b) + 3) (cu ((30 + 6 * b) + 2)))) 314 (mNm cu f b 0)) 315 ((mCl (mNm cu f b 0) (V 311) (cu 4) (mClause (V 309) (V 311) 0) g h).1)) 316 ((mCl (mNm cu f b 0) (V 311) (cu 4) (mClause (V 309) (V 311) 0) g h).2.1))) (st2_c (by decide) (st2_c (by decide) (st2_c (by decide) (st2_up _ _ _ _ _)))) ?_
                refine x_al0 dX11_passOne_139 ?_
                refine x_getR fl_X11_7 (sh_308 hS) (lq_308 hS) (rf_308_0 hS) dX11_passOne_140 ?_
                refine x_il3 dX11_passOne_143 ?_
                refine x_iconst dX11_passOne_144 ?_
                refine x_iadd dX11_passOne_145 ?_
                refine x_iconst dX11_passOne_146 ?_
                refine x_iast (sh_309 hS) (lq_309 hS) (by omega) (by omega) dX11_passOne_147 ?_
                refine x_mem (V' := (up (up (up (up V 309 (ua (ua (ua cu ((30 + 6 * b) + 1) ((cu ((30 + 6 * b) + 1)) - (mVal cu (V 311) (mClause (V 309) (V 311) 0) b 0))) ((30 + 6 * b) + 3) (cu ((30 + 6 * b) + 2))) ((30 + 6 * b) + 4) (-1))) 314 (mNm cu f b 0)) 315 ((mCl (mNm cu f b 0) (V 311) (cu 4) (mClause (V 309) (V 311) 0) g h).1)) 316 ((mCl (mNm cu f b 0) (V 311) (cu 4) (mClause (V 309) (V 311) 0) g h).2.1))) (st2_c (by decide) (st2_c (by decide) (st2_c (by decide) (st2_up _ _ _ _ _)))) ?_
                refine x_inc2 dX11_passOne_148 ?_
                refine x_goto (tgt := 18) dX11_passOne_151 ?_
                exact x_fg (ih18 (b + 1) (ua (ua (ua cu ((30 + 6 * b) + 1) ((cu ((30 + 6 * b) + 1)) - (mVal cu (V 311) (mClause (V 309) (V 311) 0) b 0))) ((30 + 6 * b) + 3) (cu ((30 + 6 * b) + 2))) ((30 + 6 * b) + 4) (-1)) (mNm cu f b 0) ((mCl (mNm cu f b 0) (V 311) (cu 4) (mClause (V 309) (V 311) 0) g h).1) ((mCl (mNm cu f b 0) (V 311) (cu 4) (mClause (V 309) (V 311) 0) g h).2.1) (by omega) (by rw [show (b + 1).toNat = b.toNat + 1 by omega]; simp only [mAgeK]; rw [← hcu, show ((b.toNat : Nat) : Int) = b by omega]; first | exact mAgeB_a (by omega) (by omega) | exact mAgeB_b (by omega) (by omega) | exact mAgeB_c (by omega) (by omega) (by first | exact age_e0 (by omega) (by omega) | exact age_e1 (by omega) (by omega)) | exact mAgeB_d (by omega) (by omega) (by first | exact age_e0 (by omega) (by omega) | exact age_e1 (by omega) (by omega))) (AB_mNm hB hf _ _) (TRb_mCl hh) (by omega)) (And.intro rfl (And.intro rfl (And.intro rfl trivial)))
              · -- 117 eq -> 120
                refine x_goto (tgt := 148) dX11_passOne_120 ?_
                refine x_inc2 dX11_passOne_148 ?_
                refine x_goto (tgt := 18) dX11_passOne_151 ?_
                exact x_fg (ih18 (b + 1) (ua cu ((30 + 6 * b) + 1) ((cu ((30 + 6 * b) + 1)) - (mVal cu (V 311) (mClause (V 309) (V 311) 0) b 0))) (mNm cu f b 0) ((mCl (mNm cu f b 0) (V 311) (cu 4) (mClause (V 309) (V 311) 0) g h).1) ((mCl (mNm cu f b 0) (V 311) (cu 4) (mClause (V 309) (V 311) 0) g h).2.1) (by omega) (by rw [show (b + 1).toNat = b.toNat + 1 by omega]; simp only [mAgeK]; rw [← hcu, show ((b.toNat : Nat) : Int) = b by omega]; first | exact mAgeB_a (by omega) (by omega) | exact mAgeB_b (by omega) (by omega) | exact mAgeB_c (by omega) (by omega) (by first | exact age_e0 (by omega) (by omega) | exact age_e1 (by omega) (by omega)) | exact mAgeB_d (by omega) (by omega) (by first | exact age_e0 (by omega) (by omega) | exact age_e1 (by omega) (by omega))) (AB_mNm hB hf _ _) (TRb_mCl hh) (by omega)) (And.intro rfl (And.intro rfl (And.intro rfl trivial)))
            · -- 91 ge -> 95
              refine x_iconst dX11_passOne_95 ?_
              refine x_goto (tgt := 102) dX11_passOne_96 ?_
              refine x_iast (sh_309 hS) (lq_309 hS) (by omega) (by omega) dX11_passOne_102 ?_
              refine x_mem (V' := (up (up (up (up V 309 (ua cu ((30 + 6 * b) + 1) 1)) 314 (mNm cu f b 0)) 315 ((mCl (mNm cu f b 0) (V 311) (cu 4) (mClause (V 309) (V 311) 0) g h).1)) 316 ((mCl (mNm cu f b 0) (V 311) (cu 4) (mClause (V 309) (V 311) 0) g h).2.1))) (st2_c (by decide) (st2_c (by decide) (st2_c (by decide) (st2_up _ _ _ _ _)))) ?_
              refine x_al0 dX11_passOne_103 ?_
              refine x_getR fl_X11_7 (sh_308 hS) (lq_308 hS) (rf_308_0 hS) dX11_passOne_104 ?_
              refine x_il3 dX11_passOne_107 ?_
              refine x_iconst dX11_passOne_108 ?_
              refine x_iadd dX11_passOne_109 ?_
              have hb16 := hB ((30 + 6 * b) + 4)
              refine x_iald (sh_309 hS) (lq_309 hS) (by omega) (by omega) dX11_passOne_110 ?_
              refine x_topI (a' := cu ((30 + 6 * b) + 4)) (show (ua cu ((30 + 6 * b) + 1) 1) ((30 + 6 * b) + 4) = cu ((30 + 6 * b) + 4) from (ua_ne (by omega))) ?_
              refine x_al0 dX11_passOne_111 ?_
              refine x_getR fl_X11_7 (sh_308 hS) (lq_308 hS) (rf_308_0 hS) dX11_passOne_112 ?_
              refine x_iconst dX11_passOne_115 ?_
              have hb17 := hB 2
              refine x_iald (sh_309 hS) (lq_309 hS) (by omega) (by omega) dX11_passOne_116 ?_
              refine x_topI (a' := cu 2) (show (ua cu ((30 + 6 * b) + 1) 1) 2 = cu 2 from (ua_ne (by omega))) ?_
              refine x_icmp_eq (tgt := 123) dX11_passOne_117 (inr (by omega)) (inr (by omega)) (fun c117_18 => ?_) (fun c117_18 => ?_)
              · -- 117 eq -> 123
                refine x_al0 dX11_passOne_123 ?_
                refine x_getR fl_X11_7 (sh_308 hS) (lq_308 hS) (rf_308_0 hS) dX11_passOne_124 ?_
                refine x_il3 dX11_passOne_127 ?_
                refine x_iconst dX11_passOne_128 ?_
                refine x_iadd dX11_passOne_129 ?_
                refine x_al0 dX11_passOne_130 ?_
                refine x_getR fl_X11_7 (sh_308 hS) (lq_308 hS) (rf_308_0 hS) dX11_passOne_131 ?_
                refine x_il3 dX11_passOne_134 ?_
                refine x_iconst dX11_passOne_135 ?_
                refine x_iadd dX11_passOne_136 ?_
                have hb19 := hB ((30 + 6 * b) + 2)
                refine x_iald (sh_309 hS) (lq_309 hS) (by omega) (by omega) dX11_passOne_137 ?_
                refine x_topI (a' := cu ((30 + 6 * b) + 2)) (show (ua cu ((30 + 6 * b) + 1) 1) ((30 + 6 * b) + 2) = cu ((30 + 6 * b) + 2) from (ua_ne (by omega))) ?_
                refine x_iast (sh_309 hS) (lq_309 hS) (by omega) (by omega) dX11_passOne_138 ?_
                refine x_mem (V' := (up (up (up (up V 309 (ua (ua cu ((30 + 6 * b) + 1) 1) ((30 + 6 * b) + 3) (cu ((30 + 6 * b) + 2)))) 314 (mNm cu f b 0)) 315 ((mCl (mNm cu f b 0) (V 311) (cu 4) (mClause (V 309) (V 311) 0) g h).1)) 316 ((mCl (mNm cu f b 0) (V 311) (cu 4) (mClause (V 309) (V 311) 0) g h).2.1))) (st2_c (by decide) (st2_c (by decide) (st2_c (by decide) (st2_up _ _ _ _ _)))) ?_
                refine x_al0 dX11_passOne_139 ?_
                refine x_getR fl_X11_7 (sh_308 hS) (lq_308 hS) (rf_308_0 hS) dX11_passOne_140 ?_
                refine x_il3 dX11_passOne_143 ?_
                refine x_iconst dX11_passOne_144 ?_
                refine x_iadd dX11_passOne_145 ?_
                refine x_iconst dX11_passOne_146 ?_
                refine x_iast (sh_309 hS) (lq_309 hS) (by omega) (by omega) dX11_passOne_147 ?_
                refine x_mem (V' := (up (up (up (up V 309 (ua (ua (ua cu ((30 + 6 * b) + 1) 1) ((30 + 6 * b) + 3) (cu ((30 + 6 * b) + 2))) ((30 + 6 * b) + 4) (-1))) 314 (mNm cu f b 0)) 315 ((mCl (mNm cu f b 0) (V 311) (cu 4) (mClause (V 309) (V 311) 0) g h).1)) 316 ((mCl (mNm cu f b 0) (V 311) (cu 4) (mClause (V 309) (V 311) 0) g h).2.1))) (st2_c (by decide) (st2_c (by decide) (st2_c (by decide) (st2_up _ _ _ _ _)))) ?_
                refine x_inc2 dX11_passOne_148 ?_
                refine x_goto (tgt := 18) dX11_passOne_151 ?_
                exact x_fg (ih18 (b + 1) (ua (ua (ua cu ((30 + 6 * b) + 1) 1) ((30 + 6 * b) + 3) (cu ((30 + 6 * b) + 2))) ((30 + 6 * b) + 4) (-1)) (mNm cu f b 0) ((mCl (mNm cu f b 0) (V 311) (cu 4) (mClause (V 309) (V 311) 0) g h).1) ((mCl (mNm cu f b 0) (V 311) (cu 4) (mClause (V 309) (V 311) 0) g h).2.1) (by omega) (by rw [show (b + 1).toNat = b.toNat + 1 by omega]; simp only [mAgeK]; rw [← hcu, show ((b.toNat : Nat) : Int) = b by omega]; first | exact mAgeB_a (by omega) (by omega) | exact mAgeB_b (by omega) (by omega) | exact mAgeB_c (by omega) (by omega) (by first | exact age_e0 (by omega) (by omega) | exact age_e1 (by omega) (by omega)) | exact mAgeB_d (by omega) (by omega) (by first | exact age_e0 (by omega) (by omega) | exact age_e1 (by omega) (by omega))) (AB_mNm hB hf _ _) (TRb_mCl hh) (by omega)) (And.intro rfl (And.intro rfl (And.intro rfl trivial)))
              · -- 117 eq -> 120
                refine x_goto (tgt := 148) dX11_passOne_120 ?_
                refine x_inc2 dX11_passOne_148 ?_
                refine x_goto (tgt := 18) dX11_passOne_151 ?_
                exact x_fg (ih18 (b + 1) (ua cu ((30 + 6 * b) + 1) 1) (mNm cu f b 0) ((mCl (mNm cu f b 0) (V 311) (cu 4) (mClause (V 309) (V 311) 0) g h).1) ((mCl (mNm cu f b 0) (V 311) (cu 4) (mClause (V 309) (V 311) 0) g h).2.1) (by omega) (by rw [show (b + 1).toNat = b.toNat + 1 by omega]; simp only [mAgeK]; rw [← hcu, show ((b.toNat : Nat) : Int) = b by omega]; first | exact mAgeB_a (by omega) (by omega) | exact mAgeB_b (by omega) (by omega) | exact mAgeB_c (by omega) (by omega) (by first | exact age_e0 (by omega) (by omega) | exact age_e1 (by omega) (by omega)) | exact mAgeB_d (by omega) (by omega) (by first | exact age_e0 (by omega) (by omega) | exact age_e1 (by omega) (by omega))) (AB_mNm hB hf _ _) (TRb_mCl hh) (by omega)) (And.intro rfl (And.intro rfl (And.intro rfl trivial)))
          · -- 64 ge -> 68
            refine x_lconst0 dX11_passOne_68 ?_
            refine x_goto (tgt := 78) dX11_passOne_69 ?_
            refine x_lsub dX11_passOne_78 ?_
            refine x_ls4 dX11_passOne_79 ?_
            refine x_al0 dX11_passOne_81 ?_
            refine x_getR fl_X11_7 (sh_308 hS) (lq_308 hS) (rf_308_0 hS) dX11_passOne_82 ?_
            refine x_il3 dX11_passOne_85 ?_
            refine x_iconst dX11_passOne_86 ?_
            refine x_iadd dX11_passOne_87 ?_
            refine x_ll4 dX11_passOne_88 ?_
            refine x_lconst1 dX11_passOne_90 ?_
            refine x_lcmp_ge (tgt := 99) dX11_passOne_91 dX11_passOne_92 (inl_ (by omega)) (inl_ (by decide)) (fun c91_20 => ?_) (fun c91_20 => ?_)
            · -- 91 ge -> 99
              refine x_ll4 dX11_passOne_99 ?_
              refine x_l2i dX11_passOne_101 ?_
              refine x_iast (sh_309 hS) (lq_309 hS) (by omega) (by omega) dX11_passOne_102 ?_
              refine x_mem (V' := (up (up (up (up V 309 (ua cu ((30 + 6 * b) + 1) ((cu ((30 + 6 * b) + 1)) - 0))) 314 (mNm cu f b 0)) 315 ((mCl (mNm cu f b 0) (V 311) (cu 4) (mClause (V 309) (V 311) 0) g h).1)) 316 ((mCl (mNm cu f b 0) (V 311) (cu 4) (mClause (V 309) (V 311) 0) g h).2.1))) (st2_c (by decide) (st2_c (by decide) (st2_c (by decide) (st2_up _ _ _ _ _)))) ?_
              refine x_al0 dX11_passOne_103 ?_
              refine x_getR fl_X11_7 (sh_308 hS) (lq_308 hS) (rf_308_0 hS) dX11_passOne_104 ?_
              refine x_il3 dX11_passOne_107 ?_
              refine x_iconst dX11_passOne_108 ?_
              refine x_iadd dX11_passOne_109 ?_
              have hb21 := hB ((30 + 6 * b) + 4)
              refine x_iald (sh_309 hS) (lq_309 hS) (by omega) (by omega) dX11_passOne_110 ?_
              refine x_topI (a' := cu ((30 + 6 * b) + 4)) (show (ua cu ((30 + 6 * b) + 1) ((cu ((30 + 6 * b) + 1)) - 0)) ((30 + 6 * b) + 4) = cu ((30 + 6 * b) + 4) from (ua_ne (by omega))) ?_
              refine x_al0 dX11_passOne_111 ?_
              refine x_getR fl_X11_7 (sh_308 hS) (lq_308 hS) (rf_308_0 hS) dX11_passOne_112 ?_
              refine x_iconst dX11_passOne_115 ?_
              have hb22 := hB 2
              refine x_iald (sh_309 hS) (lq_309 hS) (by omega) (by omega) dX11_passOne_116 ?_
              refine x_topI (a' := cu 2) (show (ua cu ((30 + 6 * b) + 1) ((cu ((30 + 6 * b) + 1)) - 0)) 2 = cu 2 from (ua_ne (by omega))) ?_
              refine x_icmp_eq (tgt := 123) dX11_passOne_117 (inr (by omega)) (inr (by omega)) (fun c117_23 => ?_) (fun c117_23 => ?_)
              · -- 117 eq -> 123
                refine x_al0 dX11_passOne_123 ?_
                refine x_getR fl_X11_7 (sh_308 hS) (lq_308 hS) (rf_308_0 hS) dX11_passOne_124 ?_
                refine x_il3 dX11_passOne_127 ?_
                refine x_iconst dX11_passOne_128 ?_
                refine x_iadd dX11_passOne_129 ?_
                refine x_al0 dX11_passOne_130 ?_
                refine x_getR fl_X11_7 (sh_308 hS) (lq_308 hS) (rf_308_0 hS) dX11_passOne_131 ?_
                refine x_il3 dX11_passOne_134 ?_
                refine x_iconst dX11_passOne_135 ?_
                refine x_iadd dX11_passOne_136 ?_
                have hb24 := hB ((30 + 6 * b) + 2)
                refine x_iald (sh_309 hS) (lq_309 hS) (by omega) (by omega) dX11_passOne_137 ?_
                refine x_topI (a' := cu ((30 + 6 * b) + 2)) (show (ua cu ((30 + 6 * b) + 1) ((cu ((30 + 6 * b) + 1)) - 0)) ((30 + 6 * b) + 2) = cu ((30 + 6 * b) + 2) from (ua_ne (by omega))) ?_
                refine x_iast (sh_309 hS) (lq_309 hS) (by omega) (by omega) dX11_passOne_138 ?_
                refine x_mem (V' := (up (up (up (up V 309 (ua (ua cu ((30 + 6 * b) + 1) ((cu ((30 + 6 * b) + 1)) - 0)) ((30 + 6 * b) + 3) (cu ((30 + 6 * b) + 2)))) 314 (mNm cu f b 0)) 315 ((mCl (mNm cu f b 0) (V 311) (cu 4) (mClause (V 309) (V 311) 0) g h).1)) 316 ((mCl (mNm cu f b 0) (V 311) (cu 4) (mClause (V 309) (V 311) 0) g h).2.1))) (st2_c (by decide) (st2_c (by decide) (st2_c (by decide) (st2_up _ _ _ _ _)))) ?_
                refine x_al0 dX11_passOne_139 ?_
                refine x_getR fl_X11_7 (sh_308 hS) (lq_308 hS) (rf_308_0 hS) dX11_passOne_140 ?_
                refine x_il3 dX11_passOne_143 ?_
                refine x_iconst dX11_passOne_144 ?_
                refine x_iadd dX11_passOne_145 ?_
                refine x_iconst dX11_passOne_146 ?_
                refine x_iast (sh_309 hS) (lq_309 hS) (by omega) (by omega) dX11_passOne_147 ?_
                refine x_mem (V' := (up (up (up (up V 309 (ua (ua (ua cu ((30 + 6 * b) + 1) ((cu ((30 + 6 * b) + 1)) - 0)) ((30 + 6 * b) + 3) (cu ((30 + 6 * b) + 2))) ((30 + 6 * b) + 4) (-1))) 314 (mNm cu f b 0)) 315 ((mCl (mNm cu f b 0) (V 311) (cu 4) (mClause (V 309) (V 311) 0) g h).1)) 316 ((mCl (mNm cu f b 0) (V 311) (cu 4) (mClause (V 309) (V 311) 0) g h).2.1))) (st2_c (by decide) (st2_c (by decide) (st2_c (by decide) (st2_up _ _ _ _ _)))) ?_
                refine x_inc2 dX11_passOne_148 ?_
                refine x_goto (tgt := 18) dX11_passOne_151 ?_
                exact x_fg (ih18 (b + 1) (ua (ua (ua cu ((30 + 6 * b) + 1) ((cu ((30 + 6 * b) + 1)) - 0)) ((30 + 6 * b) + 3) (cu ((30 + 6 * b) + 2))) ((30 + 6 * b) + 4) (-1)) (mNm cu f b 0) ((mCl (mNm cu f b 0) (V 311) (cu 4) (mClause (V 309) (V 311) 0) g h).1) ((mCl (mNm cu f b 0) (V 311) (cu 4) (mClause (V 309) (V 311) 0) g h).2.1) (by omega) (by rw [show (b + 1).toNat = b.toNat + 1 by omega]; simp only [mAgeK]; rw [← hcu, show ((b.toNat : Nat) : Int) = b by omega]; first | exact mAgeB_a (by omega) (by omega) | exact mAgeB_b (by omega) (by omega) | exact mAgeB_c (by omega) (by omega) (by first | exact age_e0 (by omega) (by omega) | exact age_e1 (by omega) (by omega)) | exact mAgeB_d (by omega) (by omega) (by first | exact age_e0 (by omega) (by omega) | exact age_e1 (by omega) (by omega))) (AB_mNm hB hf _ _) (TRb_mCl hh) (by omega)) (And.intro rfl (And.intro rfl (And.intro rfl trivial)))
              · -- 117 eq -> 120
                refine x_goto (tgt := 148) dX11_passOne_120 ?_
                refine x_inc2 dX11_passOne_148 ?_
                refine x_goto (tgt := 18) dX11_passOne_151 ?_
                exact x_fg (ih18 (b + 1) (ua cu ((30 + 6 * b) + 1) ((cu ((30 + 6 * b) + 1)) - 0)) (mNm cu f b 0) ((mCl (mNm cu f b 0) (V 311) (cu 4) (mClause (V 309) (V 311) 0) g h).1) ((mCl (mNm cu f b 0) (V 311) (cu 4) (mClause (V 309) (V 311) 0) g h).2.1) (by omega) (by rw [show (b + 1).toNat = b.toNat + 1 by omega]; simp only [mAgeK]; rw [← hcu, show ((b.toNat : Nat) : Int) = b by omega]; first | exact mAgeB_a (by omega) (by omega) | exact mAgeB_b (by omega) (by omega) | exact mAgeB_c (by omega) (by omega) (by first | exact age_e0 (by omega) (by omega) | exact age_e1 (by omega) (by omega)) | exact mAgeB_d (by omega) (by omega) (by first | exact age_e0 (by omega) (by omega) | exact age_e1 (by omega) (by omega))) (AB_mNm hB hf _ _) (TRb_mCl hh) (by omega)) (And.intro rfl (And.intro rfl (And.intro rfl trivial)))
            · -- 91 ge -> 95
              refine x_iconst dX11_passOne_95 ?_
              refine x_goto (tgt := 102) dX11_passOne_96 ?_
              refine x_iast (sh_309 hS) (lq_309 hS) (by omega) (by omega) dX11_passOne_102 ?_
              refine x_mem (V' := (up (up (up (up V 309 (ua cu ((30 + 6 * b) + 1) 1)) 314 (mNm cu f b 0)) 315 ((mCl (mNm cu f b 0) (V 311) (cu 4) (mClause (V 309) (V 311) 0) g h).1)) 316 ((mCl (mNm cu f b 0) (V 311) (cu 4) (mClause (V 309) (V 311) 0) g h).2.1))) (st2_c (by decide) (st2_c (by decide) (st2_c (by decide) (st2_up _ _ _ _ _)))) ?_
              refine x_al0 dX11_passOne_103 ?_
              refine x_getR fl_X11_7 (sh_308 hS) (lq_308 hS) (rf_308_0 hS) dX11_passOne_104 ?_
              refine x_il3 dX11_passOne_107 ?_
              refine x_iconst dX11_passOne_108 ?_
              refine x_iadd dX11_passOne_109 ?_
              have hb25 := hB ((30 + 6 * b) + 4)
              refine x_iald (sh_309 hS) (lq_309 hS) (by omega) (by omega) dX11_passOne_110 ?_
              refine x_topI (a' := cu ((30 + 6 * b) + 4)) (show (ua cu ((30 + 6 * b) + 1) 1) ((30 + 6 * b) + 4) = cu ((30 + 6 * b) + 4) from (ua_ne (by omega))) ?_
              refine x_al0 dX11_passOne_111 ?_
              refine x_getR fl_X11_7 (sh_308 hS) (lq_308 hS) (rf_308_0 hS) dX11_passOne_112 ?_
              refine x_iconst dX11_passOne_115 ?_
              have hb26 := hB 2
              refine x_iald (sh_309 hS) (lq_309 hS) (by omega) (by omega) dX11_passOne_116 ?_
              refine x_topI (a' := cu 2) (show (ua cu ((30 + 6 * b) + 1) 1) 2 = cu 2 from (ua_ne (by omega))) ?_
              refine x_icmp_eq (tgt := 123) dX11_passOne_117 (inr (by omega)) (inr (by omega)) (fun c117_27 => ?_) (fun c117_27 => ?_)
              · -- 117 eq -> 123
                refine x_al0 dX11_passOne_123 ?_
                refine x_getR fl_X11_7 (sh_308 hS) (lq_308 hS) (rf_308_0 hS) dX11_passOne_124 ?_
                refine x_il3 dX11_passOne_127 ?_
                refine x_iconst dX11_passOne_128 ?_
                refine x_iadd dX11_passOne_129 ?_
                refine x_al0 dX11_passOne_130 ?_
                refine x_getR fl_X11_7 (sh_308 hS) (lq_308 hS) (rf_308_0 hS) dX11_passOne_131 ?_
                refine x_il3 dX11_passOne_134 ?_
                refine x_iconst dX11_passOne_135 ?_
                refine x_iadd dX11_passOne_136 ?_
                have hb28 := hB ((30 + 6 * b) + 2)
                refine x_iald (sh_309 hS) (lq_309 hS) (by omega) (by omega) dX11_passOne_137 ?_
                refine x_topI (a' := cu ((30 + 6 * b) + 2)) (show (ua cu ((30 + 6 * b) + 1) 1) ((30 + 6 * b) + 2) = cu ((30 + 6 * b) + 2) from (ua_ne (by omega))) ?_
                refine x_iast (sh_309 hS) (lq_309 hS) (by omega) (by omega) dX11_passOne_138 ?_
                refine x_mem (V' := (up (up (up (up V 309 (ua (ua cu ((30 + 6 * b) + 1) 1) ((30 + 6 * b) + 3) (cu ((30 + 6 * b) + 2)))) 314 (mNm cu f b 0)) 315 ((mCl (mNm cu f b 0) (V 311) (cu 4) (mClause (V 309) (V 311) 0) g h).1)) 316 ((mCl (mNm cu f b 0) (V 311) (cu 4) (mClause (V 309) (V 311) 0) g h).2.1))) (st2_c (by decide) (st2_c (by decide) (st2_c (by decide) (st2_up _ _ _ _ _)))) ?_
                refine x_al0 dX11_passOne_139 ?_
                refine x_getR fl_X11_7 (sh_308 hS) (lq_308 hS) (rf_308_0 hS) dX11_passOne_140 ?_
                refine x_il3 dX11_passOne_143 ?_
                refine x_iconst dX11_passOne_144 ?_
                refine x_iadd dX11_passOne_145 ?_
                refine x_iconst dX11_passOne_146 ?_
                refine x_iast (sh_309 hS) (lq_309 hS) (by omega) (by omega) dX11_passOne_147 ?_
                refine x_mem (V' := (up (up (up (up V 309 (ua (ua (ua cu ((30 + 6 * b) + 1) 1) ((30 + 6 * b) + 3) (cu ((30 + 6 * b) + 2))) ((30 + 6 * b) + 4) (-1))) 314 (mNm cu f b 0)) 315 ((mCl (mNm cu f b 0) (V 311) (cu 4) (mClause (V 309) (V 311) 0) g h).1)) 316 ((mCl (mNm cu f b 0) (V 311) (cu 4) (mClause (V 309) (V 311) 0) g h).2.1))) (st2_c (by decide) (st2_c (by decide) (st2_c (by decide) (st2_up _ _ _ _ _)))) ?_
                refine x_inc2 dX11_passOne_148 ?_
                refine x_goto (tgt := 18) dX11_passOne_151 ?_
                exact x_fg (ih18 (b + 1) (ua (ua (ua cu ((30 + 6 * b) + 1) 1) ((30 + 6 * b) + 3) (cu ((30 + 6 * b) + 2))) ((30 + 6 * b) + 4) (-1)) (mNm cu f b 0) ((mCl (mNm cu f b 0) (V 311) (cu 4) (mClause (V 309) (V 311) 0) g h).1) ((mCl (mNm cu f b 0) (V 311) (cu 4) (mClause (V 309) (V 311) 0) g h).2.1) (by omega) (by rw [show (b + 1).toNat = b.toNat + 1 by omega]; simp only [mAgeK]; rw [← hcu, show ((b.toNat : Nat) : Int) = b by omega]; first | exact mAgeB_a (by omega) (by omega) | exact mAgeB_b (by omega) (by omega) | exact mAgeB_c (by omega) (by omega) (by first | exact age_e0 (by omega) (by omega) | exact age_e1 (by omega) (by omega)) | exact mAgeB_d (by omega) (by omega) (by first | exact age_e0 (by omega) (by omega) | exact age_e1 (by omega) (by omega))) (AB_mNm hB hf _ _) (TRb_mCl hh) (by omega)) (And.intro rfl (And.intro rfl (And.intro rfl trivial)))
              · -- 117 eq -> 120
                refine x_goto (tgt := 148) dX11_passOne_120 ?_
                refine x_inc2 dX11_passOne_148 ?_
                refine x_goto (tgt := 18) dX11_passOne_151 ?_
                exact x_fg (ih18 (b + 1) (ua cu ((30 + 6 * b) + 1) 1) (mNm cu f b 0) ((mCl (mNm cu f b 0) (V 311) (cu 4) (mClause (V 309) (V 311) 0) g h).1) ((mCl (mNm cu f b 0) (V 311) (cu 4) (mClause (V 309) (V 311) 0) g h).2.1) (by omega) (by rw [show (b + 1).toNat = b.toNat + 1 by omega]; simp only [mAgeK]; rw [← hcu, show ((b.toNat : Nat) : Int) = b by omega]; first | exact mAgeB_a (by omega) (by omega) | exact mAgeB_b (by omega) (by omega) | exact mAgeB_c (by omega) (by omega) (by first | exact age_e0 (by omega) (by omega) | exact age_e1 (by omega) (by omega)) | exact mAgeB_d (by omega) (by omega) (by first | exact age_e0 (by omega) (by omega) | exact age_e1 (by omega) (by omega))) (AB_mNm hB hf _ _) (TRb_mCl hh) (by omega)) (And.intro rfl (And.intro rfl (And.intro rfl trivial)))
  refine x_mem (V' := (up (up (up (up V 309 (ua (V 309) 2 ((V 309 2) + 1))) 314 (V 314)) 315 (V 315)) 316 (V 316))) (Eq.trans (Eq.trans (show _ = (up (up V 309 (ua (V 309) 2 ((V 309 2) + 1))) 314 (V 314)) from (Eq.symm (up_self _ 314))) (show _ = (up (up (up V 309 (ua (V 309) 2 ((V 309 2) + 1))) 314 (V 314)) 315 (V 315)) from (Eq.symm (up_self _ 315)))) (show _ = (up (up (up (up V 309 (ua (V 309) 2 ((V 309 2) + 1))) 314 (V 314)) 315 (V 315)) 316 (V 316)) from (Eq.symm (up_self _ 316)))) ?_
  exact x_fg (lp18 _ 0 (ua (V 309) 2 ((V 309 2) + 1)) (V 314) (V 315) (V 316) (by omega) rfl hN hTr (Nat.lt_succ_self _)) (And.intro rfl (And.intro rfl (And.intro rfl trivial)))
set_option maxRecDepth 100000 in
set_option maxHeartbeats 4000000 in
theorem c_X11_pass {B : Bs} {S : Stt} {V : Va} (years : Int) (hS : Stat S) (hA : AB (V 309)) (hX : AB (V 311)) (h44 : -1 ≤ (V 309 4) ∧ (V 309 4) ≤ 3) (hW : 0 ≤ (V 309 4) → TW (V 311) (V 309 4)) (hN : AB (V 314)) (hTr : TRb (V 316)) (h1 : 0 ≤ (V 309 1) ∧ (V 309 1) ≤ 16) (h2 : 0 ≤ (V 309 2) ∧ (V 309 2) ≤ 999) (h5 : 0 ≤ (V 309 5) ∧ (V 309 5) ≤ 20) (hyears : InR years) : C B yX11_pass cX11_pass 3 (some .int) 5 0 0 [vR B 308, vI years] S V (rIs S (up V 309 (mPassF (V 309) (V 311) years)) (if 0 ≤ years ∧ years ≤ 99 ∧ (V 309 2) + years ≤ 999 then (V 309 2) + years else -1)) := by
  refine C.of [some (vR B 308), some (vI years), none] ?_
  intro Γ hQ
  refine x_il1 dX11_pass_0 ?_
  refine x_iconst dX11_pass_1 ?_
  refine x_bipush dX11_pass_2 ?_
  refine x_cSi mm_X11_isIn ml_X11_75 dX11_pass_4 (c_X11_isIn years 0 99 (inr (by omega)) (inr (by decide)) (inr (by decide))) ?_
  refine x_ifb_eq (tgt := 24) dX11_pass_7 (fun c7_1 => ?_) (fun c7_1 => ?_)
  · -- 7 eq -> 24
    refine x_iconst dX11_pass_24 ?_
    exact x_iret hQ ⟨(V 314), (V 315), (V 316), hN, hTr, (congrArg (fun z : Int => some (vI z)) (if_neg (by omega))), rfl, (Eq.trans (upE (upE (upE (by simp only [mPassF]; rw [if_neg (by omega), up_self]) rfl) rfl) rfl) (scr_self _))⟩ dX11_pass_25
  · -- 7 eq -> 10
    refine x_al0 dX11_pass_10 ?_
    refine x_getR fl_X11_7 (sh_308 hS) (lq_308 hS) (rf_308_0 hS) dX11_pass_11 ?_
    refine x_iconst dX11_pass_14 ?_
    have hb2 := hA 2
    refine x_iald (sh_309 hS) (lq_309 hS) (by omega) (by omega) dX11_pass_15 ?_
    refine x_topI (a' := V 309 2) rfl ?_
    refine x_il1 dX11_pass_16 ?_
    refine x_iadd dX11_pass_17 ?_
    refine x_sipush dX11_pass_18 ?_
    refine x_icmp_le (tgt := 26) dX11_pass_21 (inr (by omega)) (inr (by decide)) (fun c21_3 => ?_) (fun c21_3 => ?_)
    · -- 21 le -> 26
      refine x_al0 dX11_pass_26 ?_
      refine x_cVv mm_X11_keep ml_X11_94 dX11_pass_27 (c_X11_keep hS hA h5) (sh_308 hS) (lq_308 hS) ?_
      refine x_iconst dX11_pass_30 ?_
      refine x_is2 dX11_pass_31 ?_
      have lp32 : ∀ (N32 : Nat) (k : Int) (cu : Int → Int) (f : Int → Int) (g : Int → Int) (h : Int → Int), (0 ≤ k ∧ k ≤ years) → (cu = mPassK (mKeep (V 309)) (V 311) k.toNat) → (AB f) → (TRb h) → (years - k).toNat < N32 → X Γ B RX11 "pass" cX11_pass 3 (some .int) 5 0 0 32 [some (vR B 308), some (vI years), some (vI k)] [] 0 0 S (up (up (up (up V 309 cu) 314 f) 315 g) 316 h) := by
        intro N32
        induction N32 with
        | zero => intro k cu f g h hk hcu hf hh hN; exact absurd hN (Nat.not_lt_zero _)
        | succ N32 ih32 =>
          intro k cu f g h hk hcu hf hh hN32
          have k2 := mKeep_lo (a := V 309) (k := 2) (by omega) (by omega) h5
          have hB : AB cu := by rw [hcu]; exact AB_mPassK (AB_mKeep hA h5) (by omega) _ (by omega)
          have hc1 : cu 1 = V 309 1 := by rw [hcu, mPassK_lo (by omega) (by omega), mKeep_lo (by omega) (by omega) h5]
          have hc4 : cu 4 = V 309 4 := by rw [hcu, mPassK_lo (by omega) (by omega), mKeep_lo (by omega) (by omega) h5]
          have hc2 : cu 2 = V 309 2 + k := by rw [hcu, mPassK_2, k2]; omega
          refine x_il2 dX11_pass_32 ?_
          refine x_il1 dX11_pass_33 ?_
          refine x_icmp_ge (tgt := 47) dX11_pass_34 (inr (by omega)) (inr (by omega)) (fun c34_4 => ?_) (fun c34_4 => ?_)
          · -- 34 ge -> 47
            refine x_al0 dX11_pass_47 ?_
            refine x_getR fl_X11_7 (sh_308 hS) (lq_308 hS) (rf_308_0 hS) dX11_pass_48 ?_
            refine x_iconst dX11_pass_51 ?_
            have hb5 := hB 2
            refine x_iald (sh_309 hS) (lq_309 hS) (by omega) (by omega) dX11_pass_52 ?_
            refine x_topI (a' := cu 2) rfl ?_
            exact x_iret hQ ⟨f, g, h, hf, hh, (congrArg (fun z : Int => some (vI z)) (by rw [if_pos (by omega)]; omega)), rfl, (upE (upE (upE (by simp only [mPassF]; rw [if_pos (by omega), hcu, show k = years by omega]) rfl) rfl) rfl)⟩ dX11_pass_53
          · -- 34 ge -> 37
            refine x_al0 dX11_pass_37 ?_
            refine x_cVvs mm_X11_passOne ml_X11_100 dX11_pass_38 (c_X11_passOne hS (show AB cu from hB) (show AB (V 311) from hX) (show -1 ≤ (cu 4) ∧ (cu 4) ≤ 3 from (by rw [hc4]; exact h44)) (show 0 ≤ (cu 4) → TW (V 311) (cu 4) from (by rw [hc4]; exact hW)) (show AB f from hf) (show TRb h from hh) (show 0 ≤ (cu 1) ∧ (cu 1) ≤ 16 from (by rw [hc1]; exact h1)) (show 0 ≤ (cu 2) ∧ (cu 2) ≤ 999 from (by omega))) (sh_308 hS) (lq_308 hS) (fun f6 g6 h6 hf6 hh6 => ?_)
            refine x_mem (V' := (up (up (up (up V 309 (mPassOne cu (V 311))) 314 f6) 315 g6) 316 h6)) (Eq.trans (Eq.trans (Eq.trans (congrArg (fun z => up z 316 _) (congrArg (fun z => up z 315 _) (congrArg (fun z => up z 314 _) (up_k (by decide) (up_k (by decide) (up_k (by decide) (up_up _ _ _ _))))))) (congrArg (fun z => up z 316 _) (congrArg (fun z => up z 315 _) (up_k (by decide) (up_k (by decide) (up_up _ _ _ _)))))) (congrArg (fun z => up z 316 _) (up_k (by decide) (up_up _ _ _ _)))) (up_up _ _ _ _)) ?_
            refine x_inc2 dX11_pass_41 ?_
            refine x_goto (tgt := 32) dX11_pass_44 ?_
            exact x_fg (ih32 (k + 1) (mPassOne cu (V 311)) f6 g6 h6 (by omega) (by rw [show (k + 1).toNat = k.toNat + 1 by omega]; simp only [mPassK]; rw [← hcu]) hf6 hh6 (by omega)) (And.intro rfl (And.intro rfl (And.intro rfl trivial)))
      refine x_mem (V' := (up (up (up (up V 309 (mKeep (V 309))) 314 (V 314)) 315 (V 315)) 316 (V 316))) (Eq.trans (Eq.trans (show _ = (up (up V 309 (mKeep (V 309))) 314 (V 314)) from (Eq.symm (up_self _ 314))) (show _ = (up (up (up V 309 (mKeep (V 309))) 314 (V 314)) 315 (V 315)) from (Eq.symm (up_self _ 315)))) (show _ = (up (up (up (up V 309 (mKeep (V 309))) 314 (V 314)) 315 (V 315)) 316 (V 316)) from (Eq.symm (up_self _ 316)))) ?_
      exact x_fg (lp32 _ 0 (mKeep (V 309)) (V 314) (V 315) (V 316) (by omega) rfl hN hTr (Nat.lt_succ_self _)) (And.intro rfl (And.intro rfl (And.intro rfl trivial)))
    · -- 21 le -> 24
      refine x_iconst dX11_pass_24 ?_
      exact x_iret hQ ⟨(V 314), (V 315), (V 316), hN, hTr, (congrArg (fun z : Int => some (vI z)) (if_neg (by omega))), rfl, (Eq.trans (upE (upE (upE (by simp only [mPassF]; rw [if_neg (by omega), up_self]) rfl) rfl) rfl) (scr_self _))⟩ dX11_pass_25
set_option maxRecDepth 100000 in
set_option maxHeartbeats 4000000 in
theorem c_X11_isPlayed {B : Bs} {S : Stt} {V : Va} (x : Int) (hS : Stat S) (hI : AI (V 309)) (hX : AB (V 311)) (hW : 0 ≤ (V 309 4) → TW (V 311) (V 309 4)) (hN : AB (V 314)) (hTr : TRb (V 316)) (hx : 0 ≤ x ∧ x ≤ 2796) : C B yX11_isPlayed cX11_isPlayed 4 (some .boolean) 6 0 0 [vR B 308, vI x] S V (rIs S (up V 309 (mPlayF (V 309) (V 311) x)) (if mPlayC (V 309) (V 311) x then 1 else 0)) := by
  refine C.of [some (vR B 308), some (vI x), none, none] ?_
  intro Γ hQ
  obtain ⟨hA, h0, h1, h2, h44, h5, hP⟩ := id hI
  refine x_al0 dX11_isPlayed_0 ?_
  refine x_getR fl_X11_16 (sh_308 hS) (lq_308 hS) (rf_308_2 hS) dX11_isPlayed_1 ?_
  refine x_il1 dX11_isPlayed_4 ?_
  refine x_iconst dX11_isPlayed_5 ?_
  refine x_iadd dX11_isPlayed_6 ?_
  have hb1 := hX (x + 1)
  refine x_iald (sh_311 hS) (lq_311 hS) (by omega) (by omega) dX11_isPlayed_7 ?_
  refine x_topI (a' := V 311 (x + 1)) rfl ?_
  refine x_is2 dX11_isPlayed_8 ?_
  refine x_al0 dX11_isPlayed_9 ?_
  refine x_getR fl_X11_16 (sh_308 hS) (lq_308 hS) (rf_308_2 hS) dX11_isPlayed_10 ?_
  refine x_il1 dX11_isPlayed_13 ?_
  refine x_iconst dX11_isPlayed_14 ?_
  refine x_iadd dX11_isPlayed_15 ?_
  have hb2 := hX (x + 2)
  refine x_iald (sh_311 hS) (lq_311 hS) (by omega) (by omega) dX11_isPlayed_16 ?_
  refine x_topI (a' := V 311 (x + 2)) rfl ?_
  refine x_is3 dX11_isPlayed_17 ?_
  refine x_al0 dX11_isPlayed_18 ?_
  refine x_getR fl_X11_16 (sh_308 hS) (lq_308 hS) (rf_308_2 hS) dX11_isPlayed_19 ?_
  refine x_il1 dX11_isPlayed_22 ?_
  have hb3 := hX x
  refine x_iald (sh_311 hS) (lq_311 hS) (by omega) (by omega) dX11_isPlayed_23 ?_
  refine x_topI (a' := V 311 x) rfl ?_
  by_cases hs4 : V 311 x = 4
  · refine x_tswIn (tgt := 60) (off := 36) dX11_isPlayed_24 4 hs4 ?_
    refine x_al0 dX11_isPlayed_60 ?_
    refine x_il2 dX11_isPlayed_61 ?_
    refine x_il3 dX11_isPlayed_62 ?_
    refine x_al0 dX11_isPlayed_63 ?_
    refine x_getR fl_X11_16 (sh_308 hS) (lq_308 hS) (rf_308_2 hS) dX11_isPlayed_64 ?_
    refine x_il1 dX11_isPlayed_67 ?_
    refine x_iconst dX11_isPlayed_68 ?_
    refine x_iadd dX11_isPlayed_69 ?_
    have hb5 := hX (x + 3)
    refine x_iald (sh_311 hS) (lq_311 hS) (by omega) (by omega) dX11_isPlayed_70 ?_
    refine x_topI (a' := V 311 (x + 3)) rfl ?_
    refine x_cVi mm_X11_lend ml_X11_268 dX11_isPlayed_71 (c_X11_lend (V 311 (x + 1)) (V 311 (x + 2)) (V 311 (x + 3)) hS hA h0 h1 h2 h5 (inr (by omega)) (inr (by omega)) (inr (by omega))) (sh_308 hS) (lq_308 hS) ?_
    refine x_if_lt (tgt := 81) dX11_isPlayed_74 (by split <;> omega) (fun c74_6 => ?_) (fun c74_6 => ?_)
    · -- 74 lt -> 81
      refine x_iconst dX11_isPlayed_81 ?_
      exact x_zret hQ ⟨(V 314), (V 315), (V 316), hN, hTr, (congrArg (fun z : Int => some (vI z)) (Or.elim (Classical.em (mLendC (V 309) (V 311 (x + 1)) (V 311 (x + 2)) (V 311 (x + 3)))) (fun q => by first | (rw [if_pos (show mPlayC (V 309) (V 311) x from ⟨fun _ => q, fun z => by omega, fun z => by omega, fun z => by omega, fun z => by omega⟩)]; done) | (rw [if_pos (show mPlayC (V 309) (V 311) x from ⟨fun _ => q, fun z => by omega, fun z => by omega, fun z => by omega, fun z => by omega⟩)]; first | (rw [if_pos q]) | (simp only [if_pos q] at *; done) | (simp only [if_pos q] at *; omega) | omega)) (fun q => by first | (rw [if_neg (show ¬ mPlayC (V 309) (V 311) x from fun z => q (z.1 (by omega)))]; done) | (rw [if_neg (show ¬ mPlayC (V 309) (V 311) x from fun z => q (z.1 (by omega)))]; first | (rw [if_neg q]) | (simp only [if_neg q] at *; done) | (simp only [if_neg q] at *; omega) | omega)))), rfl, (Eq.trans (upE (upE (upE (by simp only [mPlayF]; rw [if_pos (by omega)]) rfl) rfl) rfl) (scr_self _))⟩ (by decide) dX11_isPlayed_82
    · -- 74 lt -> 77
      refine x_iconst dX11_isPlayed_77 ?_
      refine x_goto (tgt := 82) dX11_isPlayed_78 ?_
      exact x_zret hQ ⟨(V 314), (V 315), (V 316), hN, hTr, (congrArg (fun z : Int => some (vI z)) (Or.elim (Classical.em (mLendC (V 309) (V 311 (x + 1)) (V 311 (x + 2)) (V 311 (x + 3)))) (fun q => by first | (rw [if_pos (show mPlayC (V 309) (V 311) x from ⟨fun _ => q, fun z => by omega, fun z => by omega, fun z => by omega, fun z => by omega⟩)]; done) | (rw [if_pos (show mPlayC (V 309) (V 311) x from ⟨fun _ => q, fun z => by omega, fun z => by omega, fun z => by omega, fun z => by omega⟩)]; first | (rw [if_pos q]) | (simp only [if_pos q] at *; done) | (simp only [if_pos q] at *; omega) | omega)) (fun q => by first | (rw [if_neg (show ¬ mPlayC (V 309) (V 311) x from fun z => q (z.1 (by omega)))]; done) | (rw [if_neg (show ¬ mPlayC (V 309) (V 311) x from fun z => q (z.1 (by omega)))]; first | (rw [if_neg q]) | (simp only [if_neg q] at *; done) | (simp only [if_neg q] at *; omega) | omega)))), rfl, (Eq.trans (upE (upE (upE (by simp only [mPlayF]; rw [if_pos (by omega)]) rfl) rfl) rfl) (scr_self _))⟩ (by decide) dX11_isPlayed_82
  by_cases hs7 : V 311 x = 5
  · refine x_tswIn (tgt := 83) (off := 59) dX11_isPlayed_24 5 hs7 ?_
    refine x_al0 dX11_isPlayed_83 ?_
    refine x_il2 dX11_isPlayed_84 ?_
    refine x_il3 dX11_isPlayed_85 ?_
    refine x_cVi mm_X11_swap ml_X11_271 dX11_isPlayed_86 (c_X11_swap (V 311 (x + 1)) (V 311 (x + 2)) hS hA h1 h5 (inr (by omega)) (inr (by omega))) (sh_308 hS) (lq_308 hS) ?_
    exact x_zret hQ ⟨(V 314), (V 315), (V 316), hN, hTr, (congrArg (fun z : Int => some (vI z)) (Or.elim (Classical.em (mSwapC (V 309) (V 311 (x + 1)) (V 311 (x + 2)))) (fun q => by first | (rw [if_pos (show mPlayC (V 309) (V 311) x from ⟨fun z => by omega, fun _ => q, fun z => by omega, fun z => by omega, fun z => by omega⟩)]; done) | (rw [if_pos (show mPlayC (V 309) (V 311) x from ⟨fun z => by omega, fun _ => q, fun z => by omega, fun z => by omega, fun z => by omega⟩)]; first | (rw [if_pos q]) | (simp only [if_pos q] at *; done) | (simp only [if_pos q] at *; omega) | omega)) (fun q => by first | (rw [if_neg (show ¬ mPlayC (V 309) (V 311) x from fun z => q (z.2.1 (by omega)))]; done) | (rw [if_neg (show ¬ mPlayC (V 309) (V 311) x from fun z => q (z.2.1 (by omega)))]; first | (rw [if_neg q]) | (simp only [if_neg q] at *; done) | (simp only [if_neg q] at *; omega) | omega)))), rfl, (Eq.trans (upE (upE (upE (by simp only [mPlayF]; rw [if_neg (by omega), if_pos (by omega)]) rfl) rfl) rfl) (scr_self _))⟩ (ite_01 _) dX11_isPlayed_89
  by_cases hs8 : V 311 x = 6
  · refine x_tswIn (tgt := 90) (off := 66) dX11_isPlayed_24 6 hs8 ?_
    refine x_al0 dX11_isPlayed_90 ?_
    refine x_il2 dX11_isPlayed_91 ?_
    refine x_il3 dX11_isPlayed_92 ?_
    refine x_cVi mm_X11_steal ml_X11_275 dX11_isPlayed_93 (c_X11_steal (V 311 (x + 1)) (V 311 (x + 2)) hS hA h0 h1 h5 (inr (by omega)) (inr (by omega))) (sh_308 hS) (lq_308 hS) ?_
    exact x_zret hQ ⟨(V 314), (V 315), (V 316), hN, hTr, (congrArg (fun z : Int => some (vI z)) (Or.elim (Classical.em (mStealC (V 309) (V 311 (x + 1)) (V 311 (x + 2)))) (fun q => by first | (rw [if_pos (show mPlayC (V 309) (V 311) x from ⟨fun z => by omega, fun z => by omega, fun _ => q, fun z => by omega, fun z => by omega⟩)]; done) | (rw [if_pos (show mPlayC (V 309) (V 311) x from ⟨fun z => by omega, fun z => by omega, fun _ => q, fun z => by omega, fun z => by omega⟩)]; first | (rw [if_pos q]) | (simp only [if_pos q] at *; done) | (simp only [if_pos q] at *; omega) | omega)) (fun q => by first | (rw [if_neg (show ¬ mPlayC (V 309) (V 311) x from fun z => q (z.2.2.1 (by omega)))]; done) | (rw [if_neg (show ¬ mPlayC (V 309) (V 311) x from fun z => q (z.2.2.1 (by omega)))]; first | (rw [if_neg q]) | (simp only [if_neg q] at *; done) | (simp only [if_neg q] at *; omega) | omega)))), rfl, (Eq.trans (upE (upE (upE (by simp only [mPlayF]; rw [if_neg (by omega), if_neg (by omega), if_pos (by omega)]) rfl) rfl) rfl) (scr_self _))⟩ (ite_01 _) dX11_isPlayed_96
  by_cases hs9 : V 311 x = 7
  · refine x_tswIn (tgt := 97) (off := 73) dX11_isPlayed_24 7 hs9 ?_
    refine x_al0 dX11_isPlayed_97 ?_
    refine x_il2 dX11_isPlayed_98 ?_
    refine x_cVi mm_X11_burn ml_X11_278 dX11_isPlayed_99 (c_X11_burn (V 311 (x + 1)) hS hA h0 h1 h5 hP (inr (by omega))) (sh_308 hS) (lq_308 hS) ?_
    have hpr := sumT_01 (fun b => V 309 (30 + 6 * b + 5) / p2 (V 311 (x + 1)) % 2) (fun k => by omega) (V 309 1) h1.1
    have hpr2 : mProofs (V 309) (V 311 (x + 1)) (V 309 1) = sumT (fun b => V 309 (30 + 6 * b + 5) / p2 (V 311 (x + 1)) % 2) (V 309 1) := rfl
    refine x_if_lt (tgt := 109) dX11_isPlayed_102 (by split <;> omega) (fun c102_10 => ?_) (fun c102_10 => ?_)
    · -- 102 lt -> 109
      refine x_iconst dX11_isPlayed_109 ?_
      exact x_zret hQ ⟨(V 314), (V 315), (V 316), hN, hTr, (congrArg (fun z : Int => some (vI z)) (Or.elim (Classical.em (mTownOk (V 309) (V 311 (x + 1)))) (fun q => by first | (rw [if_pos (show mPlayC (V 309) (V 311) x from ⟨fun z => by omega, fun z => by omega, fun z => by omega, fun _ => q, fun z => by omega⟩)]; done) | (rw [if_pos (show mPlayC (V 309) (V 311) x from ⟨fun z => by omega, fun z => by omega, fun z => by omega, fun _ => q, fun z => by omega⟩)]; first | (rw [if_pos q]) | (simp only [if_pos q] at *; done) | (simp only [if_pos q] at *; omega) | omega)) (fun q => by first | (rw [if_neg (show ¬ mPlayC (V 309) (V 311) x from fun z => q (z.2.2.2.1 (by omega)))]; done) | (rw [if_neg (show ¬ mPlayC (V 309) (V 311) x from fun z => q (z.2.2.2.1 (by omega)))]; first | (rw [if_neg q]) | (simp only [if_neg q] at *; done) | (simp only [if_neg q] at *; omega) | omega)))), rfl, (Eq.trans (upE (upE (upE (by simp only [mPlayF]; rw [if_neg (by omega), if_neg (by omega), if_neg (by omega), if_pos (by omega)]) rfl) rfl) rfl) (scr_self _))⟩ (by decide) dX11_isPlayed_110
    · -- 102 lt -> 105
      refine x_iconst dX11_isPlayed_105 ?_
      refine x_goto (tgt := 110) dX11_isPlayed_106 ?_
      exact x_zret hQ ⟨(V 314), (V 315), (V 316), hN, hTr, (congrArg (fun z : Int => some (vI z)) (Or.elim (Classical.em (mTownOk (V 309) (V 311 (x + 1)))) (fun q => by first | (rw [if_pos (show mPlayC (V 309) (V 311) x from ⟨fun z => by omega, fun z => by omega, fun z => by omega, fun _ => q, fun z => by omega⟩)]; done) | (rw [if_pos (show mPlayC (V 309) (V 311) x from ⟨fun z => by omega, fun z => by omega, fun z => by omega, fun _ => q, fun z => by omega⟩)]; first | (rw [if_pos q]) | (simp only [if_pos q] at *; done) | (simp only [if_pos q] at *; omega) | omega)) (fun q => by first | (rw [if_neg (show ¬ mPlayC (V 309) (V 311) x from fun z => q (z.2.2.2.1 (by omega)))]; done) | (rw [if_neg (show ¬ mPlayC (V 309) (V 311) x from fun z => q (z.2.2.2.1 (by omega)))]; first | (rw [if_neg q]) | (simp only [if_neg q] at *; done) | (simp only [if_neg q] at *; omega) | omega)))), rfl, (Eq.trans (upE (upE (upE (by simp only [mPlayF]; rw [if_neg (by omega), if_neg (by omega), if_neg (by omega), if_pos (by omega)]) rfl) rfl) rfl) (scr_self _))⟩ (by decide) dX11_isPlayed_110
  by_cases hs11 : V 311 x = 8
  · refine x_tswIn (tgt := 111) (off := 87) dX11_isPlayed_24 8 hs11 ?_
    refine x_al0 dX11_isPlayed_111 ?_
    refine x_il2 dX11_isPlayed_112 ?_
    refine x_cVis mm_X11_pass ml_X11_281 dX11_isPlayed_113 (c_X11_pass (V 311 (x + 1)) hS hA hX h44 hW hN hTr h1 h2 h5 (inr (by omega))) (sh_308 hS) (lq_308 hS) (fun f12 g12 h12 hf12 hh12 => ?_)
    refine x_if_lt (tgt := 123) dX11_isPlayed_116 (by split <;> omega) (fun c116_13 => ?_) (fun c116_13 => ?_)
    · -- 116 lt -> 123
      refine x_iconst dX11_isPlayed_123 ?_
      exact x_zret hQ ⟨f12, g12, h12, hf12, hh12, (congrArg (fun z : Int => some (vI z)) (Or.elim (Classical.em (0 ≤ V 311 (x + 1) ∧ V 311 (x + 1) ≤ 99 ∧ V 309 2 + V 311 (x + 1) ≤ 999)) (fun q => by first | (rw [if_pos (show mPlayC (V 309) (V 311) x from ⟨fun z => by omega, fun z => by omega, fun z => by omega, fun z => by omega, fun _ => q⟩)]; done) | (rw [if_pos (show mPlayC (V 309) (V 311) x from ⟨fun z => by omega, fun z => by omega, fun z => by omega, fun z => by omega, fun _ => q⟩)]; first | (rw [if_pos q]) | (simp only [if_pos q] at *; done) | (simp only [if_pos q] at *; omega) | omega)) (fun q => by first | (rw [if_neg (show ¬ mPlayC (V 309) (V 311) x from fun z => q (z.2.2.2.2 (by omega)))]; done) | (rw [if_neg (show ¬ mPlayC (V 309) (V 311) x from fun z => q (z.2.2.2.2 (by omega)))]; first | (rw [if_neg q]) | (simp only [if_neg q] at *; done) | (simp only [if_neg q] at *; omega) | omega)))), rfl, (upE (upE (upE (by simp only [mPlayF]; rw [if_neg (by omega), if_neg (by omega), if_neg (by omega), if_neg (by omega), if_pos (by omega)]) rfl) rfl) rfl)⟩ (by decide) dX11_isPlayed_124
    · -- 116 lt -> 119
      refine x_iconst dX11_isPlayed_119 ?_
      refine x_goto (tgt := 124) dX11_isPlayed_120 ?_
      exact x_zret hQ ⟨f12, g12, h12, hf12, hh12, (congrArg (fun z : Int => some (vI z)) (Or.elim (Classical.em (0 ≤ V 311 (x + 1) ∧ V 311 (x + 1) ≤ 99 ∧ V 309 2 + V 311 (x + 1) ≤ 999)) (fun q => by first | (rw [if_pos (show mPlayC (V 309) (V 311) x from ⟨fun z => by omega, fun z => by omega, fun z => by omega, fun z => by omega, fun _ => q⟩)]; done) | (rw [if_pos (show mPlayC (V 309) (V 311) x from ⟨fun z => by omega, fun z => by omega, fun z => by omega, fun z => by omega, fun _ => q⟩)]; first | (rw [if_pos q]) | (simp only [if_pos q] at *; done) | (simp only [if_pos q] at *; omega) | omega)) (fun q => by first | (rw [if_neg (show ¬ mPlayC (V 309) (V 311) x from fun z => q (z.2.2.2.2 (by omega)))]; done) | (rw [if_neg (show ¬ mPlayC (V 309) (V 311) x from fun z => q (z.2.2.2.2 (by omega)))]; first | (rw [if_neg q]) | (simp only [if_neg q] at *; done) | (simp only [if_neg q] at *; omega) | omega)))), rfl, (upE (upE (upE (by simp only [mPlayF]; rw [if_neg (by omega), if_neg (by omega), if_neg (by omega), if_neg (by omega), if_pos (by omega)]) rfl) rfl) rfl)⟩ (by decide) dX11_isPlayed_124
  refine x_tswOut (tgt := 125) dX11_isPlayed_24 (inr (by omega)) (by omega) ?_
  refine x_iconst dX11_isPlayed_125 ?_
  exact x_zret hQ ⟨(V 314), (V 315), (V 316), hN, hTr, (congrArg (fun z : Int => some (vI z)) (if_pos (show mPlayC (V 309) (V 311) x from ⟨fun z => by omega, fun z => by omega, fun z => by omega, fun z => by omega, fun z => by omega⟩))), rfl, (Eq.trans (upE (upE (upE (by simp only [mPlayF]; rw [if_neg (by omega), if_neg (by omega), if_neg (by omega), if_neg (by omega), if_neg (by omega), up_self]) rfl) rfl) rfl) (scr_self _))⟩ (by decide) dX11_isPlayed_126
set_option maxRecDepth 100000 in
set_option maxHeartbeats 4000000 in
theorem c_X11_played {B : Bs} {S : Stt} {V : Va} (text : Int) (hS : Stat S) (hI : AI (V 309)) (hX : AB (V 311)) (hW : 0 ≤ (V 309 4) → TW (V 311) (V 309 4)) (hN : AB (V 314)) (hTr : TRb (V 316)) (h3 : 0 ≤ (V 309 3) ∧ (V 309 3) ≤ 4) (hWa : ∀ t, 0 ≤ t → t < (V 309 3) → TW (V 311) t) (htext : InR text) : C B yX11_played cX11_played 3 (some .int) 7 0 0 [vR B 308, vI text] S V (rIs S (up V 309 (if 0 ≤ text ∧ text ≤ (V 309 3) - 1 then mPlayG (V 309) (V 311) text else (V 309))) (if 0 ≤ text ∧ text ≤ (V 309 3) - 1 then mPlayR (V 309) (V 311) text else -2)) := by
  refine C.of [some (vR B 308), some (vI text), none] ?_
  intro Γ hQ
  obtain ⟨hA, h0, h1, h2, h44, h5, hP⟩ := id hI
  refine x_il1 dX11_played_0 ?_
  refine x_iconst dX11_played_1 ?_
  refine x_al0 dX11_played_2 ?_
  refine x_getR fl_X11_7 (sh_308 hS) (lq_308 hS) (rf_308_0 hS) dX11_played_3 ?_
  refine x_iconst dX11_played_6 ?_
  have hb1 := hA 3
  refine x_iald (sh_309 hS) (lq_309 hS) (by omega) (by omega) dX11_played_7 ?_
  refine x_topI (a' := V 309 3) rfl ?_
  refine x_iconst dX11_played_8 ?_
  refine x_isub dX11_played_9 ?_
  refine x_cSi mm_X11_isIn ml_X11_75 dX11_played_10 (c_X11_isIn text 0 ((V 309 3) - 1) (inr (by omega)) (inr (by decide)) (inr (by omega))) ?_
  refine x_ifb_ne (tgt := 19) dX11_played_13 (fun c13_2 => ?_) (fun c13_2 => ?_)
  · -- 13 ne -> 19
    have hw := hWa text (by omega) (by omega)
    have hw1 := hw.1
    have hw2 := hw.2.1
    refine x_iconst dX11_played_19 ?_
    refine x_is2 dX11_played_20 ?_
    have lp21 : ∀ (N21 : Nat) (k : Int) (cu : Int → Int) (f : Int → Int) (g : Int → Int) (h : Int → Int), (0 ≤ k ∧ k ≤ V 311 (700 * text)) → (cu = mPlayK (V 309) (V 311) text k.toNat) → (∀ j, 0 ≤ j → j < k → mPlayC (mPlayK (V 309) (V 311) text j.toNat) (V 311) (700 * text + 1 + 4 * j)) → (AB f) → (TRb h) → (24 - k).toNat < N21 → X Γ B RX11 "played" cX11_played 3 (some .int) 7 0 0 21 [some (vR B 308), some (vI text), some (vI k)] [] 0 0 S (up (up (up (up V 309 cu) 314 f) 315 g) 316 h) := by
      intro N21
      induction N21 with
      | zero => intro k cu f g h hk hcu hb hf hh hN; exact absurd hN (Nat.not_lt_zero _)
      | succ N21 ih21 =>
        intro k cu f g h hk hcu hb hf hh hN21
        have hJ := mPlayK_inv (tx := V 311) (t := text) hI k.toNat
        rw [← hcu] at hJ
        have hB := hJ.1.1
        refine x_il2 dX11_played_21 ?_
        refine x_al0 dX11_played_22 ?_
        refine x_getR fl_X11_16 (sh_308 hS) (lq_308 hS) (rf_308_2 hS) dX11_played_23 ?_
        refine x_sipush dX11_played_26 ?_
        refine x_il1 dX11_played_29 ?_
        refine x_imul dX11_played_30 ?_
        have hb3 := hX (700 * text)
        refine x_iald (sh_311 hS) (lq_311 hS) (by omega) (by omega) dX11_played_31 ?_
        refine x_topI (a' := V 311 (700 * text)) rfl ?_
        refine x_icmp_ge (tgt := 61) dX11_played_32 (inr (by omega)) (inr (by omega)) (fun c32_4 => ?_) (fun c32_4 => ?_)
        · -- 32 ge -> 61
          refine x_iconst dX11_played_61 ?_
          exact x_iret hQ ⟨f, g, h, hf, hh, (congrArg (fun z : Int => some (vI z)) (by rw [if_pos (by omega)]; exact findT_no (fun j h1 h2 => by rw [decide_eq_true (hb j h1 (by omega))]; rfl))), rfl, (upE (upE (upE (by have e : mPlayR (V 309) (V 311) text = -1 := findT_no (fun j h1 h2 => by rw [decide_eq_true (hb j h1 (by omega))]; rfl); rw [if_pos (by omega)]; simp only [mPlayG]; rw [e, if_pos (by omega), hcu, show k = V 311 (700 * text) by omega]) rfl) rfl) rfl)⟩ dX11_played_62
        · -- 32 ge -> 35
          refine x_al0 dX11_played_35 ?_
          refine x_sipush dX11_played_36 ?_
          refine x_il1 dX11_played_39 ?_
          refine x_imul dX11_played_40 ?_
          refine x_iconst dX11_played_41 ?_
          refine x_iadd dX11_played_42 ?_
          refine x_iconst dX11_played_43 ?_
          refine x_il2 dX11_played_44 ?_
          refine x_imul dX11_played_45 ?_
          refine x_iadd dX11_played_46 ?_
          refine x_cVis mm_X11_isPlayed ml_X11_284 dX11_played_47 (c_X11_isPlayed (((700 * text) + 1) + (4 * k)) hS (show AI cu from hJ.1) (show AB (V 311) from hX) (show 0 ≤ (cu 4) → TW (V 311) (cu 4) from (by rw [hJ.2.1]; exact hW)) (show AB f from hf) (show TRb h from hh) (by omega)) (sh_308 hS) (lq_308 hS) (fun f5 g5 h5 hf5 hh5 => ?_)
          refine x_top (v' := vI (if mPlayC cu (V 311) (((700 * text) + 1) + (4 * k)) then 1 else 0)) rfl ?_
          refine x_mem (V' := (up (up (up (up V 309 (mPlayF cu (V 311) (((700 * text) + 1) + (4 * k)))) 314 f5) 315 g5) 316 h5)) (Eq.trans (Eq.trans (Eq.trans (congrArg (fun z => up z 316 _) (congrArg (fun z => up z 315 _) (congrArg (fun z => up z 314 _) (up_k (by decide) (up_k (by decide) (up_k (by decide) (up_up _ _ _ _))))))) (congrArg (fun z => up z 316 _) (congrArg (fun z => up z 315 _) (up_k (by decide) (up_k (by decide) (up_up _ _ _ _)))))) (congrArg (fun z => up z 316 _) (up_k (by decide) (up_up _ _ _ _)))) (up_up _ _ _ _)) ?_
          refine x_ifb_ne (tgt := 55) dX11_played_50 (fun c50_6 => ?_) (fun c50_6 => ?_)
          · -- 50 ne -> 55
            refine x_inc2 dX11_played_55 ?_
            refine x_goto (tgt := 21) dX11_played_58 ?_
            exact x_fg (ih21 (k + 1) (mPlayF cu (V 311) (((700 * text) + 1) + (4 * k))) f5 g5 h5 (by omega) (by rw [show (k + 1).toNat = k.toNat + 1 by omega]; simp only [mPlayK]; rw [← hcu, show ((k.toNat : Nat) : Int) = k by omega]) (fun j h1 h2 => by rcases (show j < k ∨ j = k by omega) with q | rfl; (exact hb j h1 q); rw [← hcu]; assumption) hf5 hh5 (by omega)) (And.intro rfl (And.intro rfl (And.intro rfl trivial)))
          · -- 50 ne -> 53
            refine x_il2 dX11_played_53 ?_
            exact x_iret hQ ⟨f5, g5, h5, hf5, hh5, (congrArg (fun z : Int => some (vI z)) (by rw [if_pos (by omega)]; exact findT_at (by omega) (by omega) (by rw [← hcu, decide_eq_false (by assumption)]; rfl) (fun j h1 h2 => by rw [decide_eq_true (hb j h1 h2)]; rfl))), rfl, (upE (upE (upE (by have e : mPlayR (V 309) (V 311) text = k := findT_at (by omega) (by omega) (by rw [← hcu, decide_eq_false (by assumption)]; rfl) (fun j h1 h2 => by rw [decide_eq_true (hb j h1 h2)]; rfl); rw [if_pos (by omega)]; simp only [mPlayG]; rw [e, if_neg (by omega), ← hcu, mPlayF_no (by assumption)]) rfl) rfl) rfl)⟩ dX11_played_54
    refine x_mem (V' := (up (up (up (up V 309 (V 309)) 314 (V 314)) 315 (V 315)) 316 (V 316))) (Eq.trans (Eq.trans (Eq.trans (show _ = (up V 309 (V 309)) from (Eq.symm (up_self _ 309))) (show _ = (up (up V 309 (V 309)) 314 (V 314)) from (Eq.symm (up_self _ 314)))) (show _ = (up (up (up V 309 (V 309)) 314 (V 314)) 315 (V 315)) from (Eq.symm (up_self _ 315)))) (show _ = (up (up (up (up V 309 (V 309)) 314 (V 314)) 315 (V 315)) 316 (V 316)) from (Eq.symm (up_self _ 316)))) ?_
    exact x_fg (lp21 _ 0 (V 309) (V 314) (V 315) (V 316) (by omega) rfl (fun j h1 h2 => by omega) hN hTr (Nat.lt_succ_self _)) (And.intro rfl (And.intro rfl (And.intro rfl trivial)))
  · -- 13 ne -> 16
    refine x_bipush dX11_played_16 ?_
    exact x_iret hQ ⟨(V 314), (V 315), (V 316), hN, hTr, (congrArg (fun z : Int => some (vI z)) (if_neg (by omega))), rfl, (Eq.trans (upE (upE (upE (by rw [if_neg (by omega), up_self]) rfl) rfl) rfl) (scr_self _))⟩ dX11_played_18
