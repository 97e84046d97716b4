set_option maxRecDepth 100000 in
set_option maxHeartbeats 4000000 in
theorem c_X11_findAsked {B : Bs} {S : Stt} {V : Va} (set : Int) (hS : Stat S) (hA : AB (V 309)) (hX : AB (V 311)) (h44 : -1 ≤ (V 309 4) ∧ (V 309 4) ≤ 3) (hW : 0 ≤ (V 309 4) → TW (V 311) (V 309 4)) (hN : AB (V 314)) (hTr : TRb (V 316)) (h1 : 0 ≤ (V 309 1) ∧ (V 309 1) ≤ 16) (hset : InR set) : C B yX11_findAsked cX11_findAsked 3 none 5 0 0 [vR B 308, vI set] S V (rVs S (up (up V 308 (ua (V 308) 29 (mAc (V 309) (V 311) set ((V 309 1)).toNat))) 317 (mAr (V 309) (V 311) set (V 317) ((V 309 1)).toNat))) := by
  refine C.of [some (vR B 308), some (vI set), none] ?_
  intro Γ hQ
  refine x_al0 dX11_findAsked_0 ?_
  refine x_iconst dX11_findAsked_1 ?_
  refine x_putI fl_X11_309 (sh_308 hS) (lq_308 hS) dX11_findAsked_2 ?_
  refine x_mem (V' := (up V 308 (ua (V 308) 29 0))) rfl ?_
  refine x_iconst dX11_findAsked_5 ?_
  refine x_is2 dX11_findAsked_6 ?_
  have lp7 : ∀ (N7 : Nat) (b : Int) (cu : Int) (ro : Int → Int) (f : Int → Int) (g : Int → Int) (h : Int → Int), (0 ≤ b ∧ b ≤ V 309 1) → (cu = mAc (V 309) (V 311) set b.toNat) → (ro = mAr (V 309) (V 311) set (V 317) b.toNat) → (AB f) → (TRb h) → (V 309 1 - b).toNat < N7 → X Γ B RX11 "findAsked" cX11_findAsked 3 none 5 0 0 7 [some (vR B 308), some (vI set), some (vI b)] [] 0 0 S (up (up (up (up (up V 308 (ua (V 308) 29 cu)) 314 f) 315 g) 316 h) 317 ro) := by
    intro N7
    induction N7 with
    | zero => intro b cu ro f g h hb hcu hro hf hh hN; exact absurd hN (Nat.not_lt_zero _)
    | succ N7 ih7 =>
      intro b cu ro f g h hb hcu hro hf hh hN7
      have hcr := mAc_r (V 309) (V 311) set b.toNat
      rw [← hcu] at hcr
      refine x_il2 dX11_findAsked_7 ?_
      refine x_al0 dX11_findAsked_8 ?_
      refine x_getR fl_X11_7 (sh_308 hS) (lq_308 hS) (rf_308_0 hS) dX11_findAsked_9 ?_
      refine x_iconst dX11_findAsked_12 ?_
      have hb1 := hA 1
      refine x_iald (sh_309 hS) (lq_309 hS) (by omega) (by omega) dX11_findAsked_13 ?_
      refine x_topI (a' := V 309 1) rfl ?_
      refine x_icmp_ge (tgt := 72) dX11_findAsked_14 (inr (by omega)) (inr (by omega)) (fun c14_2 => ?_) (fun c14_2 => ?_)
      · -- 14 ge -> 72
        exact x_vret hQ ⟨f, g, h, hf, hh, rfl, rfl, (Eq.trans (upE (upE (upE (by rw [hcu, hro, show b = V 309 1 by omega]) rfl) rfl) rfl) (Eq.trans (Eq.trans (congrArg (fun z => up z 316 _) (congrArg (fun z => up z 315 _) (up_k (by decide) rfl))) (congrArg (fun z => up z 316 _) (up_k (by decide) rfl))) (up_k (by decide) rfl)))⟩ dX11_findAsked_72
      · -- 14 ge -> 17
        refine x_il1 dX11_findAsked_17 ?_
        refine x_al0 dX11_findAsked_18 ?_
        refine x_getR fl_X11_7 (sh_308 hS) (lq_308 hS) (rf_308_0 hS) dX11_findAsked_19 ?_
        refine x_il2 dX11_findAsked_22 ?_
        refine x_cSi mm_X11_boneAt ml_X11_87 dX11_findAsked_23 (c_X11_boneAt b) ?_
        refine x_iconst dX11_findAsked_26 ?_
        refine x_iadd dX11_findAsked_27 ?_
        have hb3 := hA ((30 + 6 * b) + 3)
        refine x_iald (sh_309 hS) (lq_309 hS) (by omega) (by omega) dX11_findAsked_28 ?_
        refine x_topI (a' := V 309 ((30 + 6 * b) + 3)) rfl ?_
        refine x_ishrM (inr (by omega)) dX11_findAsked_29 ?_
        refine x_iconst dX11_findAsked_30 ?_
        refine x_and1 dX11_findAsked_31 ?_
        refine x_if_eq (tgt := 66) dX11_findAsked_32 (inr (by omega)) (fun c32_4 => ?_) (fun c32_4 => ?_)
        · -- 32 eq -> 66
          refine x_inc2 dX11_findAsked_66 ?_
          refine x_goto (tgt := 7) dX11_findAsked_69 ?_
          exact x_fg (ih7 (b + 1) cu ro f g h (by omega) (by rw [show (b + 1).toNat = b.toNat + 1 by omega]; simp only [mAc]; rw [show ((b.toNat : Nat) : Int) = b by omega, ← hcu]; first | (rw [if_pos ⟨by omega, by assumption⟩]) | (rw [if_neg (fun q => by first | exact q.1 (by omega) | exact absurd q.2 (by assumption))])) (by rw [show (b + 1).toNat = b.toNat + 1 by omega]; simp only [mAr]; rw [show ((b.toNat : Nat) : Int) = b by omega, ← hcu, ← hro]; first | (rw [if_pos ⟨by omega, by assumption⟩]) | (rw [if_neg (fun q => by first | exact q.1 (by omega) | exact absurd q.2 (by assumption))])) hf hh (by omega)) (And.intro rfl (And.intro rfl (And.intro rfl trivial)))
        · -- 32 eq -> 35
          refine x_al0 dX11_findAsked_35 ?_
          refine x_il2 dX11_findAsked_36 ?_
          refine x_cVis mm_X11_isHoly ml_X11_306 dX11_findAsked_37 (c_X11_isHoly b hS (show AB (V 309) from hA) (show AB (V 311) from hX) (show -1 ≤ (V 309 4) ∧ (V 309 4) ≤ 3 from h44) (show 0 ≤ (V 309 4) → TW (V 311) (V 309 4) from hW) (show AB f from hf) (show TRb h from hh) (by omega)) (sh_308 hS) (lq_308 hS) (fun f5 g5 h5 hf5 hh5 => ?_)
          refine x_top (v' := vI (if mHoly (V 309) (V 311) b then 1 else 0)) rfl ?_
          refine x_mem (V' := (up (up (up (up (up V 308 (ua (V 308) 29 cu)) 314 f5) 315 g5) 316 h5) 317 ro)) (Eq.trans (Eq.trans (congrArg (fun z => up z 316 _) (congrArg (fun z => up z 315 _) (up_k (by decide) (up_k (by decide) (up_k (by decide) (up_up _ _ _ _)))))) (congrArg (fun z => up z 316 _) (up_k (by decide) (up_k (by decide) (up_up _ _ _ _))))) (up_k (by decide) (up_up _ _ _ _))) ?_
          refine x_ifb_ne (tgt := 46) dX11_findAsked_40 (fun c40_6 => ?_) (fun c40_6 => ?_)
          · -- 40 ne -> 46
            refine x_al0 dX11_findAsked_46 ?_
            refine x_getR fl_X11_43 (sh_308 hS) (lq_308 hS) (rf_308_25 hS) dX11_findAsked_47 ?_
            refine x_al0 dX11_findAsked_50 ?_
            refine x_getI fl_X11_309 (sh_308 hS) (lq_308 hS) dX11_findAsked_51 ?_
            refine x_topI (a' := cu) (show (ua (V 308) 29 cu) 29 = cu from (ua_same _ _ _)) ?_
            refine x_il2 dX11_findAsked_54 ?_
            refine x_iast (sh_317 hS) (lq_317 hS) (by omega) (by omega) dX11_findAsked_55 ?_
            refine x_mem (V' := (up (up (up (up (up V 308 (ua (V 308) 29 cu)) 314 f5) 315 g5) 316 h5) 317 (ua ro cu b))) (st2_up _ _ _ _ _) ?_
            refine x_al0 dX11_findAsked_56 ?_
            refine x_dup dX11_findAsked_57 ?_
            refine x_getI fl_X11_309 (sh_308 hS) (lq_308 hS) dX11_findAsked_58 ?_
            refine x_topI (a' := cu) (show (ua (V 308) 29 cu) 29 = cu from (ua_same _ _ _)) ?_
            refine x_iconst dX11_findAsked_61 ?_
            refine x_iadd dX11_findAsked_62 ?_
            refine x_putI fl_X11_309 (sh_308 hS) (lq_308 hS) dX11_findAsked_63 ?_
            refine x_mem (V' := (up (up (up (up (up V 308 (ua (ua (V 308) 29 cu) 29 (cu + 1))) 314 f5) 315 g5) 316 h5) 317 (ua ro cu b))) (st2_c (by decide) (st2_c (by decide) (st2_c (by decide) (st2_c (by decide) (st2_up _ _ _ _ _))))) ?_
            refine x_inc2 dX11_findAsked_66 ?_
            refine x_goto (tgt := 7) dX11_findAsked_69 ?_
            refine x_mem (V' := (up (up (up (up (up V 308 (ua (V 308) 29 (cu + 1))) 314 f5) 315 g5) 316 h5) 317 (ua ro cu b))) (upE (upE (upE (upE (upE rfl (by first | rfl | (simp only [ua_ua]))) rfl) rfl) rfl) rfl) ?_
            exact x_fg (ih7 (b + 1) (cu + 1) (ua ro cu b) f5 g5 h5 (by omega) (by rw [show (b + 1).toNat = b.toNat + 1 by omega]; simp only [mAc]; rw [show ((b.toNat : Nat) : Int) = b by omega, ← hcu]; first | (rw [if_pos ⟨by omega, by assumption⟩]) | (rw [if_neg (fun q => by first | exact q.1 (by omega) | exact absurd q.2 (by assumption))])) (by rw [show (b + 1).toNat = b.toNat + 1 by omega]; simp only [mAr]; rw [show ((b.toNat : Nat) : Int) = b by omega, ← hcu, ← hro]; first | (rw [if_pos ⟨by omega, by assumption⟩]) | (rw [if_neg (fun q => by first | exact q.1 (by omega) | exact absurd q.2 (by assumption))])) hf5 hh5 (by omega)) (And.intro rfl (And.intro rfl (And.intro rfl trivial)))
          · -- 40 ne -> 43
            refine x_goto (tgt := 66) dX11_findAsked_43 ?_
            refine x_inc2 dX11_findAsked_66 ?_
            refine x_goto (tgt := 7) dX11_findAsked_69 ?_
            exact x_fg (ih7 (b + 1) cu ro f5 g5 h5 (by omega) (by rw [show (b + 1).toNat = b.toNat + 1 by omega]; simp only [mAc]; rw [show ((b.toNat : Nat) : Int) = b by omega, ← hcu]; first | (rw [if_pos ⟨by omega, by assumption⟩]) | (rw [if_neg (fun q => by first | exact q.1 (by omega) | exact absurd q.2 (by assumption))])) (by rw [show (b + 1).toNat = b.toNat + 1 by omega]; simp only [mAr]; rw [show ((b.toNat : Nat) : Int) = b by omega, ← hcu, ← hro]; first | (rw [if_pos ⟨by omega, by assumption⟩]) | (rw [if_neg (fun q => by first | exact q.1 (by omega) | exact absurd q.2 (by assumption))])) hf5 hh5 (by omega)) (And.intro rfl (And.intro rfl (And.intro rfl trivial)))
  refine x_mem (V' := (up (up (up (up (up V 308 (ua (V 308) 29 0)) 314 (V 314)) 315 (V 315)) 316 (V 316)) 317 (V 317))) (Eq.trans (Eq.trans (Eq.trans (show _ = (up (up V 308 (ua (V 308) 29 0)) 314 (V 314)) from (Eq.symm (up_self _ 314))) (show _ = (up (up (up V 308 (ua (V 308) 29 0)) 314 (V 314)) 315 (V 315)) from (Eq.symm (up_self _ 315)))) (show _ = (up (up (up (up V 308 (ua (V 308) 29 0)) 314 (V 314)) 315 (V 315)) 316 (V 316)) from (Eq.symm (up_self _ 316)))) (show _ = (up (up (up (up (up V 308 (ua (V 308) 29 0)) 314 (V 314)) 315 (V 315)) 316 (V 316)) 317 (V 317)) from (Eq.symm (up_self _ 317)))) ?_
  exact x_fg (lp7 _ 0 0 (V 317) (V 314) (V 315) (V 316) (by omega) rfl rfl hN hTr (Nat.lt_succ_self _)) (And.intro rfl (And.intro rfl (And.intro rfl trivial)))
set_option maxRecDepth 100000 in
set_option maxHeartbeats 4000000 in
theorem c_X11_findBarred {B : Bs} {S : Stt} {V : Va} (hS : Stat S) (hA : AB (V 309)) (hX : AB (V 311)) (h44 : -1 ≤ (V 309 4) ∧ (V 309 4) ≤ 3) (hW : 0 ≤ (V 309 4) → TW (V 311) (V 309 4)) (hN : AB (V 314)) (hTr : TRb (V 316)) (hc29 : 0 ≤ (V 308 29) ∧ (V 308 29) ≤ 12) (has : ∀ i, 0 ≤ i → i < (V 308 29) → 0 ≤ (V 317) i ∧ (V 317) i < 16) : C B yX11_findBarred cX11_findBarred 3 none 5 0 0 [vR B 308] S V (rVs S (up (up V 318 (filK (V 318) (fun zz => mBr (V 309) (V 311) (V 317) zz ((V 308 29)).toNat) (V 308 29))) 319 (filK (V 319) (fun zz => mMany (V 309) (V 311) ((V 309) (30 + 6 * (V 317) zz))) (V 308 29)))) := by
  refine C.of [some (vR B 308), none, none] ?_
  intro Γ hQ
  refine x_iconst dX11_findBarred_0 ?_
  refine x_is1 dX11_findBarred_1 ?_
  have lp2 : ∀ (N2 : Nat) (i : Int) (f : Int → Int) (g : Int → Int) (h : Int → Int), (0 ≤ i ∧ i ≤ V 308 29) → (AB f) → (TRb h) → (V 308 29 - i).toNat < N2 → X Γ B RX11 "findBarred" cX11_findBarred 3 none 5 0 0 2 [some (vR B 308), some (vI i), none] [] 0 0 S (up (up (up (up (up V 314 f) 315 g) 316 h) 318 (filK (V 318) (fun zz => mBr (V 309) (V 311) (V 317) zz ((V 308 29)).toNat) i)) 319 (filK (V 319) (fun zz => mMany (V 309) (V 311) ((V 309) (30 + 6 * (V 317) zz))) i)) := by
    intro N2
    induction N2 with
    | zero => intro i f g h hi hf hh hN; exact absurd hN (Nat.not_lt_zero _)
    | succ N2 ih2 =>
      intro i f g h hi hf hh hN2
      refine x_il1 dX11_findBarred_2 ?_
      refine x_al0 dX11_findBarred_3 ?_
      refine x_getI fl_X11_309 (sh_308 hS) (lq_308 hS) dX11_findBarred_4 ?_
      refine x_topI (a' := V 308 29) rfl ?_
      refine x_icmp_ge (tgt := 99) dX11_findBarred_7 (inr (by omega)) (inr (by omega)) (fun c7_1 => ?_) (fun c7_1 => ?_)
      · -- 7 ge -> 99
        exact x_vret hQ ⟨f, g, h, hf, hh, rfl, rfl, (Eq.trans (upE (upE (upE (by rw [show i = V 308 29 by omega]) rfl) rfl) rfl) (Eq.trans (Eq.trans (congrArg (fun z => up z 316 _) (congrArg (fun z => up z 315 _) (up_k (by decide) (up_k (by decide) rfl)))) (congrArg (fun z => up z 316 _) (up_k (by decide) (up_k (by decide) rfl)))) (up_k (by decide) (up_k (by decide) rfl))))⟩ dX11_findBarred_99
      · -- 7 ge -> 10
        have hs1 := has i (by omega) (by omega)
        refine x_al0 dX11_findBarred_10 ?_
        refine x_getR fl_X11_46 (sh_308 hS) (lq_308 hS) (rf_308_26 hS) dX11_findBarred_11 ?_
        refine x_il1 dX11_findBarred_14 ?_
        refine x_iconst dX11_findBarred_15 ?_
        refine x_iast (sh_318 hS) (lq_318 hS) (by omega) (by omega) dX11_findBarred_16 ?_
        refine x_mem (V' := (up (up (up (up (up V 314 f) 315 g) 316 h) 318 (ua (filK (V 318) (fun zz => mBr (V 309) (V 311) (V 317) zz ((V 308 29)).toNat) i) i 0)) 319 (filK (V 319) (fun zz => mMany (V 309) (V 311) ((V 309) (30 + 6 * (V 317) zz))) i))) (st2_c (by decide) (st2_up _ _ _ _ _)) ?_
        refine x_al0 dX11_findBarred_17 ?_
        refine x_getR fl_X11_49 (sh_308 hS) (lq_308 hS) (rf_308_27 hS) dX11_findBarred_18 ?_
        refine x_il1 dX11_findBarred_21 ?_
        refine x_al0 dX11_findBarred_22 ?_
        refine x_al0 dX11_findBarred_23 ?_
        refine x_getR fl_X11_7 (sh_308 hS) (lq_308 hS) (rf_308_0 hS) dX11_findBarred_24 ?_
        refine x_al0 dX11_findBarred_27 ?_
        refine x_getR fl_X11_43 (sh_308 hS) (lq_308 hS) (rf_308_25 hS) dX11_findBarred_28 ?_
        refine x_il1 dX11_findBarred_31 ?_
        refine x_iald (sh_317 hS) (lq_317 hS) (by omega) (by omega) dX11_findBarred_32 ?_
        refine x_topI (a' := V 317 i) rfl ?_
        refine x_cSi mm_X11_boneAt ml_X11_87 dX11_findBarred_33 (c_X11_boneAt (V 317 i)) ?_
        have hb2 := hA (30 + 6 * (V 317 i))
        refine x_iald (sh_309 hS) (lq_309 hS) (by omega) (by omega) dX11_findBarred_36 ?_
        refine x_topI (a' := V 309 (30 + 6 * (V 317 i))) rfl ?_
        refine x_cVi mm_X11_manyOf ml_X11_312 dX11_findBarred_37 (c_X11_manyOf (V 309 (30 + 6 * (V 317 i))) hS (show AB (V 309) from hA) (show AB (V 311) from hX) (show -1 ≤ (V 309 4) ∧ (V 309 4) ≤ 3 from h44) (show 0 ≤ (V 309 4) → TW (V 311) (V 309 4) from hW) (inr (by omega))) (sh_308 hS) (lq_308 hS) ?_
        refine x_topI (a' := mMany (V 309) (V 311) (V 309 (30 + 6 * (V 317 i)))) rfl ?_
        refine x_iast (sh_319 hS) (lq_319 hS) (by omega) (by omega) dX11_findBarred_40 ?_
        refine x_mem (V' := (up (up (up (up (up V 314 f) 315 g) 316 h) 318 (ua (filK (V 318) (fun zz => mBr (V 309) (V 311) (V 317) zz ((V 308 29)).toNat) i) i 0)) 319 (ua (filK (V 319) (fun zz => mMany (V 309) (V 311) ((V 309) (30 + 6 * (V 317) zz))) i) i (mMany (V 309) (V 311) (V 309 (30 + 6 * (V 317 i))))))) (st2_up _ _ _ _ _) ?_
        refine x_iconst dX11_findBarred_41 ?_
        refine x_is2 dX11_findBarred_42 ?_
        have lp43 : ∀ (N43 : Nat) (k : Int) (e : Int) (f : Int → Int) (g : Int → Int) (h : Int → Int), (0 ≤ k ∧ k ≤ V 308 29) → (e = mBr (V 309) (V 311) (V 317) i k.toNat) → (AB f) → (TRb h) → (V 308 29 - k).toNat < N43 → X Γ B RX11 "findBarred" cX11_findBarred 3 none 5 0 0 43 [some (vR B 308), some (vI i), some (vI k)] [] 0 0 S (up (up (up (up (up V 314 f) 315 g) 316 h) 318 (ua (filK (V 318) (fun zz => mBr (V 309) (V 311) (V 317) zz ((V 308 29)).toNat) i) i e)) 319 (ua (filK (V 319) (fun zz => mMany (V 309) (V 311) ((V 309) (30 + 6 * (V 317) zz))) i) i (mMany (V 309) (V 311) (V 309 (30 + 6 * (V 317 i)))))) := by
          intro N43
          induction N43 with
          | zero => intro k e f g h hk he hf hh hN; exact absurd hN (Nat.not_lt_zero _)
          | succ N43 ih43 =>
            intro k e f g h hk he hf hh hN43
            have hs2 := has k
            have her := mBr_r (V 309) (V 311) (V 317) i k.toNat
            rw [← he] at her
            refine x_il2 dX11_findBarred_43 ?_
            refine x_al0 dX11_findBarred_44 ?_
            refine x_getI fl_X11_309 (sh_308 hS) (lq_308 hS) dX11_findBarred_45 ?_
            refine x_topI (a' := V 308 29) rfl ?_
            refine x_icmp_ge (tgt := 93) dX11_findBarred_48 (inr (by omega)) (inr (by omega)) (fun c48_3 => ?_) (fun c48_3 => ?_)
            · -- 48 ge -> 93
              refine x_inc1 dX11_findBarred_93 ?_
              refine x_goto (tgt := 2) dX11_findBarred_96 ?_
              refine x_mem (V' := (up (up (up (up (up V 314 f) 315 g) 316 h) 318 (filK (V 318) (fun zz => mBr (V 309) (V 311) (V 317) zz ((V 308 29)).toNat) (i + 1))) 319 (filK (V 319) (fun zz => mMany (V 309) (V 311) ((V 309) (30 + 6 * (V 317) zz))) (i + 1)))) (upE (upE (upE (upE (upE rfl rfl) rfl) rfl) (filK_s hi.1 (by show e = mBr (V 309) (V 311) (V 317) i (V 308 29).toNat; rw [he, show k = V 308 29 by omega]))) (filK_s hi.1 rfl)) ?_
              exact x_fg (ih2 (i + 1) f g h (by omega) hf hh (by omega)) (And.intro rfl (And.intro rfl trivial))
            · -- 48 ge -> 51
              have hs2 := has k (by omega) (by omega)
              refine x_il1 dX11_findBarred_51 ?_
              refine x_il2 dX11_findBarred_52 ?_
              refine x_icmp_eq (tgt := 87) dX11_findBarred_53 (inr (by omega)) (inr (by omega)) (fun c53_4 => ?_) (fun c53_4 => ?_)
              · -- 53 eq -> 87
                refine x_inc2 dX11_findBarred_87 ?_
                refine x_goto (tgt := 43) dX11_findBarred_90 ?_
                exact x_fg (ih43 (k + 1) e f g h (by omega) (by rw [show (k + 1).toNat = k.toNat + 1 by omega]; simp only [mBr]; rw [show ((k.toNat : Nat) : Int) = k by omega, ← he]; first | (rw [if_pos ⟨by omega, by assumption⟩]) | (rw [if_neg (fun q => by first | exact q.1 (by omega) | exact absurd q.2 (by assumption))])) hf hh (by omega)) (And.intro rfl (And.intro rfl (And.intro rfl trivial)))
              · -- 53 eq -> 56
                refine x_al0 dX11_findBarred_56 ?_
                refine x_al0 dX11_findBarred_57 ?_
                refine x_getR fl_X11_43 (sh_308 hS) (lq_308 hS) (rf_308_25 hS) dX11_findBarred_58 ?_
                refine x_il1 dX11_findBarred_61 ?_
                refine x_iald (sh_317 hS) (lq_317 hS) (by omega) (by omega) dX11_findBarred_62 ?_
                refine x_topI (a' := V 317 i) rfl ?_
                refine x_al0 dX11_findBarred_63 ?_
                refine x_getR fl_X11_43 (sh_308 hS) (lq_308 hS) (rf_308_25 hS) dX11_findBarred_64 ?_
                refine x_il2 dX11_findBarred_67 ?_
                refine x_iald (sh_317 hS) (lq_317 hS) (by omega) (by omega) dX11_findBarred_68 ?_
                refine x_topI (a' := V 317 k) rfl ?_
                refine x_cVis mm_X11_isUnlike ml_X11_315 dX11_findBarred_69 (c_X11_isUnlike (V 317 i) (V 317 k) hS (show AB (V 309) from hA) (show AB (V 311) from hX) (show -1 ≤ (V 309 4) ∧ (V 309 4) ≤ 3 from h44) (show 0 ≤ (V 309 4) → TW (V 311) (V 309 4) from hW) (show AB f from hf) (show TRb h from hh) (by omega) (by omega)) (sh_308 hS) (lq_308 hS) (fun f5 g5 h5 hf5 hh5 => ?_)
                refine x_top (v' := vI (if mUnl (V 309) (V 311) (V 317 i) (V 317 k) then 1 else 0)) rfl ?_
                refine x_mem (V' := (up (up (up (up (up V 314 f5) 315 g5) 316 h5) 318 (ua (filK (V 318) (fun zz => mBr (V 309) (V 311) (V 317) zz ((V 308 29)).toNat) i) i e)) 319 (ua (filK (V 319) (fun zz => mMany (V 309) (V 311) ((V 309) (30 + 6 * (V 317) zz))) i) i (mMany (V 309) (V 311) (V 309 (30 + 6 * (V 317 i))))))) (Eq.trans (Eq.trans (congrArg (fun z => up z 316 _) (congrArg (fun z => up z 315 _) (up_k (by decide) (up_k (by decide) (up_k (by decide) (up_k (by decide) (up_up _ _ _ _))))))) (congrArg (fun z => up z 316 _) (up_k (by decide) (up_k (by decide) (up_k (by decide) (up_up _ _ _ _)))))) (up_k (by decide) (up_k (by decide) (up_up _ _ _ _)))) ?_
                refine x_ifb_eq (tgt := 87) dX11_findBarred_72 (fun c72_6 => ?_) (fun c72_6 => ?_)
                · -- 72 eq -> 87
                  refine x_inc2 dX11_findBarred_87 ?_
                  refine x_goto (tgt := 43) dX11_findBarred_90 ?_
                  exact x_fg (ih43 (k + 1) e f5 g5 h5 (by omega) (by rw [show (k + 1).toNat = k.toNat + 1 by omega]; simp only [mBr]; rw [show ((k.toNat : Nat) : Int) = k by omega, ← he]; first | (rw [if_pos ⟨by omega, by assumption⟩]) | (rw [if_neg (fun q => by first | exact q.1 (by omega) | exact absurd q.2 (by assumption))])) hf5 hh5 (by omega)) (And.intro rfl (And.intro rfl (And.intro rfl trivial)))
                · -- 72 eq -> 75
                  refine x_al0 dX11_findBarred_75 ?_
                  refine x_getR fl_X11_46 (sh_308 hS) (lq_308 hS) (rf_308_26 hS) dX11_findBarred_76 ?_
                  refine x_il1 dX11_findBarred_79 ?_
                  refine x_dup2 dX11_findBarred_80 ?_
                  refine x_iald (sh_318 hS) (lq_318 hS) (by omega) (by omega) dX11_findBarred_81 ?_
                  refine x_topI (a' := e) (show (ua (filK (V 318) (fun zz => mBr (V 309) (V 311) (V 317) zz ((V 308 29)).toNat) i) i e) i = e from (ua_same _ _ _)) ?_
                  refine x_iconst dX11_findBarred_82 ?_
                  refine x_il2 dX11_findBarred_83 ?_
                  refine x_shl1 (by omega) (by omega) dX11_findBarred_84 ?_
                  refine x_ior (by omega) (Int.le_of_lt (p2_pos _)) dX11_findBarred_85 ?_
                  refine x_iast (sh_318 hS) (lq_318 hS) (by omega) (by omega) dX11_findBarred_86 ?_
                  refine x_mem (V' := (up (up (up (up (up V 314 f5) 315 g5) 316 h5) 318 (ua (ua (filK (V 318) (fun zz => mBr (V 309) (V 311) (V 317) zz ((V 308 29)).toNat) i) i e) i (bor e (p2 k)))) 319 (ua (filK (V 319) (fun zz => mMany (V 309) (V 311) ((V 309) (30 + 6 * (V 317) zz))) i) i (mMany (V 309) (V 311) (V 309 (30 + 6 * (V 317 i))))))) (st2_c (by decide) (st2_up _ _ _ _ _)) ?_
                  refine x_inc2 dX11_findBarred_87 ?_
                  refine x_goto (tgt := 43) dX11_findBarred_90 ?_
                  refine x_mem (V' := (up (up (up (up (up V 314 f5) 315 g5) 316 h5) 318 (ua (filK (V 318) (fun zz => mBr (V 309) (V 311) (V 317) zz ((V 308 29)).toNat) i) i (bor e (p2 k)))) 319 (ua (filK (V 319) (fun zz => mMany (V 309) (V 311) ((V 309) (30 + 6 * (V 317) zz))) i) i (mMany (V 309) (V 311) (V 309 (30 + 6 * (V 317 i))))))) (upE (upE (upE (upE (upE rfl rfl) rfl) rfl) (by first | rfl | (simp only [ua_ua]))) rfl) ?_
                  exact x_fg (ih43 (k + 1) (bor e (p2 k)) f5 g5 h5 (by omega) (by rw [show (k + 1).toNat = k.toNat + 1 by omega]; simp only [mBr]; rw [show ((k.toNat : Nat) : Int) = k by omega, ← he]; first | (rw [if_pos ⟨by omega, by assumption⟩]) | (rw [if_neg (fun q => by first | exact q.1 (by omega) | exact absurd q.2 (by assumption))])) hf5 hh5 (by omega)) (And.intro rfl (And.intro rfl (And.intro rfl trivial)))
        exact x_fg (lp43 _ 0 0 f g h (by omega) rfl hf hh (Nat.lt_succ_self _)) (And.intro rfl (And.intro rfl (And.intro rfl trivial)))
  refine x_mem (V' := (up (up (up (up (up V 314 (V 314)) 315 (V 315)) 316 (V 316)) 318 (filK (V 318) (fun zz => mBr (V 309) (V 311) (V 317) zz ((V 308 29)).toNat) 0)) 319 (filK (V 319) (fun zz => mMany (V 309) (V 311) ((V 309) (30 + 6 * (V 317) zz))) 0))) (Eq.trans (Eq.trans (Eq.trans (Eq.trans (Eq.trans (show _ = (up V 314 (V 314)) from (Eq.symm (up_self _ 314))) (show _ = (up (up V 314 (V 314)) 315 (V 315)) from (Eq.symm (up_self _ 315)))) (show _ = (up (up (up V 314 (V 314)) 315 (V 315)) 316 (V 316)) from (Eq.symm (up_self _ 316)))) (show _ = (up (up (up (up V 314 (V 314)) 315 (V 315)) 316 (V 316)) 318 (V 318)) from (Eq.symm (up_self _ 318)))) (show _ = (up (up (up (up (up V 314 (V 314)) 315 (V 315)) 316 (V 316)) 318 (V 318)) 319 (V 319)) from (Eq.symm (up_self _ 319)))) (show (up (up (up (up (up V 314 (V 314)) 315 (V 315)) 316 (V 316)) 318 (V 318)) 319 (V 319)) = (up (up (up (up (up V 314 (V 314)) 315 (V 315)) 316 (V 316)) 318 (filK (V 318) (fun zz => mBr (V 309) (V 311) (V 317) zz ((V 308 29)).toNat) 0)) 319 (filK (V 319) (fun zz => mMany (V 309) (V 311) ((V 309) (30 + 6 * (V 317) zz))) 0)) from (upE (upE (upE (upE (upE rfl rfl) rfl) rfl) (filK_0 _ _)) (filK_0 _ _)))) ?_
  exact x_fg (lp2 _ 0 (V 314) (V 315) (V 316) (by omega) hN hTr (Nat.lt_succ_self _)) (And.intro rfl (And.intro rfl trivial))
set_option maxRecDepth 100000 in
set_option maxHeartbeats 4000000 in
theorem c_X11_canHave {B : Bs} {S : Stt} {V : Va} (i : Int) (saint : Int) (hS : Stat S) (hA : AB (V 309)) (hi : 0 ≤ i ∧ i < 12) (hsaint : InR saint) (has : ∀ k, 0 ≤ k → k ≤ i → 0 ≤ (V 317) k ∧ (V 317) k < 16) (hbm : 0 ≤ (V 318) i ∧ (V 318) i < 65536 ∧ InR ((V 319) i)) (hh : ∀ k, 0 ≤ k → k < i → -1 ≤ (V 320) k ∧ (V 320) k ≤ 20) : C B yX11_canHave cX11_canHave 5 (some .boolean) 2 0 0 [vR B 308, vI i, vI saint] S V (rI S V (if canP (fun zz => (V 309) (30 + 6 * (V 317) zz)) (V 318) (V 319) (V 320) i saint then 1 else 0)) := by
  refine C.of [some (vR B 308), some (vI i), some (vI saint), none, none] ?_
  intro Γ hQ
  have hsi := has i (by omega) (by omega)
  refine x_iconst dX11_canHave_0 ?_
  refine x_is3 dX11_canHave_1 ?_
  refine x_iconst dX11_canHave_2 ?_
  refine x_is4 dX11_canHave_3 ?_
  have lp5 : ∀ (N5 : Nat) (n : Int) (k : Int), (0 ≤ k ∧ k ≤ i) → (n = 1 + canC (fun zz => (V 309) (30 + 6 * (V 317) zz)) (V 320) i saint k) → (∀ j, 0 ≤ j → j < k → ¬ (V 320 j = saint ∧ V 318 i / p2 j % 2 = 1)) → (i - k).toNat < N5 → X Γ B RX11 "canHave" cX11_canHave 5 (some .boolean) 2 0 0 5 [some (vR B 308), some (vI i), some (vI saint), some (vI n), some (vI k)] [] 0 0 S V := by
    intro N5
    induction N5 with
    | zero => intro n k hk hn hno hN; exact absurd hN (Nat.not_lt_zero _)
    | succ N5 ih5 =>
      intro n k hk hn hno hN5
      have hcn : 0 ≤ canC (fun zz => (V 309) (30 + 6 * (V 317) zz)) (V 320) i saint k ∧ canC (fun zz => (V 309) (30 + 6 * (V 317) zz)) (V 320) i saint k ≤ k := sumT_01 _ (fun j => by split <;> omega) k hk.1
      have hnr : 1 ≤ n ∧ n ≤ 1 + k := by omega
      refine x_il4 dX11_canHave_5 ?_
      refine x_il1 dX11_canHave_7 ?_
      refine x_icmp_ge (tgt := 88) dX11_canHave_8 (inr (by omega)) (inr (by omega)) (fun c8_1 => ?_) (fun c8_1 => ?_)
      · -- 8 ge -> 88
        refine x_il3 dX11_canHave_88 ?_
        refine x_al0 dX11_canHave_89 ?_
        refine x_getR fl_X11_49 (sh_308 hS) (lq_308 hS) (rf_308_27 hS) dX11_canHave_90 ?_
        refine x_il1 dX11_canHave_93 ?_
        refine x_iald (sh_319 hS) (lq_319 hS) (by omega) (by omega) dX11_canHave_94 ?_
        refine x_topI (a' := V 319 i) rfl ?_
        refine x_icmp_gt (tgt := 102) dX11_canHave_95 (inr (by omega)) (inr (by omega)) (fun c95_2 => ?_) (fun c95_2 => ?_)
        · -- 95 gt -> 102
          refine x_iconst dX11_canHave_102 ?_
          exact x_zret hQ (rI.mk (by have e1 : findT (fun k => decide (V 320 k = saint ∧ V 318 i / p2 k % 2 = 1)) i = -1 := findT_no (fun j h1 h2 => decide_eq_false (hno j h1 (by omega))); rw [show k = i by omega] at hn; first | (rw [if_pos (by refine ⟨by rw [e1]; omega, ?_⟩; rw [← hn]; omega)]) | (rw [if_neg (by intro q; have := q.2; rw [← hn] at this; omega)])) rfl) (by decide) dX11_canHave_103
        · -- 95 gt -> 98
          refine x_iconst dX11_canHave_98 ?_
          refine x_goto (tgt := 103) dX11_canHave_99 ?_
          exact x_zret hQ (rI.mk (by have e1 : findT (fun k => decide (V 320 k = saint ∧ V 318 i / p2 k % 2 = 1)) i = -1 := findT_no (fun j h1 h2 => decide_eq_false (hno j h1 (by omega))); rw [show k = i by omega] at hn; first | (rw [if_pos (by refine ⟨by rw [e1]; omega, ?_⟩; rw [← hn]; omega)]) | (rw [if_neg (by intro q; have := q.2; rw [← hn] at this; omega)])) rfl) (by decide) dX11_canHave_103
      · -- 8 ge -> 11
        have hkk := hh k (by omega) (by omega)
        have hsk := has k (by omega) (by omega)
        refine x_al0 dX11_canHave_11 ?_
        refine x_getR fl_X11_52 (sh_308 hS) (lq_308 hS) (rf_308_28 hS) dX11_canHave_12 ?_
        refine x_il4 dX11_canHave_15 ?_
        refine x_iald (sh_320 hS) (lq_320 hS) (by omega) (by omega) dX11_canHave_17 ?_
        refine x_topI (a' := V 320 k) rfl ?_
        refine x_il2 dX11_canHave_18 ?_
        refine x_icmp_eq (tgt := 25) dX11_canHave_19 (inr (by omega)) (inr (by omega)) (fun c19_3 => ?_) (fun c19_3 => ?_)
        · -- 19 eq -> 25
          refine x_al0 dX11_canHave_25 ?_
          refine x_getR fl_X11_46 (sh_308 hS) (lq_308 hS) (rf_308_26 hS) dX11_canHave_26 ?_
          refine x_il1 dX11_canHave_29 ?_
          refine x_iald (sh_318 hS) (lq_318 hS) (by omega) (by omega) dX11_canHave_30 ?_
          refine x_topI (a' := V 318 i) rfl ?_
          refine x_il4 dX11_canHave_31 ?_
          refine x_ishr (inr (by omega)) (by omega) (by omega) dX11_canHave_33 ?_
          refine x_iconst dX11_canHave_34 ?_
          refine x_and1 dX11_canHave_35 ?_
          refine x_iconst dX11_canHave_36 ?_
          refine x_icmp_ne (tgt := 42) dX11_canHave_37 (inr (by omega)) (inr (by decide)) (fun c37_4 => ?_) (fun c37_4 => ?_)
          · -- 37 ne -> 42
            refine x_il3 dX11_canHave_42 ?_
            refine x_al0 dX11_canHave_43 ?_
            refine x_getR fl_X11_7 (sh_308 hS) (lq_308 hS) (rf_308_0 hS) dX11_canHave_44 ?_
            refine x_al0 dX11_canHave_47 ?_
            refine x_getR fl_X11_43 (sh_308 hS) (lq_308 hS) (rf_308_25 hS) dX11_canHave_48 ?_
            refine x_il4 dX11_canHave_51 ?_
            refine x_iald (sh_317 hS) (lq_317 hS) (by omega) (by omega) dX11_canHave_53 ?_
            refine x_topI (a' := V 317 k) rfl ?_
            refine x_cSi mm_X11_boneAt ml_X11_87 dX11_canHave_54 (c_X11_boneAt (V 317 k)) ?_
            have hb5 := hA (30 + 6 * (V 317 k))
            refine x_iald (sh_309 hS) (lq_309 hS) (by omega) (by omega) dX11_canHave_57 ?_
            refine x_topI (a' := V 309 (30 + 6 * (V 317 k))) rfl ?_
            refine x_al0 dX11_canHave_58 ?_
            refine x_getR fl_X11_7 (sh_308 hS) (lq_308 hS) (rf_308_0 hS) dX11_canHave_59 ?_
            refine x_al0 dX11_canHave_62 ?_
            refine x_getR fl_X11_43 (sh_308 hS) (lq_308 hS) (rf_308_25 hS) dX11_canHave_63 ?_
            refine x_il1 dX11_canHave_66 ?_
            refine x_iald (sh_317 hS) (lq_317 hS) (by omega) (by omega) dX11_canHave_67 ?_
            refine x_topI (a' := V 317 i) rfl ?_
            refine x_cSi mm_X11_boneAt ml_X11_87 dX11_canHave_68 (c_X11_boneAt (V 317 i)) ?_
            have hb6 := hA (30 + 6 * (V 317 i))
            refine x_iald (sh_309 hS) (lq_309 hS) (by omega) (by omega) dX11_canHave_71 ?_
            refine x_topI (a' := V 309 (30 + 6 * (V 317 i))) rfl ?_
            refine x_icmp_ne (tgt := 79) dX11_canHave_72 (inr (by omega)) (inr (by omega)) (fun c72_7 => ?_) (fun c72_7 => ?_)
            · -- 72 ne -> 79
              refine x_iconst dX11_canHave_79 ?_
              refine x_iadd dX11_canHave_80 ?_
              refine x_is3 dX11_canHave_81 ?_
              refine x_inc4 dX11_canHave_82 ?_
              refine x_goto (tgt := 5) dX11_canHave_85 ?_
              exact x_fg (ih5 (n + 0) (k + 1) (by omega) (by simp only [canC]; rw [sumT_s _ hk.1]; simp only [canC] at hn; first | (rw [if_pos (by constructor <;> first | omega | assumption)]; omega) | (rw [if_neg (by first | omega | (intro q; first | exact absurd q.1 (by assumption) | exact absurd q.2 (by assumption)))]; omega)) (fun j h1 h2 => by rcases (show j < k ∨ j = k by omega) with q | rfl; (exact hno j h1 q); omega) (by omega)) (And.intro rfl (And.intro rfl (And.intro rfl (And.intro rfl (And.intro rfl trivial)))))
            · -- 72 ne -> 75
              refine x_iconst dX11_canHave_75 ?_
              refine x_goto (tgt := 80) dX11_canHave_76 ?_
              refine x_iadd dX11_canHave_80 ?_
              refine x_is3 dX11_canHave_81 ?_
              refine x_inc4 dX11_canHave_82 ?_
              refine x_goto (tgt := 5) dX11_canHave_85 ?_
              exact x_fg (ih5 (n + 1) (k + 1) (by omega) (by simp only [canC]; rw [sumT_s _ hk.1]; simp only [canC] at hn; first | (rw [if_pos (by constructor <;> first | omega | assumption)]; omega) | (rw [if_neg (by first | omega | (intro q; first | exact absurd q.1 (by assumption) | exact absurd q.2 (by assumption)))]; omega)) (fun j h1 h2 => by rcases (show j < k ∨ j = k by omega) with q | rfl; (exact hno j h1 q); omega) (by omega)) (And.intro rfl (And.intro rfl (And.intro rfl (And.intro rfl (And.intro rfl trivial)))))
          · -- 37 ne -> 40
            refine x_iconst dX11_canHave_40 ?_
            exact x_zret hQ (rI.mk (if_neg (by intro q; have := q.1; rw [findT_at (k := k) (by omega) (by omega) (decide_eq_true ⟨by omega, by omega⟩) (fun j h1 h2 => decide_eq_false (hno j h1 h2))] at this; omega)) rfl) (by decide) dX11_canHave_41
        · -- 19 eq -> 22
          refine x_goto (tgt := 82) dX11_canHave_22 ?_
          refine x_inc4 dX11_canHave_82 ?_
          refine x_goto (tgt := 5) dX11_canHave_85 ?_
          exact x_fg (ih5 n (k + 1) (by omega) (by simp only [canC]; rw [sumT_s _ hk.1]; simp only [canC] at hn; first | (rw [if_pos (by constructor <;> first | omega | assumption)]; omega) | (rw [if_neg (by first | omega | (intro q; first | exact absurd q.1 (by assumption) | exact absurd q.2 (by assumption)))]; omega)) (fun j h1 h2 => by rcases (show j < k ∨ j = k by omega) with q | rfl; (exact hno j h1 q); omega) (by omega)) (And.intro rfl (And.intro rfl (And.intro rfl (And.intro rfl (And.intro rfl trivial)))))
  exact x_fg (lp5 _ 1 0 (by omega) rfl (fun j h1 h2 => by omega) (Nat.lt_succ_self _)) (And.intro rfl (And.intro rfl (And.intro rfl (And.intro rfl (And.intro rfl trivial)))))
set_option maxRecDepth 100000 in
set_option maxHeartbeats 4000000 in
theorem c_X11_used {B : Bs} {S : Stt} {V : Va} (i : Int) (hS : Stat S) (hi : 0 ≤ i ∧ i < 17) (hh : ∀ k, 0 ≤ k → k < i → -1 ≤ (V 320) k ∧ (V 320) k ≤ 20) : C B yX11_used cX11_used 4 (some .int) 1 0 0 [vR B 308, vI i] S V (rI S V (usedN (V 320) i.toNat)) := by
  refine C.of [some (vR B 308), some (vI i), none, none] ?_
  intro Γ hQ
  refine x_iconst dX11_used_0 ?_
  refine x_is2 dX11_used_1 ?_
  refine x_iconst dX11_used_2 ?_
  refine x_is3 dX11_used_3 ?_
  have lp4 : ∀ (N4 : Nat) (n : Int) (k : Int), (0 ≤ k ∧ k ≤ i) → (n = usedN (V 320) k.toNat) → (0 ≤ n ∧ n ≤ 21) → (i - k).toNat < N4 → X Γ B RX11 "used" cX11_used 4 (some .int) 1 0 0 4 [some (vR B 308), some (vI i), some (vI n), some (vI k)] [] 0 0 S V := by
    intro N4
    induction N4 with
    | zero => intro n k hk hn hnr hN; exact absurd hN (Nat.not_lt_zero _)
    | succ N4 ih4 =>
      intro n k hk hn hnr hN4
      refine x_il3 dX11_used_4 ?_
      refine x_il1 dX11_used_5 ?_
      refine x_icmp_ge (tgt := 34) dX11_used_6 (inr (by omega)) (inr (by omega)) (fun c6_1 => ?_) (fun c6_1 => ?_)
      · -- 6 ge -> 34
        refine x_il2 dX11_used_34 ?_
        exact x_iret hQ (rI.mk (by rw [hn, show k = i by omega]) rfl) dX11_used_35
      · -- 6 ge -> 9
        have hkk := hh k (by omega) (by omega)
        refine x_al0 dX11_used_9 ?_
        refine x_getR fl_X11_52 (sh_308 hS) (lq_308 hS) (rf_308_28 hS) dX11_used_10 ?_
        refine x_il3 dX11_used_13 ?_
        refine x_iald (sh_320 hS) (lq_320 hS) (by omega) (by omega) dX11_used_14 ?_
        refine x_topI (a' := V 320 k) rfl ?_
        refine x_il2 dX11_used_15 ?_
        refine x_icmp_lt (tgt := 28) dX11_used_16 (inr (by omega)) (inr (by omega)) (fun c16_2 => ?_) (fun c16_2 => ?_)
        · -- 16 lt -> 28
          refine x_inc3 dX11_used_28 ?_
          refine x_goto (tgt := 4) dX11_used_31 ?_
          exact x_fg (ih4 n (k + 1) (by omega) (by rw [show (k + 1).toNat = k.toNat + 1 by omega]; simp only [usedN]; rw [show ((k.toNat : Nat) : Int) = k by omega, ← hn]; first | (rw [if_pos (by omega)]) | (rw [if_neg (by omega)])) (by omega) (by omega)) (And.intro rfl (And.intro rfl (And.intro rfl (And.intro rfl trivial))))
        · -- 16 lt -> 19
          refine x_al0 dX11_used_19 ?_
          refine x_getR fl_X11_52 (sh_308 hS) (lq_308 hS) (rf_308_28 hS) dX11_used_20 ?_
          refine x_il3 dX11_used_23 ?_
          refine x_iald (sh_320 hS) (lq_320 hS) (by omega) (by omega) dX11_used_24 ?_
          refine x_topI (a' := V 320 k) rfl ?_
          refine x_iconst dX11_used_25 ?_
          refine x_iadd dX11_used_26 ?_
          refine x_is2 dX11_used_27 ?_
          refine x_inc3 dX11_used_28 ?_
          refine x_goto (tgt := 4) dX11_used_31 ?_
          exact x_fg (ih4 ((V 320 k) + 1) (k + 1) (by omega) (by rw [show (k + 1).toNat = k.toNat + 1 by omega]; simp only [usedN]; rw [show ((k.toNat : Nat) : Int) = k by omega, ← hn]; first | (rw [if_pos (by omega)]) | (rw [if_neg (by omega)])) (by omega) (by omega)) (And.intro rfl (And.intro rfl (And.intro rfl (And.intro rfl trivial))))
  exact x_fg (lp4 _ 0 0 (by omega) rfl (by omega) (Nat.lt_succ_self _)) (And.intro rfl (And.intro rfl (And.intro rfl (And.intro rfl trivial))))
set_option maxRecDepth 100000 in
set_option maxHeartbeats 4000000 in
theorem c_X11_share {B : Bs} {S : Stt} {V : Va} (most : Int) (hS : Stat S) (hA : AB (V 309)) (hc29 : 0 ≤ (V 308 29) ∧ (V 308 29) ≤ 12) (has : ∀ i, 0 ≤ i → i < (V 308 29) → 0 ≤ (V 317) i ∧ (V 317) i < 16) (hbm : ∀ i, 0 ≤ i → i < (V 308 29) → 0 ≤ (V 318) i ∧ (V 318) i < 65536 ∧ InR ((V 319) i)) (hmo : 0 ≤ most ∧ most ≤ 13) : C B yX11_share cX11_share 4 (some .boolean) 3 0 0 [vR B 308, vI most] S V (rIh S V 320 (ShP (fun zz => (V 309) (30 + 6 * (V 317) zz)) (V 318) (V 319) (V 308 29) most)) := by
  refine C.of [some (vR B 308), some (vI most), none, none] ?_
  intro Γ hQ
  refine x_iconst dX11_share_0 ?_
  refine x_is2 dX11_share_1 ?_
  refine x_al0 dX11_share_2 ?_
  refine x_getR fl_X11_52 (sh_308 hS) (lq_308 hS) (rf_308_28 hS) dX11_share_3 ?_
  refine x_iconst dX11_share_6 ?_
  refine x_iconst dX11_share_7 ?_
  refine x_iast (sh_320 hS) (lq_320 hS) (by omega) (by omega) dX11_share_8 ?_
  refine x_mem (V' := (up V 320 (ua (V 320) 0 (-1)))) rfl ?_
  have lp9 : ∀ (N9 : Nat) (i : Int) (h : Int → Int), (-1 ≤ i ∧ i ≤ V 308 29) → (InvS (fun zz => (V 309) (30 + 6 * (V 317) zz)) (V 318) (V 319) (V 308 29) most i h) → muS h (i + 1).toNat < N9 → X Γ B RX11 "share" cX11_share 4 (some .boolean) 3 0 0 9 [some (vR B 308), some (vI most), some (vI i), none] [] 0 0 S (up V 320 h) := by
    intro N9
    induction N9 with
    | zero => intro i h hi hI hN; exact absurd hN (Nat.not_lt_zero _)
    | succ N9 ih9 =>
      intro i h hi hI hN9
      refine x_il2 dX11_share_9 ?_
      refine x_if_lt (tgt := 123) dX11_share_10 (inr (by omega)) (fun c10_1 => ?_) (fun c10_1 => ?_)
      · -- 10 lt -> 123
        refine x_il2 dX11_share_123 ?_
        refine x_if_lt (tgt := 131) dX11_share_124 (inr (by omega)) (fun c124_2 => ?_) (fun c124_2 => ?_)
        · -- 124 lt -> 131
          refine x_iconst dX11_share_131 ?_
          exact x_zret hQ ⟨0, h, (by first | exact Or.inl ⟨rfl, fun g hg => by have := (hI.2.2 g hg).1; omega⟩ | exact Or.inr ⟨rfl, fun k k0 k1 => hI.1 k k0 (by omega), fun g hg k k0 k1 e => ((hI.2.2 g hg).2 k k0 (by omega) k1 e).1 (by omega)⟩), rfl, rfl, rfl⟩ (by decide) dX11_share_132
        · -- 124 lt -> 127
          refine x_iconst dX11_share_127 ?_
          refine x_goto (tgt := 132) dX11_share_128 ?_
          exact x_zret hQ ⟨1, h, (by first | exact Or.inl ⟨rfl, fun g hg => by have := (hI.2.2 g hg).1; omega⟩ | exact Or.inr ⟨rfl, fun k k0 k1 => hI.1 k k0 (by omega), fun g hg k k0 k1 e => ((hI.2.2 g hg).2 k k0 (by omega) k1 e).1 (by omega)⟩), rfl, rfl, rfl⟩ (by decide) dX11_share_132
      · -- 10 lt -> 13
        refine x_il2 dX11_share_13 ?_
        refine x_al0 dX11_share_14 ?_
        refine x_getI fl_X11_309 (sh_308 hS) (lq_308 hS) dX11_share_15 ?_
        refine x_topI (a' := V 308 29) rfl ?_
        refine x_icmp_ge (tgt := 123) dX11_share_18 (inr (by omega)) (inr (by omega)) (fun c18_3 => ?_) (fun c18_3 => ?_)
        · -- 18 ge -> 123
          refine x_il2 dX11_share_123 ?_
          refine x_if_lt (tgt := 131) dX11_share_124 (inr (by omega)) (fun c124_4 => ?_) (fun c124_4 => ?_)
          · -- 124 lt -> 131
            refine x_iconst dX11_share_131 ?_
            exact x_zret hQ ⟨0, h, (by first | exact Or.inl ⟨rfl, fun g hg => by have := (hI.2.2 g hg).1; omega⟩ | exact Or.inr ⟨rfl, fun k k0 k1 => hI.1 k k0 (by omega), fun g hg k k0 k1 e => ((hI.2.2 g hg).2 k k0 (by omega) k1 e).1 (by omega)⟩), rfl, rfl, rfl⟩ (by decide) dX11_share_132
          · -- 124 lt -> 127
            refine x_iconst dX11_share_127 ?_
            refine x_goto (tgt := 132) dX11_share_128 ?_
            exact x_zret hQ ⟨1, h, (by first | exact Or.inl ⟨rfl, fun g hg => by have := (hI.2.2 g hg).1; omega⟩ | exact Or.inr ⟨rfl, fun k k0 k1 => hI.1 k k0 (by omega), fun g hg k k0 k1 e => ((hI.2.2 g hg).2 k k0 (by omega) k1 e).1 (by omega)⟩), rfl, rfl, rfl⟩ (by decide) dX11_share_132
        · -- 18 ge -> 21
          have hhr := hI.2.1 (by omega)
          have hle := okS_le (h := h) i.toNat (fun j j0 j1 => hI.1 j j0 (by omega))
          have hh : ∀ k, 0 ≤ k → k < i → -1 ≤ h k ∧ h k ≤ 20 := fun k k0 k1 => by have := hle k k0 (by omega); have := (hI.1 k k0 k1).1; omega
          refine x_al0 dX11_share_21 ?_
          refine x_il2 dX11_share_22 ?_
          refine x_cVi mm_X11_used ml_X11_318 dX11_share_23 (c_X11_used i hS (by omega) (show ∀ k, 0 ≤ k → k < i → -1 ≤ h k ∧ h k ≤ 20 from hh)) (sh_308 hS) (lq_308 hS) ?_
          refine x_topI (a' := usedN h i.toNat) rfl ?_
          refine x_is3 dX11_share_26 ?_
          have hur := usedN_r (h := h) i.toNat hle
          refine x_al0 dX11_share_27 ?_
          refine x_getR fl_X11_52 (sh_308 hS) (lq_308 hS) (rf_308_28 hS) dX11_share_28 ?_
          refine x_il2 dX11_share_31 ?_
          refine x_dup2 dX11_share_32 ?_
          refine x_iald (sh_320 hS) (lq_320 hS) (by omega) (by omega) dX11_share_33 ?_
          refine x_topI (a' := h i) rfl ?_
          refine x_iconst dX11_share_34 ?_
          refine x_iadd dX11_share_35 ?_
          refine x_iast (sh_320 hS) (lq_320 hS) (by omega) (by omega) dX11_share_36 ?_
          refine x_mem (V' := (up V 320 (ua h i ((h i) + 1)))) (st2_up _ _ _ _ _) ?_
          have lp37 : ∀ (N37 : Nat) (v : Int), (h i < v ∧ v ≤ usedN h i.toNat + 1) → (∀ s, h i < s → s < v → ¬ canP (fun zz => (V 309) (30 + 6 * (V 317) zz)) (V 318) (V 319) h i s) → (usedN h i.toNat + 1 - v).toNat < N37 → X Γ B RX11 "share" cX11_share 4 (some .boolean) 3 0 0 37 [some (vR B 308), some (vI most), some (vI i), some (vI (usedN h i.toNat))] [] 0 0 S (up V 320 (ua h i v)) := by
            intro N37
            induction N37 with
            | zero => intro v hv hx hN; exact absurd hN (Nat.not_lt_zero _)
            | succ N37 ih37 =>
              intro v hv hx hN37
              refine x_al0 dX11_share_37 ?_
              refine x_getR fl_X11_52 (sh_308 hS) (lq_308 hS) (rf_308_28 hS) dX11_share_38 ?_
              refine x_il2 dX11_share_41 ?_
              refine x_iald (sh_320 hS) (lq_320 hS) (by omega) (by omega) dX11_share_42 ?_
              refine x_topI (a' := v) (show (ua h i v) i = v from (ua_same _ _ _)) ?_
              refine x_il3 dX11_share_43 ?_
              refine x_icmp_gt (tgt := 84) dX11_share_44 (inr (by omega)) (inr (by omega)) (fun c44_5 => ?_) (fun c44_5 => ?_)
              · -- 44 gt -> 84
                refine x_al0 dX11_share_84 ?_
                refine x_getR fl_X11_52 (sh_308 hS) (lq_308 hS) (rf_308_28 hS) dX11_share_85 ?_
                refine x_il2 dX11_share_88 ?_
                refine x_iald (sh_320 hS) (lq_320 hS) (by omega) (by omega) dX11_share_89 ?_
                refine x_topI (a' := v) (show (ua h i v) i = v from (ua_same _ _ _)) ?_
                refine x_il3 dX11_share_90 ?_
                refine x_icmp_gt (tgt := 104) dX11_share_91 (inr (by omega)) (inr (by omega)) (fun c91_6 => ?_) (fun c91_6 => ?_)
                · -- 91 gt -> 104
                  refine x_dec2 dX11_share_104 ?_
                  refine x_goto (tgt := 9) dX11_share_107 ?_
                  exact x_fg (ih9 (i - 1) (ua h i v) (by omega) (by first | exact InvS_back (by omega) hI hx (by omega) | (exfalso; omega) | exact InvS_on (by omega) hI hx (by omega) (by omega) (by omega) ((canP_c (h := ua h i v) (g := h) (fun j j0 j1 => ua_ne (by omega))).mp (by assumption))) (by first | exact Nat.lt_of_lt_of_le (muS_back (by omega) (by omega)) (Nat.le_of_lt_succ hN9) | (exfalso; omega) | exact Nat.lt_of_lt_of_le (muS_on (by omega) (by omega) (by omega)) (Nat.le_of_lt_succ hN9))) (And.intro rfl (And.intro rfl (And.intro rfl trivial)))
                · -- 91 gt -> 94
                  refine x_al0 dX11_share_94 ?_
                  refine x_getR fl_X11_52 (sh_308 hS) (lq_308 hS) (rf_308_28 hS) dX11_share_95 ?_
                  refine x_il2 dX11_share_98 ?_
                  refine x_iald (sh_320 hS) (lq_320 hS) (by omega) (by omega) dX11_share_99 ?_
                  refine x_topI (a' := v) (show (ua h i v) i = v from (ua_same _ _ _)) ?_
                  refine x_il1 dX11_share_100 ?_
                  refine x_icmp_lt (tgt := 110) dX11_share_101 (inr (by omega)) (inr (by omega)) (fun c101_7 => ?_) (fun c101_7 => ?_)
                  · -- 101 lt -> 110
                    refine x_inc2 dX11_share_110 ?_
                    refine x_al0 dX11_share_113 ?_
                    refine x_getR fl_X11_52 (sh_308 hS) (lq_308 hS) (rf_308_28 hS) dX11_share_114 ?_
                    refine x_il2 dX11_share_117 ?_
                    refine x_iconst dX11_share_118 ?_
                    refine x_iast (sh_320 hS) (lq_320 hS) (by omega) (by omega) dX11_share_119 ?_
                    refine x_mem (V' := (up V 320 (ua (ua h i v) (i + 1) (-1)))) (st2_up _ _ _ _ _) ?_
                    refine x_goto (tgt := 9) dX11_share_120 ?_
                    exact x_fg (ih9 (i + 1) (ua (ua h i v) (i + 1) (-1)) (by omega) (by first | exact InvS_back (by omega) hI hx (by omega) | (exfalso; omega) | exact InvS_on (by omega) hI hx (by omega) (by omega) (by omega) ((canP_c (h := ua h i v) (g := h) (fun j j0 j1 => ua_ne (by omega))).mp (by assumption))) (by first | exact Nat.lt_of_lt_of_le (muS_back (by omega) (by omega)) (Nat.le_of_lt_succ hN9) | (exfalso; omega) | exact Nat.lt_of_lt_of_le (muS_on (by omega) (by omega) (by omega)) (Nat.le_of_lt_succ hN9))) (And.intro rfl (And.intro rfl (And.intro rfl trivial)))
                  · -- 101 lt -> 104
                    refine x_dec2 dX11_share_104 ?_
                    refine x_goto (tgt := 9) dX11_share_107 ?_
                    exact x_fg (ih9 (i - 1) (ua h i v) (by omega) (by first | exact InvS_back (by omega) hI hx (by omega) | (exfalso; omega) | exact InvS_on (by omega) hI hx (by omega) (by omega) (by omega) ((canP_c (h := ua h i v) (g := h) (fun j j0 j1 => ua_ne (by omega))).mp (by assumption))) (by first | exact Nat.lt_of_lt_of_le (muS_back (by omega) (by omega)) (Nat.le_of_lt_succ hN9) | (exfalso; omega) | exact Nat.lt_of_lt_of_le (muS_on (by omega) (by omega) (by omega)) (Nat.le_of_lt_succ hN9))) (And.intro rfl (And.intro rfl (And.intro rfl trivial)))
              · -- 44 gt -> 47
                refine x_al0 dX11_share_47 ?_
                refine x_getR fl_X11_52 (sh_308 hS) (lq_308 hS) (rf_308_28 hS) dX11_share_48 ?_
                refine x_il2 dX11_share_51 ?_
                refine x_iald (sh_320 hS) (lq_320 hS) (by omega) (by omega) dX11_share_52 ?_
                refine x_topI (a' := v) (show (ua h i v) i = v from (ua_same _ _ _)) ?_
                refine x_il1 dX11_share_53 ?_
                refine x_icmp_ge (tgt := 84) dX11_share_54 (inr (by omega)) (inr (by omega)) (fun c54_8 => ?_) (fun c54_8 => ?_)
                · -- 54 ge -> 84
                  refine x_al0 dX11_share_84 ?_
                  refine x_getR fl_X11_52 (sh_308 hS) (lq_308 hS) (rf_308_28 hS) dX11_share_85 ?_
                  refine x_il2 dX11_share_88 ?_
                  refine x_iald (sh_320 hS) (lq_320 hS) (by omega) (by omega) dX11_share_89 ?_
                  refine x_topI (a' := v) (show (ua h i v) i = v from (ua_same _ _ _)) ?_
                  refine x_il3 dX11_share_90 ?_
                  refine x_icmp_gt (tgt := 104) dX11_share_91 (inr (by omega)) (inr (by omega)) (fun c91_9 => ?_) (fun c91_9 => ?_)
                  · -- 91 gt -> 104
                    refine x_dec2 dX11_share_104 ?_
                    refine x_goto (tgt := 9) dX11_share_107 ?_
                    exact x_fg (ih9 (i - 1) (ua h i v) (by omega) (by first | exact InvS_back (by omega) hI hx (by omega) | (exfalso; omega) | exact InvS_on (by omega) hI hx (by omega) (by omega) (by omega) ((canP_c (h := ua h i v) (g := h) (fun j j0 j1 => ua_ne (by omega))).mp (by assumption))) (by first | exact Nat.lt_of_lt_of_le (muS_back (by omega) (by omega)) (Nat.le_of_lt_succ hN9) | (exfalso; omega) | exact Nat.lt_of_lt_of_le (muS_on (by omega) (by omega) (by omega)) (Nat.le_of_lt_succ hN9))) (And.intro rfl (And.intro rfl (And.intro rfl trivial)))
                  · -- 91 gt -> 94
                    refine x_al0 dX11_share_94 ?_
                    refine x_getR fl_X11_52 (sh_308 hS) (lq_308 hS) (rf_308_28 hS) dX11_share_95 ?_
                    refine x_il2 dX11_share_98 ?_
                    refine x_iald (sh_320 hS) (lq_320 hS) (by omega) (by omega) dX11_share_99 ?_
                    refine x_topI (a' := v) (show (ua h i v) i = v from (ua_same _ _ _)) ?_
                    refine x_il1 dX11_share_100 ?_
                    refine x_icmp_lt (tgt := 110) dX11_share_101 (inr (by omega)) (inr (by omega)) (fun c101_10 => ?_) (fun c101_10 => ?_)
                    · -- 101 lt -> 110
                      refine x_inc2 dX11_share_110 ?_
                      refine x_al0 dX11_share_113 ?_
                      refine x_getR fl_X11_52 (sh_308 hS) (lq_308 hS) (rf_308_28 hS) dX11_share_114 ?_
                      refine x_il2 dX11_share_117 ?_
                      refine x_iconst dX11_share_118 ?_
                      refine x_iast (sh_320 hS) (lq_320 hS) (by omega) (by omega) dX11_share_119 ?_
                      refine x_mem (V' := (up V 320 (ua (ua h i v) (i + 1) (-1)))) (st2_up _ _ _ _ _) ?_
                      refine x_goto (tgt := 9) dX11_share_120 ?_
                      exact x_fg (ih9 (i + 1) (ua (ua h i v) (i + 1) (-1)) (by omega) (by first | exact InvS_back (by omega) hI hx (by omega) | (exfalso; omega) | exact InvS_on (by omega) hI hx (by omega) (by omega) (by omega) ((canP_c (h := ua h i v) (g := h) (fun j j0 j1 => ua_ne (by omega))).mp (by assumption))) (by first | exact Nat.lt_of_lt_of_le (muS_back (by omega) (by omega)) (Nat.le_of_lt_succ hN9) | (exfalso; omega) | exact Nat.lt_of_lt_of_le (muS_on (by omega) (by omega) (by omega)) (Nat.le_of_lt_succ hN9))) (And.intro rfl (And.intro rfl (And.intro rfl trivial)))
                    · -- 101 lt -> 104
                      refine x_dec2 dX11_share_104 ?_
                      refine x_goto (tgt := 9) dX11_share_107 ?_
                      exact x_fg (ih9 (i - 1) (ua h i v) (by omega) (by first | exact InvS_back (by omega) hI hx (by omega) | (exfalso; omega) | exact InvS_on (by omega) hI hx (by omega) (by omega) (by omega) ((canP_c (h := ua h i v) (g := h) (fun j j0 j1 => ua_ne (by omega))).mp (by assumption))) (by first | exact Nat.lt_of_lt_of_le (muS_back (by omega) (by omega)) (Nat.le_of_lt_succ hN9) | (exfalso; omega) | exact Nat.lt_of_lt_of_le (muS_on (by omega) (by omega) (by omega)) (Nat.le_of_lt_succ hN9))) (And.intro rfl (And.intro rfl (And.intro rfl trivial)))
                · -- 54 ge -> 57
                  refine x_al0 dX11_share_57 ?_
                  refine x_il2 dX11_share_58 ?_
                  refine x_al0 dX11_share_59 ?_
                  refine x_getR fl_X11_52 (sh_308 hS) (lq_308 hS) (rf_308_28 hS) dX11_share_60 ?_
                  refine x_il2 dX11_share_63 ?_
                  refine x_iald (sh_320 hS) (lq_320 hS) (by omega) (by omega) dX11_share_64 ?_
                  refine x_topI (a' := v) (show (ua h i v) i = v from (ua_same _ _ _)) ?_
                  refine x_cVi mm_X11_canHave ml_X11_321 dX11_share_65 (c_X11_canHave i v hS (show AB (V 309) from hA) (by omega) (inr (by omega)) (show ∀ k, 0 ≤ k → k ≤ i → 0 ≤ (V 317) k ∧ (V 317) k < 16 from (fun k k0 k1 => has k k0 (by omega))) (show 0 ≤ (V 318) i ∧ (V 318) i < 65536 ∧ InR ((V 319) i) from (hbm i (by omega) (by omega))) (show ∀ k, 0 ≤ k → k < i → -1 ≤ (ua h i v) k ∧ (ua h i v) k ≤ 20 from (fun k k0 k1 => by rw [ua_ne (by omega)]; exact hh k k0 k1))) (sh_308 hS) (lq_308 hS) ?_
                  refine x_top (v' := vI (if canP (fun zz => (V 309) (30 + 6 * (V 317) zz)) (V 318) (V 319) (ua h i v) i v then 1 else 0)) rfl ?_
                  refine x_ifb_ne (tgt := 84) dX11_share_68 (fun c68_11 => ?_) (fun c68_11 => ?_)
                  · -- 68 ne -> 84
                    refine x_al0 dX11_share_84 ?_
                    refine x_getR fl_X11_52 (sh_308 hS) (lq_308 hS) (rf_308_28 hS) dX11_share_85 ?_
                    refine x_il2 dX11_share_88 ?_
                    refine x_iald (sh_320 hS) (lq_320 hS) (by omega) (by omega) dX11_share_89 ?_
                    refine x_topI (a' := v) (show (ua h i v) i = v from (ua_same _ _ _)) ?_
                    refine x_il3 dX11_share_90 ?_
                    refine x_icmp_gt (tgt := 104) dX11_share_91 (inr (by omega)) (inr (by omega)) (fun c91_12 => ?_) (fun c91_12 => ?_)
                    · -- 91 gt -> 104
                      refine x_dec2 dX11_share_104 ?_
                      refine x_goto (tgt := 9) dX11_share_107 ?_
                      exact x_fg (ih9 (i - 1) (ua h i v) (by omega) (by first | exact InvS_back (by omega) hI hx (by omega) | (exfalso; omega) | exact InvS_on (by omega) hI hx (by omega) (by omega) (by omega) ((canP_c (h := ua h i v) (g := h) (fun j j0 j1 => ua_ne (by omega))).mp (by assumption))) (by first | exact Nat.lt_of_lt_of_le (muS_back (by omega) (by omega)) (Nat.le_of_lt_succ hN9) | (exfalso; omega) | exact Nat.lt_of_lt_of_le (muS_on (by omega) (by omega) (by omega)) (Nat.le_of_lt_succ hN9))) (And.intro rfl (And.intro rfl (And.intro rfl trivial)))
                    · -- 91 gt -> 94
                      refine x_al0 dX11_share_94 ?_
                      refine x_getR fl_X11_52 (sh_308 hS) (lq_308 hS) (rf_308_28 hS) dX11_share_95 ?_
                      refine x_il2 dX11_share_98 ?_
                      refine x_iald (sh_320 hS) (lq_320 hS) (by omega) (by omega) dX11_share_99 ?_
                      refine x_topI (a' := v) (show (ua h i v) i = v from (ua_same _ _ _)) ?_
                      refine x_il1 dX11_share_100 ?_
                      refine x_icmp_lt (tgt := 110) dX11_share_101 (inr (by omega)) (inr (by omega)) (fun c101_13 => ?_) (fun c101_13 => ?_)
                      · -- 101 lt -> 110
                        refine x_inc2 dX11_share_110 ?_
                        refine x_al0 dX11_share_113 ?_
                        refine x_getR fl_X11_52 (sh_308 hS) (lq_308 hS) (rf_308_28 hS) dX11_share_114 ?_
                        refine x_il2 dX11_share_117 ?_
                        refine x_iconst dX11_share_118 ?_
                        refine x_iast (sh_320 hS) (lq_320 hS) (by omega) (by omega) dX11_share_119 ?_
                        refine x_mem (V' := (up V 320 (ua (ua h i v) (i + 1) (-1)))) (st2_up _ _ _ _ _) ?_
                        refine x_goto (tgt := 9) dX11_share_120 ?_
                        exact x_fg (ih9 (i + 1) (ua (ua h i v) (i + 1) (-1)) (by omega) (by first | exact InvS_back (by omega) hI hx (by omega) | (exfalso; omega) | exact InvS_on (by omega) hI hx (by omega) (by omega) (by omega) ((canP_c (h := ua h i v) (g := h) (fun j j0 j1 => ua_ne (by omega))).mp (by assumption))) (by first | exact Nat.lt_of_lt_of_le (muS_back (by omega) (by omega)) (Nat.le_of_lt_succ hN9) | (exfalso; omega) | exact Nat.lt_of_lt_of_le (muS_on (by omega) (by omega) (by omega)) (Nat.le_of_lt_succ hN9))) (And.intro rfl (And.intro rfl (And.intro rfl trivial)))
                      · -- 101 lt -> 104
                        refine x_dec2 dX11_share_104 ?_
                        refine x_goto (tgt := 9) dX11_share_107 ?_
                        exact x_fg (ih9 (i - 1) (ua h i v) (by omega) (by first | exact InvS_back (by omega) hI hx (by omega) | (exfalso; omega) | exact InvS_on (by omega) hI hx (by omega) (by omega) (by omega) ((canP_c (h := ua h i v) (g := h) (fun j j0 j1 => ua_ne (by omega))).mp (by assumption))) (by first | exact Nat.lt_of_lt_of_le (muS_back (by omega) (by omega)) (Nat.le_of_lt_succ hN9) | (exfalso; omega) | exact Nat.lt_of_lt_of_le (muS_on (by omega) (by omega) (by omega)) (Nat.le_of_lt_succ hN9))) (And.intro rfl (And.intro rfl (And.intro rfl trivial)))
                  · -- 68 ne -> 71
                    refine x_al0 dX11_share_71 ?_
                    refine x_getR fl_X11_52 (sh_308 hS) (lq_308 hS) (rf_308_28 hS) dX11_share_72 ?_
                    refine x_il2 dX11_share_75 ?_
                    refine x_dup2 dX11_share_76 ?_
                    refine x_iald (sh_320 hS) (lq_320 hS) (by omega) (by omega) dX11_share_77 ?_
                    refine x_topI (a' := v) (show (ua h i v) i = v from (ua_same _ _ _)) ?_
                    refine x_iconst dX11_share_78 ?_
                    refine x_iadd dX11_share_79 ?_
                    refine x_iast (sh_320 hS) (lq_320 hS) (by omega) (by omega) dX11_share_80 ?_
                    refine x_mem (V' := (up V 320 (ua (ua h i v) i (v + 1)))) (st2_up _ _ _ _ _) ?_
                    refine x_goto (tgt := 37) dX11_share_81 ?_
                    refine x_mem (V' := (up V 320 (ua h i (v + 1)))) (upE rfl (by simp only [ua_ua])) ?_
                    exact x_fg (ih37 (v + 1) (by omega) (fun s h1 h2 => by rcases (show s < v ∨ s = v by omega) with q | q; (exact hx s h1 q); intro z; rw [q] at z; exact absurd ((canP_c (h := ua h i v) (g := h) (fun j j0 j1 => ua_ne (by omega))).mpr z) (by assumption)) (by omega)) (And.intro rfl (And.intro rfl (And.intro rfl (And.intro rfl trivial))))
          refine x_mem (V' := (up V 320 (ua h i (h i + 1)))) (upE rfl rfl) ?_
          exact x_fg (lp37 _ (h i + 1) (by omega) (fun s h1 h2 => by omega) (Nat.lt_succ_self _)) (And.intro rfl (And.intro rfl (And.intro rfl (And.intro rfl trivial))))
  exact x_fg (lp9 _ 0 (ua (V 320) 0 (-1)) (by omega) InvS_0 (Nat.lt_succ_self _)) (And.intro rfl (And.intro rfl (And.intro rfl trivial)))
