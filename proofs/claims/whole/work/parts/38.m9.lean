set_option maxRecDepth 100000 in
set_option maxHeartbeats 4000000 in
theorem c_X11_saints {B : Bs} {S : Stt} {V : Va} (set : Int) (bone : Int) (hS : Stat S) (hA : AB (V 309)) (hX : AB (V 311)) (h44 : -1 ≤ (V 309 4) ∧ (V 309 4) ≤ 3) (hW : 0 ≤ (V 309 4) → TW (V 311) (V 309 4)) (hN : AB (V 314)) (hTr : TRb (V 316)) (hz : TRb (V 323)) (h0 : 0 ≤ (V 309 0) ∧ (V 309 0) ≤ 10) (h1 : 0 ≤ (V 309 1) ∧ (V 309 1) ≤ 16) (hM : ∀ k, 1 ≤ mMany (V 309) (V 311) k) (hset : InR set) (hbone : InR bone) : C B yX11_saints cX11_saints 5 (some .int) 6 0 0 [vR B 308, vI set, vI bone] S V (rG S V (SaR (V 309) (V 311) set bone)) := by
  refine C.of [some (vR B 308), some (vI set), some (vI bone), none, none] ?_
  intro Γ hQ
  have h12 : 1 ≤ p2 (V 309 0) ∧ p2 (V 309 0) ≤ 4096 := p2_12 (by omega)
  have hnr := mAc_r (V 309) (V 311) set (V 309 1).toNat
  refine x_il1 dX11_saints_0 ?_
  refine x_iconst dX11_saints_1 ?_
  refine x_iconst dX11_saints_2 ?_
  refine x_al0 dX11_saints_3 ?_
  refine x_getR fl_X11_7 (sh_308 hS) (lq_308 hS) (rf_308_0 hS) dX11_saints_4 ?_
  refine x_iconst dX11_saints_7 ?_
  have hb1 := hA 0
  refine x_iald (sh_309 hS) (lq_309 hS) (by omega) (by omega) dX11_saints_8 ?_
  refine x_topI (a' := V 309 0) rfl ?_
  refine x_shl1 (by omega) (by omega) dX11_saints_9 ?_
  refine x_iconst dX11_saints_10 ?_
  refine x_isub dX11_saints_11 ?_
  refine x_cSi mm_X11_isIn ml_X11_75 dX11_saints_12 (c_X11_isIn set 0 ((p2 (V 309 0)) - 1) (inr (by omega)) (inr (by decide)) (inr (by omega))) ?_
  refine x_ifb_eq (tgt := 31) dX11_saints_15 (fun c15_2 => ?_) (fun c15_2 => ?_)
  · -- 15 eq -> 31
    refine x_bipush dX11_saints_31 ?_
    exact x_iret hQ ⟨_, (by simp only [SaR]; rw [if_neg (by simp only [mBoneOk]; omega)]; trivial), rfl, rfl, (fun i hi => by first | rfl | (repeat rw [up_ne (by omega)])), (fun k hk => by first | rfl | (show ua (V 308) 29 _ k = _; rw [ua_ne (by omega)])), hN, hTr, hz⟩ dX11_saints_33
  · -- 15 eq -> 18
    refine x_il2 dX11_saints_18 ?_
    refine x_iconst dX11_saints_19 ?_
    refine x_icmp_eq (tgt := 34) dX11_saints_20 (inr (by omega)) (inr (by decide)) (fun c20_3 => ?_) (fun c20_3 => ?_)
    · -- 20 eq -> 34
      refine x_al0 dX11_saints_34 ?_
      refine x_il1 dX11_saints_35 ?_
      refine x_cVvs mm_X11_findAsked ml_X11_324 dX11_saints_36 (c_X11_findAsked set hS hA hX h44 hW hN hTr h1 (inr (by omega))) (sh_308 hS) (lq_308 hS) (fun f4 g4 h4 hf4 hh4 => ?_)
      refine x_mem (V' := (up (up (up (up (up V 308 (ua (V 308) 29 (mAc (V 309) (V 311) set ((V 309 1)).toNat))) 314 f4) 315 g4) 316 h4) 317 (mAr (V 309) (V 311) set (V 317) ((V 309 1)).toNat))) (Eq.trans (Eq.trans (congrArg (fun z => up z 316 _) (congrArg (fun z => up z 315 _) (up_k (by decide) rfl))) (congrArg (fun z => up z 316 _) (up_k (by decide) rfl))) (up_k (by decide) rfl)) ?_
      have hasR := mAr_r (V 309) (V 311) set (V 317) (V 309 1).toNat
      refine x_al0 dX11_saints_39 ?_
      refine x_getI fl_X11_309 (sh_308 hS) (lq_308 hS) dX11_saints_40 ?_
      refine x_topI (a' := mAc (V 309) (V 311) set ((V 309 1)).toNat) (show (ua (V 308) 29 (mAc (V 309) (V 311) set ((V 309 1)).toNat)) 29 = mAc (V 309) (V 311) set ((V 309 1)).toNat from (ua_same _ _ _)) ?_
      refine x_bipush dX11_saints_43 ?_
      refine x_icmp_le (tgt := 51) dX11_saints_45 (inr (by omega)) (inr (by decide)) (fun c45_5 => ?_) (fun c45_5 => ?_)
      · -- 45 le -> 51
        have hnn : 0 ≤ mAc (V 309) (V 311) set (V 309 1).toNat ∧ mAc (V 309) (V 311) set (V 309 1).toNat ≤ 12 := by omega
        have hasS : ∀ i, 0 ≤ i → i < mAc (V 309) (V 311) set (V 309 1).toNat → 0 ≤ mAr (V 309) (V 311) set (V 317) (V 309 1).toNat i ∧ mAr (V 309) (V 311) set (V 317) (V 309 1).toNat i < 16 := fun i i0 i1 => by have := hasR i i0 i1; omega
        refine x_al0 dX11_saints_51 ?_
        refine x_cVvs mm_X11_findBarred ml_X11_327 dX11_saints_52 (c_X11_findBarred hS (show AB (V 309) from hA) (show AB (V 311) from hX) (show -1 ≤ (V 309 4) ∧ (V 309 4) ≤ 3 from h44) (show 0 ≤ (V 309 4) → TW (V 311) (V 309 4) from hW) (show AB f4 from hf4) (show TRb h4 from hh4) (show 0 ≤ (mAc (V 309) (V 311) set ((V 309 1)).toNat) ∧ (mAc (V 309) (V 311) set ((V 309 1)).toNat) ≤ 12 from (by omega)) (show ∀ i, 0 ≤ i → i < (mAc (V 309) (V 311) set ((V 309 1)).toNat) → 0 ≤ (mAr (V 309) (V 311) set (V 317) ((V 309 1)).toNat) i ∧ (mAr (V 309) (V 311) set (V 317) ((V 309 1)).toNat) i < 16 from hasS)) (sh_308 hS) (lq_308 hS) (fun f6 g6 h6 hf6 hh6 => ?_)
        refine x_mem (V' := (up (up (up (up (up (up (up V 308 (ua (V 308) 29 (mAc (V 309) (V 311) set ((V 309 1)).toNat))) 314 f6) 315 g6) 316 h6) 317 (mAr (V 309) (V 311) set (V 317) ((V 309 1)).toNat)) 318 (filK (V 318) (fun zz => mBr (V 309) (V 311) (mAr (V 309) (V 311) set (V 317) ((V 309 1)).toNat) zz ((mAc (V 309) (V 311) set ((V 309 1)).toNat)).toNat) (mAc (V 309) (V 311) set ((V 309 1)).toNat))) 319 (filK (V 319) (fun zz => mMany (V 309) (V 311) ((V 309) (30 + 6 * (mAr (V 309) (V 311) set (V 317) ((V 309 1)).toNat) zz))) (mAc (V 309) (V 311) set ((V 309 1)).toNat)))) (Eq.trans (Eq.trans (congrArg (fun z => up z 316 _) (congrArg (fun z => up z 315 _) (up_k (by decide) (up_k (by decide) (up_k (by decide) (up_k (by decide) (up_k (by decide) (up_up _ _ _ _)))))))) (congrArg (fun z => up z 316 _) (up_k (by decide) (up_k (by decide) (up_k (by decide) (up_k (by decide) (up_up _ _ _ _))))))) (up_k (by decide) (up_k (by decide) (up_k (by decide) (up_up _ _ _ _))))) ?_
        have hbmS : ∀ i, 0 ≤ i → i < mAc (V 309) (V 311) set (V 309 1).toNat → 0 ≤ (filK (V 318) (fun zz => mBr (V 309) (V 311) (mAr (V 309) (V 311) set (V 317) (V 309 1).toNat) zz (mAc (V 309) (V 311) set (V 309 1).toNat).toNat) (mAc (V 309) (V 311) set (V 309 1).toNat)) i ∧ (filK (V 318) (fun zz => mBr (V 309) (V 311) (mAr (V 309) (V 311) set (V 317) (V 309 1).toNat) zz (mAc (V 309) (V 311) set (V 309 1).toNat).toNat) (mAc (V 309) (V 311) set (V 309 1).toNat)) i < 65536 ∧ InR ((filK (V 319) (fun zz => mMany (V 309) (V 311) (V 309 (30 + 6 * mAr (V 309) (V 311) set (V 317) (V 309 1).toNat zz))) (mAc (V 309) (V 311) set (V 309 1).toNat)) i) := fun i i0 i1 => by
          have b1 := mBr_r (V 309) (V 311) (mAr (V 309) (V 311) set (V 317) (V 309 1).toNat) i (mAc (V 309) (V 311) set (V 309 1).toNat).toNat
          have b2 := p2_12 (n := (((mAc (V 309) (V 311) set (V 309 1).toNat).toNat : Nat) : Int)) (by omega)
          have b3 := mMany_r (a := V 309) hX (V 309 (30 + 6 * mAr (V 309) (V 311) set (V 317) (V 309 1).toNat i))
          rw [filK_rd i0 i1, filK_rd i0 i1]
          exact ⟨b1.1, by omega, by omega, by omega⟩
        have hid : Full (fun zz => V 309 (30 + 6 * mAr (V 309) (V 311) set (V 317) (V 309 1).toNat zz)) (filK (V 318) (fun zz => mBr (V 309) (V 311) (mAr (V 309) (V 311) set (V 317) (V 309 1).toNat) zz (mAc (V 309) (V 311) set (V 309 1).toNat).toNat) (mAc (V 309) (V 311) set (V 309 1).toNat)) (filK (V 319) (fun zz => mMany (V 309) (V 311) (V 309 (30 + 6 * mAr (V 309) (V 311) set (V 317) (V 309 1).toNat zz))) (mAc (V 309) (V 311) set (V 309 1).toNat)) (mAc (V 309) (V 311) set (V 309 1).toNat) (mAc (V 309) (V 311) set (V 309 1).toNat) (fun i => i) := Full_id (fun i i0 i1 => by rw [filK_rd i0 i1]; exact hM _)
        refine x_iconst dX11_saints_55 ?_
        refine x_is3 dX11_saints_56 ?_
        have lp57 : ∀ (N57 : Nat) (most : Int) (hs : Int → Int), (0 ≤ most ∧ most ≤ mAc (V 309) (V 311) set (V 309 1).toNat) → (∀ m, 0 ≤ m → m < most → ∀ f, ¬ Full (fun zz => V 309 (30 + 6 * mAr (V 309) (V 311) set (V 317) (V 309 1).toNat zz)) (filK (V 318) (fun zz => mBr (V 309) (V 311) (mAr (V 309) (V 311) set (V 317) (V 309 1).toNat) zz (mAc (V 309) (V 311) set (V 309 1).toNat).toNat) (mAc (V 309) (V 311) set (V 309 1).toNat)) (filK (V 319) (fun zz => mMany (V 309) (V 311) (V 309 (30 + 6 * mAr (V 309) (V 311) set (V 317) (V 309 1).toNat zz))) (mAc (V 309) (V 311) set (V 309 1).toNat)) (mAc (V 309) (V 311) set (V 309 1).toNat) m f) → (mAc (V 309) (V 311) set (V 309 1).toNat - most).toNat < N57 → X Γ B RX11 "saints" cX11_saints 5 (some .int) 6 0 0 57 [some (vR B 308), some (vI set), some (vI bone), some (vI most), none] [] 0 0 S (up (up (up (up (up (up (up (up V 308 (ua (V 308) 29 (mAc (V 309) (V 311) set ((V 309 1)).toNat))) 314 f6) 315 g6) 316 h6) 317 (mAr (V 309) (V 311) set (V 317) ((V 309 1)).toNat)) 318 (filK (V 318) (fun zz => mBr (V 309) (V 311) (mAr (V 309) (V 311) set (V 317) ((V 309 1)).toNat) zz ((mAc (V 309) (V 311) set ((V 309 1)).toNat)).toNat) (mAc (V 309) (V 311) set ((V 309 1)).toNat))) 319 (filK (V 319) (fun zz => mMany (V 309) (V 311) ((V 309) (30 + 6 * (mAr (V 309) (V 311) set (V 317) ((V 309 1)).toNat) zz))) (mAc (V 309) (V 311) set ((V 309 1)).toNat))) 320 hs) := by
          intro N57
          induction N57 with
          | zero => intro most hs hmo hno hN; exact absurd hN (Nat.not_lt_zero _)
          | succ N57 ih57 =>
            intro most hs hmo hno hN57
            refine x_al0 dX11_saints_57 ?_
            refine x_il3 dX11_saints_58 ?_
            refine x_cVih mm_X11_share ml_X11_330 dX11_saints_59 (c_X11_share most hS hA hnn hasS hbmS (by omega)) (sh_308 hS) (lq_308 hS) (fun r7 h7 hp7 => ?_)
            have hq : ShP (fun zz => V 309 (30 + 6 * mAr (V 309) (V 311) set (V 317) (V 309 1).toNat zz)) (filK (V 318) (fun zz => mBr (V 309) (V 311) (mAr (V 309) (V 311) set (V 317) (V 309 1).toNat) zz (mAc (V 309) (V 311) set (V 309 1).toNat).toNat) (mAc (V 309) (V 311) set (V 309 1).toNat)) (filK (V 319) (fun zz => mMany (V 309) (V 311) (V 309 (30 + 6 * mAr (V 309) (V 311) set (V 317) (V 309 1).toNat zz))) (mAc (V 309) (V 311) set (V 309 1).toNat)) (mAc (V 309) (V 311) set (V 309 1).toNat) most r7 h7 := hp7
            have hr01 : r7 = 0 ∨ r7 = 1 := by rcases hq with z | z; (exact Or.inl z.1); exact Or.inr z.1
            refine x_mem (V' := (up (up (up (up (up (up (up (up V 308 (ua (V 308) 29 (mAc (V 309) (V 311) set ((V 309 1)).toNat))) 314 f6) 315 g6) 316 h6) 317 (mAr (V 309) (V 311) set (V 317) ((V 309 1)).toNat)) 318 (filK (V 318) (fun zz => mBr (V 309) (V 311) (mAr (V 309) (V 311) set (V 317) ((V 309 1)).toNat) zz ((mAc (V 309) (V 311) set ((V 309 1)).toNat)).toNat) (mAc (V 309) (V 311) set ((V 309 1)).toNat))) 319 (filK (V 319) (fun zz => mMany (V 309) (V 311) ((V 309) (30 + 6 * (mAr (V 309) (V 311) set (V 317) ((V 309 1)).toNat) zz))) (mAc (V 309) (V 311) set ((V 309 1)).toNat))) 320 h7)) (up_up _ _ _ _) ?_
            refine x_if_ne (tgt := 71) dX11_saints_62 (inr (by omega)) (fun c62_8 => ?_) (fun c62_8 => ?_)
            · -- 62 ne -> 71
              have hs1 := hq.resolve_left (fun z => absurd z.1 (by omega))
              have hbest : Best (fun zz => V 309 (30 + 6 * mAr (V 309) (V 311) set (V 317) (V 309 1).toNat zz)) (fun zz => mBr (V 309) (V 311) (mAr (V 309) (V 311) set (V 317) (V 309 1).toNat) zz (mAc (V 309) (V 311) set (V 309 1).toNat).toNat) (fun zz => mMany (V 309) (V 311) (V 309 (30 + 6 * mAr (V 309) (V 311) set (V 317) (V 309 1).toNat zz))) (mAc (V 309) (V 311) set (V 309 1).toNat) most h7 := Best_c (br := (filK (V 318) (fun zz => mBr (V 309) (V 311) (mAr (V 309) (V 311) set (V 317) (V 309 1).toNat) zz (mAc (V 309) (V 311) set (V 309 1).toNat).toNat) (mAc (V 309) (V 311) set (V 309 1).toNat))) (my := (filK (V 319) (fun zz => mMany (V 309) (V 311) (V 309 (30 + 6 * mAr (V 309) (V 311) set (V 317) (V 309 1).toNat zz))) (mAc (V 309) (V 311) set (V 309 1).toNat))) (fun i i0 i1 => filK_rd i0 i1) (fun i i0 i1 => filK_rd i0 i1) ⟨by omega, hno, hs1.2.1, hs1.2.2⟩
              refine x_il2 dX11_saints_71 ?_
              refine x_iconst dX11_saints_72 ?_
              refine x_icmp_ne (tgt := 78) dX11_saints_73 (inr (by omega)) (inr (by decide)) (fun c73_9 => ?_) (fun c73_9 => ?_)
              · -- 73 ne -> 78
                refine x_iconst dX11_saints_78 ?_
                refine x_is4 dX11_saints_79 ?_
                have lp81 : ∀ (N81 : Nat) (i : Int), (0 ≤ i ∧ i ≤ mAc (V 309) (V 311) set (V 309 1).toNat) → (∀ j, 0 ≤ j → j < i → ¬ mAr (V 309) (V 311) set (V 317) (V 309 1).toNat j = bone) → (mAc (V 309) (V 311) set (V 309 1).toNat - i).toNat < N81 → X Γ B RX11 "saints" cX11_saints 5 (some .int) 6 0 0 81 [some (vR B 308), some (vI set), some (vI bone), some (vI most), some (vI i)] [] 0 0 S (up (up (up (up (up (up (up (up V 308 (ua (V 308) 29 (mAc (V 309) (V 311) set ((V 309 1)).toNat))) 314 f6) 315 g6) 316 h6) 317 (mAr (V 309) (V 311) set (V 317) ((V 309 1)).toNat)) 318 (filK (V 318) (fun zz => mBr (V 309) (V 311) (mAr (V 309) (V 311) set (V 317) ((V 309 1)).toNat) zz ((mAc (V 309) (V 311) set ((V 309 1)).toNat)).toNat) (mAc (V 309) (V 311) set ((V 309 1)).toNat))) 319 (filK (V 319) (fun zz => mMany (V 309) (V 311) ((V 309) (30 + 6 * (mAr (V 309) (V 311) set (V 317) ((V 309 1)).toNat) zz))) (mAc (V 309) (V 311) set ((V 309 1)).toNat))) 320 h7) := by
                  intro N81
                  induction N81 with
                  | zero => intro i hi hnf hN; exact absurd hN (Nat.not_lt_zero _)
                  | succ N81 ih81 =>
                    intro i hi hnf hN81
                    have hii := hasS i
                    refine x_il4 dX11_saints_81 ?_
                    refine x_al0 dX11_saints_83 ?_
                    refine x_getI fl_X11_309 (sh_308 hS) (lq_308 hS) dX11_saints_84 ?_
                    refine x_topI (a' := mAc (V 309) (V 311) set ((V 309 1)).toNat) (show (ua (V 308) 29 (mAc (V 309) (V 311) set ((V 309 1)).toNat)) 29 = mAc (V 309) (V 311) set ((V 309 1)).toNat from (ua_same _ _ _)) ?_
                    refine x_icmp_ge (tgt := 115) dX11_saints_87 (inr (by omega)) (inr (by omega)) (fun c87_10 => ?_) (fun c87_10 => ?_)
                    · -- 87 ge -> 115
                      refine x_iconst dX11_saints_115 ?_
                      exact x_iret hQ ⟨_, (by simp only [SaR]; rw [if_pos (by simp only [mBoneOk]; omega)]; exact ⟨V 317, most, _, hbest, (by rw [if_neg (by omega), show findT (fun i => decide (mAr (V 309) (V 311) set (V 317) (V 309 1).toNat i = bone)) (mAc (V 309) (V 311) set (V 309 1).toNat) = -1 from findT_no (fun j j0 j1 => decide_eq_false (hnf j j0 (by omega))), if_pos (by omega)])⟩), rfl, rfl, (fun i hi => by first | rfl | (repeat rw [up_ne (by omega)])), (fun k hk => by first | rfl | (show ua (V 308) 29 _ k = _; rw [ua_ne (by omega)])), hf6, hh6, hz⟩ dX11_saints_116
                    · -- 87 ge -> 90
                      have hii := hasS i (by omega) (by omega)
                      refine x_al0 dX11_saints_90 ?_
                      refine x_getR fl_X11_43 (sh_308 hS) (lq_308 hS) (rf_308_25 hS) dX11_saints_91 ?_
                      refine x_il4 dX11_saints_94 ?_
                      refine x_iald (sh_317 hS) (lq_317 hS) (by omega) (by omega) dX11_saints_96 ?_
                      refine x_topI (a' := mAr (V 309) (V 311) set (V 317) ((V 309 1)).toNat i) rfl ?_
                      refine x_il2 dX11_saints_97 ?_
                      refine x_icmp_ne (tgt := 109) dX11_saints_98 (inr (by omega)) (inr (by omega)) (fun c98_11 => ?_) (fun c98_11 => ?_)
                      · -- 98 ne -> 109
                        refine x_inc4 dX11_saints_109 ?_
                        refine x_goto (tgt := 81) dX11_saints_112 ?_
                        exact x_fg (ih81 (i + 1) (by omega) (fun j j0 j1 => by rcases (show j < i ∨ j = i by omega) with q | q; (exact hnf j j0 q); rw [q]; omega) (by omega)) (And.intro rfl (And.intro rfl (And.intro rfl (And.intro rfl (And.intro rfl trivial)))))
                      · -- 98 ne -> 101
                        refine x_al0 dX11_saints_101 ?_
                        refine x_getR fl_X11_52 (sh_308 hS) (lq_308 hS) (rf_308_28 hS) dX11_saints_102 ?_
                        refine x_il4 dX11_saints_105 ?_
                        refine x_iald (sh_320 hS) (lq_320 hS) (by omega) (by omega) dX11_saints_107 ?_
                        refine x_topI (a' := h7 i) rfl ?_
                        exact x_iret hQ ⟨_, (by simp only [SaR]; rw [if_pos (by simp only [mBoneOk]; omega)]; exact ⟨V 317, most, _, hbest, (by rw [if_neg (by omega), show findT (fun i => decide (mAr (V 309) (V 311) set (V 317) (V 309 1).toNat i = bone)) (mAc (V 309) (V 311) set (V 309 1).toNat) = i from findT_at (by omega) (by omega) (decide_eq_true (by omega)) (fun j j0 j1 => decide_eq_false (hnf j j0 j1)), if_neg (by omega)])⟩), rfl, rfl, (fun i hi => by first | rfl | (repeat rw [up_ne (by omega)])), (fun k hk => by first | rfl | (show ua (V 308) 29 _ k = _; rw [ua_ne (by omega)])), hf6, hh6, hz⟩ dX11_saints_108
                exact x_fg (lp81 _ 0 (by omega) (fun j j0 j1 => by omega) (Nat.lt_succ_self _)) (And.intro rfl (And.intro rfl (And.intro rfl (And.intro rfl (And.intro rfl trivial)))))
              · -- 73 ne -> 76
                refine x_il3 dX11_saints_76 ?_
                exact x_iret hQ ⟨_, (by simp only [SaR]; rw [if_pos (by simp only [mBoneOk]; omega)]; exact ⟨V 317, most, _, hbest, (if_pos (by omega)).symm⟩), rfl, rfl, (fun i hi => by first | rfl | (repeat rw [up_ne (by omega)])), (fun k hk => by first | rfl | (show ua (V 308) 29 _ k = _; rw [ua_ne (by omega)])), hf6, hh6, hz⟩ dX11_saints_77
            · -- 62 ne -> 65
              refine x_inc3 dX11_saints_65 ?_
              refine x_goto (tgt := 57) dX11_saints_68 ?_
              have hnf : ∀ g, ¬ Full (fun zz => V 309 (30 + 6 * mAr (V 309) (V 311) set (V 317) (V 309 1).toNat zz)) (filK (V 318) (fun zz => mBr (V 309) (V 311) (mAr (V 309) (V 311) set (V 317) (V 309 1).toNat) zz (mAc (V 309) (V 311) set (V 309 1).toNat).toNat) (mAc (V 309) (V 311) set (V 309 1).toNat)) (filK (V 319) (fun zz => mMany (V 309) (V 311) (V 309 (30 + 6 * mAr (V 309) (V 311) set (V 317) (V 309 1).toNat zz))) (mAc (V 309) (V 311) set (V 309 1).toNat)) (mAc (V 309) (V 311) set (V 309 1).toNat) most g := by rcases hq with z | z; (exact z.2); exact absurd z.1 (by omega)
              have hml : most ≠ mAc (V 309) (V 311) set (V 309 1).toNat := fun z => hnf _ (by rw [z]; exact hid)
              exact x_fg (ih57 (most + 1) h7 (by omega) (fun m m0 m1 => by rcases (show m < most ∨ m = most by omega) with q | q; (exact hno m m0 q); rw [q]; exact hnf) (by omega)) (And.intro rfl (And.intro rfl (And.intro rfl (And.intro rfl trivial))))
        refine x_mem (V' := (up (up (up (up (up (up (up (up V 308 (ua (V 308) 29 (mAc (V 309) (V 311) set ((V 309 1)).toNat))) 314 f6) 315 g6) 316 h6) 317 (mAr (V 309) (V 311) set (V 317) ((V 309 1)).toNat)) 318 (filK (V 318) (fun zz => mBr (V 309) (V 311) (mAr (V 309) (V 311) set (V 317) ((V 309 1)).toNat) zz ((mAc (V 309) (V 311) set ((V 309 1)).toNat)).toNat) (mAc (V 309) (V 311) set ((V 309 1)).toNat))) 319 (filK (V 319) (fun zz => mMany (V 309) (V 311) ((V 309) (30 + 6 * (mAr (V 309) (V 311) set (V 317) ((V 309 1)).toNat) zz))) (mAc (V 309) (V 311) set ((V 309 1)).toNat))) 320 (V 320))) (show _ = (up (up (up (up (up (up (up (up V 308 (ua (V 308) 29 (mAc (V 309) (V 311) set ((V 309 1)).toNat))) 314 f6) 315 g6) 316 h6) 317 (mAr (V 309) (V 311) set (V 317) ((V 309 1)).toNat)) 318 (filK (V 318) (fun zz => mBr (V 309) (V 311) (mAr (V 309) (V 311) set (V 317) ((V 309 1)).toNat) zz ((mAc (V 309) (V 311) set ((V 309 1)).toNat)).toNat) (mAc (V 309) (V 311) set ((V 309 1)).toNat))) 319 (filK (V 319) (fun zz => mMany (V 309) (V 311) ((V 309) (30 + 6 * (mAr (V 309) (V 311) set (V 317) ((V 309 1)).toNat) zz))) (mAc (V 309) (V 311) set ((V 309 1)).toNat))) 320 (V 320)) from (Eq.symm (up_self _ 320))) ?_
        exact x_fg (lp57 _ 0 (V 320) (by omega) (fun m m0 m1 => by omega) (Nat.lt_succ_self _)) (And.intro rfl (And.intro rfl (And.intro rfl (And.intro rfl trivial))))
      · -- 45 le -> 48
        refine x_bipush dX11_saints_48 ?_
        exact x_iret hQ ⟨_, (by simp only [SaR]; rw [if_neg (by simp only [mBoneOk]; omega)]; trivial), rfl, rfl, (fun i hi => by first | rfl | (repeat rw [up_ne (by omega)])), (fun k hk => by first | rfl | (show ua (V 308) 29 _ k = _; rw [ua_ne (by omega)])), hf4, hh4, hz⟩ dX11_saints_50
    · -- 20 eq -> 23
      refine x_al0 dX11_saints_23 ?_
      refine x_il2 dX11_saints_24 ?_
      refine x_cVi mm_X11_isBone ml_X11_91 dX11_saints_25 (c_X11_isBone bone hS hA (inr (by omega))) (sh_308 hS) (lq_308 hS) ?_
      refine x_ifb_ne (tgt := 34) dX11_saints_28 (fun c28_12 => ?_) (fun c28_12 => ?_)
      · -- 28 ne -> 34
        refine x_al0 dX11_saints_34 ?_
        refine x_il1 dX11_saints_35 ?_
        refine x_cVvs mm_X11_findAsked ml_X11_324 dX11_saints_36 (c_X11_findAsked set hS hA hX h44 hW hN hTr h1 (inr (by omega))) (sh_308 hS) (lq_308 hS) (fun f13 g13 h13 hf13 hh13 => ?_)
        refine x_mem (V' := (up (up (up (up (up V 308 (ua (V 308) 29 (mAc (V 309) (V 311) set ((V 309 1)).toNat))) 314 f13) 315 g13) 316 h13) 317 (mAr (V 309) (V 311) set (V 317) ((V 309 1)).toNat))) (Eq.trans (Eq.trans (congrArg (fun z => up z 316 _) (congrArg (fun z => up z 315 _) (up_k (by decide) rfl))) (congrArg (fun z => up z 316 _) (up_k (by decide) rfl))) (up_k (by decide) rfl)) ?_
        have hasR := mAr_r (V 309) (V 311) set (V 317) (V 309 1).toNat
        refine x_al0 dX11_saints_39 ?_
        refine x_getI fl_X11_309 (sh_308 hS) (lq_308 hS) dX11_saints_40 ?_
        refine x_topI (a' := mAc (V 309) (V 311) set ((V 309 1)).toNat) (show (ua (V 308) 29 (mAc (V 309) (V 311) set ((V 309 1)).toNat)) 29 = mAc (V 309) (V 311) set ((V 309 1)).toNat from (ua_same _ _ _)) ?_
        refine x_bipush dX11_saints_43 ?_
        refine x_icmp_le (tgt := 51) dX11_saints_45 (inr (by omega)) (inr (by decide)) (fun c45_14 => ?_) (fun c45_14 => ?_)
        · -- 45 le -> 51
          have hnn : 0 ≤ mAc (V 309) (V 311) set (V 309 1).toNat ∧ mAc (V 309) (V 311) set (V 309 1).toNat ≤ 12 := by omega
          have hasS : ∀ i, 0 ≤ i → i < mAc (V 309) (V 311) set (V 309 1).toNat → 0 ≤ mAr (V 309) (V 311) set (V 317) (V 309 1).toNat i ∧ mAr (V 309) (V 311) set (V 317) (V 309 1).toNat i < 16 := fun i i0 i1 => by have := hasR i i0 i1; omega
          refine x_al0 dX11_saints_51 ?_
          refine x_cVvs mm_X11_findBarred ml_X11_327 dX11_saints_52 (c_X11_findBarred hS (show AB (V 309) from hA) (show AB (V 311) from hX) (show -1 ≤ (V 309 4) ∧ (V 309 4) ≤ 3 from h44) (show 0 ≤ (V 309 4) → TW (V 311) (V 309 4) from hW) (show AB f13 from hf13) (show TRb h13 from hh13) (show 0 ≤ (mAc (V 309) (V 311) set ((V 309 1)).toNat) ∧ (mAc (V 309) (V 311) set ((V 309 1)).toNat) ≤ 12 from (by omega)) (show ∀ i, 0 ≤ i → i < (mAc (V 309) (V 311) set ((V 309 1)).toNat) → 0 ≤ (mAr (V 309) (V 311) set (V 317) ((V 309 1)).toNat) i ∧ (mAr (V 309) (V 311) set (V 317) ((V 309 1)).toNat) i < 16 from hasS)) (sh_308 hS) (lq_308 hS) (fun f15 g15 h15 hf15 hh15 => ?_)
          refine x_mem (V' := (up (up (up (up (up (up (up V 308 (ua (V 308) 29 (mAc (V 309) (V 311) set ((V 309 1)).toNat))) 314 f15) 315 g15) 316 h15) 317 (mAr (V 309) (V 311) set (V 317) ((V 309 1)).toNat)) 318 (filK (V 318) (fun zz => mBr (V 309) (V 311) (mAr (V 309) (V 311) set (V 317) ((V 309 1)).toNat) zz ((mAc (V 309) (V 311) set ((V 309 1)).toNat)).toNat) (mAc (V 309) (V 311) set ((V 309 1)).toNat))) 319 (filK (V 319) (fun zz => mMany (V 309) (V 311) ((V 309) (30 + 6 * (mAr (V 309) (V 311) set (V 317) ((V 309 1)).toNat) zz))) (mAc (V 309) (V 311) set ((V 309 1)).toNat)))) (Eq.trans (Eq.trans (congrArg (fun z => up z 316 _) (congrArg (fun z => up z 315 _) (up_k (by decide) (up_k (by decide) (up_k (by decide) (up_k (by decide) (up_k (by decide) (up_up _ _ _ _)))))))) (congrArg (fun z => up z 316 _) (up_k (by decide) (up_k (by decide) (up_k (by decide) (up_k (by decide) (up_up _ _ _ _))))))) (up_k (by decide) (up_k (by decide) (up_k (by decide) (up_up _ _ _ _))))) ?_
          have hbmS : ∀ i, 0 ≤ i → i < mAc (V 309) (V 311) set (V 309 1).toNat → 0 ≤ (filK (V 318) (fun zz => mBr (V 309) (V 311) (mAr (V 309) (V 311) set (V 317) (V 309 1).toNat) zz (mAc (V 309) (V 311) set (V 309 1).toNat).toNat) (mAc (V 309) (V 311) set (V 309 1).toNat)) i ∧ (filK (V 318) (fun zz => mBr (V 309) (V 311) (mAr (V 309) (V 311) set (V 317) (V 309 1).toNat) zz (mAc (V 309) (V 311) set (V 309 1).toNat).toNat) (mAc (V 309) (V 311) set (V 309 1).toNat)) i < 65536 ∧ InR ((filK (V 319) (fun zz => mMany (V 309) (V 311) (V 309 (30 + 6 * mAr (V 309) (V 311) set (V 317) (V 309 1).toNat zz))) (mAc (V 309) (V 311) set (V 309 1).toNat)) i) := fun i i0 i1 => by
            have b1 := mBr_r (V 309) (V 311) (mAr (V 309) (V 311) set (V 317) (V 309 1).toNat) i (mAc (V 309) (V 311) set (V 309 1).toNat).toNat
            have b2 := p2_12 (n := (((mAc (V 309) (V 311) set (V 309 1).toNat).toNat : Nat) : Int)) (by omega)
            have b3 := mMany_r (a := V 309) hX (V 309 (30 + 6 * mAr (V 309) (V 311) set (V 317) (V 309 1).toNat i))
            rw [filK_rd i0 i1, filK_rd i0 i1]
            exact ⟨b1.1, by omega, by omega, by omega⟩
          have hid : Full (fun zz => V 309 (30 + 6 * mAr (V 309) (V 311) set (V 317) (V 309 1).toNat zz)) (filK (V 318) (fun zz => mBr (V 309) (V 311) (mAr (V 309) (V 311) set (V 317) (V 309 1).toNat) zz (mAc (V 309) (V 311) set (V 309 1).toNat).toNat) (mAc (V 309) (V 311) set (V 309 1).toNat)) (filK (V 319) (fun zz => mMany (V 309) (V 311) (V 309 (30 + 6 * mAr (V 309) (V 311) set (V 317) (V 309 1).toNat zz))) (mAc (V 309) (V 311) set (V 309 1).toNat)) (mAc (V 309) (V 311) set (V 309 1).toNat) (mAc (V 309) (V 311) set (V 309 1).toNat) (fun i => i) := Full_id (fun i i0 i1 => by rw [filK_rd i0 i1]; exact hM _)
          refine x_iconst dX11_saints_55 ?_
          refine x_is3 dX11_saints_56 ?_
          have lp57 : ∀ (N57 : Nat) (most : Int) (hs : Int → Int), (0 ≤ most ∧ most ≤ mAc (V 309) (V 311) set (V 309 1).toNat) → (∀ m, 0 ≤ m → m < most → ∀ f, ¬ Full (fun zz => V 309 (30 + 6 * mAr (V 309) (V 311) set (V 317) (V 309 1).toNat zz)) (filK (V 318) (fun zz => mBr (V 309) (V 311) (mAr (V 309) (V 311) set (V 317) (V 309 1).toNat) zz (mAc (V 309) (V 311) set (V 309 1).toNat).toNat) (mAc (V 309) (V 311) set (V 309 1).toNat)) (filK (V 319) (fun zz => mMany (V 309) (V 311) (V 309 (30 + 6 * mAr (V 309) (V 311) set (V 317) (V 309 1).toNat zz))) (mAc (V 309) (V 311) set (V 309 1).toNat)) (mAc (V 309) (V 311) set (V 309 1).toNat) m f) → (mAc (V 309) (V 311) set (V 309 1).toNat - most).toNat < N57 → X Γ B RX11 "saints" cX11_saints 5 (some .int) 6 0 0 57 [some (vR B 308), some (vI set), some (vI bone), some (vI most), none] [] 0 0 S (up (up (up (up (up (up (up (up V 308 (ua (V 308) 29 (mAc (V 309) (V 311) set ((V 309 1)).toNat))) 314 f15) 315 g15) 316 h15) 317 (mAr (V 309) (V 311) set (V 317) ((V 309 1)).toNat)) 318 (filK (V 318) (fun zz => mBr (V 309) (V 311) (mAr (V 309) (V 311) set (V 317) ((V 309 1)).toNat) zz ((mAc (V 309) (V 311) set ((V 309 1)).toNat)).toNat) (mAc (V 309) (V 311) set ((V 309 1)).toNat))) 319 (filK (V 319) (fun zz => mMany (V 309) (V 311) ((V 309) (30 + 6 * (mAr (V 309) (V 311) set (V 317) ((V 309 1)).toNat) zz))) (mAc (V 309) (V 311) set ((V 309 1)).toNat))) 320 hs) := by
            intro N57
            induction N57 with
            | zero => intro most hs hmo hno hN; exact absurd hN (Nat.not_lt_zero _)
            | succ N57 ih57 =>
              intro most hs hmo hno hN57
              refine x_al0 dX11_saints_57 ?_
              refine x_il3 dX11_saints_58 ?_
              refine x_cVih mm_X11_share ml_X11_330 dX11_saints_59 (c_X11_share most hS hA hnn hasS hbmS (by omega)) (sh_308 hS) (lq_308 hS) (fun r16 h16 hp16 => ?_)
              have hq : ShP (fun zz => V 309 (30 + 6 * mAr (V 309) (V 311) set (V 317) (V 309 1).toNat zz)) (filK (V 318) (fun zz => mBr (V 309) (V 311) (mAr (V 309) (V 311) set (V 317) (V 309 1).toNat) zz (mAc (V 309) (V 311) set (V 309 1).toNat).toNat) (mAc (V 309) (V 311) set (V 309 1).toNat)) (filK (V 319) (fun zz => mMany (V 309) (V 311) (V 309 (30 + 6 * mAr (V 309) (V 311) set (V 317) (V 309 1).toNat zz))) (mAc (V 309) (V 311) set (V 309 1).toNat)) (mAc (V 309) (V 311) set (V 309 1).toNat) most r16 h16 := hp16
              have hr01 : r16 = 0 ∨ r16 = 1 := by rcases hq with z | z; (exact Or.inl z.1); exact Or.inr z.1
              refine x_mem (V' := (up (up (up (up (up (up (up (up V 308 (ua (V 308) 29 (mAc (V 309) (V 311) set ((V 309 1)).toNat))) 314 f15) 315 g15) 316 h15) 317 (mAr (V 309) (V 311) set (V 317) ((V 309 1)).toNat)) 318 (filK (V 318) (fun zz => mBr (V 309) (V 311) (mAr (V 309) (V 311) set (V 317) ((V 309 1)).toNat) zz ((mAc (V 309) (V 311) set ((V 309 1)).toNat)).toNat) (mAc (V 309) (V 311) set ((V 309 1)).toNat))) 319 (filK (V 319) (fun zz => mMany (V 309) (V 311) ((V 309) (30 + 6 * (mAr (V 309) (V 311) set (V 317) ((V 309 1)).toNat) zz))) (mAc (V 309) (V 311) set ((V 309 1)).toNat))) 320 h16)) (up_up _ _ _ _) ?_
              refine x_if_ne (tgt := 71) dX11_saints_62 (inr (by omega)) (fun c62_17 => ?_) (fun c62_17 => ?_)
              · -- 62 ne -> 71
                have hs1 := hq.resolve_left (fun z => absurd z.1 (by omega))
                have hbest : Best (fun zz => V 309 (30 + 6 * mAr (V 309) (V 311) set (V 317) (V 309 1).toNat zz)) (fun zz => mBr (V 309) (V 311) (mAr (V 309) (V 311) set (V 317) (V 309 1).toNat) zz (mAc (V 309) (V 311) set (V 309 1).toNat).toNat) (fun zz => mMany (V 309) (V 311) (V 309 (30 + 6 * mAr (V 309) (V 311) set (V 317) (V 309 1).toNat zz))) (mAc (V 309) (V 311) set (V 309 1).toNat) most h16 := Best_c (br := (filK (V 318) (fun zz => mBr (V 309) (V 311) (mAr (V 309) (V 311) set (V 317) (V 309 1).toNat) zz (mAc (V 309) (V 311) set (V 309 1).toNat).toNat) (mAc (V 309) (V 311) set (V 309 1).toNat))) (my := (filK (V 319) (fun zz => mMany (V 309) (V 311) (V 309 (30 + 6 * mAr (V 309) (V 311) set (V 317) (V 309 1).toNat zz))) (mAc (V 309) (V 311) set (V 309 1).toNat))) (fun i i0 i1 => filK_rd i0 i1) (fun i i0 i1 => filK_rd i0 i1) ⟨by omega, hno, hs1.2.1, hs1.2.2⟩
                refine x_il2 dX11_saints_71 ?_
                refine x_iconst dX11_saints_72 ?_
                refine x_icmp_ne (tgt := 78) dX11_saints_73 (inr (by omega)) (inr (by decide)) (fun c73_18 => ?_) (fun c73_18 => ?_)
                · -- 73 ne -> 78
                  refine x_iconst dX11_saints_78 ?_
                  refine x_is4 dX11_saints_79 ?_
                  have lp81 : ∀ (N81 : Nat) (i : Int), (0 ≤ i ∧ i ≤ mAc (V 309) (V 311) set (V 309 1).toNat) → (∀ j, 0 ≤ j → j < i → ¬ mAr (V 309) (V 311) set (V 317) (V 309 1).toNat j = bone) → (mAc (V 309) (V 311) set (V 309 1).toNat - i).toNat < N81 → X Γ B RX11 "saints" cX11_saints 5 (some .int) 6 0 0 81 [some (vR B 308), some (vI set), some (vI bone), some (vI most), some (vI i)] [] 0 0 S (up (up (up (up (up (up (up (up V 308 (ua (V 308) 29 (mAc (V 309) (V 311) set ((V 309 1)).toNat))) 314 f15) 315 g15) 316 h15) 317 (mAr (V 309) (V 311) set (V 317) ((V 309 1)).toNat)) 318 (filK (V 318) (fun zz => mBr (V 309) (V 311) (mAr (V 309) (V 311) set (V 317) ((V 309 1)).toNat) zz ((mAc (V 309) (V 311) set ((V 309 1)).toNat)).toNat) (mAc (V 309) (V 311) set ((V 309 1)).toNat))) 319 (filK (V 319) (fun zz => mMany (V 309) (V 311) ((V 309) (30 + 6 * (mAr (V 309) (V 311) set (V 317) ((V 309 1)).toNat) zz))) (mAc (V 309) (V 311) set ((V 309 1)).toNat))) 320 h16) := by
                    intro N81
                    induction N81 with
                    | zero => intro i hi hnf hN; exact absurd hN (Nat.not_lt_zero _)
                    | succ N81 ih81 =>
                      intro i hi hnf hN81
                      have hii := hasS i
                      refine x_il4 dX11_saints_81 ?_
                      refine x_al0 dX11_saints_83 ?_
                      refine x_getI fl_X11_309 (sh_308 hS) (lq_308 hS) dX11_saints_84 ?_
                      refine x_topI (a' := mAc (V 309) (V 311) set ((V 309 1)).toNat) (show (ua (V 308) 29 (mAc (V 309) (V 311) set ((V 309 1)).toNat)) 29 = mAc (V 309) (V 311) set ((V 309 1)).toNat from (ua_same _ _ _)) ?_
                      refine x_icmp_ge (tgt := 115) dX11_saints_87 (inr (by omega)) (inr (by omega)) (fun c87_19 => ?_) (fun c87_19 => ?_)
                      · -- 87 ge -> 115
                        refine x_iconst dX11_saints_115 ?_
                        exact x_iret hQ ⟨_, (by simp only [SaR]; rw [if_pos (by simp only [mBoneOk]; omega)]; exact ⟨V 317, most, _, hbest, (by rw [if_neg (by omega), show findT (fun i => decide (mAr (V 309) (V 311) set (V 317) (V 309 1).toNat i = bone)) (mAc (V 309) (V 311) set (V 309 1).toNat) = -1 from findT_no (fun j j0 j1 => decide_eq_false (hnf j j0 (by omega))), if_pos (by omega)])⟩), rfl, rfl, (fun i hi => by first | rfl | (repeat rw [up_ne (by omega)])), (fun k hk => by first | rfl | (show ua (V 308) 29 _ k = _; rw [ua_ne (by omega)])), hf15, hh15, hz⟩ dX11_saints_116
                      · -- 87 ge -> 90
                        have hii := hasS i (by omega) (by omega)
                        refine x_al0 dX11_saints_90 ?_
                        refine x_getR fl_X11_43 (sh_308 hS) (lq_308 hS) (rf_308_25 hS) dX11_saints_91 ?_
                        refine x_il4 dX11_saints_94 ?_
                        refine x_iald (sh_317 hS) (lq_317 hS) (by omega) (by omega) dX11_saints_96 ?_
                        refine x_topI (a' := mAr (V 309) (V 311) set (V 317) ((V 309 1)).toNat i) rfl ?_
                        refine x_il2 dX11_saints_97 ?_
                        refine x_icmp_ne (tgt := 109) dX11_saints_98 (inr (by omega)) (inr (by omega)) (fun c98_20 => ?_) (fun c98_20 => ?_)
                        · -- 98 ne -> 109
                          refine x_inc4 dX11_saints_109 ?_
                          refine x_goto (tgt := 81) dX11_saints_112 ?_
                          exact x_fg (ih81 (i + 1) (by omega) (fun j j0 j1 => by rcases (show j < i ∨ j = i by omega) with q | q; (exact hnf j j0 q); rw [q]; omega) (by omega)) (And.intro rfl (And.intro rfl (And.intro rfl (And.intro rfl (And.intro rfl trivial)))))
                        · -- 98 ne -> 101
                          refine x_al0 dX11_saints_101 ?_
                          refine x_getR fl_X11_52 (sh_308 hS) (lq_308 hS) (rf_308_28 hS) dX11_saints_102 ?_
                          refine x_il4 dX11_saints_105 ?_
                          refine x_iald (sh_320 hS) (lq_320 hS) (by omega) (by omega) dX11_saints_107 ?_
                          refine x_topI (a' := h16 i) rfl ?_
                          exact x_iret hQ ⟨_, (by simp only [SaR]; rw [if_pos (by simp only [mBoneOk]; omega)]; exact ⟨V 317, most, _, hbest, (by rw [if_neg (by omega), show findT (fun i => decide (mAr (V 309) (V 311) set (V 317) (V 309 1).toNat i = bone)) (mAc (V 309) (V 311) set (V 309 1).toNat) = i from findT_at (by omega) (by omega) (decide_eq_true (by omega)) (fun j j0 j1 => decide_eq_false (hnf j j0 j1)), if_neg (by omega)])⟩), rfl, rfl, (fun i hi => by first | rfl | (repeat rw [up_ne (by omega)])), (fun k hk => by first | rfl | (show ua (V 308) 29 _ k = _; rw [ua_ne (by omega)])), hf15, hh15, hz⟩ dX11_saints_108
                  exact x_fg (lp81 _ 0 (by omega) (fun j j0 j1 => by omega) (Nat.lt_succ_self _)) (And.intro rfl (And.intro rfl (And.intro rfl (And.intro rfl (And.intro rfl trivial)))))
                · -- 73 ne -> 76
                  refine x_il3 dX11_saints_76 ?_
                  exact x_iret hQ ⟨_, (by simp only [SaR]; rw [if_pos (by simp only [mBoneOk]; omega)]; exact ⟨V 317, most, _, hbest, (if_pos (by omega)).symm⟩), rfl, rfl, (fun i hi => by first | rfl | (repeat rw [up_ne (by omega)])), (fun k hk => by first | rfl | (show ua (V 308) 29 _ k = _; rw [ua_ne (by omega)])), hf15, hh15, hz⟩ dX11_saints_77
              · -- 62 ne -> 65
                refine x_inc3 dX11_saints_65 ?_
                refine x_goto (tgt := 57) dX11_saints_68 ?_
                have hnf : ∀ g, ¬ Full (fun zz => V 309 (30 + 6 * mAr (V 309) (V 311) set (V 317) (V 309 1).toNat zz)) (filK (V 318) (fun zz => mBr (V 309) (V 311) (mAr (V 309) (V 311) set (V 317) (V 309 1).toNat) zz (mAc (V 309) (V 311) set (V 309 1).toNat).toNat) (mAc (V 309) (V 311) set (V 309 1).toNat)) (filK (V 319) (fun zz => mMany (V 309) (V 311) (V 309 (30 + 6 * mAr (V 309) (V 311) set (V 317) (V 309 1).toNat zz))) (mAc (V 309) (V 311) set (V 309 1).toNat)) (mAc (V 309) (V 311) set (V 309 1).toNat) most g := by rcases hq with z | z; (exact z.2); exact absurd z.1 (by omega)
                have hml : most ≠ mAc (V 309) (V 311) set (V 309 1).toNat := fun z => hnf _ (by rw [z]; exact hid)
                exact x_fg (ih57 (most + 1) h16 (by omega) (fun m m0 m1 => by rcases (show m < most ∨ m = most by omega) with q | q; (exact hno m m0 q); rw [q]; exact hnf) (by omega)) (And.intro rfl (And.intro rfl (And.intro rfl (And.intro rfl trivial))))
          refine x_mem (V' := (up (up (up (up (up (up (up (up V 308 (ua (V 308) 29 (mAc (V 309) (V 311) set ((V 309 1)).toNat))) 314 f15) 315 g15) 316 h15) 317 (mAr (V 309) (V 311) set (V 317) ((V 309 1)).toNat)) 318 (filK (V 318) (fun zz => mBr (V 309) (V 311) (mAr (V 309) (V 311) set (V 317) ((V 309 1)).toNat) zz ((mAc (V 309) (V 311) set ((V 309 1)).toNat)).toNat) (mAc (V 309) (V 311) set ((V 309 1)).toNat))) 319 (filK (V 319) (fun zz => mMany (V 309) (V 311) ((V 309) (30 + 6 * (mAr (V 309) (V 311) set (V 317) ((V 309 1)).toNat) zz))) (mAc (V 309) (V 311) set ((V 309 1)).toNat))) 320 (V 320))) (show _ = (up (up (up (up (up (up (up (up V 308 (ua (V 308) 29 (mAc (V 309) (V 311) set ((V 309 1)).toNat))) 314 f15) 315 g15) 316 h15) 317 (mAr (V 309) (V 311) set (V 317) ((V 309 1)).toNat)) 318 (filK (V 318) (fun zz => mBr (V 309) (V 311) (mAr (V 309) (V 311) set (V 317) ((V 309 1)).toNat) zz ((mAc (V 309) (V 311) set ((V 309 1)).toNat)).toNat) (mAc (V 309) (V 311) set ((V 309 1)).toNat))) 319 (filK (V 319) (fun zz => mMany (V 309) (V 311) ((V 309) (30 + 6 * (mAr (V 309) (V 311) set (V 317) ((V 309 1)).toNat) zz))) (mAc (V 309) (V 311) set ((V 309 1)).toNat))) 320 (V 320)) from (Eq.symm (up_self _ 320))) ?_
          exact x_fg (lp57 _ 0 (V 320) (by omega) (fun m m0 m1 => by omega) (Nat.lt_succ_self _)) (And.intro rfl (And.intro rfl (And.intro rfl (And.intro rfl trivial))))
        · -- 45 le -> 48
          refine x_bipush dX11_saints_48 ?_
          exact x_iret hQ ⟨_, (by simp only [SaR]; rw [if_neg (by simp only [mBoneOk]; omega)]; trivial), rfl, rfl, (fun i hi => by first | rfl | (repeat rw [up_ne (by omega)])), (fun k hk => by first | rfl | (show ua (V 308) 29 _ k = _; rw [ua_ne (by omega)])), hf13, hh13, hz⟩ dX11_saints_50
      · -- 28 ne -> 31
        refine x_bipush dX11_saints_31 ?_
        exact x_iret hQ ⟨_, (by simp only [SaR]; rw [if_neg (by simp only [mBoneOk]; omega)]; trivial), rfl, rfl, (fun i hi => by first | rfl | (repeat rw [up_ne (by omega)])), (fun k hk => by first | rfl | (show ua (V 308) 29 _ k = _; rw [ua_ne (by omega)])), hN, hTr, hz⟩ dX11_saints_33
