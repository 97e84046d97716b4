set_option maxRecDepth 100000 in
set_option maxHeartbeats 4000000 in
theorem c_X11_byteAt2 {B : Bs} {S : Stt} {V : Va} (k : Int) (hS : Stat S) (hT : 0 ≤ (V 308 4) ∧ (V 308 4) ≤ 300) (hk : 0 ≤ k ∧ InR k) : C B yX11_byteAt cX11_byteAt 2 (some .int) 1 0 0 [vR B 308, vI k] S V (rI S V (tb (V 312) (V 308 4) k)) := by
  refine C.of [some (vR B 308), some (vI k)] ?_
  intro Γ hQ
  refine x_il1 dX11_byteAt_0 ?_
  refine x_al0 dX11_byteAt_1 ?_
  refine x_getI fl_X11_114 (sh_308 hS) (lq_308 hS) dX11_byteAt_2 ?_
  refine x_topI (a' := V 308 4) rfl ?_
  refine x_icmp_ge (tgt := 17) dX11_byteAt_5 (inr (by omega)) (inr (by omega)) (fun c5_1 => ?_) (fun c5_1 => ?_)
  · -- 5 ge -> 17
    refine x_iconst dX11_byteAt_17 ?_
    exact x_iret hQ (rI.mk (by simp only [tb]; first | (rw [if_pos (by omega)]) | (rw [if_neg (by omega)])) rfl) dX11_byteAt_18
  · -- 5 ge -> 8
    refine x_al0 dX11_byteAt_8 ?_
    refine x_getR fl_X11_19 (sh_308 hS) (lq_308 hS) (rf_308_3 hS) dX11_byteAt_9 ?_
    refine x_il1 dX11_byteAt_12 ?_
    refine x_iald (sh_312 hS) (lq_312 hS) (by omega) (by omega) dX11_byteAt_13 ?_
    refine x_topI (a' := V 312 k) rfl ?_
    refine x_goto (tgt := 18) dX11_byteAt_14 ?_
    exact x_iret hQ (rI.mk (by simp only [tb]; first | (rw [if_pos (by omega)]) | (rw [if_neg (by omega)])) rfl) dX11_byteAt_18
set_option maxRecDepth 100000 in
set_option maxHeartbeats 4000000 in
theorem c_X11_nextToken {B : Bs} {S : Stt} {V : Va} (hS : Stat S) (hT : 0 ≤ (V 308 4) ∧ (V 308 4) ≤ 300) (hat : 0 ≤ (V 308 7) ∧ (V 308 7) ≤ (V 308 4)) (hTp : ∀ k, 0 ≤ (V 312) k ∧ (V 312) k < 256) : C B yX11_nextToken cX11_nextToken 3 none 3 0 0 [vR B 308] S V (rV S (up V 308 (mTok (V 308) (V 312)))) := by
  refine C.of [some (vR B 308), none, none] ?_
  intro Γ hQ
  have lp0 : ∀ (N0 : Nat) (k : Int), (V 308 7 ≤ k ∧ k ≤ V 308 4) → (∀ j, V 308 7 ≤ j → j < k → isSp (tb (V 312) (V 308 4) j)) → (V 308 4 - k).toNat < N0 → X Γ B RX11 "nextToken" cX11_nextToken 3 none 3 0 0 0 [some (vR B 308), none, none] [] 0 0 S (up V 308 (ua (V 308) 7 k)) := by
    intro N0
    induction N0 with
    | zero => intro k hk hsp hN; exact absurd hN (Nat.not_lt_zero _)
    | succ N0 ih0 =>
      intro k hk hsp hN0
      have hb0 := tb_r hTp (V 308 4) k
      refine x_al0 dX11_nextToken_0 ?_
      refine x_al0 dX11_nextToken_1 ?_
      refine x_getI fl_X11_120 (sh_308 hS) (lq_308 hS) dX11_nextToken_2 ?_
      refine x_topI (a' := k) (show (ua (V 308) 7 k) 7 = k from (ua_same _ _ _)) ?_
      refine x_cVi mm_X11_byteAt ml_X11_123 dX11_nextToken_5 (c_X11_byteAt2 k hS (show 0 ≤ (V 308 4) ∧ (V 308 4) ≤ 300 from hT) (by omega)) (sh_308 hS) (lq_308 hS) ?_
      refine x_topI (a' := tb (V 312) (V 308 4) k) rfl ?_
      refine x_bipush dX11_nextToken_8 ?_
      refine x_icmp_eq (tgt := 26) dX11_nextToken_10 (inr (by omega)) (inr (by decide)) (fun c10_1 => ?_) (fun c10_1 => ?_)
      · -- 10 eq -> 26
        refine x_al0 dX11_nextToken_26 ?_
        refine x_dup dX11_nextToken_27 ?_
        refine x_getI fl_X11_120 (sh_308 hS) (lq_308 hS) dX11_nextToken_28 ?_
        refine x_topI (a' := k) (show (ua (V 308) 7 k) 7 = k from (ua_same _ _ _)) ?_
        refine x_iconst dX11_nextToken_31 ?_
        refine x_iadd dX11_nextToken_32 ?_
        refine x_putI fl_X11_120 (sh_308 hS) (lq_308 hS) dX11_nextToken_33 ?_
        refine x_mem (V' := (up V 308 (ua (ua (V 308) 7 k) 7 (k + 1)))) (st2_up _ _ _ _ _) ?_
        refine x_goto (tgt := 0) dX11_nextToken_36 ?_
        refine x_mem (V' := (up V 308 (ua (V 308) 7 (k + 1)))) (upE rfl (by simp only [ua_ua])) ?_
        exact x_fg (ih0 (k + 1) (by omega) (fun j j0 j1 => by rcases (show j < k ∨ j = k by omega) with q | q; (exact hsp j j0 q); rw [q]; omega) (by omega)) (And.intro rfl trivial)
      · -- 10 eq -> 13
        refine x_al0 dX11_nextToken_13 ?_
        refine x_al0 dX11_nextToken_14 ?_
        refine x_getI fl_X11_120 (sh_308 hS) (lq_308 hS) dX11_nextToken_15 ?_
        refine x_topI (a' := k) (show (ua (V 308) 7 k) 7 = k from (ua_same _ _ _)) ?_
        refine x_cVi mm_X11_byteAt ml_X11_123 dX11_nextToken_18 (c_X11_byteAt2 k hS (show 0 ≤ (V 308 4) ∧ (V 308 4) ≤ 300 from hT) (by omega)) (sh_308 hS) (lq_308 hS) ?_
        refine x_topI (a' := tb (V 312) (V 308 4) k) rfl ?_
        refine x_bipush dX11_nextToken_21 ?_
        refine x_icmp_ne (tgt := 39) dX11_nextToken_23 (inr (by omega)) (inr (by decide)) (fun c23_2 => ?_) (fun c23_2 => ?_)
        · -- 23 ne -> 39
          have hpl : tPl (V 312) (V 308 4) (V 308 7) = k := ends_at (by omega) (Or.inl (by omega)) (Or.inl (by omega)) (fun j j0 j1 => decide_eq_true (hsp j j0 j1)) (decide_eq_false (by omega)) (by omega)
          have hC : tC (V 312) (V 308 4) (V 308 7) = tb (V 312) (V 308 4) k := by simp only [tC]; rw [hpl]
          refine x_al0 dX11_nextToken_39 ?_
          refine x_al0 dX11_nextToken_40 ?_
          refine x_getI fl_X11_120 (sh_308 hS) (lq_308 hS) dX11_nextToken_41 ?_
          refine x_topI (a' := k) (show (ua (V 308) 7 k) 7 = k from (ua_same _ _ _)) ?_
          refine x_putI fl_X11_126 (sh_308 hS) (lq_308 hS) dX11_nextToken_44 ?_
          refine x_mem (V' := (up V 308 (ua (ua (V 308) 7 k) 8 k))) (st2_up _ _ _ _ _) ?_
          refine x_al0 dX11_nextToken_47 ?_
          refine x_al0 dX11_nextToken_48 ?_
          refine x_getI fl_X11_120 (sh_308 hS) (lq_308 hS) dX11_nextToken_49 ?_
          refine x_topI (a' := k) (show (ua (ua (V 308) 7 k) 8 k) 7 = k from ((ua_ne (by decide)).trans (ua_same _ _ _))) ?_
          refine x_cVi mm_X11_byteAt ml_X11_123 dX11_nextToken_52 (c_X11_byteAt2 k hS (show 0 ≤ (V 308 4) ∧ (V 308 4) ≤ 300 from hT) (by omega)) (sh_308 hS) (lq_308 hS) ?_
          refine x_topI (a' := tb (V 312) (V 308 4) k) rfl ?_
          refine x_is1 dX11_nextToken_55 ?_
          refine x_il1 dX11_nextToken_56 ?_
          refine x_if_ge (tgt := 68) dX11_nextToken_57 (inr (by omega)) (fun c57_3 => ?_) (fun c57_3 => ?_)
          · -- 57 ge -> 68
            refine x_il1 dX11_nextToken_68 ?_
            refine x_cSi mm_X11_isDigit ml_X11_132 dX11_nextToken_69 (c_X11_isDigit (tb (V 312) (V 308 4) k) (inr (by omega))) ?_
            refine x_ifb_eq (tgt := 144) dX11_nextToken_72 (fun c72_4 => ?_) (fun c72_4 => ?_)
            · -- 72 eq -> 144
              refine x_il1 dX11_nextToken_144 ?_
              refine x_cSi mm_X11_isLetter ml_X11_139 dX11_nextToken_145 (c_X11_isLetter (tb (V 312) (V 308 4) k) (inr (by omega))) ?_
              refine x_ifb_eq (tgt := 245) dX11_nextToken_148 (fun c148_5 => ?_) (fun c148_5 => ?_)
              · -- 148 eq -> 245
                have hb2 := tb_r hTp (V 308 4) (k + 1)
                refine x_al0 dX11_nextToken_245 ?_
                refine x_dup dX11_nextToken_246 ?_
                refine x_getI fl_X11_120 (sh_308 hS) (lq_308 hS) dX11_nextToken_247 ?_
                refine x_topI (a' := k) (show (ua (ua (V 308) 7 k) 8 k) 7 = k from ((ua_ne (by decide)).trans (ua_same _ _ _))) ?_
                refine x_iconst dX11_nextToken_250 ?_
                refine x_iadd dX11_nextToken_251 ?_
                refine x_putI fl_X11_120 (sh_308 hS) (lq_308 hS) dX11_nextToken_252 ?_
                refine x_mem (V' := (up V 308 (ua (ua (ua (V 308) 7 k) 8 k) 7 (k + 1)))) (st2_up _ _ _ _ _) ?_
                refine x_il1 dX11_nextToken_255 ?_
                refine x_bipush dX11_nextToken_256 ?_
                refine x_icmp_eq (tgt := 321) dX11_nextToken_258 (inr (by omega)) (inr (by decide)) (fun c258_6 => ?_) (fun c258_6 => ?_)
                · -- 258 eq -> 321
                  refine x_iconst dX11_nextToken_321 ?_
                  refine x_goto (tgt := 326) dX11_nextToken_322 ?_
                  refine x_is2 dX11_nextToken_326 ?_
                  refine x_al0 dX11_nextToken_327 ?_
                  refine x_il2 dX11_nextToken_328 ?_
                  refine x_if_eq (tgt := 336) dX11_nextToken_329 (inr (by decide)) (fun c329_7 => ?_) (fun c329_7 => ?_)
                  · exact absurd c329_7 (by decide)
                  · -- 329 eq -> 332
                    refine x_il1 dX11_nextToken_332 ?_
                    refine x_goto (tgt := 337) dX11_nextToken_333 ?_
                    refine x_putI fl_X11_129 (sh_308 hS) (lq_308 hS) dX11_nextToken_337 ?_
                    refine x_mem (V' := (up V 308 (ua (ua (ua (ua (V 308) 7 k) 8 k) 7 (k + 1)) 9 (tb (V 312) (V 308 4) k)))) (st2_up _ _ _ _ _) ?_
                    refine x_il1 dX11_nextToken_340 ?_
                    refine x_bipush dX11_nextToken_341 ?_
                    refine x_icmp_eq (tgt := 352) dX11_nextToken_343 (inr (by omega)) (inr (by decide)) (fun c343_8 => ?_) (fun c343_8 => ?_)
                    · -- 343 eq -> 352
                      refine x_al0 dX11_nextToken_352 ?_
                      refine x_al0 dX11_nextToken_353 ?_
                      refine x_getI fl_X11_120 (sh_308 hS) (lq_308 hS) dX11_nextToken_354 ?_
                      refine x_topI (a' := k + 1) (show (ua (ua (ua (ua (V 308) 7 k) 8 k) 7 (k + 1)) 9 (tb (V 312) (V 308 4) k)) 7 = k + 1 from ((ua_ne (by decide)).trans (ua_same _ _ _))) ?_
                      refine x_cVi mm_X11_byteAt ml_X11_123 dX11_nextToken_357 (c_X11_byteAt2 (k + 1) hS (show 0 ≤ (V 308 4) ∧ (V 308 4) ≤ 300 from hT) (by omega)) (sh_308 hS) (lq_308 hS) ?_
                      refine x_topI (a' := tb (V 312) (V 308 4) (k + 1)) rfl ?_
                      refine x_bipush dX11_nextToken_360 ?_
                      refine x_icmp_ne (tgt := 390) dX11_nextToken_362 (inr (by omega)) (inr (by decide)) (fun c362_9 => ?_) (fun c362_9 => ?_)
                      · -- 362 ne -> 390
                        exact x_vret hQ (by have hd1 : ¬ isDg (tC (V 312) (V 308 4) (V 308 7)) := (by rw [hC]; assumption); have hd2 : ¬ isLt (tC (V 312) (V 308 4) (V 308 7)) := (by rw [hC]; assumption); have hd3 : ¬ tTwo (V 312) (V 308 4) (V 308 7) := (by intro z; rcases z with ⟨z1, z2⟩; rw [hC] at z1; rw [hpl] at z2; omega); have hd0 : 0 ≤ tC (V 312) (V 308 4) (V 308 7) := (by rw [hC]; omega); have hT := tTok_3 hd0 hd1 hd2 hd3; have hX := tNx_3 hd0 hd1 hd2 hd3; rw [hC] at hT; exact rV.mk (upE rfl (mTok_eq (g := ua (ua (ua (ua (V 308) 7 k) 8 k) 7 (k + 1)) 9 (tb (V 312) (V 308 4) k)) (show k + 1 = _ from by rw [hX, hpl]) (show k = _ from hpl.symm) (show tb (V 312) (V 308 4) k = _ from by rw [hT]; first | exact (if_pos (by omega)).symm | exact (if_neg (by omega)).symm) (show V 308 10 = _ from (if_neg (by rw [hT]; split <;> omega)).symm) (show V 308 11 = _ from (if_neg (by rw [hT]; split <;> omega)).symm) (fun z z7 z8 z9 z10 z11 => by simp only [ua]; repeat rw [if_neg (by assumption)])).symm)) dX11_nextToken_390
                      · -- 362 ne -> 365
                        refine x_al0 dX11_nextToken_365 ?_
                        refine x_dup dX11_nextToken_366 ?_
                        refine x_getI fl_X11_120 (sh_308 hS) (lq_308 hS) dX11_nextToken_367 ?_
                        refine x_topI (a' := k + 1) (show (ua (ua (ua (ua (V 308) 7 k) 8 k) 7 (k + 1)) 9 (tb (V 312) (V 308 4) k)) 7 = k + 1 from ((ua_ne (by decide)).trans (ua_same _ _ _))) ?_
                        refine x_iconst dX11_nextToken_370 ?_
                        refine x_iadd dX11_nextToken_371 ?_
                        refine x_putI fl_X11_120 (sh_308 hS) (lq_308 hS) dX11_nextToken_372 ?_
                        refine x_mem (V' := (up V 308 (ua (ua (ua (ua (ua (V 308) 7 k) 8 k) 7 (k + 1)) 9 (tb (V 312) (V 308 4) k)) 7 ((k + 1) + 1)))) (st2_up _ _ _ _ _) ?_
                        refine x_al0 dX11_nextToken_375 ?_
                        refine x_il1 dX11_nextToken_376 ?_
                        refine x_bipush dX11_nextToken_377 ?_
                        refine x_icmp_ne (tgt := 386) dX11_nextToken_379 (inr (by omega)) (inr (by decide)) (fun c379_10 => ?_) (fun c379_10 => ?_)
                        · -- 379 ne -> 386
                          refine x_iconst dX11_nextToken_386 ?_
                          refine x_putI fl_X11_129 (sh_308 hS) (lq_308 hS) dX11_nextToken_387 ?_
                          refine x_mem (V' := (up V 308 (ua (ua (ua (ua (ua (ua (V 308) 7 k) 8 k) 7 (k + 1)) 9 (tb (V 312) (V 308 4) k)) 7 ((k + 1) + 1)) 9 5))) (st2_up _ _ _ _ _) ?_
                          exact x_vret hQ (by have hd : tTwo (V 312) (V 308 4) (V 308 7) := ⟨by rw [hC]; omega, by rw [hpl]; omega⟩; have hT := tTok_4 hd; have hX := tNx_4 hd; exact rV.mk (upE rfl (mTok_eq (g := ua (ua (ua (ua (ua (ua (V 308) 7 k) 8 k) 7 (k + 1)) 9 (tb (V 312) (V 308 4) k)) 7 ((k + 1) + 1)) 9 5) (show (k + 1) + 1 = _ from by rw [hX, hpl]) (show k = _ from hpl.symm) (show 5 = _ from by rw [hT, hC]; first | exact (if_pos (by omega)).symm | exact (if_neg (by omega)).symm) (show V 308 10 = _ from (if_neg (by rw [hT]; split <;> omega)).symm) (show V 308 11 = _ from (if_neg (by rw [hT]; split <;> omega)).symm) (fun z z7 z8 z9 z10 z11 => by simp only [ua]; repeat rw [if_neg (by assumption)])).symm)) dX11_nextToken_390
                        · -- 379 ne -> 382
                          refine x_iconst dX11_nextToken_382 ?_
                          refine x_goto (tgt := 387) dX11_nextToken_383 ?_
                          refine x_putI fl_X11_129 (sh_308 hS) (lq_308 hS) dX11_nextToken_387 ?_
                          refine x_mem (V' := (up V 308 (ua (ua (ua (ua (ua (ua (V 308) 7 k) 8 k) 7 (k + 1)) 9 (tb (V 312) (V 308 4) k)) 7 ((k + 1) + 1)) 9 4))) (st2_up _ _ _ _ _) ?_
                          exact x_vret hQ (by have hd : tTwo (V 312) (V 308 4) (V 308 7) := ⟨by rw [hC]; omega, by rw [hpl]; omega⟩; have hT := tTok_4 hd; have hX := tNx_4 hd; exact rV.mk (upE rfl (mTok_eq (g := ua (ua (ua (ua (ua (ua (V 308) 7 k) 8 k) 7 (k + 1)) 9 (tb (V 312) (V 308 4) k)) 7 ((k + 1) + 1)) 9 4) (show (k + 1) + 1 = _ from by rw [hX, hpl]) (show k = _ from hpl.symm) (show 4 = _ from by rw [hT, hC]; first | exact (if_pos (by omega)).symm | exact (if_neg (by omega)).symm) (show V 308 10 = _ from (if_neg (by rw [hT]; split <;> omega)).symm) (show V 308 11 = _ from (if_neg (by rw [hT]; split <;> omega)).symm) (fun z z7 z8 z9 z10 z11 => by simp only [ua]; repeat rw [if_neg (by assumption)])).symm)) dX11_nextToken_390
                    · -- 343 eq -> 346
                      refine x_il1 dX11_nextToken_346 ?_
                      refine x_bipush dX11_nextToken_347 ?_
                      refine x_icmp_ne (tgt := 390) dX11_nextToken_349 (inr (by omega)) (inr (by decide)) (fun c349_11 => ?_) (fun c349_11 => ?_)
                      · -- 349 ne -> 390
                        exact x_vret hQ (by have hd1 : ¬ isDg (tC (V 312) (V 308 4) (V 308 7)) := (by rw [hC]; assumption); have hd2 : ¬ isLt (tC (V 312) (V 308 4) (V 308 7)) := (by rw [hC]; assumption); have hd3 : ¬ tTwo (V 312) (V 308 4) (V 308 7) := (by intro z; rcases z with ⟨z1, z2⟩; rw [hC] at z1; rw [hpl] at z2; omega); have hd0 : 0 ≤ tC (V 312) (V 308 4) (V 308 7) := (by rw [hC]; omega); have hT := tTok_3 hd0 hd1 hd2 hd3; have hX := tNx_3 hd0 hd1 hd2 hd3; rw [hC] at hT; exact rV.mk (upE rfl (mTok_eq (g := ua (ua (ua (ua (V 308) 7 k) 8 k) 7 (k + 1)) 9 (tb (V 312) (V 308 4) k)) (show k + 1 = _ from by rw [hX, hpl]) (show k = _ from hpl.symm) (show tb (V 312) (V 308 4) k = _ from by rw [hT]; first | exact (if_pos (by omega)).symm | exact (if_neg (by omega)).symm) (show V 308 10 = _ from (if_neg (by rw [hT]; split <;> omega)).symm) (show V 308 11 = _ from (if_neg (by rw [hT]; split <;> omega)).symm) (fun z z7 z8 z9 z10 z11 => by simp only [ua]; repeat rw [if_neg (by assumption)])).symm)) dX11_nextToken_390
                      · -- 349 ne -> 352
                        refine x_al0 dX11_nextToken_352 ?_
                        refine x_al0 dX11_nextToken_353 ?_
                        refine x_getI fl_X11_120 (sh_308 hS) (lq_308 hS) dX11_nextToken_354 ?_
                        refine x_topI (a' := k + 1) (show (ua (ua (ua (ua (V 308) 7 k) 8 k) 7 (k + 1)) 9 (tb (V 312) (V 308 4) k)) 7 = k + 1 from ((ua_ne (by decide)).trans (ua_same _ _ _))) ?_
                        refine x_cVi mm_X11_byteAt ml_X11_123 dX11_nextToken_357 (c_X11_byteAt2 (k + 1) hS (show 0 ≤ (V 308 4) ∧ (V 308 4) ≤ 300 from hT) (by omega)) (sh_308 hS) (lq_308 hS) ?_
                        refine x_topI (a' := tb (V 312) (V 308 4) (k + 1)) rfl ?_
                        refine x_bipush dX11_nextToken_360 ?_
                        refine x_icmp_ne (tgt := 390) dX11_nextToken_362 (inr (by omega)) (inr (by decide)) (fun c362_12 => ?_) (fun c362_12 => ?_)
                        · -- 362 ne -> 390
                          exact x_vret hQ (by have hd1 : ¬ isDg (tC (V 312) (V 308 4) (V 308 7)) := (by rw [hC]; assumption); have hd2 : ¬ isLt (tC (V 312) (V 308 4) (V 308 7)) := (by rw [hC]; assumption); have hd3 : ¬ tTwo (V 312) (V 308 4) (V 308 7) := (by intro z; rcases z with ⟨z1, z2⟩; rw [hC] at z1; rw [hpl] at z2; omega); have hd0 : 0 ≤ tC (V 312) (V 308 4) (V 308 7) := (by rw [hC]; omega); have hT := tTok_3 hd0 hd1 hd2 hd3; have hX := tNx_3 hd0 hd1 hd2 hd3; rw [hC] at hT; exact rV.mk (upE rfl (mTok_eq (g := ua (ua (ua (ua (V 308) 7 k) 8 k) 7 (k + 1)) 9 (tb (V 312) (V 308 4) k)) (show k + 1 = _ from by rw [hX, hpl]) (show k = _ from hpl.symm) (show tb (V 312) (V 308 4) k = _ from by rw [hT]; first | exact (if_pos (by omega)).symm | exact (if_neg (by omega)).symm) (show V 308 10 = _ from (if_neg (by rw [hT]; split <;> omega)).symm) (show V 308 11 = _ from (if_neg (by rw [hT]; split <;> omega)).symm) (fun z z7 z8 z9 z10 z11 => by simp only [ua]; repeat rw [if_neg (by assumption)])).symm)) dX11_nextToken_390
                        · -- 362 ne -> 365
                          refine x_al0 dX11_nextToken_365 ?_
                          refine x_dup dX11_nextToken_366 ?_
                          refine x_getI fl_X11_120 (sh_308 hS) (lq_308 hS) dX11_nextToken_367 ?_
                          refine x_topI (a' := k + 1) (show (ua (ua (ua (ua (V 308) 7 k) 8 k) 7 (k + 1)) 9 (tb (V 312) (V 308 4) k)) 7 = k + 1 from ((ua_ne (by decide)).trans (ua_same _ _ _))) ?_
                          refine x_iconst dX11_nextToken_370 ?_
                          refine x_iadd dX11_nextToken_371 ?_
                          refine x_putI fl_X11_120 (sh_308 hS) (lq_308 hS) dX11_nextToken_372 ?_
                          refine x_mem (V' := (up V 308 (ua (ua (ua (ua (ua (V 308) 7 k) 8 k) 7 (k + 1)) 9 (tb (V 312) (V 308 4) k)) 7 ((k + 1) + 1)))) (st2_up _ _ _ _ _) ?_
                          refine x_al0 dX11_nextToken_375 ?_
                          refine x_il1 dX11_nextToken_376 ?_
                          refine x_bipush dX11_nextToken_377 ?_
                          refine x_icmp_ne (tgt := 386) dX11_nextToken_379 (inr (by omega)) (inr (by decide)) (fun c379_13 => ?_) (fun c379_13 => ?_)
                          · -- 379 ne -> 386
                            refine x_iconst dX11_nextToken_386 ?_
                            refine x_putI fl_X11_129 (sh_308 hS) (lq_308 hS) dX11_nextToken_387 ?_
                            refine x_mem (V' := (up V 308 (ua (ua (ua (ua (ua (ua (V 308) 7 k) 8 k) 7 (k + 1)) 9 (tb (V 312) (V 308 4) k)) 7 ((k + 1) + 1)) 9 5))) (st2_up _ _ _ _ _) ?_
                            exact x_vret hQ (by have hd : tTwo (V 312) (V 308 4) (V 308 7) := ⟨by rw [hC]; omega, by rw [hpl]; omega⟩; have hT := tTok_4 hd; have hX := tNx_4 hd; exact rV.mk (upE rfl (mTok_eq (g := ua (ua (ua (ua (ua (ua (V 308) 7 k) 8 k) 7 (k + 1)) 9 (tb (V 312) (V 308 4) k)) 7 ((k + 1) + 1)) 9 5) (show (k + 1) + 1 = _ from by rw [hX, hpl]) (show k = _ from hpl.symm) (show 5 = _ from by rw [hT, hC]; first | exact (if_pos (by omega)).symm | exact (if_neg (by omega)).symm) (show V 308 10 = _ from (if_neg (by rw [hT]; split <;> omega)).symm) (show V 308 11 = _ from (if_neg (by rw [hT]; split <;> omega)).symm) (fun z z7 z8 z9 z10 z11 => by simp only [ua]; repeat rw [if_neg (by assumption)])).symm)) dX11_nextToken_390
                          · -- 379 ne -> 382
                            refine x_iconst dX11_nextToken_382 ?_
                            refine x_goto (tgt := 387) dX11_nextToken_383 ?_
                            refine x_putI fl_X11_129 (sh_308 hS) (lq_308 hS) dX11_nextToken_387 ?_
                            refine x_mem (V' := (up V 308 (ua (ua (ua (ua (ua (ua (V 308) 7 k) 8 k) 7 (k + 1)) 9 (tb (V 312) (V 308 4) k)) 7 ((k + 1) + 1)) 9 4))) (st2_up _ _ _ _ _) ?_
                            exact x_vret hQ (by have hd : tTwo (V 312) (V 308 4) (V 308 7) := ⟨by rw [hC]; omega, by rw [hpl]; omega⟩; have hT := tTok_4 hd; have hX := tNx_4 hd; exact rV.mk (upE rfl (mTok_eq (g := ua (ua (ua (ua (ua (ua (V 308) 7 k) 8 k) 7 (k + 1)) 9 (tb (V 312) (V 308 4) k)) 7 ((k + 1) + 1)) 9 4) (show (k + 1) + 1 = _ from by rw [hX, hpl]) (show k = _ from hpl.symm) (show 4 = _ from by rw [hT, hC]; first | exact (if_pos (by omega)).symm | exact (if_neg (by omega)).symm) (show V 308 10 = _ from (if_neg (by rw [hT]; split <;> omega)).symm) (show V 308 11 = _ from (if_neg (by rw [hT]; split <;> omega)).symm) (fun z z7 z8 z9 z10 z11 => by simp only [ua]; repeat rw [if_neg (by assumption)])).symm)) dX11_nextToken_390
                · -- 258 eq -> 261
                  refine x_il1 dX11_nextToken_261 ?_
                  refine x_bipush dX11_nextToken_262 ?_
                  refine x_icmp_eq (tgt := 321) dX11_nextToken_264 (inr (by omega)) (inr (by decide)) (fun c264_14 => ?_) (fun c264_14 => ?_)
                  · -- 264 eq -> 321
                    refine x_iconst dX11_nextToken_321 ?_
                    refine x_goto (tgt := 326) dX11_nextToken_322 ?_
                    refine x_is2 dX11_nextToken_326 ?_
                    refine x_al0 dX11_nextToken_327 ?_
                    refine x_il2 dX11_nextToken_328 ?_
                    refine x_if_eq (tgt := 336) dX11_nextToken_329 (inr (by decide)) (fun c329_15 => ?_) (fun c329_15 => ?_)
                    · exact absurd c329_15 (by decide)
                    · -- 329 eq -> 332
                      refine x_il1 dX11_nextToken_332 ?_
                      refine x_goto (tgt := 337) dX11_nextToken_333 ?_
                      refine x_putI fl_X11_129 (sh_308 hS) (lq_308 hS) dX11_nextToken_337 ?_
                      refine x_mem (V' := (up V 308 (ua (ua (ua (ua (V 308) 7 k) 8 k) 7 (k + 1)) 9 (tb (V 312) (V 308 4) k)))) (st2_up _ _ _ _ _) ?_
                      refine x_il1 dX11_nextToken_340 ?_
                      refine x_bipush dX11_nextToken_341 ?_
                      refine x_icmp_eq (tgt := 352) dX11_nextToken_343 (inr (by omega)) (inr (by decide)) (fun c343_16 => ?_) (fun c343_16 => ?_)
                      · -- 343 eq -> 352
                        refine x_al0 dX11_nextToken_352 ?_
                        refine x_al0 dX11_nextToken_353 ?_
                        refine x_getI fl_X11_120 (sh_308 hS) (lq_308 hS) dX11_nextToken_354 ?_
                        refine x_topI (a' := k + 1) (show (ua (ua (ua (ua (V 308) 7 k) 8 k) 7 (k + 1)) 9 (tb (V 312) (V 308 4) k)) 7 = k + 1 from ((ua_ne (by decide)).trans (ua_same _ _ _))) ?_
                        refine x_cVi mm_X11_byteAt ml_X11_123 dX11_nextToken_357 (c_X11_byteAt2 (k + 1) hS (show 0 ≤ (V 308 4) ∧ (V 308 4) ≤ 300 from hT) (by omega)) (sh_308 hS) (lq_308 hS) ?_
                        refine x_topI (a' := tb (V 312) (V 308 4) (k + 1)) rfl ?_
                        refine x_bipush dX11_nextToken_360 ?_
                        refine x_icmp_ne (tgt := 390) dX11_nextToken_362 (inr (by omega)) (inr (by decide)) (fun c362_17 => ?_) (fun c362_17 => ?_)
                        · -- 362 ne -> 390
                          exact x_vret hQ (by have hd1 : ¬ isDg (tC (V 312) (V 308 4) (V 308 7)) := (by rw [hC]; assumption); have hd2 : ¬ isLt (tC (V 312) (V 308 4) (V 308 7)) := (by rw [hC]; assumption); have hd3 : ¬ tTwo (V 312) (V 308 4) (V 308 7) := (by intro z; rcases z with ⟨z1, z2⟩; rw [hC] at z1; rw [hpl] at z2; omega); have hd0 : 0 ≤ tC (V 312) (V 308 4) (V 308 7) := (by rw [hC]; omega); have hT := tTok_3 hd0 hd1 hd2 hd3; have hX := tNx_3 hd0 hd1 hd2 hd3; rw [hC] at hT; exact rV.mk (upE rfl (mTok_eq (g := ua (ua (ua (ua (V 308) 7 k) 8 k) 7 (k + 1)) 9 (tb (V 312) (V 308 4) k)) (show k + 1 = _ from by rw [hX, hpl]) (show k = _ from hpl.symm) (show tb (V 312) (V 308 4) k = _ from by rw [hT]; first | exact (if_pos (by omega)).symm | exact (if_neg (by omega)).symm) (show V 308 10 = _ from (if_neg (by rw [hT]; split <;> omega)).symm) (show V 308 11 = _ from (if_neg (by rw [hT]; split <;> omega)).symm) (fun z z7 z8 z9 z10 z11 => by simp only [ua]; repeat rw [if_neg (by assumption)])).symm)) dX11_nextToken_390
                        · -- 362 ne -> 365
                          refine x_al0 dX11_nextToken_365 ?_
                          refine x_dup dX11_nextToken_366 ?_
                          refine x_getI fl_X11_120 (sh_308 hS) (lq_308 hS) dX11_nextToken_367 ?_
                          refine x_topI (a' := k + 1) (show (ua (ua (ua (ua (V 308) 7 k) 8 k) 7 (k + 1)) 9 (tb (V 312) (V 308 4) k)) 7 = k + 1 from ((ua_ne (by decide)).trans (ua_same _ _ _))) ?_
                          refine x_iconst dX11_nextToken_370 ?_
                          refine x_iadd dX11_nextToken_371 ?_
                          refine x_putI fl_X11_120 (sh_308 hS) (lq_308 hS) dX11_nextToken_372 ?_
                          refine x_mem (V' := (up V 308 (ua (ua (ua (ua (ua (V 308) 7 k) 8 k) 7 (k + 1)) 9 (tb (V 312) (V 308 4) k)) 7 ((k + 1) + 1)))) (st2_up _ _ _ _ _) ?_
                          refine x_al0 dX11_nextToken_375 ?_
                          refine x_il1 dX11_nextToken_376 ?_
                          refine x_bipush dX11_nextToken_377 ?_
                          refine x_icmp_ne (tgt := 386) dX11_nextToken_379 (inr (by omega)) (inr (by decide)) (fun c379_18 => ?_) (fun c379_18 => ?_)
                          · -- 379 ne -> 386
                            refine x_iconst dX11_nextToken_386 ?_
                            refine x_putI fl_X11_129 (sh_308 hS) (lq_308 hS) dX11_nextToken_387 ?_
                            refine x_mem (V' := (up V 308 (ua (ua (ua (ua (ua (ua (V 308) 7 k) 8 k) 7 (k + 1)) 9 (tb (V 312) (V 308 4) k)) 7 ((k + 1) + 1)) 9 5))) (st2_up _ _ _ _ _) ?_
                            exact x_vret hQ (by have hd : tTwo (V 312) (V 308 4) (V 308 7) := ⟨by rw [hC]; omega, by rw [hpl]; omega⟩; have hT := tTok_4 hd; have hX := tNx_4 hd; exact rV.mk (upE rfl (mTok_eq (g := ua (ua (ua (ua (ua (ua (V 308) 7 k) 8 k) 7 (k + 1)) 9 (tb (V 312) (V 308 4) k)) 7 ((k + 1) + 1)) 9 5) (show (k + 1) + 1 = _ from by rw [hX, hpl]) (show k = _ from hpl.symm) (show 5 = _ from by rw [hT, hC]; first | exact (if_pos (by omega)).symm | exact (if_neg (by omega)).symm) (show V 308 10 = _ from (if_neg (by rw [hT]; split <;> omega)).symm) (show V 308 11 = _ from (if_neg (by rw [hT]; split <;> omega)).symm) (fun z z7 z8 z9 z10 z11 => by simp only [ua]; repeat rw [if_neg (by assumption)])).symm)) dX11_nextToken_390
                          · -- 379 ne -> 382
                            refine x_iconst dX11_nextToken_382 ?_
                            refine x_goto (tgt := 387) dX11_nextToken_383 ?_
                            refine x_putI fl_X11_129 (sh_308 hS) (lq_308 hS) dX11_nextToken_387 ?_
                            refine x_mem (V' := (up V 308 (ua (ua (ua (ua (ua (ua (V 308) 7 k) 8 k) 7 (k + 1)) 9 (tb (V 312) (V 308 4) k)) 7 ((k + 1) + 1)) 9 4))) (st2_up _ _ _ _ _) ?_
                            exact x_vret hQ (by have hd : tTwo (V 312) (V 308 4) (V 308 7) := ⟨by rw [hC]; omega, by rw [hpl]; omega⟩; have hT := tTok_4 hd; have hX := tNx_4 hd; exact rV.mk (upE rfl (mTok_eq (g := ua (ua (ua (ua (ua (ua (V 308) 7 k) 8 k) 7 (k + 1)) 9 (tb (V 312) (V 308 4) k)) 7 ((k + 1) + 1)) 9 4) (show (k + 1) + 1 = _ from by rw [hX, hpl]) (show k = _ from hpl.symm) (show 4 = _ from by rw [hT, hC]; first | exact (if_pos (by omega)).symm | exact (if_neg (by omega)).symm) (show V 308 10 = _ from (if_neg (by rw [hT]; split <;> omega)).symm) (show V 308 11 = _ from (if_neg (by rw [hT]; split <;> omega)).symm) (fun z z7 z8 z9 z10 z11 => by simp only [ua]; repeat rw [if_neg (by assumption)])).symm)) dX11_nextToken_390
                      · -- 343 eq -> 346
                        refine x_il1 dX11_nextToken_346 ?_
                        refine x_bipush dX11_nextToken_347 ?_
                        refine x_icmp_ne (tgt := 390) dX11_nextToken_349 (inr (by omega)) (inr (by decide)) (fun c349_19 => ?_) (fun c349_19 => ?_)
                        · -- 349 ne -> 390
                          exact x_vret hQ (by have hd1 : ¬ isDg (tC (V 312) (V 308 4) (V 308 7)) := (by rw [hC]; assumption); have hd2 : ¬ isLt (tC (V 312) (V 308 4) (V 308 7)) := (by rw [hC]; assumption); have hd3 : ¬ tTwo (V 312) (V 308 4) (V 308 7) := (by intro z; rcases z with ⟨z1, z2⟩; rw [hC] at z1; rw [hpl] at z2; omega); have hd0 : 0 ≤ tC (V 312) (V 308 4) (V 308 7) := (by rw [hC]; omega); have hT := tTok_3 hd0 hd1 hd2 hd3; have hX := tNx_3 hd0 hd1 hd2 hd3; rw [hC] at hT; exact rV.mk (upE rfl (mTok_eq (g := ua (ua (ua (ua (V 308) 7 k) 8 k) 7 (k + 1)) 9 (tb (V 312) (V 308 4) k)) (show k + 1 = _ from by rw [hX, hpl]) (show k = _ from hpl.symm) (show tb (V 312) (V 308 4) k = _ from by rw [hT]; first | exact (if_pos (by omega)).symm | exact (if_neg (by omega)).symm) (show V 308 10 = _ from (if_neg (by rw [hT]; split <;> omega)).symm) (show V 308 11 = _ from (if_neg (by rw [hT]; split <;> omega)).symm) (fun z z7 z8 z9 z10 z11 => by simp only [ua]; repeat rw [if_neg (by assumption)])).symm)) dX11_nextToken_390
                        · -- 349 ne -> 352
                          refine x_al0 dX11_nextToken_352 ?_
                          refine x_al0 dX11_nextToken_353 ?_
                          refine x_getI fl_X11_120 (sh_308 hS) (lq_308 hS) dX11_nextToken_354 ?_
                          refine x_topI (a' := k + 1) (show (ua (ua (ua (ua (V 308) 7 k) 8 k) 7 (k + 1)) 9 (tb (V 312) (V 308 4) k)) 7 = k + 1 from ((ua_ne (by decide)).trans (ua_same _ _ _))) ?_
                          refine x_cVi mm_X11_byteAt ml_X11_123 dX11_nextToken_357 (c_X11_byteAt2 (k + 1) hS (show 0 ≤ (V 308 4) ∧ (V 308 4) ≤ 300 from hT) (by omega)) (sh_308 hS) (lq_308 hS) ?_
                          refine x_topI (a' := tb (V 312) (V 308 4) (k + 1)) rfl ?_
                          refine x_bipush dX11_nextToken_360 ?_
                          refine x_icmp_ne (tgt := 390) dX11_nextToken_362 (inr (by omega)) (inr (by decide)) (fun c362_20 => ?_) (fun c362_20 => ?_)
                          · -- 362 ne -> 390
                            exact x_vret hQ (by have hd1 : ¬ isDg (tC (V 312) (V 308 4) (V 308 7)) := (by rw [hC]; assumption); have hd2 : ¬ isLt (tC (V 312) (V 308 4) (V 308 7)) := (by rw [hC]; assumption); have hd3 : ¬ tTwo (V 312) (V 308 4) (V 308 7) := (by intro z; rcases z with ⟨z1, z2⟩; rw [hC] at z1; rw [hpl] at z2; omega); have hd0 : 0 ≤ tC (V 312) (V 308 4) (V 308 7) := (by rw [hC]; omega); have hT := tTok_3 hd0 hd1 hd2 hd3; have hX := tNx_3 hd0 hd1 hd2 hd3; rw [hC] at hT; exact rV.mk (upE rfl (mTok_eq (g := ua (ua (ua (ua (V 308) 7 k) 8 k) 7 (k + 1)) 9 (tb (V 312) (V 308 4) k)) (show k + 1 = _ from by rw [hX, hpl]) (show k = _ from hpl.symm) (show tb (V 312) (V 308 4) k = _ from by rw [hT]; first | exact (if_pos (by omega)).symm | exact (if_neg (by omega)).symm) (show V 308 10 = _ from (if_neg (by rw [hT]; split <;> omega)).symm) (show V 308 11 = _ from (if_neg (by rw [hT]; split <;> omega)).symm) (fun z z7 z8 z9 z10 z11 => by simp only [ua]; repeat rw [if_neg (by assumption)])).symm)) dX11_nextToken_390
                          · -- 362 ne -> 365
                            refine x_al0 dX11_nextToken_365 ?_
                            refine x_dup dX11_nextToken_366 ?_
                            refine x_getI fl_X11_120 (sh_308 hS) (lq_308 hS) dX11_nextToken_367 ?_
                            refine x_topI (a' := k + 1) (show (ua (ua (ua (ua (V 308) 7 k) 8 k) 7 (k + 1)) 9 (tb (V 312) (V 308 4) k)) 7 = k + 1 from ((ua_ne (by decide)).trans (ua_same _ _ _))) ?_
                            refine x_iconst dX11_nextToken_370 ?_
                            refine x_iadd dX11_nextToken_371 ?_
                            refine x_putI fl_X11_120 (sh_308 hS) (lq_308 hS) dX11_nextToken_372 ?_
                            refine x_mem (V' := (up V 308 (ua (ua (ua (ua (ua (V 308) 7 k) 8 k) 7 (k + 1)) 9 (tb (V 312) (V 308 4) k)) 7 ((k + 1) + 1)))) (st2_up _ _ _ _ _) ?_
                            refine x_al0 dX11_nextToken_375 ?_
                            refine x_il1 dX11_nextToken_376 ?_
                            refine x_bipush dX11_nextToken_377 ?_
                            refine x_icmp_ne (tgt := 386) dX11_nextToken_379 (inr (by omega)) (inr (by decide)) (fun c379_21 => ?_) (fun c379_21 => ?_)
                            · -- 379 ne -> 386
                              refine x_iconst dX11_nextToken_386 ?_
                              refine x_putI fl_X11_129 (sh_308 hS) (lq_308 hS) dX11_nextToken_387 ?_
                              refine x_mem (V' := (up V 308 (ua (ua (ua (ua (ua (ua (V 308) 7 k) 8 k) 7 (k + 1)) 9 (tb (V 312) (V 308 4) k)) 7 ((k + 1) + 1)) 9 5))) (st2_up _ _ _ _ _) ?_
                              exact x_vret hQ (by have hd : tTwo (V 312) (V 308 4) (V 308 7) := ⟨by rw [hC]; omega, by rw [hpl]; omega⟩; have hT := tTok_4 hd; have hX := tNx_4 hd; exact rV.mk (upE rfl (mTok_eq (g := ua (ua (ua (ua (ua (ua (V 308) 7 k) 8 k) 7 (k + 1)) 9 (tb (V 312) (V 308 4) k)) 7 ((k + 1) + 1)) 9 5) (show (k + 1) + 1 = _ from by rw [hX, hpl]) (show k = _ from hpl.symm) (show 5 = _ from by rw [hT, hC]; first | exact (if_pos (by omega)).symm | exact (if_neg (by omega)).symm) (show V 308 10 = _ from (if_neg (by rw [hT]; split <;> omega)).symm) (show V 308 11 = _ from (if_neg (by rw [hT]; split <;> omega)).symm) (fun z z7 z8 z9 z10 z11 => by simp only [ua]; repeat rw [if_neg (by assumption)])).symm)) dX11_nextToken_390
                            · -- 379 ne -> 382
                              refine x_iconst dX11_nextToken_382 ?_
                              refine x_goto (tgt := 387) dX11_nextToken_383 ?_
                              refine x_putI fl_X11_129 (sh_308 hS) (lq_308 hS) dX11_nextToken_387 ?_
                              refine x_mem (V' := (up V 308 (ua (ua (ua (ua (ua (ua (V 308) 7 k) 8 k) 7 (k + 1)) 9 (tb (V 312) (V 308 4) k)) 7 ((k + 1) + 1)) 9 4))) (st2_up _ _ _ _ _) ?_
                              exact x_vret hQ (by have hd : tTwo (V 312) (V 308 4) (V 308 7) := ⟨by rw [hC]; omega, by rw [hpl]; omega⟩; have hT := tTok_4 hd; have hX := tNx_4 hd; exact rV.mk (upE rfl (mTok_eq (g := ua (ua (ua (ua (ua (ua (V 308) 7 k) 8 k) 7 (k + 1)) 9 (tb (V 312) (V 308 4) k)) 7 ((k + 1) + 1)) 9 4) (show (k + 1) + 1 = _ from by rw [hX, hpl]) (show k = _ from hpl.symm) (show 4 = _ from by rw [hT, hC]; first | exact (if_pos (by omega)).symm | exact (if_neg (by omega)).symm) (show V 308 10 = _ from (if_neg (by rw [hT]; split <;> omega)).symm) (show V 308 11 = _ from (if_neg (by rw [hT]; split <;> omega)).symm) (fun z z7 z8 z9 z10 z11 => by simp only [ua]; repeat rw [if_neg (by assumption)])).symm)) dX11_nextToken_390
                  · -- 264 eq -> 267
                    refine x_il1 dX11_nextToken_267 ?_
                    refine x_bipush dX11_nextToken_268 ?_
                    refine x_icmp_eq (tgt := 321) dX11_nextToken_270 (inr (by omega)) (inr (by decide)) (fun c270_22 => ?_) (fun c270_22 => ?_)
                    · -- 270 eq -> 321
                      refine x_iconst dX11_nextToken_321 ?_
                      refine x_goto (tgt := 326) dX11_nextToken_322 ?_
                      refine x_is2 dX11_nextToken_326 ?_
                      refine x_al0 dX11_nextToken_327 ?_
                      refine x_il2 dX11_nextToken_328 ?_
                      refine x_if_eq (tgt := 336) dX11_nextToken_329 (inr (by decide)) (fun c329_23 => ?_) (fun c329_23 => ?_)
                      · exact absurd c329_23 (by decide)
                      · -- 329 eq -> 332
                        refine x_il1 dX11_nextToken_332 ?_
                        refine x_goto (tgt := 337) dX11_nextToken_333 ?_
                        refine x_putI fl_X11_129 (sh_308 hS) (lq_308 hS) dX11_nextToken_337 ?_
                        refine x_mem (V' := (up V 308 (ua (ua (ua (ua (V 308) 7 k) 8 k) 7 (k + 1)) 9 (tb (V 312) (V 308 4) k)))) (st2_up _ _ _ _ _) ?_
                        refine x_il1 dX11_nextToken_340 ?_
                        refine x_bipush dX11_nextToken_341 ?_
                        refine x_icmp_eq (tgt := 352) dX11_nextToken_343 (inr (by omega)) (inr (by decide)) (fun c343_24 => ?_) (fun c343_24 => ?_)
                        · -- 343 eq -> 352
                          refine x_al0 dX11_nextToken_352 ?_
                          refine x_al0 dX11_nextToken_353 ?_
                          refine x_getI fl_X11_120 (sh_308 hS) (lq_308 hS) dX11_nextToken_354 ?_
                          refine x_topI (a' := k + 1) (show (ua (ua (ua (ua (V 308) 7 k) 8 k) 7 (k + 1)) 9 (tb (V 312) (V 308 4) k)) 7 = k + 1 from ((ua_ne (by decide)).trans (ua_same _ _ _))) ?_
                          refine x_cVi mm_X11_byteAt ml_X11_123 dX11_nextToken_357 (c_X11_byteAt2 (k + 1) hS (show 0 ≤ (V 308 4) ∧ (V 308 4) ≤ 300 from hT) (by omega)) (sh_308 hS) (lq_308 hS) ?_
                          refine x_topI (a' := tb (V 312) (V 308 4) (k + 1)) rfl ?_
                          refine x_bipush dX11_nextToken_360 ?_
                          refine x_icmp_ne (tgt := 390) dX11_nextToken_362 (inr (by omega)) (inr (by decide)) (fun c362_25 => ?_) (fun c362_25 => ?_)
                          · -- 362 ne -> 390
                            exact x_vret hQ (by have hd1 : ¬ isDg (tC (V 312) (V 308 4) (V 308 7)) := (by rw [hC]; assumption); have hd2 : ¬ isLt (tC (V 312) (V 308 4) (V 308 7)) := (by rw [hC]; assumption); have hd3 : ¬ tTwo (V 312) (V 308 4) (V 308 7) := (by intro z; rcases z with ⟨z1, z2⟩; rw [hC] at z1; rw [hpl] at z2; omega); have hd0 : 0 ≤ tC (V 312) (V 308 4) (V 308 7) := (by rw [hC]; omega); have hT := tTok_3 hd0 hd1 hd2 hd3; have hX := tNx_3 hd0 hd1 hd2 hd3; rw [hC] at hT; exact rV.mk (upE rfl (mTok_eq (g := ua (ua (ua (ua (V 308) 7 k) 8 k) 7 (k + 1)) 9 (tb (V 312) (V 308 4) k)) (show k + 1 = _ from by rw [hX, hpl]) (show k = _ from hpl.symm) (show tb (V 312) (V 308 4) k = _ from by rw [hT]; first | exact (if_pos (by omega)).symm | exact (if_neg (by omega)).symm) (show V 308 10 = _ from (if_neg (by rw [hT]; split <;> omega)).symm) (show V 308 11 = _ from (if_neg (by rw [hT]; split <;> omega)).symm) (fun z z7 z8 z9 z10 z11 => by simp only [ua]; repeat rw [if_neg (by assumption)])).symm)) dX11_nextToken_390
                          · -- 362 ne -> 365
                            refine x_al0 dX11_nextToken_365 ?_
                            refine x_dup dX11_nextToken_366 ?_
                            refine x_getI fl_X11_120 (sh_308 hS) (lq_308 hS) dX11_nextToken_367 ?_
                            refine x_topI (a' := k + 1) (show (ua (ua (ua (ua (V 308) 7 k) 8 k) 7 (k + 1)) 9 (tb (V 312) (V 308 4) k)) 7 = k + 1 from ((ua_ne (by decide)).trans (ua_same _ _ _))) ?_
                            refine x_iconst dX11_nextToken_370 ?_
                            refine x_iadd dX11_nextToken_371 ?_
                            refine x_putI fl_X11_120 (sh_308 hS) (lq_308 hS) dX11_nextToken_372 ?_
                            refine x_mem (V' := (up V 308 (ua (ua (ua (ua (ua (V 308) 7 k) 8 k) 7 (k + 1)) 9 (tb (V 312) (V 308 4) k)) 7 ((k + 1) + 1)))) (st2_up _ _ _ _ _) ?_
                            refine x_al0 dX11_nextToken_375 ?_
                            refine x_il1 dX11_nextToken_376 ?_
                            refine x_bipush dX11_nextToken_377 ?_
                            refine x_icmp_ne (tgt := 386) dX11_nextToken_379 (inr (by omega)) (inr (by decide)) (fun c379_26 => ?_) (fun c379_26 => ?_)
                            · -- 379 ne -> 386
                              refine x_iconst dX11_nextToken_386 ?_
                              refine x_putI fl_X11_129 (sh_308 hS) (lq_308 hS) dX11_nextToken_387 ?_
                              refine x_mem (V' := (up V 308 (ua (ua (ua (ua (ua (ua (V 308) 7 k) 8 k) 7 (k + 1)) 9 (tb (V 312) (V 308 4) k)) 7 ((k + 1) + 1)) 9 5))) (st2_up _ _ _ _ _) ?_
                              exact x_vret hQ (by have hd : tTwo (V 312) (V 308 4) (V 308 7) := ⟨by rw [hC]; omega, by rw [hpl]; omega⟩; have hT := tTok_4 hd; have hX := tNx_4 hd; exact rV.mk (upE rfl (mTok_eq (g := ua (ua (ua (ua (ua (ua (V 308) 7 k) 8 k) 7 (k + 1)) 9 (tb (V 312) (V 308 4) k)) 7 ((k + 1) + 1)) 9 5) (show (k + 1) + 1 = _ from by rw [hX, hpl]) (show k = _ from hpl.symm) (show 5 = _ from by rw [hT, hC]; first | exact (if_pos (by omega)).symm | exact (if_neg (by omega)).symm) (show V 308 10 = _ from (if_neg (by rw [hT]; split <;> omega)).symm) (show V 308 11 = _ from (if_neg (by rw [hT]; split <;> omega)).symm) (fun z z7 z8 z9 z10 z11 => by simp only [ua]; repeat rw [if_neg (by assumption)])).symm)) dX11_nextToken_390
                            · -- 379 ne -> 382
                              refine x_iconst dX11_nextToken_382 ?_
                              refine x_goto (tgt := 387) dX11_nextToken_383 ?_
                              refine x_putI fl_X11_129 (sh_308 hS) (lq_308 hS) dX11_nextToken_387 ?_
                              refine x_mem (V' := (up V 308 (ua (ua (ua (ua (ua (ua (V 308) 7 k) 8 k) 7 (k + 1)) 9 (tb (V 312) (V 308 4) k)) 7 ((k + 1) + 1)) 9 4))) (st2_up _ _ _ _ _) ?_
                              exact x_vret hQ (by have hd : tTwo (V 312) (V 308 4) (V 308 7) := ⟨by rw [hC]; omega, by rw [hpl]; omega⟩; have hT := tTok_4 hd; have hX := tNx_4 hd; exact rV.mk (upE rfl (mTok_eq (g := ua (ua (ua (ua (ua (ua (V 308) 7 k) 8 k) 7 (k + 1)) 9 (tb (V 312) (V 308 4) k)) 7 ((k + 1) + 1)) 9 4) (show (k + 1) + 1 = _ from by rw [hX, hpl]) (show k = _ from hpl.symm) (show 4 = _ from by rw [hT, hC]; first | exact (if_pos (by omega)).symm | exact (if_neg (by omega)).symm) (show V 308 10 = _ from (if_neg (by rw [hT]; split <;> omega)).symm) (show V 308 11 = _ from (if_neg (by rw [hT]; split <;> omega)).symm) (fun z z7 z8 z9 z10 z11 => by simp only [ua]; repeat rw [if_neg (by assumption)])).symm)) dX11_nextToken_390
                        · -- 343 eq -> 346
                          refine x_il1 dX11_nextToken_346 ?_
                          refine x_bipush dX11_nextToken_347 ?_
                          refine x_icmp_ne (tgt := 390) dX11_nextToken_349 (inr (by omega)) (inr (by decide)) (fun c349_27 => ?_) (fun c349_27 => ?_)
                          · -- 349 ne -> 390
                            exact x_vret hQ (by have hd1 : ¬ isDg (tC (V 312) (V 308 4) (V 308 7)) := (by rw [hC]; assumption); have hd2 : ¬ isLt (tC (V 312) (V 308 4) (V 308 7)) := (by rw [hC]; assumption); have hd3 : ¬ tTwo (V 312) (V 308 4) (V 308 7) := (by intro z; rcases z with ⟨z1, z2⟩; rw [hC] at z1; rw [hpl] at z2; omega); have hd0 : 0 ≤ tC (V 312) (V 308 4) (V 308 7) := (by rw [hC]; omega); have hT := tTok_3 hd0 hd1 hd2 hd3; have hX := tNx_3 hd0 hd1 hd2 hd3; rw [hC] at hT; exact rV.mk (upE rfl (mTok_eq (g := ua (ua (ua (ua (V 308) 7 k) 8 k) 7 (k + 1)) 9 (tb (V 312) (V 308 4) k)) (show k + 1 = _ from by rw [hX, hpl]) (show k = _ from hpl.symm) (show tb (V 312) (V 308 4) k = _ from by rw [hT]; first | exact (if_pos (by omega)).symm | exact (if_neg (by omega)).symm) (show V 308 10 = _ from (if_neg (by rw [hT]; split <;> omega)).symm) (show V 308 11 = _ from (if_neg (by rw [hT]; split <;> omega)).symm) (fun z z7 z8 z9 z10 z11 => by simp only [ua]; repeat rw [if_neg (by assumption)])).symm)) dX11_nextToken_390
                          · -- 349 ne -> 352
                            refine x_al0 dX11_nextToken_352 ?_
                            refine x_al0 dX11_nextToken_353 ?_
                            refine x_getI fl_X11_120 (sh_308 hS) (lq_308 hS) dX11_nextToken_354 ?_
                            refine x_topI (a' := k + 1) (show (ua (ua (ua (ua (V 308) 7 k) 8 k) 7 (k + 1)) 9 (tb (V 312) (V 308 4) k)) 7 = k + 1 from ((ua_ne (by decide)).trans (ua_same _ _ _))) ?_
                            refine x_cVi mm_X11_byteAt ml_X11_123 dX11_nextToken_357 (c_X11_byteAt2 (k + 1) hS (show 0 ≤ (V 308 4) ∧ (V 308 4) ≤ 300 from hT) (by omega)) (sh_308 hS) (lq_308 hS) ?_
                            refine x_topI (a' := tb (V 312) (V 308 4) (k + 1)) rfl ?_
                            refine x_bipush dX11_nextToken_360 ?_
                            refine x_icmp_ne (tgt := 390) dX11_nextToken_362 (inr (by omega)) (inr (by decide)) (fun c362_28 => ?_) (fun c362_28 => ?_)
                            · -- 362 ne -> 390
                              exact x_vret hQ (by have hd1 : ¬ isDg (tC (V 312) (V 308 4) (V 308 7)) := (by rw [hC]; assumption); have hd2 : ¬ isLt (tC (V 312) (V 308 4) (V 308 7)) := (by rw [hC]; assumption); have hd3 : ¬ tTwo (V 312) (V 308 4) (V 308 7) := (by intro z; rcases z with ⟨z1, z2⟩; rw [hC] at z1; rw [hpl] at z2; omega); have hd0 : 0 ≤ tC (V 312) (V 308 4) (V 308 7) := (by rw [hC]; omega); have hT := tTok_3 hd0 hd1 hd2 hd3; have hX := tNx_3 hd0 hd1 hd2 hd3; rw [hC] at hT; exact rV.mk (upE rfl (mTok_eq (g := ua (ua (ua (ua (V 308) 7 k) 8 k) 7 (k + 1)) 9 (tb (V 312) (V 308 4) k)) (show k + 1 = _ from by rw [hX, hpl]) (show k = _ from hpl.symm) (show tb (V 312) (V 308 4) k = _ from by rw [hT]; first | exact (if_pos (by omega)).symm | exact (if_neg (by omega)).symm) (show V 308 10 = _ from (if_neg (by rw [hT]; split <;> omega)).symm) (show V 308 11 = _ from (if_neg (by rw [hT]; split <;> omega)).symm) (fun z z7 z8 z9 z10 z11 => by simp only [ua]; repeat rw [if_neg (by assumption)])).symm)) dX11_nextToken_390
                            · -- 362 ne -> 365
                              refine x_al0 dX11_nextToken_365 ?_
                              refine x_dup dX11_nextToken_366 ?_
                              refine x_getI fl_X11_120 (sh_308 hS) (lq_308 hS) dX11_nextToken_367 ?_
                              refine x_topI (a' := k + 1) (show (ua (ua (ua (ua (V 308) 7 k) 8 k) 7 (k + 1)) 9 (tb (V 312) (V 308 4) k)) 7 = k + 1 from ((ua_ne (by decide)).trans (ua_same _ _ _))) ?_
                              refine x_iconst dX11_nextToken_370 ?_
                              refine x_iadd dX11_nextToken_371 ?_
                              refine x_putI fl_X11_120 (sh_308 hS) (lq_308 hS) dX11_nextToken_372 ?_
                              refine x_mem (V' := (up V 308 (ua (ua (ua (ua (ua (V 308) 7 k) 8 k) 7 (k + 1)) 9 (tb (V 312) (V 308 4) k)) 7 ((k + 1) + 1)))) (st2_up _ _ _ _ _) ?_
                              refine x_al0 dX11_nextToken_375 ?_
                              refine x_il1 dX11_nextToken_376 ?_
                              refine x_bipush dX11_nextToken_377 ?_
                              refine x_icmp_ne (tgt := 386) dX11_nextToken_379 (inr (by omega)) (inr (by decide)) (fun c379_29 => ?_) (fun c379_29 => ?_)
                              · -- 379 ne -> 386
                                refine x_iconst dX11_nextToken_386 ?_
                                refine x_putI fl_X11_129 (sh_308 hS) (lq_308 hS) dX11_nextToken_387 ?_
                                refine x_mem (V' := (up V 308 (ua (ua (ua (ua (ua (ua (V 308) 7 k) 8 k) 7 (k + 1)) 9 (tb (V 312) (V 308 4) k)) 7 ((k + 1) + 1)) 9 5))) (st2_up _ _ _ _ _) ?_
                                exact x_vret hQ (by have hd : tTwo (V 312) (V 308 4) (V 308 7) := ⟨by rw [hC]; omega, by rw [hpl]; omega⟩; have hT := tTok_4 hd; have hX := tNx_4 hd; exact rV.mk (upE rfl (mTok_eq (g := ua (ua (ua (ua (ua (ua (V 308) 7 k) 8 k) 7 (k + 1)) 9 (tb (V 312) (V 308 4) k)) 7 ((k + 1) + 1)) 9 5) (show (k + 1) + 1 = _ from by rw [hX, hpl]) (show k = _ from hpl.symm) (show 5 = _ from by rw [hT, hC]; first | exact (if_pos (by omega)).symm | exact (if_neg (by omega)).symm) (show V 308 10 = _ from (if_neg (by rw [hT]; split <;> omega)).symm) (show V 308 11 = _ from (if_neg (by rw [hT]; split <;> omega)).symm) (fun z z7 z8 z9 z10 z11 => by simp only [ua]; repeat rw [if_neg (by assumption)])).symm)) dX11_nextToken_390
                              · -- 379 ne -> 382
                                refine x_iconst dX11_nextToken_382 ?_
                                refine x_goto (tgt := 387) dX11_nextToken_383 ?_
                                refine x_putI fl_X11_129 (sh_308 hS) (lq_308 hS) dX11_nextToken_387 ?_
                                refine x_mem (V' := (up V 308 (ua (ua (ua (ua (ua (ua (V 308) 7 k) 8 k) 7 (k + 1)) 9 (tb (V 312) (V 308 4) k)) 7 ((k + 1) + 1)) 9 4))) (st2_up _ _ _ _ _) ?_
                                exact x_vret hQ (by have hd : tTwo (V 312) (V 308 4) (V 308 7) := ⟨by rw [hC]; omega, by rw [hpl]; omega⟩; have hT := tTok_4 hd; have hX := tNx_4 hd; exact rV.mk (upE rfl (mTok_eq (g := ua (ua (ua (ua (ua (ua (V 308) 7 k) 8 k) 7 (k + 1)) 9 (tb (V 312) (V 308 4) k)) 7 ((k + 1) + 1)) 9 4) (show (k + 1) + 1 = _ from by rw [hX, hpl]) (show k = _ from hpl.symm) (show 4 = _ from by rw [hT, hC]; first | exact (if_pos (by omega)).symm | exact (if_neg (by omega)).symm) (show V 308 10 = _ from (if_neg (by rw [hT]; split <;> omega)).symm) (show V 308 11 = _ from (if_neg (by rw [hT]; split <;> omega)).symm) (fun z z7 z8 z9 z10 z11 => by simp only [ua]; repeat rw [if_neg (by assumption)])).symm)) dX11_nextToken_390
                    · -- 270 eq -> 273
                      refine x_il1 dX11_nextToken_273 ?_
                      refine x_bipush dX11_nextToken_274 ?_
                      refine x_icmp_eq (tgt := 321) dX11_nextToken_276 (inr (by omega)) (inr (by decide)) (fun c276_30 => ?_) (fun c276_30 => ?_)
                      · -- 276 eq -> 321
                        refine x_iconst dX11_nextToken_321 ?_
                        refine x_goto (tgt := 326) dX11_nextToken_322 ?_
                        refine x_is2 dX11_nextToken_326 ?_
                        refine x_al0 dX11_nextToken_327 ?_
                        refine x_il2 dX11_nextToken_328 ?_
                        refine x_if_eq (tgt := 336) dX11_nextToken_329 (inr (by decide)) (fun c329_31 => ?_) (fun c329_31 => ?_)
                        · exact absurd c329_31 (by decide)
                        · -- 329 eq -> 332
                          refine x_il1 dX11_nextToken_332 ?_
                          refine x_goto (tgt := 337) dX11_nextToken_333 ?_
                          refine x_putI fl_X11_129 (sh_308 hS) (lq_308 hS) dX11_nextToken_337 ?_
                          refine x_mem (V' := (up V 308 (ua (ua (ua (ua (V 308) 7 k) 8 k) 7 (k + 1)) 9 (tb (V 312) (V 308 4) k)))) (st2_up _ _ _ _ _) ?_
                          refine x_il1 dX11_nextToken_340 ?_
                          refine x_bipush dX11_nextToken_341 ?_
                          refine x_icmp_eq (tgt := 352) dX11_nextToken_343 (inr (by omega)) (inr (by decide)) (fun c343_32 => ?_) (fun c343_32 => ?_)
                          · -- 343 eq -> 352
                            refine x_al0 dX11_nextToken_352 ?_
                            refine x_al0 dX11_nextToken_353 ?_
                            refine x_getI fl_X11_120 (sh_308 hS) (lq_308 hS) dX11_nextToken_354 ?_
                            refine x_topI (a' := k + 1) (show (ua (ua (ua (ua (V 308) 7 k) 8 k) 7 (k + 1)) 9 (tb (V 312) (V 308 4) k)) 7 = k + 1 from ((ua_ne (by decide)).trans (ua_same _ _ _))) ?_
                            refine x_cVi mm_X11_byteAt ml_X11_123 dX11_nextToken_357 (c_X11_byteAt2 (k + 1) hS (show 0 ≤ (V 308 4) ∧ (V 308 4) ≤ 300 from hT) (by omega)) (sh_308 hS) (lq_308 hS) ?_
                            refine x_topI (a' := tb (V 312) (V 308 4) (k + 1)) rfl ?_
                            refine x_bipush dX11_nextToken_360 ?_
                            refine x_icmp_ne (tgt := 390) dX11_nextToken_362 (inr (by omega)) (inr (by decide)) (fun c362_33 => ?_) (fun c362_33 => ?_)
                            · -- 362 ne -> 390
                              exact x_vret hQ (by have hd1 : ¬ isDg (tC (V 312) (V 308 4) (V 308 7)) := (by rw [hC]; assumption); have hd2 : ¬ isLt (tC (V 312) (V 308 4) (V 308 7)) := (by rw [hC]; assumption); have hd3 : ¬ tTwo (V 312) (V 308 4) (V 308 7) := (by intro z; rcases z with ⟨z1, z2⟩; rw [hC] at z1; rw [hpl] at z2; omega); have hd0 : 0 ≤ tC (V 312) (V 308 4) (V 308 7) := (by rw [hC]; omega); have hT := tTok_3 hd0 hd1 hd2 hd3; have hX := tNx_3 hd0 hd1 hd2 hd3; rw [hC] at hT; exact rV.mk (upE rfl (mTok_eq (g := ua (ua (ua (ua (V 308) 7 k) 8 k) 7 (k + 1)) 9 (tb (V 312) (V 308 4) k)) (show k + 1 = _ from by rw [hX, hpl]) (show k = _ from hpl.symm) (show tb (V 312) (V 308 4) k = _ from by rw [hT]; first | exact (if_pos (by omega)).symm | exact (if_neg (by omega)).symm) (show V 308 10 = _ from (if_neg (by rw [hT]; split <;> omega)).symm) (show V 308 11 = _ from (if_neg (by rw [hT]; split <;> omega)).symm) (fun z z7 z8 z9 z10 z11 => by simp only [ua]; repeat rw [if_neg (by assumption)])).symm)) dX11_nextToken_390
                            · -- 362 ne -> 365
                              refine x_al0 dX11_nextToken_365 ?_
                              refine x_dup dX11_nextToken_366 ?_
                              refine x_getI fl_X11_120 (sh_308 hS) (lq_308 hS) dX11_nextToken_367 ?_
                              refine x_topI (a' := k + 1) (show (ua (ua (ua (ua (V 308) 7 k) 8 k) 7 (k + 1)) 9 (tb (V 312) (V 308 4) k)) 7 = k + 1 from ((ua_ne (by decide)).trans (ua_same _ _ _))) ?_
                              refine x_iconst dX11_nextToken_370 ?_
                              refine x_iadd dX11_nextToken_371 ?_
                              refine x_putI fl_X11_120 (sh_308 hS) (lq_308 hS) dX11_nextToken_372 ?_
                              refine x_mem (V' := (up V 308 (ua (ua (ua (ua (ua (V 308) 7 k) 8 k) 7 (k + 1)) 9 (tb (V 312) (V 308 4) k)) 7 ((k + 1) + 1)))) (st2_up _ _ _ _ _) ?_
                              refine x_al0 dX11_nextToken_375 ?_
                              refine x_il1 dX11_nextToken_376 ?_
                              refine x_bipush dX11_nextToken_377 ?_
                              refine x_icmp_ne (tgt := 386) dX11_nextToken_379 (inr (by omega)) (inr (by decide)) (fun c379_34 => ?_) (fun c379_34 => ?_)
                              · -- 379 ne -> 386
                                refine x_iconst dX11_nextToken_386 ?_
                                refine x_putI fl_X11_129 (sh_308 hS) (lq_308 hS) dX11_nextToken_387 ?_
                                refine x_mem (V' := (up V 308 (ua (ua (ua (ua (ua (ua (V 308) 7 k) 8 k) 7 (k + 1)) 9 (tb (V 312) (V 308 4) k)) 7 ((k + 1) + 1)) 9 5))) (st2_up _ _ _ _ _) ?_
                                exact x_vret hQ (by have hd : tTwo (V 312) (V 308 4) (V 308 7) := ⟨by rw [hC]; omega, by rw [hpl]; omega⟩; have hT := tTok_4 hd; have hX := tNx_4 hd; exact rV.mk (upE rfl (mTok_eq (g := ua (ua (ua (ua (ua (ua (V 308) 7 k) 8 k) 7 (k + 1)) 9 (tb (V 312) (V 308 4) k)) 7 ((k + 1) + 1)) 9 5) (show (k + 1) + 1 = _ from by rw [hX, hpl]) (show k = _ from hpl.symm) (show 5 = _ from by rw [hT, hC]; first | exact (if_pos (by omega)).symm | exact (if_neg (by omega)).symm) (show V 308 10 = _ from (if_neg (by rw [hT]; split <;> omega)).symm) (show V 308 11 = _ from (if_neg (by rw [hT]; split <;> omega)).symm) (fun z z7 z8 z9 z10 z11 => by simp only [ua]; repeat rw [if_neg (by assumption)])).symm)) dX11_nextToken_390
                              · -- 379 ne -> 382
                                refine x_iconst dX11_nextToken_382 ?_
                                refine x_goto (tgt := 387) dX11_nextToken_383 ?_
                                refine x_putI fl_X11_129 (sh_308 hS) (lq_308 hS) dX11_nextToken_387 ?_
                                refine x_mem (V' := (up V 308 (ua (ua (ua (ua (ua (ua (V 308) 7 k) 8 k) 7 (k + 1)) 9 (tb (V 312) (V 308 4) k)) 7 ((k + 1) + 1)) 9 4))) (st2_up _ _ _ _ _) ?_
                                exact x_vret hQ (by have hd : tTwo (V 312) (V 308 4) (V 308 7) := ⟨by rw [hC]; omega, by rw [hpl]; omega⟩; have hT := tTok_4 hd; have hX := tNx_4 hd; exact rV.mk (upE rfl (mTok_eq (g := ua (ua (ua (ua (ua (ua (V 308) 7 k) 8 k) 7 (k + 1)) 9 (tb (V 312) (V 308 4) k)) 7 ((k + 1) + 1)) 9 4) (show (k + 1) + 1 = _ from by rw [hX, hpl]) (show k = _ from hpl.symm) (show 4 = _ from by rw [hT, hC]; first | exact (if_pos (by omega)).symm | exact (if_neg (by omega)).symm) (show V 308 10 = _ from (if_neg (by rw [hT]; split <;> omega)).symm) (show V 308 11 = _ from (if_neg (by rw [hT]; split <;> omega)).symm) (fun z z7 z8 z9 z10 z11 => by simp only [ua]; repeat rw [if_neg (by assumption)])).symm)) dX11_nextToken_390
                          · -- 343 eq -> 346
                            refine x_il1 dX11_nextToken_346 ?_
                            refine x_bipush dX11_nextToken_347 ?_
                            refine x_icmp_ne (tgt := 390) dX11_nextToken_349 (inr (by omega)) (inr (by decide)) (fun c349_35 => ?_) (fun c349_35 => ?_)
                            · -- 349 ne -> 390
                              exact x_vret hQ (by have hd1 : ¬ isDg (tC (V 312) (V 308 4) (V 308 7)) := (by rw [hC]; assumption); have hd2 : ¬ isLt (tC (V 312) (V 308 4) (V 308 7)) := (by rw [hC]; assumption); have hd3 : ¬ tTwo (V 312) (V 308 4) (V 308 7) := (by intro z; rcases z with ⟨z1, z2⟩; rw [hC] at z1; rw [hpl] at z2; omega); have hd0 : 0 ≤ tC (V 312) (V 308 4) (V 308 7) := (by rw [hC]; omega); have hT := tTok_3 hd0 hd1 hd2 hd3; have hX := tNx_3 hd0 hd1 hd2 hd3; rw [hC] at hT; exact rV.mk (upE rfl (mTok_eq (g := ua (ua (ua (ua (V 308) 7 k) 8 k) 7 (k + 1)) 9 (tb (V 312) (V 308 4) k)) (show k + 1 = _ from by rw [hX, hpl]) (show k = _ from hpl.symm) (show tb (V 312) (V 308 4) k = _ from by rw [hT]; first | exact (if_pos (by omega)).symm | exact (if_neg (by omega)).symm) (show V 308 10 = _ from (if_neg (by rw [hT]; split <;> omega)).symm) (show V 308 11 = _ from (if_neg (by rw [hT]; split <;> omega)).symm) (fun z z7 z8 z9 z10 z11 => by simp only [ua]; repeat rw [if_neg (by assumption)])).symm)) dX11_nextToken_390
                            · -- 349 ne -> 352
                              refine x_al0 dX11_nextToken_352 ?_
                              refine x_al0 dX11_nextToken_353 ?_
                              refine x_getI fl_X11_120 (sh_308 hS) (lq_308 hS) dX11_nextToken_354 ?_
                              refine x_topI (a' := k + 1) (show (ua (ua (ua (ua (V 308) 7 k) 8 k) 7 (k + 1)) 9 (tb (V 312) (V 308 4) k)) 7 = k + 1 from ((ua_ne (by decide)).trans (ua_same _ _ _))) ?_
                              refine x_cVi mm_X11_byteAt ml_X11_123 dX11_nextToken_357 (c_X11_byteAt2 (k + 1) hS (show 0 ≤ (V 308 4) ∧ (V 308 4) ≤ 300 from hT) (by omega)) (sh_308 hS) (lq_308 hS) ?_
                              refine x_topI (a' := tb (V 312) (V 308 4) (k + 1)) rfl ?_
                              refine x_bipush dX11_nextToken_360 ?_
                              refine x_icmp_ne (tgt := 390) dX11_nextToken_362 (inr (by omega)) (inr (by decide)) (fun c362_36 => ?_) (fun c362_36 => ?_)
                              · -- 362 ne -> 390
                                exact x_vret hQ (by have hd1 : ¬ isDg (tC (V 312) (V 308 4) (V 308 7)) := (by rw [hC]; assumption); have hd2 : ¬ isLt (tC (V 312) (V 308 4) (V 308 7)) := (by rw [hC]; assumption); have hd3 : ¬ tTwo (V 312) (V 308 4) (V 308 7) := (by intro z; rcases z with ⟨z1, z2⟩; rw [hC] at z1; rw [hpl] at z2; omega); have hd0 : 0 ≤ tC (V 312) (V 308 4) (V 308 7) := (by rw [hC]; omega); have hT := tTok_3 hd0 hd1 hd2 hd3; have hX := tNx_3 hd0 hd1 hd2 hd3; rw [hC] at hT; exact rV.mk (upE rfl (mTok_eq (g := ua (ua (ua (ua (V 308) 7 k) 8 k) 7 (k + 1)) 9 (tb (V 312) (V 308 4) k)) (show k + 1 = _ from by rw [hX, hpl]) (show k = _ from hpl.symm) (show tb (V 312) (V 308 4) k = _ from by rw [hT]; first | exact (if_pos (by omega)).symm | exact (if_neg (by omega)).symm) (show V 308 10 = _ from (if_neg (by rw [hT]; split <;> omega)).symm) (show V 308 11 = _ from (if_neg (by rw [hT]; split <;> omega)).symm) (fun z z7 z8 z9 z10 z11 => by simp only [ua]; repeat rw [if_neg (by assumption)])).symm)) dX11_nextToken_390
                              · -- 362 ne -> 365
                                refine x_al0 dX11_nextToken_365 ?_
                                refine x_dup dX11_nextToken_366 ?_
                                refine x_getI fl_X11_120 (sh_308 hS) (lq_308 hS) dX11_nextToken_367 ?_
                                refine x_topI (a' := k + 1) (show (ua (ua (ua (ua (V 308) 7 k) 8 k) 7 (k + 1)) 9 (tb (V 312) (V 308 4) k)) 7 = k + 1 from ((ua_ne (by decide)).trans (ua_same _ _ _))) ?_
                                refine x_iconst dX11_nextToken_370 ?_
                                refine x_iadd dX11_nextToken_371 ?_
                                refine x_putI fl_X11_120 (sh_308 hS) (lq_308 hS) dX11_nextToken_372 ?_
                                refine x_mem (V' := (up V 308 (ua (ua (ua (ua (ua (V 308) 7 k) 8 k) 7 (k + 1)) 9 (tb (V 312) (V 308 4) k)) 7 ((k + 1) + 1)))) (st2_up _ _ _ _ _) ?_
                                refine x_al0 dX11_nextToken_375 ?_
                                refine x_il1 dX11_nextToken_376 ?_
                                refine x_bipush dX11_nextToken_377 ?_
                                refine x_icmp_ne (tgt := 386) dX11_nextToken_379 (inr (by omega)) (inr (by decide)) (fun c379_37 => ?_) (fun c379_37 => ?_)
                                · -- 379 ne -> 386
                                  refine x_iconst dX11_nextToken_386 ?_
                                  refine x_putI fl_X11_129 (sh_308 hS) (lq_308 hS) dX11_nextToken_387 ?_
                                  refine x_mem (V' := (up V 308 (ua (ua (ua (ua (ua (ua (V 308) 7 k) 8 k) 7 (k + 1)) 9 (tb (V 312) (V 308 4) k)) 7 ((k + 1) + 1)) 9 5))) (st2_up _ _ _ _ _) ?_
                                  exact x_vret hQ (by have hd : tTwo (V 312) (V 308 4) (V 308 7) := ⟨by rw [hC]; omega, by rw [hpl]; omega⟩; have hT := tTok_4 hd; have hX := tNx_4 hd; exact rV.mk (upE rfl (mTok_eq (g := ua (ua (ua (ua (ua (ua (V 308) 7 k) 8 k) 7 (k + 1)) 9 (tb (V 312) (V 308 4) k)) 7 ((k + 1) + 1)) 9 5) (show (k + 1) + 1 = _ from by rw [hX, hpl]) (show k = _ from hpl.symm) (show 5 = _ from by rw [hT, hC]; first | exact (if_pos (by omega)).symm | exact (if_neg (by omega)).symm) (show V 308 10 = _ from (if_neg (by rw [hT]; split <;> omega)).symm) (show V 308 11 = _ from (if_neg (by rw [hT]; split <;> omega)).symm) (fun z z7 z8 z9 z10 z11 => by simp only [ua]; repeat rw [if_neg (by assumption)])).symm)) dX11_nextToken_390
                                · -- 379 ne -> 382
                                  refine x_iconst dX11_nextToken_382 ?_
                                  refine x_goto (tgt := 387) dX11_nextToken_383 ?_
                                  refine x_putI fl_X11_129 (sh_308 hS) (lq_308 hS) dX11_nextToken_387 ?_
                                  refine x_mem (V' := (up V 308 (ua (ua (ua (ua (ua (ua (V 308) 7 k) 8 k) 7 (k + 1)) 9 (tb (V 312) (V 308 4) k)) 7 ((k + 1) + 1)) 9 4))) (st2_up _ _ _ _ _) ?_
                                  exact x_vret hQ (by have hd : tTwo (V 312) (V 308 4) (V 308 7) := ⟨by rw [hC]; omega, by rw [hpl]; omega⟩; have hT := tTok_4 hd; have hX := tNx_4 hd; exact rV.mk (upE rfl (mTok_eq (g := ua (ua (ua (ua (ua (ua (V 308) 7 k) 8 k) 7 (k + 1)) 9 (tb (V 312) (V 308 4) k)) 7 ((k + 1) + 1)) 9 4) (show (k + 1) + 1 = _ from by rw [hX, hpl]) (show k = _ from hpl.symm) (show 4 = _ from by rw [hT, hC]; first | exact (if_pos (by omega)).symm | exact (if_neg (by omega)).symm) (show V 308 10 = _ from (if_neg (by rw [hT]; split <;> omega)).symm) (show V 308 11 = _ from (if_neg (by rw [hT]; split <;> omega)).symm) (fun z z7 z8 z9 z10 z11 => by simp only [ua]; repeat rw [if_neg (by assumption)])).symm)) dX11_nextToken_390
                      · -- 276 eq -> 279
                        refine x_il1 dX11_nextToken_279 ?_
                        refine x_bipush dX11_nextToken_280 ?_
                        refine x_icmp_eq (tgt := 321) dX11_nextToken_282 (inr (by omega)) (inr (by decide)) (fun c282_38 => ?_) (fun c282_38 => ?_)
                        · -- 282 eq -> 321
                          refine x_iconst dX11_nextToken_321 ?_
                          refine x_goto (tgt := 326) dX11_nextToken_322 ?_
                          refine x_is2 dX11_nextToken_326 ?_
                          refine x_al0 dX11_nextToken_327 ?_
                          refine x_il2 dX11_nextToken_328 ?_
                          refine x_if_eq (tgt := 336) dX11_nextToken_329 (inr (by decide)) (fun c329_39 => ?_) (fun c329_39 => ?_)
                          · exact absurd c329_39 (by decide)
                          · -- 329 eq -> 332
                            refine x_il1 dX11_nextToken_332 ?_
                            refine x_goto (tgt := 337) dX11_nextToken_333 ?_
                            refine x_putI fl_X11_129 (sh_308 hS) (lq_308 hS) dX11_nextToken_337 ?_
                            refine x_mem (V' := (up V 308 (ua (ua (ua (ua (V 308) 7 k) 8 k) 7 (k + 1)) 9 (tb (V 312) (V 308 4) k)))) (st2_up _ _ _ _ _) ?_
                            refine x_il1 dX11_nextToken_340 ?_
                            refine x_bipush dX11_nextToken_341 ?_
                            refine x_icmp_eq (tgt := 352) dX11_nextToken_343 (inr (by omega)) (inr (by decide)) (fun c343_40 => ?_) (fun c343_40 => ?_)
                            · -- 343 eq -> 352
                              refine x_al0 dX11_nextToken_352 ?_
                              refine x_al0 dX11_nextToken_353 ?_
                              refine x_getI fl_X11_120 (sh_308 hS) (lq_308 hS) dX11_nextToken_354 ?_
                              refine x_topI (a' := k + 1) (show (ua (ua (ua (ua (V 308) 7 k) 8 k) 7 (k + 1)) 9 (tb (V 312) (V 308 4) k)) 7 = k + 1 from ((ua_ne (by decide)).trans (ua_same _ _ _))) ?_
                              refine x_cVi mm_X11_byteAt ml_X11_123 dX11_nextToken_357 (c_X11_byteAt2 (k + 1) hS (show 0 ≤ (V 308 4) ∧ (V 308 4) ≤ 300 from hT) (by omega)) (sh_308 hS) (lq_308 hS) ?_
                              refine x_topI (a' := tb (V 312) (V 308 4) (k + 1)) rfl ?_
                              refine x_bipush dX11_nextToken_360 ?_
                              refine x_icmp_ne (tgt := 390) dX11_nextToken_362 (inr (by omega)) (inr (by decide)) (fun c362_41 => ?_) (fun c362_41 => ?_)
                              · -- 362 ne -> 390
                                exact x_vret hQ (by have hd1 : ¬ isDg (tC (V 312) (V 308 4) (V 308 7)) := (by rw [hC]; assumption); have hd2 : ¬ isLt (tC (V 312) (V 308 4) (V 308 7)) := (by rw [hC]; assumption); have hd3 : ¬ tTwo (V 312) (V 308 4) (V 308 7) := (by intro z; rcases z with ⟨z1, z2⟩; rw [hC] at z1; rw [hpl] at z2; omega); have hd0 : 0 ≤ tC (V 312) (V 308 4) (V 308 7) := (by rw [hC]; omega); have hT := tTok_3 hd0 hd1 hd2 hd3; have hX := tNx_3 hd0 hd1 hd2 hd3; rw [hC] at hT; exact rV.mk (upE rfl (mTok_eq (g := ua (ua (ua (ua (V 308) 7 k) 8 k) 7 (k + 1)) 9 (tb (V 312) (V 308 4) k)) (show k + 1 = _ from by rw [hX, hpl]) (show k = _ from hpl.symm) (show tb (V 312) (V 308 4) k = _ from by rw [hT]; first | exact (if_pos (by omega)).symm | exact (if_neg (by omega)).symm) (show V 308 10 = _ from (if_neg (by rw [hT]; split <;> omega)).symm) (show V 308 11 = _ from (if_neg (by rw [hT]; split <;> omega)).symm) (fun z z7 z8 z9 z10 z11 => by simp only [ua]; repeat rw [if_neg (by assumption)])).symm)) dX11_nextToken_390
                              · -- 362 ne -> 365
                                refine x_al0 dX11_nextToken_365 ?_
                                refine x_dup dX11_nextToken_366 ?_
                                refine x_getI fl_X11_120 (sh_308 hS) (lq_308 hS) dX11_nextToken_367 ?_
                                refine x_topI (a' := k + 1) (show (ua (ua (ua (ua (V 308) 7 k) 8 k) 7 (k + 1)) 9 (tb (V 312) (V 308 4) k)) 7 = k + 1 from ((ua_ne (by decide)).trans (ua_same _ _ _))) ?_
                                refine x_iconst dX11_nextToken_370 ?_
                                refine x_iadd dX11_nextToken_371 ?_
                                refine x_putI fl_X11_120 (sh_308 hS) (lq_308 hS) dX11_nextToken_372 ?_
                                refine x_mem (V' := (up V 308 (ua (ua (ua (ua (ua (V 308) 7 k) 8 k) 7 (k + 1)) 9 (tb (V 312) (V 308 4) k)) 7 ((k + 1) + 1)))) (st2_up _ _ _ _ _) ?_
                                refine x_al0 dX11_nextToken_375 ?_
                                refine x_il1 dX11_nextToken_376 ?_
                                refine x_bipush dX11_nextToken_377 ?_
                                refine x_icmp_ne (tgt := 386) dX11_nextToken_379 (inr (by omega)) (inr (by decide)) (fun c379_42 => ?_) (fun c379_42 => ?_)
                                · -- 379 ne -> 386
                                  refine x_iconst dX11_nextToken_386 ?_
                                  refine x_putI fl_X11_129 (sh_308 hS) (lq_308 hS) dX11_nextToken_387 ?_
                                  refine x_mem (V' := (up V 308 (ua (ua (ua (ua (ua (ua (V 308) 7 k) 8 k) 7 (k + 1)) 9 (tb (V 312) (V 308 4) k)) 7 ((k + 1) + 1)) 9 5))) (st2_up _ _ _ _ _) ?_
                                  exact x_vret hQ (by have hd : tTwo (V 312) (V 308 4) (V 308 7) := ⟨by rw [hC]; omega, by rw [hpl]; omega⟩; have hT := tTok_4 hd; have hX := tNx_4 hd; exact rV.mk (upE rfl (mTok_eq (g := ua (ua (ua (ua (ua (ua (V 308) 7 k) 8 k) 7 (k + 1)) 9 (tb (V 312) (V 308 4) k)) 7 ((k + 1) + 1)) 9 5) (show (k + 1) + 1 = _ from by rw [hX, hpl]) (show k = _ from hpl.symm) (show 5 = _ from by rw [hT, hC]; first | exact (if_pos (by omega)).symm | exact (if_neg (by omega)).symm) (show V 308 10 = _ from (if_neg (by rw [hT]; split <;> omega)).symm) (show V 308 11 = _ from (if_neg (by rw [hT]; split <;> omega)).symm) (fun z z7 z8 z9 z10 z11 => by simp only [ua]; repeat rw [if_neg (by assumption)])).symm)) dX11_nextToken_390
                                · -- 379 ne -> 382
                                  refine x_iconst dX11_nextToken_382 ?_
                                  refine x_goto (tgt := 387) dX11_nextToken_383 ?_
                                  refine x_putI fl_X11_129 (sh_308 hS) (lq_308 hS) dX11_nextToken_387 ?_
                                  refine x_mem (V' := (up V 308 (ua (ua (ua (ua (ua (ua (V 308) 7 k) 8 k) 7 (k + 1)) 9 (tb (V 312) (V 308 4) k)) 7 ((k + 1) + 1)) 9 4))) (st2_up _ _ _ _ _) ?_
                                  exact x_vret hQ (by have hd : tTwo (V 312) (V 308 4) (V 308 7) := ⟨by rw [hC]; omega, by rw [hpl]; omega⟩; have hT := tTok_4 hd; have hX := tNx_4 hd; exact rV.mk (upE rfl (mTok_eq (g := ua (ua (ua (ua (ua (ua (V 308) 7 k) 8 k) 7 (k + 1)) 9 (tb (V 312) (V 308 4) k)) 7 ((k + 1) + 1)) 9 4) (show (k + 1) + 1 = _ from by rw [hX, hpl]) (show k = _ from hpl.symm) (show 4 = _ from by rw [hT, hC]; first | exact (if_pos (by omega)).symm | exact (if_neg (by omega)).symm) (show V 308 10 = _ from (if_neg (by rw [hT]; split <;> omega)).symm) (show V 308 11 = _ from (if_neg (by rw [hT]; split <;> omega)).symm) (fun z z7 z8 z9 z10 z11 => by simp only [ua]; repeat rw [if_neg (by assumption)])).symm)) dX11_nextToken_390
                            · -- 343 eq -> 346
                              refine x_il1 dX11_nextToken_346 ?_
                              refine x_bipush dX11_nextToken_347 ?_
                              refine x_icmp_ne (tgt := 390) dX11_nextToken_349 (inr (by omega)) (inr (by decide)) (fun c349_43 => ?_) (fun c349_43 => ?_)
                              · -- 349 ne -> 390
                                exact x_vret hQ (by have hd1 : ¬ isDg (tC (V 312) (V 308 4) (V 308 7)) := (by rw [hC]; assumption); have hd2 : ¬ isLt (tC (V 312) (V 308 4) (V 308 7)) := (by rw [hC]; assumption); have hd3 : ¬ tTwo (V 312) (V 308 4) (V 308 7) := (by intro z; rcases z with ⟨z1, z2⟩; rw [hC] at z1; rw [hpl] at z2; omega); have hd0 : 0 ≤ tC (V 312) (V 308 4) (V 308 7) := (by rw [hC]; omega); have hT := tTok_3 hd0 hd1 hd2 hd3; have hX := tNx_3 hd0 hd1 hd2 hd3; rw [hC] at hT; exact rV.mk (upE rfl (mTok_eq (g := ua (ua (ua (ua (V 308) 7 k) 8 k) 7 (k + 1)) 9 (tb (V 312) (V 308 4) k)) (show k + 1 = _ from by rw [hX, hpl]) (show k = _ from hpl.symm) (show tb (V 312) (V 308 4) k = _ from by rw [hT]; first | exact (if_pos (by omega)).symm | exact (if_neg (by omega)).symm) (show V 308 10 = _ from (if_neg (by rw [hT]; split <;> omega)).symm) (show V 308 11 = _ from (if_neg (by rw [hT]; split <;> omega)).symm) (fun z z7 z8 z9 z10 z11 => by simp only [ua]; repeat rw [if_neg (by assumption)])).symm)) dX11_nextToken_390
                              · -- 349 ne -> 352
                                refine x_al0 dX11_nextToken_352 ?_
                                refine x_al0 dX11_nextToken_353 ?_
                                refine x_getI fl_X11_120 (sh_308 hS) (lq_308 hS) dX11_nextToken_354 ?_
                                refine x_topI (a' := k + 1) (show (ua (ua (ua (ua (V 308) 7 k) 8 k) 7 (k + 1)) 9 (tb (V 312) (V 308 4) k)) 7 = k + 1 from ((ua_ne (by decide)).trans (ua_same _ _ _))) ?_
                                refine x_cVi mm_X11_byteAt ml_X11_123 dX11_nextToken_357 (c_X11_byteAt2 (k + 1) hS (show 0 ≤ (V 308 4) ∧ (V 308 4) ≤ 300 from hT) (by omega)) (sh_308 hS) (lq_308 hS) ?_
                                refine x_topI (a' := tb (V 312) (V 308 4) (k + 1)) rfl ?_
                                refine x_bipush dX11_nextToken_360 ?_
                                refine x_icmp_ne (tgt := 390) dX11_nextToken_362 (inr (by omega)) (inr (by decide)) (fun c362_44 => ?_) (fun c362_44 => ?_)
                                · -- 362 ne -> 390
                                  exact x_vret hQ (by have hd1 : ¬ isDg (tC (V 312) (V 308 4) (V 308 7)) := (by rw [hC]; assumption); have hd2 : ¬ isLt (tC (V 312) (V 308 4) (V 308 7)) := (by rw [hC]; assumption); have hd3 : ¬ tTwo (V 312) (V 308 4) (V 308 7) := (by intro z; rcases z with ⟨z1, z2⟩; rw [hC] at z1; rw [hpl] at z2; omega); have hd0 : 0 ≤ tC (V 312) (V 308 4) (V 308 7) := (by rw [hC]; omega); have hT := tTok_3 hd0 hd1 hd2 hd3; have hX := tNx_3 hd0 hd1 hd2 hd3; rw [hC] at hT; exact rV.mk (upE rfl (mTok_eq (g := ua (ua (ua (ua (V 308) 7 k) 8 k) 7 (k + 1)) 9 (tb (V 312) (V 308 4) k)) (show k + 1 = _ from by rw [hX, hpl]) (show k = _ from hpl.symm) (show tb (V 312) (V 308 4) k = _ from by rw [hT]; first | exact (if_pos (by omega)).symm | exact (if_neg (by omega)).symm) (show V 308 10 = _ from (if_neg (by rw [hT]; split <;> omega)).symm) (show V 308 11 = _ from (if_neg (by rw [hT]; split <;> omega)).symm) (fun z z7 z8 z9 z10 z11 => by simp only [ua]; repeat rw [if_neg (by assumption)])).symm)) dX11_nextToken_390
                                · -- 362 ne -> 365
                                  refine x_al0 dX11_nextToken_365 ?_
                                  refine x_dup dX11_nextToken_366 ?_
                                  refine x_getI fl_X11_120 (sh_308 hS) (lq_308 hS) dX11_nextToken_367 ?_
                                  refine x_topI (a' := k + 1) (show (ua (ua (ua (ua (V 308) 7 k) 8 k) 7 (k + 1)) 9 (tb (V 312) (V 308 4) k)) 7 = k + 1 from ((ua_ne (by decide)).trans (ua_same _ _ _))) ?_
                                  refine x_iconst dX11_nextToken_370 ?_
                                  refine x_iadd dX11_nextToken_371 ?_
                                  refine x_putI fl_X11_120 (sh_308 hS) (lq_308 hS) dX11_nextToken_372 ?_
                                  refine x_mem (V' := (up V 308 (ua (ua (ua (ua (ua (V 308) 7 k) 8 k) 7 (k + 1)) 9 (tb (V 312) (V 308 4) k)) 7 ((k + 1) + 1)))) (st2_up _ _ _ _ _) ?_
                                  refine x_al0 dX11_nextToken_375 ?_
                                  refine x_il1 dX11_nextToken_376 ?_
                                  refine x_bipush dX11_nextToken_377 ?_
                                  refine x_icmp_ne (tgt := 386) dX11_nextToken_379 (inr (by omega)) (inr (by decide)) (fun c379_45 => ?_) (fun c379_45 => ?_)
                                  · -- 379 ne -> 386
                                    refine x_iconst dX11_nextToken_386 ?_
                                    refine x_putI fl_X11_129 (sh_308 hS) (lq_308 hS) dX11_nextToken_387 ?_
                                    refine x_mem (V' := (up V 308 (ua (ua (ua (ua (ua (ua (V 308) 7 k) 8 k) 7 (k + 1)) 9 (tb (V 312) (V 308 4) k)) 7 ((k + 1) + 1)) 9 5))) (st2_up _ _ _ _ _) ?_
                                    exact x_vret hQ (by have hd : tTwo (V 312) (V 308 4) (V 308 7) := ⟨by rw [hC]; omega, by rw [hpl]; omega⟩; have hT := tTok_4 hd; have hX := tNx_4 hd; exact rV.mk (upE rfl (mTok_eq (g := ua (ua (ua (ua (ua (ua (V 308) 7 k) 8 k) 7 (k + 1)) 9 (tb (V 312) (V 308 4) k)) 7 ((k + 1) + 1)) 9 5) (show (k + 1) + 1 = _ from by rw [hX, hpl]) (show k = _ from hpl.symm) (show 5 = _ from by rw [hT, hC]; first | exact (if_pos (by omega)).symm | exact (if_neg (by omega)).symm) (show V 308 10 = _ from (if_neg (by rw [hT]; split <;> omega)).symm) (show V 308 11 = _ from (if_neg (by rw [hT]; split <;> omega)).symm) (fun z z7 z8 z9 z10 z11 => by simp only [ua]; repeat rw [if_neg (by assumption)])).symm)) dX11_nextToken_390
                                  · -- 379 ne -> 382
                                    refine x_iconst dX11_nextToken_382 ?_
                                    refine x_goto (tgt := 387) dX11_nextToken_383 ?_
                                    refine x_putI fl_X11_129 (sh_308 hS) (lq_308 hS) dX11_nextToken_387 ?_
                                    refine x_mem (V' := (up V 308 (ua (ua (ua (ua (ua (ua (V 308) 7 k) 8 k) 7 (k + 1)) 9 (tb (V 312) (V 308 4) k)) 7 ((k + 1) + 1)) 9 4))) (st2_up _ _ _ _ _) ?_
                                    exact x_vret hQ (by have hd : tTwo (V 312) (V 308 4) (V 308 7) := ⟨by rw [hC]; omega, by rw [hpl]; omega⟩; have hT := tTok_4 hd; have hX := tNx_4 hd; exact rV.mk (upE rfl (mTok_eq (g := ua (ua (ua (ua (ua (ua (V 308) 7 k) 8 k) 7 (k + 1)) 9 (tb (V 312) (V 308 4) k)) 7 ((k + 1) + 1)) 9 4) (show (k + 1) + 1 = _ from by rw [hX, hpl]) (show k = _ from hpl.symm) (show 4 = _ from by rw [hT, hC]; first | exact (if_pos (by omega)).symm | exact (if_neg (by omega)).symm) (show V 308 10 = _ from (if_neg (by rw [hT]; split <;> omega)).symm) (show V 308 11 = _ from (if_neg (by rw [hT]; split <;> omega)).symm) (fun z z7 z8 z9 z10 z11 => by simp only [ua]; repeat rw [if_neg (by assumption)])).symm)) dX11_nextToken_390
                        · -- 282 eq -> 285
                          refine x_il1 dX11_nextToken_285 ?_
                          refine x_bipush dX11_nextToken_286 ?_
                          refine x_icmp_eq (tgt := 321) dX11_nextToken_288 (inr (by omega)) (inr (by decide)) (fun c288_46 => ?_) (fun c288_46 => ?_)
                          · -- 288 eq -> 321
                            refine x_iconst dX11_nextToken_321 ?_
                            refine x_goto (tgt := 326) dX11_nextToken_322 ?_
                            refine x_is2 dX11_nextToken_326 ?_
                            refine x_al0 dX11_nextToken_327 ?_
                            refine x_il2 dX11_nextToken_328 ?_
                            refine x_if_eq (tgt := 336) dX11_nextToken_329 (inr (by decide)) (fun c329_47 => ?_) (fun c329_47 => ?_)
                            · exact absurd c329_47 (by decide)
                            · -- 329 eq -> 332
                              refine x_il1 dX11_nextToken_332 ?_
                              refine x_goto (tgt := 337) dX11_nextToken_333 ?_
                              refine x_putI fl_X11_129 (sh_308 hS) (lq_308 hS) dX11_nextToken_337 ?_
                              refine x_mem (V' := (up V 308 (ua (ua (ua (ua (V 308) 7 k) 8 k) 7 (k + 1)) 9 (tb (V 312) (V 308 4) k)))) (st2_up _ _ _ _ _) ?_
                              refine x_il1 dX11_nextToken_340 ?_
                              refine x_bipush dX11_nextToken_341 ?_
                              refine x_icmp_eq (tgt := 352) dX11_nextToken_343 (inr (by omega)) (inr (by decide)) (fun c343_48 => ?_) (fun c343_48 => ?_)
                              · -- 343 eq -> 352
                                refine x_al0 dX11_nextToken_352 ?_
                                refine x_al0 dX11_nextToken_353 ?_
                                refine x_getI fl_X11_120 (sh_308 hS) (lq_308 hS) dX11_nextToken_354 ?_
                                refine x_topI (a' := k + 1) (show (ua (ua (ua (ua (V 308) 7 k) 8 k) 7 (k + 1)) 9 (tb (V 312) (V 308 4) k)) 7 = k + 1 from ((ua_ne (by decide)).trans (ua_same _ _ _))) ?_
                                refine x_cVi mm_X11_byteAt ml_X11_123 dX11_nextToken_357 (c_X11_byteAt2 (k + 1) hS (show 0 ≤ (V 308 4) ∧ (V 308 4) ≤ 300 from hT) (by omega)) (sh_308 hS) (lq_308 hS) ?_
                                refine x_topI (a' := tb (V 312) (V 308 4) (k + 1)) rfl ?_
                                refine x_bipush dX11_nextToken_360 ?_
                                refine x_icmp_ne (tgt := 390) dX11_nextToken_362 (inr (by omega)) (inr (by decide)) (fun c362_49 => ?_) (fun c362_49 => ?_)
                                · -- 362 ne -> 390
                                  exact x_vret hQ (by have hd1 : ¬ isDg (tC (V 312) (V 308 4) (V 308 7)) := (by rw [hC]; assumption); have hd2 : ¬ isLt (tC (V 312) (V 308 4) (V 308 7)) := (by rw [hC]; assumption); have hd3 : ¬ tTwo (V 312) (V 308 4) (V 308 7) := (by intro z; rcases z with ⟨z1, z2⟩; rw [hC] at z1; rw [hpl] at z2; omega); have hd0 : 0 ≤ tC (V 312) (V 308 4) (V 308 7) := (by rw [hC]; omega); have hT := tTok_3 hd0 hd1 hd2 hd3; have hX := tNx_3 hd0 hd1 hd2 hd3; rw [hC] at hT; exact rV.mk (upE rfl (mTok_eq (g := ua (ua (ua (ua (V 308) 7 k) 8 k) 7 (k + 1)) 9 (tb (V 312) (V 308 4) k)) (show k + 1 = _ from by rw [hX, hpl]) (show k = _ from hpl.symm) (show tb (V 312) (V 308 4) k = _ from by rw [hT]; first | exact (if_pos (by omega)).symm | exact (if_neg (by omega)).symm) (show V 308 10 = _ from (if_neg (by rw [hT]; split <;> omega)).symm) (show V 308 11 = _ from (if_neg (by rw [hT]; split <;> omega)).symm) (fun z z7 z8 z9 z10 z11 => by simp only [ua]; repeat rw [if_neg (by assumption)])).symm)) dX11_nextToken_390
                                · -- 362 ne -> 365
                                  refine x_al0 dX11_nextToken_365 ?_
                                  refine x_dup dX11_nextToken_366 ?_
                                  refine x_getI fl_X11_120 (sh_308 hS) (lq_308 hS) dX11_nextToken_367 ?_
                                  refine x_topI (a' := k + 1) (show (ua (ua (ua (ua (V 308) 7 k) 8 k) 7 (k + 1)) 9 (tb (V 312) (V 308 4) k)) 7 = k + 1 from ((ua_ne (by decide)).trans (ua_same _ _ _))) ?_
                                  refine x_iconst dX11_nextToken_370 ?_
                                  refine x_iadd dX11_nextToken_371 ?_
                                  refine x_putI fl_X11_120 (sh_308 hS) (lq_308 hS) dX11_nextToken_372 ?_
                                  refine x_mem (V' := (up V 308 (ua (ua (ua (ua (ua (V 308) 7 k) 8 k) 7 (k + 1)) 9 (tb (V 312) (V 308 4) k)) 7 ((k + 1) + 1)))) (st2_up _ _ _ _ _) ?_
                                  refine x_al0 dX11_nextToken_375 ?_
                                  refine x_il1 dX11_nextToken_376 ?_
                                  refine x_bipush dX11_nextToken_377 ?_
                                  refine x_icmp_ne (tgt := 386) dX11_nextToken_379 (inr (by omega)) (inr (by decide)) (fun c379_50 => ?_) (fun c379_50 => ?_)
                                  · -- 379 ne -> 386
                                    refine x_iconst dX11_nextToken_386 ?_
                                    refine x_putI fl_X11_129 (sh_308 hS) (lq_308 hS) dX11_nextToken_387 ?_
                                    refine x_mem (V' := (up V 308 (ua (ua (ua (ua (ua (ua (V 308) 7 k) 8 k) 7 (k + 1)) 9 (tb (V 312) (V 308 4) k)) 7 ((k + 1) + 1)) 9 5))) (st2_up _ _ _ _ _) ?_
                                    exact x_vret hQ (by have hd : tTwo (V 312) (V 308 4) (V 308 7) := ⟨by rw [hC]; omega, by rw [hpl]; omega⟩; have hT := tTok_4 hd; have hX := tNx_4 hd; exact rV.mk (upE rfl (mTok_eq (g := ua (ua (ua (ua (ua (ua (V 308) 7 k) 8 k) 7 (k + 1)) 9 (tb (V 312) (V 308 4) k)) 7 ((k + 1) + 1)) 9 5) (show (k + 1) + 1 = _ from by rw [hX, hpl]) (show k = _ from hpl.symm) (show 5 = _ from by rw [hT, hC]; first | exact (if_pos (by omega)).symm | exact (if_neg (by omega)).symm) (show V 308 10 = _ from (if_neg (by rw [hT]; split <;> omega)).symm) (show V 308 11 = _ from (if_neg (by rw [hT]; split <;> omega)).symm) (fun z z7 z8 z9 z10 z11 => by simp only [ua]; repeat rw [if_neg (by assumption)])).symm)) dX11_nextToken_390
                                  · -- 379 ne -> 382
                                    refine x_iconst dX11_nextToken_382 ?_
                                    refine x_goto (tgt := 387) dX11_nextToken_383 ?_
                                    refine x_putI fl_X11_129 (sh_308 hS) (lq_308 hS) dX11_nextToken_387 ?_
                                    refine x_mem (V' := (up V 308 (ua (ua (ua (ua (ua (ua (V 308) 7 k) 8 k) 7 (k + 1)) 9 (tb (V 312) (V 308 4) k)) 7 ((k + 1) + 1)) 9 4))) (st2_up _ _ _ _ _) ?_
                                    exact x_vret hQ (by have hd : tTwo (V 312) (V 308 4) (V 308 7) := ⟨by rw [hC]; omega, by rw [hpl]; omega⟩; have hT := tTok_4 hd; have hX := tNx_4 hd; exact rV.mk (upE rfl (mTok_eq (g := ua (ua (ua (ua (ua (ua (V 308) 7 k) 8 k) 7 (k + 1)) 9 (tb (V 312) (V 308 4) k)) 7 ((k + 1) + 1)) 9 4) (show (k + 1) + 1 = _ from by rw [hX, hpl]) (show k = _ from hpl.symm) (show 4 = _ from by rw [hT, hC]; first | exact (if_pos (by omega)).symm | exact (if_neg (by omega)).symm) (show V 308 10 = _ from (if_neg (by rw [hT]; split <;> omega)).symm) (show V 308 11 = _ from (if_neg (by rw [hT]; split <;> omega)).symm) (fun z z7 z8 z9 z10 z11 => by simp only [ua]; repeat rw [if_neg (by assumption)])).symm)) dX11_nextToken_390
                              · -- 343 eq -> 346
                                refine x_il1 dX11_nextToken_346 ?_
                                refine x_bipush dX11_nextToken_347 ?_
                                refine x_icmp_ne (tgt := 390) dX11_nextToken_349 (inr (by omega)) (inr (by decide)) (fun c349_51 => ?_) (fun c349_51 => ?_)
                                · -- 349 ne -> 390
                                  exact x_vret hQ (by have hd1 : ¬ isDg (tC (V 312) (V 308 4) (V 308 7)) := (by rw [hC]; assumption); have hd2 : ¬ isLt (tC (V 312) (V 308 4) (V 308 7)) := (by rw [hC]; assumption); have hd3 : ¬ tTwo (V 312) (V 308 4) (V 308 7) := (by intro z; rcases z with ⟨z1, z2⟩; rw [hC] at z1; rw [hpl] at z2; omega); have hd0 : 0 ≤ tC (V 312) (V 308 4) (V 308 7) := (by rw [hC]; omega); have hT := tTok_3 hd0 hd1 hd2 hd3; have hX := tNx_3 hd0 hd1 hd2 hd3; rw [hC] at hT; exact rV.mk (upE rfl (mTok_eq (g := ua (ua (ua (ua (V 308) 7 k) 8 k) 7 (k + 1)) 9 (tb (V 312) (V 308 4) k)) (show k + 1 = _ from by rw [hX, hpl]) (show k = _ from hpl.symm) (show tb (V 312) (V 308 4) k = _ from by rw [hT]; first | exact (if_pos (by omega)).symm | exact (if_neg (by omega)).symm) (show V 308 10 = _ from (if_neg (by rw [hT]; split <;> omega)).symm) (show V 308 11 = _ from (if_neg (by rw [hT]; split <;> omega)).symm) (fun z z7 z8 z9 z10 z11 => by simp only [ua]; repeat rw [if_neg (by assumption)])).symm)) dX11_nextToken_390
                                · -- 349 ne -> 352
                                  refine x_al0 dX11_nextToken_352 ?_
                                  refine x_al0 dX11_nextToken_353 ?_
                                  refine x_getI fl_X11_120 (sh_308 hS) (lq_308 hS) dX11_nextToken_354 ?_
                                  refine x_topI (a' := k + 1) (show (ua (ua (ua (ua (V 308) 7 k) 8 k) 7 (k + 1)) 9 (tb (V 312) (V 308 4) k)) 7 = k + 1 from ((ua_ne (by decide)).trans (ua_same _ _ _))) ?_
                                  refine x_cVi mm_X11_byteAt ml_X11_123 dX11_nextToken_357 (c_X11_byteAt2 (k + 1) hS (show 0 ≤ (V 308 4) ∧ (V 308 4) ≤ 300 from hT) (by omega)) (sh_308 hS) (lq_308 hS) ?_
                                  refine x_topI (a' := tb (V 312) (V 308 4) (k + 1)) rfl ?_
                                  refine x_bipush dX11_nextToken_360 ?_
                                  refine x_icmp_ne (tgt := 390) dX11_nextToken_362 (inr (by omega)) (inr (by decide)) (fun c362_52 => ?_) (fun c362_52 => ?_)
                                  · -- 362 ne -> 390
                                    exact x_vret hQ (by have hd1 : ¬ isDg (tC (V 312) (V 308 4) (V 308 7)) := (by rw [hC]; assumption); have hd2 : ¬ isLt (tC (V 312) (V 308 4) (V 308 7)) := (by rw [hC]; assumption); have hd3 : ¬ tTwo (V 312) (V 308 4) (V 308 7) := (by intro z; rcases z with ⟨z1, z2⟩; rw [hC] at z1; rw [hpl] at z2; omega); have hd0 : 0 ≤ tC (V 312) (V 308 4) (V 308 7) := (by rw [hC]; omega); have hT := tTok_3 hd0 hd1 hd2 hd3; have hX := tNx_3 hd0 hd1 hd2 hd3; rw [hC] at hT; exact rV.mk (upE rfl (mTok_eq (g := ua (ua (ua (ua (V 308) 7 k) 8 k) 7 (k + 1)) 9 (tb (V 312) (V 308 4) k)) (show k + 1 = _ from by rw [hX, hpl]) (show k = _ from hpl.symm) (show tb (V 312) (V 308 4) k = _ from by rw [hT]; first | exact (if_pos (by omega)).symm | exact (if_neg (by omega)).symm) (show V 308 10 = _ from (if_neg (by rw [hT]; split <;> omega)).symm) (show V 308 11 = _ from (if_neg (by rw [hT]; split <;> omega)).symm) (fun z z7 z8 z9 z10 z11 => by simp only [ua]; repeat rw [if_neg (by assumption)])).symm)) dX11_nextToken_390
                                  · -- 362 ne -> 365
                                    refine x_al0 dX11_nextToken_365 ?_
                                    refine x_dup dX11_nextToken_366 ?_
                                    refine x_getI fl_X11_120 (sh_308 hS) (lq_308 hS) dX11_nextToken_367 ?_
                                    refine x_topI (a' := k + 1) (show (ua (ua (ua (ua (V 308) 7 k) 8 k) 7 (k + 1)) 9 (tb (V 312) (V 308 4) k)) 7 = k + 1 from ((ua_ne (by decide)).trans (ua_same _ _ _))) ?_
                                    refine x_iconst dX11_nextToken_370 ?_
                                    refine x_iadd dX11_nextToken_371 ?_
                                    refine x_putI fl_X11_120 (sh_308 hS) (lq_308 hS) dX11_nextToken_372 ?_
                                    refine x_mem (V' := (up V 308 (ua (ua (ua (ua (ua (V 308) 7 k) 8 k) 7 (k + 1)) 9 (tb (V 312) (V 308 4) k)) 7 ((k + 1) + 1)))) (st2_up _ _ _ _ _) ?_
                                    refine x_al0 dX11_nextToken_375 ?_
                                    refine x_il1 dX11_nextToken_376 ?_
                                    refine x_bipush dX11_nextToken_377 ?_
                                    refine x_icmp_ne (tgt := 386) dX11_nextToken_379 (inr (by omega)) (inr (by decide)) (fun c379_53 => ?_) (fun c379_53 => ?_)
                                    · -- 379 ne -> 386
                                      refine x_iconst dX11_nextToken_386 ?_
                                      refine x_putI fl_X11_129 (sh_308 hS) (lq_308 hS) dX11_nextToken_387 ?_
                                      refine x_mem (V' := (up V 308 (ua (ua (ua (ua (ua (ua (V 308) 7 k) 8 k) 7 (k + 1)) 9 (tb (V 312) (V 308 4) k)) 7 ((k + 1) + 1)) 9 5))) (st2_up _ _ _ _ _) ?_
                                      exact x_vret hQ (by have hd : tTwo (V 312) (V 308 4) (V 308 7) := ⟨by rw [hC]; omega, by rw [hpl]; omega⟩; have hT := tTok_4 hd; have hX := tNx_4 hd; exact rV.mk (upE rfl (mTok_eq (g := ua (ua (ua (ua (ua (ua (V 308) 7 k) 8 k) 7 (k + 1)) 9 (tb (V 312) (V 308 4) k)) 7 ((k + 1) + 1)) 9 5) (show (k + 1) + 1 = _ from by rw [hX, hpl]) (show k = _ from hpl.symm) (show 5 = _ from by rw [hT, hC]; first | exact (if_pos (by omega)).symm | exact (if_neg (by omega)).symm) (show V 308 10 = _ from (if_neg (by rw [hT]; split <;> omega)).symm) (show V 308 11 = _ from (if_neg (by rw [hT]; split <;> omega)).symm) (fun z z7 z8 z9 z10 z11 => by simp only [ua]; repeat rw [if_neg (by assumption)])).symm)) dX11_nextToken_390
                                    · -- 379 ne -> 382
                                      refine x_iconst dX11_nextToken_382 ?_
                                      refine x_goto (tgt := 387) dX11_nextToken_383 ?_
                                      refine x_putI fl_X11_129 (sh_308 hS) (lq_308 hS) dX11_nextToken_387 ?_
                                      refine x_mem (V' := (up V 308 (ua (ua (ua (ua (ua (ua (V 308) 7 k) 8 k) 7 (k + 1)) 9 (tb (V 312) (V 308 4) k)) 7 ((k + 1) + 1)) 9 4))) (st2_up _ _ _ _ _) ?_
                                      exact x_vret hQ (by have hd : tTwo (V 312) (V 308 4) (V 308 7) := ⟨by rw [hC]; omega, by rw [hpl]; omega⟩; have hT := tTok_4 hd; have hX := tNx_4 hd; exact rV.mk (upE rfl (mTok_eq (g := ua (ua (ua (ua (ua (ua (V 308) 7 k) 8 k) 7 (k + 1)) 9 (tb (V 312) (V 308 4) k)) 7 ((k + 1) + 1)) 9 4) (show (k + 1) + 1 = _ from by rw [hX, hpl]) (show k = _ from hpl.symm) (show 4 = _ from by rw [hT, hC]; first | exact (if_pos (by omega)).symm | exact (if_neg (by omega)).symm) (show V 308 10 = _ from (if_neg (by rw [hT]; split <;> omega)).symm) (show V 308 11 = _ from (if_neg (by rw [hT]; split <;> omega)).symm) (fun z z7 z8 z9 z10 z11 => by simp only [ua]; repeat rw [if_neg (by assumption)])).symm)) dX11_nextToken_390
                          · -- 288 eq -> 291
                            refine x_il1 dX11_nextToken_291 ?_
                            refine x_bipush dX11_nextToken_292 ?_
                            refine x_icmp_eq (tgt := 321) dX11_nextToken_294 (inr (by omega)) (inr (by decide)) (fun c294_54 => ?_) (fun c294_54 => ?_)
                            · -- 294 eq -> 321
                              refine x_iconst dX11_nextToken_321 ?_
                              refine x_goto (tgt := 326) dX11_nextToken_322 ?_
                              refine x_is2 dX11_nextToken_326 ?_
                              refine x_al0 dX11_nextToken_327 ?_
                              refine x_il2 dX11_nextToken_328 ?_
                              refine x_if_eq (tgt := 336) dX11_nextToken_329 (inr (by decide)) (fun c329_55 => ?_) (fun c329_55 => ?_)
                              · exact absurd c329_55 (by decide)
                              · -- 329 eq -> 332
                                refine x_il1 dX11_nextToken_332 ?_
                                refine x_goto (tgt := 337) dX11_nextToken_333 ?_
                                refine x_putI fl_X11_129 (sh_308 hS) (lq_308 hS) dX11_nextToken_337 ?_
                                refine x_mem (V' := (up V 308 (ua (ua (ua (ua (V 308) 7 k) 8 k) 7 (k + 1)) 9 (tb (V 312) (V 308 4) k)))) (st2_up _ _ _ _ _) ?_
                                refine x_il1 dX11_nextToken_340 ?_
                                refine x_bipush dX11_nextToken_341 ?_
                                refine x_icmp_eq (tgt := 352) dX11_nextToken_343 (inr (by omega)) (inr (by decide)) (fun c343_56 => ?_) (fun c343_56 => ?_)
                                · -- 343 eq -> 352
                                  refine x_al0 dX11_nextToken_352 ?_
                                  refine x_al0 dX11_nextToken_353 ?_
                                  refine x_getI fl_X11_120 (sh_308 hS) (lq_308 hS) dX11_nextToken_354 ?_
                                  refine x_topI (a' := k + 1) (show (ua (ua (ua (ua (V 308) 7 k) 8 k) 7 (k + 1)) 9 (tb (V 312) (V 308 4) k)) 7 = k + 1 from ((ua_ne (by decide)).trans (ua_same _ _ _))) ?_
                                  refine x_cVi mm_X11_byteAt ml_X11_123 dX11_nextToken_357 (c_X11_byteAt2 (k + 1) hS (show 0 ≤ (V 308 4) ∧ (V 308 4) ≤ 300 from hT) (by omega)) (sh_308 hS) (lq_308 hS) ?_
                                  refine x_topI (a' := tb (V 312) (V 308 4) (k + 1)) rfl ?_
                                  refine x_bipush dX11_nextToken_360 ?_
                                  refine x_icmp_ne (tgt := 390) dX11_nextToken_362 (inr (by omega)) (inr (by decide)) (fun c362_57 => ?_) (fun c362_57 => ?_)
                                  · -- 362 ne -> 390
                                    exact x_vret hQ (by have hd1 : ¬ isDg (tC (V 312) (V 308 4) (V 308 7)) := (by rw [hC]; assumption); have hd2 : ¬ isLt (tC (V 312) (V 308 4) (V 308 7)) := (by rw [hC]; assumption); have hd3 : ¬ tTwo (V 312) (V 308 4) (V 308 7) := (by intro z; rcases z with ⟨z1, z2⟩; rw [hC] at z1; rw [hpl] at z2; omega); have hd0 : 0 ≤ tC (V 312) (V 308 4) (V 308 7) := (by rw [hC]; omega); have hT := tTok_3 hd0 hd1 hd2 hd3; have hX := tNx_3 hd0 hd1 hd2 hd3; rw [hC] at hT; exact rV.mk (upE rfl (mTok_eq (g := ua (ua (ua (ua (V 308) 7 k) 8 k) 7 (k + 1)) 9 (tb (V 312) (V 308 4) k)) (show k + 1 = _ from by rw [hX, hpl]) (show k = _ from hpl.symm) (show tb (V 312) (V 308 4) k = _ from by rw [hT]; first | exact (if_pos (by omega)).symm | exact (if_neg (by omega)).symm) (show V 308 10 = _ from (if_neg (by rw [hT]; split <;> omega)).symm) (show V 308 11 = _ from (if_neg (by rw [hT]; split <;> omega)).symm) (fun z z7 z8 z9 z10 z11 => by simp only [ua]; repeat rw [if_neg (by assumption)])).symm)) dX11_nextToken_390
                                  · -- 362 ne -> 365
                                    refine x_al0 dX11_nextToken_365 ?_
                                    refine x_dup dX11_nextToken_366 ?_
                                    refine x_getI fl_X11_120 (sh_308 hS) (lq_308 hS) dX11_nextToken_367 ?_
                                    refine x_topI (a' := k + 1) (show (ua (ua (ua (ua (V 308) 7 k) 8 k) 7 (k + 1)) 9 (tb (V 312) (V 308 4) k)) 7 = k + 1 from ((ua_ne (by decide)).trans (ua_same _ _ _))) ?_
                                    refine x_iconst dX11_nextToken_370 ?_
                                    refine x_iadd dX11_nextToken_371 ?_
                                    refine x_putI fl_X11_120 (sh_308 hS) (lq_308 hS) dX11_nextToken_372 ?_
                                    refine x_mem (V' := (up V 308 (ua (ua (ua (ua (ua (V 308) 7 k) 8 k) 7 (k + 1)) 9 (tb (V 312) (V 308 4) k)) 7 ((k + 1) + 1)))) (st2_up _ _ _ _ _) ?_
                                    refine x_al0 dX11_nextToken_375 ?_
                                    refine x_il1 dX11_nextToken_376 ?_
                                    refine x_bipush dX11_nextToken_377 ?_
                                    refine x_icmp_ne (tgt := 386) dX11_nextToken_379 (inr (by omega)) (inr (by decide)) (fun c379_58 => ?_) (fun c379_58 => ?_)
                                    · -- 379 ne -> 386
                                      refine x_iconst dX11_nextToken_386 ?_
                                      refine x_putI fl_X11_129 (sh_308 hS) (lq_308 hS) dX11_nextToken_387 ?_
                                      refine x_mem (V' := (up V 308 (ua (ua (ua (ua (ua (ua (V 308) 7 k) 8 k) 7 (k + 1)) 9 (tb (V 312) (V 308 4) k)) 7 ((k + 1) + 1)) 9 5))) (st2_up _ _ _ _ _) ?_
                                      exact x_vret hQ (by have hd : tTwo (V 312) (V 308 4) (V 308 7) := ⟨by rw [hC]; omega, by rw [hpl]; omega⟩; have hT := tTok_4 hd; have hX := tNx_4 hd; exact rV.mk (upE rfl (mTok_eq (g := ua (ua (ua (ua (ua (ua (V 308) 7 k) 8 k) 7 (k + 1)) 9 (tb (V 312) (V 308 4) k)) 7 ((k + 1) + 1)) 9 5) (show (k + 1) + 1 = _ from by rw [hX, hpl]) (show k = _ from hpl.symm) (show 5 = _ from by rw [hT, hC]; first | exact (if_pos (by omega)).symm | exact (if_neg (by omega)).symm) (show V 308 10 = _ from (if_neg (by rw [hT]; split <;> omega)).symm) (show V 308 11 = _ from (if_neg (by rw [hT]; split <;> omega)).symm) (fun z z7 z8 z9 z10 z11 => by simp only [ua]; repeat rw [if_neg (by assumption)])).symm)) dX11_nextToken_390
                                    · -- 379 ne -> 382
                                      refine x_iconst dX11_nextToken_382 ?_
                                      refine x_goto (tgt := 387) dX11_nextToken_383 ?_
                                      refine x_putI fl_X11_129 (sh_308 hS) (lq_308 hS) dX11_nextToken_387 ?_
                                      refine x_mem (V' := (up V 308 (ua (ua (ua (ua (ua (ua (V 308) 7 k) 8 k) 7 (k + 1)) 9 (tb (V 312) (V 308 4) k)) 7 ((k + 1) + 1)) 9 4))) (st2_up _ _ _ _ _) ?_
                                      exact x_vret hQ (by have hd : tTwo (V 312) (V 308 4) (V 308 7) := ⟨by rw [hC]; omega, by rw [hpl]; omega⟩; have hT := tTok_4 hd; have hX := tNx_4 hd; exact rV.mk (upE rfl (mTok_eq (g := ua (ua (ua (ua (ua (ua (V 308) 7 k) 8 k) 7 (k + 1)) 9 (tb (V 312) (V 308 4) k)) 7 ((k + 1) + 1)) 9 4) (show (k + 1) + 1 = _ from by rw [hX, hpl]) (show k = _ from hpl.symm) (show 4 = _ from by rw [hT, hC]; first | exact (if_pos (by omega)).symm | exact (if_neg (by omega)).symm) (show V 308 10 = _ from (if_neg (by rw [hT]; split <;> omega)).symm) (show V 308 11 = _ from (if_neg (by rw [hT]; split <;> omega)).symm) (fun z z7 z8 z9 z10 z11 => by simp only [ua]; repeat rw [if_neg (by assumption)])).symm)) dX11_nextToken_390
                                · -- 343 eq -> 346
                                  refine x_il1 dX11_nextToken_346 ?_
                                  refine x_bipush dX11_nextToken_347 ?_
                                  refine x_icmp_ne (tgt := 390) dX11_nextToken_349 (inr (by omega)) (inr (by decide)) (fun c349_59 => ?_) (fun c349_59 => ?_)
                                  · -- 349 ne -> 390
                                    exact x_vret hQ (by have hd1 : ¬ isDg (tC (V 312) (V 308 4) (V 308 7)) := (by rw [hC]; assumption); have hd2 : ¬ isLt (tC (V 312) (V 308 4) (V 308 7)) := (by rw [hC]; assumption); have hd3 : ¬ tTwo (V 312) (V 308 4) (V 308 7) := (by intro z; rcases z with ⟨z1, z2⟩; rw [hC] at z1; rw [hpl] at z2; omega); have hd0 : 0 ≤ tC (V 312) (V 308 4) (V 308 7) := (by rw [hC]; omega); have hT := tTok_3 hd0 hd1 hd2 hd3; have hX := tNx_3 hd0 hd1 hd2 hd3; rw [hC] at hT; exact rV.mk (upE rfl (mTok_eq (g := ua (ua (ua (ua (V 308) 7 k) 8 k) 7 (k + 1)) 9 (tb (V 312) (V 308 4) k)) (show k + 1 = _ from by rw [hX, hpl]) (show k = _ from hpl.symm) (show tb (V 312) (V 308 4) k = _ from by rw [hT]; first | exact (if_pos (by omega)).symm | exact (if_neg (by omega)).symm) (show V 308 10 = _ from (if_neg (by rw [hT]; split <;> omega)).symm) (show V 308 11 = _ from (if_neg (by rw [hT]; split <;> omega)).symm) (fun z z7 z8 z9 z10 z11 => by simp only [ua]; repeat rw [if_neg (by assumption)])).symm)) dX11_nextToken_390
                                  · -- 349 ne -> 352
                                    refine x_al0 dX11_nextToken_352 ?_
                                    refine x_al0 dX11_nextToken_353 ?_
                                    refine x_getI fl_X11_120 (sh_308 hS) (lq_308 hS) dX11_nextToken_354 ?_
                                    refine x_topI (a' := k + 1) (show (ua (ua (ua (ua (V 308) 7 k) 8 k) 7 (k + 1)) 9 (tb (V 312) (V 308 4) k)) 7 = k + 1 from ((ua_ne (by decide)).trans (ua_same _ _ _))) ?_
                                    refine x_cVi mm_X11_byteAt ml_X11_123 dX11_nextToken_357 (c_X11_byteAt2 (k + 1) hS (show 0 ≤ (V 308 4) ∧ (V 308 4) ≤ 300 from hT) (by omega)) (sh_308 hS) (lq_308 hS) ?_
                                    refine x_topI (a' := tb (V 312) (V 308 4) (k + 1)) rfl ?_
                                    refine x_bipush dX11_nextToken_360 ?_
                                    refine x_icmp_ne (tgt := 390) dX11_nextToken_362 (inr (by omega)) (inr (by decide)) (fun c362_60 => ?_) (fun c362_60 => ?_)
                                    · -- 362 ne -> 390
                                      exact x_vret hQ (by have hd1 : ¬ isDg (tC (V 312) (V 308 4) (V 308 7)) := (by rw [hC]; assumption); have hd2 : ¬ isLt (tC (V 312) (V 308 4) (V 308 7)) := (by rw [hC]; assumption); have hd3 : ¬ tTwo (V 312) (V 308 4) (V 308 7) := (by intro z; rcases z with ⟨z1, z2⟩; rw [hC] at z1; rw [hpl] at z2; omega); have hd0 : 0 ≤ tC (V 312) (V 308 4) (V 308 7) := (by rw [hC]; omega); have hT := tTok_3 hd0 hd1 hd2 hd3; have hX := tNx_3 hd0 hd1 hd2 hd3; rw [hC] at hT; exact rV.mk (upE rfl (mTok_eq (g := ua (ua (ua (ua (V 308) 7 k) 8 k) 7 (k + 1)) 9 (tb (V 312) (V 308 4) k)) (show k + 1 = _ from by rw [hX, hpl]) (show k = _ from hpl.symm) (show tb (V 312) (V 308 4) k = _ from by rw [hT]; first | exact (if_pos (by omega)).symm | exact (if_neg (by omega)).symm) (show V 308 10 = _ from (if_neg (by rw [hT]; split <;> omega)).symm) (show V 308 11 = _ from (if_neg (by rw [hT]; split <;> omega)).symm) (fun z z7 z8 z9 z10 z11 => by simp only [ua]; repeat rw [if_neg (by assumption)])).symm)) dX11_nextToken_390
                                    · -- 362 ne -> 365
                                      refine x_al0 dX11_nextToken_365 ?_
                                      refine x_dup dX11_nextToken_366 ?_
                                      refine x_getI fl_X11_120 (sh_308 hS) (lq_308 hS) dX11_nextToken_367 ?_
                                      refine x_topI (a' := k + 1) (show (ua (ua (ua (ua (V 308) 7 k) 8 k) 7 (k + 1)) 9 (tb (V 312) (V 308 4) k)) 7 = k + 1 from ((ua_ne (by decide)).trans (ua_same _ _ _))) ?_
                                      refine x_iconst dX11_nextToken_370 ?_
                                      refine x_iadd dX11_nextToken_371 ?_
                                      refine x_putI fl_X11_120 (sh_308 hS) (lq_308 hS) dX11_nextToken_372 ?_
                                      refine x_mem (V' := (up V 308 (ua (ua (ua (ua (ua (V 308) 7 k) 8 k) 7 (k + 1)) 9 (tb (V 312) (V 308 4) k)) 7 ((k + 1) + 1)))) (st2_up _ _ _ _ _) ?_
                                      refine x_al0 dX11_nextToken_375 ?_
                                      refine x_il1 dX11_nextToken_376 ?_
                                      refine x_bipush dX11_nextToken_377 ?_
                                      refine x_icmp_ne (tgt := 386) dX11_nextToken_379 (inr (by omega)) (inr (by decide)) (fun c379_61 => ?_) (fun c379_61 => ?_)
                                      · -- 379 ne -> 386
                                        refine x_iconst dX11_nextToken_386 ?_
                                        refine x_putI fl_X11_129 (sh_308 hS) (lq_308 hS) dX11_nextToken_387 ?_
                                        refine x_mem (V' := (up V 308 (ua (ua (ua (ua (ua (ua (V 308) 7 k) 8 k) 7 (k + 1)) 9 (tb (V 312) (V 308 4) k)) 7 ((k + 1) + 1)) 9 5))) (st2_up _ _ _ _ _) ?_
                                        exact x_vret hQ (by have hd : tTwo (V 312) (V 308 4) (V 308 7) := ⟨by rw [hC]; omega, by rw [hpl]; omega⟩; have hT := tTok_4 hd; have hX := tNx_4 hd; exact rV.mk (upE rfl (mTok_eq (g := ua (ua (ua (ua (ua (ua (V 308) 7 k) 8 k) 7 (k + 1)) 9 (tb (V 312) (V 308 4) k)) 7 ((k + 1) + 1)) 9 5) (show (k + 1) + 1 = _ from by rw [hX, hpl]) (show k = _ from hpl.symm) (show 5 = _ from by rw [hT, hC]; first | exact (if_pos (by omega)).symm | exact (if_neg (by omega)).symm) (show V 308 10 = _ from (if_neg (by rw [hT]; split <;> omega)).symm) (show V 308 11 = _ from (if_neg (by rw [hT]; split <;> omega)).symm) (fun z z7 z8 z9 z10 z11 => by simp only [ua]; repeat rw [if_neg (by assumption)])).symm)) dX11_nextToken_390
                                      · -- 379 ne -> 382
                                        refine x_iconst dX11_nextToken_382 ?_
                                        refine x_goto (tgt := 387) dX11_nextToken_383 ?_
                                        refine x_putI fl_X11_129 (sh_308 hS) (lq_308 hS) dX11_nextToken_387 ?_
                                        refine x_mem (V' := (up V 308 (ua (ua (ua (ua (ua (ua (V 308) 7 k) 8 k) 7 (k + 1)) 9 (tb (V 312) (V 308 4) k)) 7 ((k + 1) + 1)) 9 4))) (st2_up _ _ _ _ _) ?_
                                        exact x_vret hQ (by have hd : tTwo (V 312) (V 308 4) (V 308 7) := ⟨by rw [hC]; omega, by rw [hpl]; omega⟩; have hT := tTok_4 hd; have hX := tNx_4 hd; exact rV.mk (upE rfl (mTok_eq (g := ua (ua (ua (ua (ua (ua (V 308) 7 k) 8 k) 7 (k + 1)) 9 (tb (V 312) (V 308 4) k)) 7 ((k + 1) + 1)) 9 4) (show (k + 1) + 1 = _ from by rw [hX, hpl]) (show k = _ from hpl.symm) (show 4 = _ from by rw [hT, hC]; first | exact (if_pos (by omega)).symm | exact (if_neg (by omega)).symm) (show V 308 10 = _ from (if_neg (by rw [hT]; split <;> omega)).symm) (show V 308 11 = _ from (if_neg (by rw [hT]; split <;> omega)).symm) (fun z z7 z8 z9 z10 z11 => by simp only [ua]; repeat rw [if_neg (by assumption)])).symm)) dX11_nextToken_390
                            · -- 294 eq -> 297
                              refine x_il1 dX11_nextToken_297 ?_
                              refine x_bipush dX11_nextToken_298 ?_
                              refine x_icmp_eq (tgt := 321) dX11_nextToken_300 (inr (by omega)) (inr (by decide)) (fun c300_62 => ?_) (fun c300_62 => ?_)
                              · -- 300 eq -> 321
                                refine x_iconst dX11_nextToken_321 ?_
                                refine x_goto (tgt := 326) dX11_nextToken_322 ?_
                                refine x_is2 dX11_nextToken_326 ?_
                                refine x_al0 dX11_nextToken_327 ?_
                                refine x_il2 dX11_nextToken_328 ?_
                                refine x_if_eq (tgt := 336) dX11_nextToken_329 (inr (by decide)) (fun c329_63 => ?_) (fun c329_63 => ?_)
                                · exact absurd c329_63 (by decide)
                                · -- 329 eq -> 332
                                  refine x_il1 dX11_nextToken_332 ?_
                                  refine x_goto (tgt := 337) dX11_nextToken_333 ?_
                                  refine x_putI fl_X11_129 (sh_308 hS) (lq_308 hS) dX11_nextToken_337 ?_
                                  refine x_mem (V' := (up V 308 (ua (ua (ua (ua (V 308) 7 k) 8 k) 7 (k + 1)) 9 (tb (V 312) (V 308 4) k)))) (st2_up _ _ _ _ _) ?_
                                  refine x_il1 dX11_nextToken_340 ?_
                                  refine x_bipush dX11_nextToken_341 ?_
                                  refine x_icmp_eq (tgt := 352) dX11_nextToken_343 (inr (by omega)) (inr (by decide)) (fun c343_64 => ?_) (fun c343_64 => ?_)
                                  · -- 343 eq -> 352
                                    refine x_al0 dX11_nextToken_352 ?_
                                    refine x_al0 dX11_nextToken_353 ?_
                                    refine x_getI fl_X11_120 (sh_308 hS) (lq_308 hS) dX11_nextToken_354 ?_
                                    refine x_topI (a' := k + 1) (show (ua (ua (ua (ua (V 308) 7 k) 8 k) 7 (k + 1)) 9 (tb (V 312) (V 308 4) k)) 7 = k + 1 from ((ua_ne (by decide)).trans (ua_same _ _ _))) ?_
                                    refine x_cVi mm_X11_byteAt ml_X11_123 dX11_nextToken_357 (c_X11_byteAt2 (k + 1) hS (show 0 ≤ (V 308 4) ∧ (V 308 4) ≤ 300 from hT) (by omega)) (sh_308 hS) (lq_308 hS) ?_
                                    refine x_topI (a' := tb (V 312) (V 308 4) (k + 1)) rfl ?_
                                    refine x_bipush dX11_nextToken_360 ?_
                                    refine x_icmp_ne (tgt := 390) dX11_nextToken_362 (inr (by omega)) (inr (by decide)) (fun c362_65 => ?_) (fun c362_65 => ?_)
                                    · -- 362 ne -> 390
                                      exact x_vret hQ (by have hd1 : ¬ isDg (tC (V 312) (V 308 4) (V 308 7)) := (by rw [hC]; assumption); have hd2 : ¬ isLt (tC (V 312) (V 308 4) (V 308 7)) := (by rw [hC]; assumption); have hd3 : ¬ tTwo (V 312) (V 308 4) (V 308 7) := (by intro z; rcases z with ⟨z1, z2⟩; rw [hC] at z1; rw [hpl] at z2; omega); have hd0 : 0 ≤ tC (V 312) (V 308 4) (V 308 7) := (by rw [hC]; omega); have hT := tTok_3 hd0 hd1 hd2 hd3; have hX := tNx_3 hd0 hd1 hd2 hd3; rw [hC] at hT; exact rV.mk (upE rfl (mTok_eq (g := ua (ua (ua (ua (V 308) 7 k) 8 k) 7 (k + 1)) 9 (tb (V 312) (V 308 4) k)) (show k + 1 = _ from by rw [hX, hpl]) (show k = _ from hpl.symm) (show tb (V 312) (V 308 4) k = _ from by rw [hT]; first | exact (if_pos (by omega)).symm | exact (if_neg (by omega)).symm) (show V 308 10 = _ from (if_neg (by rw [hT]; split <;> omega)).symm) (show V 308 11 = _ from (if_neg (by rw [hT]; split <;> omega)).symm) (fun z z7 z8 z9 z10 z11 => by simp only [ua]; repeat rw [if_neg (by assumption)])).symm)) dX11_nextToken_390
                                    · -- 362 ne -> 365
                                      refine x_al0 dX11_nextToken_365 ?_
                                      refine x_dup dX11_nextToken_366 ?_
                                      refine x_getI fl_X11_120 (sh_308 hS) (lq_308 hS) dX11_nextToken_367 ?_
                                      refine x_topI (a' := k + 1) (show (ua (ua (ua (ua (V 308) 7 k) 8 k) 7 (k + 1)) 9 (tb (V 312) (V 308 4) k)) 7 = k + 1 from ((ua_ne (by decide)).trans (ua_same _ _ _))) ?_
                                      refine x_iconst dX11_nextToken_370 ?_
                                      refine x_iadd dX11_nextToken_371 ?_
                                      refine x_putI fl_X11_120 (sh_308 hS) (lq_308 hS) dX11_nextToken_372 ?_
                                      refine x_mem (V' := (up V 308 (ua (ua (ua (ua (ua (V 308) 7 k) 8 k) 7 (k + 1)) 9 (tb (V 312) (V 308 4) k)) 7 ((k + 1) + 1)))) (st2_up _ _ _ _ _) ?_
                                      refine x_al0 dX11_nextToken_375 ?_
                                      refine x_il1 dX11_nextToken_376 ?_
                                      refine x_bipush dX11_nextToken_377 ?_
                                      refine x_icmp_ne (tgt := 386) dX11_nextToken_379 (inr (by omega)) (inr (by decide)) (fun c379_66 => ?_) (fun c379_66 => ?_)
                                      · -- 379 ne -> 386
                                        refine x_iconst dX11_nextToken_386 ?_
                                        refine x_putI fl_X11_129 (sh_308 hS) (lq_308 hS) dX11_nextToken_387 ?_
                                        refine x_mem (V' := (up V 308 (ua (ua (ua (ua (ua (ua (V 308) 7 k) 8 k) 7 (k + 1)) 9 (tb (V 312) (V 308 4) k)) 7 ((k + 1) + 1)) 9 5))) (st2_up _ _ _ _ _) ?_
                                        exact x_vret hQ (by have hd : tTwo (V 312) (V 308 4) (V 308 7) := ⟨by rw [hC]; omega, by rw [hpl]; omega⟩; have hT := tTok_4 hd; have hX := tNx_4 hd; exact rV.mk (upE rfl (mTok_eq (g := ua (ua (ua (ua (ua (ua (V 308) 7 k) 8 k) 7 (k + 1)) 9 (tb (V 312) (V 308 4) k)) 7 ((k + 1) + 1)) 9 5) (show (k + 1) + 1 = _ from by rw [hX, hpl]) (show k = _ from hpl.symm) (show 5 = _ from by rw [hT, hC]; first | exact (if_pos (by omega)).symm | exact (if_neg (by omega)).symm) (show V 308 10 = _ from (if_neg (by rw [hT]; split <;> omega)).symm) (show V 308 11 = _ from (if_neg (by rw [hT]; split <;> omega)).symm) (fun z z7 z8 z9 z10 z11 => by simp only [ua]; repeat rw [if_neg (by assumption)])).symm)) dX11_nextToken_390
                                      · -- 379 ne -> 382
                                        refine x_iconst dX11_nextToken_382 ?_
                                        refine x_goto (tgt := 387) dX11_nextToken_383 ?_
                                        refine x_putI fl_X11_129 (sh_308 hS) (lq_308 hS) dX11_nextToken_387 ?_
                                        refine x_mem (V' := (up V 308 (ua (ua (ua (ua (ua (ua (V 308) 7 k) 8 k) 7 (k + 1)) 9 (tb (V 312) (V 308 4) k)) 7 ((k + 1) + 1)) 9 4))) (st2_up _ _ _ _ _) ?_
                                        exact x_vret hQ (by have hd : tTwo (V 312) (V 308 4) (V 308 7) := ⟨by rw [hC]; omega, by rw [hpl]; omega⟩; have hT := tTok_4 hd; have hX := tNx_4 hd; exact rV.mk (upE rfl (mTok_eq (g := ua (ua (ua (ua (ua (ua (V 308) 7 k) 8 k) 7 (k + 1)) 9 (tb (V 312) (V 308 4) k)) 7 ((k + 1) + 1)) 9 4) (show (k + 1) + 1 = _ from by rw [hX, hpl]) (show k = _ from hpl.symm) (show 4 = _ from by rw [hT, hC]; first | exact (if_pos (by omega)).symm | exact (if_neg (by omega)).symm) (show V 308 10 = _ from (if_neg (by rw [hT]; split <;> omega)).symm) (show V 308 11 = _ from (if_neg (by rw [hT]; split <;> omega)).symm) (fun z z7 z8 z9 z10 z11 => by simp only [ua]; repeat rw [if_neg (by assumption)])).symm)) dX11_nextToken_390
                                  · -- 343 eq -> 346
                                    refine x_il1 dX11_nextToken_346 ?_
                                    refine x_bipush dX11_nextToken_347 ?_
                                    refine x_icmp_ne (tgt := 390) dX11_nextToken_349 (inr (by omega)) (inr (by decide)) (fun c349_67 => ?_) (fun c349_67 => ?_)
                                    · -- 349 ne -> 390
                                      exact x_vret hQ (by have hd1 : ¬ isDg (tC (V 312) (V 308 4) (V 308 7)) := (by rw [hC]; assumption); have hd2 : ¬ isLt (tC (V 312) (V 308 4) (V 308 7)) := (by rw [hC]; assumption); have hd3 : ¬ tTwo (V 312) (V 308 4) (V 308 7) := (by intro z; rcases z with ⟨z1, z2⟩; rw [hC] at z1; rw [hpl] at z2; omega); have hd0 : 0 ≤ tC (V 312) (V 308 4) (V 308 7) := (by rw [hC]; omega); have hT := tTok_3 hd0 hd1 hd2 hd3; have hX := tNx_3 hd0 hd1 hd2 hd3; rw [hC] at hT; exact rV.mk (upE rfl (mTok_eq (g := ua (ua (ua (ua (V 308) 7 k) 8 k) 7 (k + 1)) 9 (tb (V 312) (V 308 4) k)) (show k + 1 = _ from by rw [hX, hpl]) (show k = _ from hpl.symm) (show tb (V 312) (V 308 4) k = _ from by rw [hT]; first | exact (if_pos (by omega)).symm | exact (if_neg (by omega)).symm) (show V 308 10 = _ from (if_neg (by rw [hT]; split <;> omega)).symm) (show V 308 11 = _ from (if_neg (by rw [hT]; split <;> omega)).symm) (fun z z7 z8 z9 z10 z11 => by simp only [ua]; repeat rw [if_neg (by assumption)])).symm)) dX11_nextToken_390
                                    · -- 349 ne -> 352
                                      refine x_al0 dX11_nextToken_352 ?_
                                      refine x_al0 dX11_nextToken_353 ?_
                                      refine x_getI fl_X11_120 (sh_308 hS) (lq_308 hS) dX11_nextToken_354 ?_
                                      refine x_topI (a' := k + 1) (show (ua (ua (ua (ua (V 308) 7 k) 8 k) 7 (k + 1)) 9 (tb (V 312) (V 308 4) k)) 7 = k + 1 from ((ua_ne (by decide)).trans (ua_same _ _ _))) ?_
                                      refine x_cVi mm_X11_byteAt ml_X11_123 dX11_nextToken_357 (c_X11_byteAt2 (k + 1) hS (show 0 ≤ (V 308 4) ∧ (V 308 4) ≤ 300 from hT) (by omega)) (sh_308 hS) (lq_308 hS) ?_
                                      refine x_topI (a' := tb (V 312) (V 308 4) (k + 1)) rfl ?_
                                      refine x_bipush dX11_nextToken_360 ?_
                                      refine x_icmp_ne (tgt := 390) dX11_nextToken_362 (inr (by omega)) (inr (by decide)) (fun c362_68 => ?_) (fun c362_68 => ?_)
                                      · -- 362 ne -> 390
                                        exact x_vret hQ (by have hd1 : ¬ isDg (tC (V 312) (V 308 4) (V 308 7)) := (by rw [hC]; assumption); have hd2 : ¬ isLt (tC (V 312) (V 308 4) (V 308 7)) := (by rw [hC]; assumption); have hd3 : ¬ tTwo (V 312) (V 308 4) (V 308 7) := (by intro z; rcases z with ⟨z1, z2⟩; rw [hC] at z1; rw [hpl] at z2; omega); have hd0 : 0 ≤ tC (V 312) (V 308 4) (V 308 7) := (by rw [hC]; omega); have hT := tTok_3 hd0 hd1 hd2 hd3; have hX := tNx_3 hd0 hd1 hd2 hd3; rw [hC] at hT; exact rV.mk (upE rfl (mTok_eq (g := ua (ua (ua (ua (V 308) 7 k) 8 k) 7 (k + 1)) 9 (tb (V 312) (V 308 4) k)) (show k + 1 = _ from by rw [hX, hpl]) (show k = _ from hpl.symm) (show tb (V 312) (V 308 4) k = _ from by rw [hT]; first | exact (if_pos (by omega)).symm | exact (if_neg (by omega)).symm) (show V 308 10 = _ from (if_neg (by rw [hT]; split <;> omega)).symm) (show V 308 11 = _ from (if_neg (by rw [hT]; split <;> omega)).symm) (fun z z7 z8 z9 z10 z11 => by simp only [ua]; repeat rw [if_neg (by assumption)])).symm)) dX11_nextToken_390
                                      · -- 362 ne -> 365
                                        refine x_al0 dX11_nextToken_365 ?_
                                        refine x_dup dX11_nextToken_366 ?_
                                        refine x_getI fl_X11_120 (sh_308 hS) (lq_308 hS) dX11_nextToken_367 ?_
                                        refine x_topI (a' := k + 1) (show (ua (ua (ua (ua (V 308) 7 k) 8 k) 7 (k + 1)) 9 (tb (V 312) (V 308 4) k)) 7 = k + 1 from ((ua_ne (by decide)).trans (ua_same _ _ _))) ?_
                                        refine x_iconst dX11_nextToken_370 ?_
                                        refine x_iadd dX11_nextToken_371 ?_
                                        refine x_putI fl_X11_120 (sh_308 hS) (lq_308 hS) dX11_nextToken_372 ?_
                                        refine x_mem (V' := (up V 308 (ua (ua (ua (ua (ua (V 308) 7 k) 8 k) 7 (k + 1)) 9 (tb (V 312) (V 308 4) k)) 7 ((k + 1) + 1)))) (st2_up _ _ _ _ _) ?_
                                        refine x_al0 dX11_nextToken_375 ?_
                                        refine x_il1 dX11_nextToken_376 ?_
                                        refine x_bipush dX11_nextToken_377 ?_
                                        refine x_icmp_ne (tgt := 386) dX11_nextToken_379 (inr (by omega)) (inr (by decide)) (fun c379_69 => ?_) (fun c379_69 => ?_)
                                        · -- 379 ne -> 386
                                          refine x_iconst dX11_nextToken_386 ?_
                                          refine x_putI fl_X11_129 (sh_308 hS) (lq_308 hS) dX11_nextToken_387 ?_
                                          refine x_mem (V' := (up V 308 (ua (ua (ua (ua (ua (ua (V 308) 7 k) 8 k) 7 (k + 1)) 9 (tb (V 312) (V 308 4) k)) 7 ((k + 1) + 1)) 9 5))) (st2_up _ _ _ _ _) ?_
                                          exact x_vret hQ (by have hd : tTwo (V 312) (V 308 4) (V 308 7) := ⟨by rw [hC]; omega, by rw [hpl]; omega⟩; have hT := tTok_4 hd; have hX := tNx_4 hd; exact rV.mk (upE rfl (mTok_eq (g := ua (ua (ua (ua (ua (ua (V 308) 7 k) 8 k) 7 (k + 1)) 9 (tb (V 312) (V 308 4) k)) 7 ((k + 1) + 1)) 9 5) (show (k + 1) + 1 = _ from by rw [hX, hpl]) (show k = _ from hpl.symm) (show 5 = _ from by rw [hT, hC]; first | exact (if_pos (by omega)).symm | exact (if_neg (by omega)).symm) (show V 308 10 = _ from (if_neg (by rw [hT]; split <;> omega)).symm) (show V 308 11 = _ from (if_neg (by rw [hT]; split <;> omega)).symm) (fun z z7 z8 z9 z10 z11 => by simp only [ua]; repeat rw [if_neg (by assumption)])).symm)) dX11_nextToken_390
                                        · -- 379 ne -> 382
                                          refine x_iconst dX11_nextToken_382 ?_
                                          refine x_goto (tgt := 387) dX11_nextToken_383 ?_
                                          refine x_putI fl_X11_129 (sh_308 hS) (lq_308 hS) dX11_nextToken_387 ?_
                                          refine x_mem (V' := (up V 308 (ua (ua (ua (ua (ua (ua (V 308) 7 k) 8 k) 7 (k + 1)) 9 (tb (V 312) (V 308 4) k)) 7 ((k + 1) + 1)) 9 4))) (st2_up _ _ _ _ _) ?_
                                          exact x_vret hQ (by have hd : tTwo (V 312) (V 308 4) (V 308 7) := ⟨by rw [hC]; omega, by rw [hpl]; omega⟩; have hT := tTok_4 hd; have hX := tNx_4 hd; exact rV.mk (upE rfl (mTok_eq (g := ua (ua (ua (ua (ua (ua (V 308) 7 k) 8 k) 7 (k + 1)) 9 (tb (V 312) (V 308 4) k)) 7 ((k + 1) + 1)) 9 4) (show (k + 1) + 1 = _ from by rw [hX, hpl]) (show k = _ from hpl.symm) (show 4 = _ from by rw [hT, hC]; first | exact (if_pos (by omega)).symm | exact (if_neg (by omega)).symm) (show V 308 10 = _ from (if_neg (by rw [hT]; split <;> omega)).symm) (show V 308 11 = _ from (if_neg (by rw [hT]; split <;> omega)).symm) (fun z z7 z8 z9 z10 z11 => by simp only [ua]; repeat rw [if_neg (by assumption)])).symm)) dX11_nextToken_390
                              · -- 300 eq -> 303
                                refine x_il1 dX11_nextToken_303 ?_
                                refine x_bipush dX11_nextToken_304 ?_
                                refine x_icmp_eq (tgt := 321) dX11_nextToken_306 (inr (by omega)) (inr (by decide)) (fun c306_70 => ?_) (fun c306_70 => ?_)
                                · -- 306 eq -> 321
                                  refine x_iconst dX11_nextToken_321 ?_
                                  refine x_goto (tgt := 326) dX11_nextToken_322 ?_
                                  refine x_is2 dX11_nextToken_326 ?_
                                  refine x_al0 dX11_nextToken_327 ?_
                                  refine x_il2 dX11_nextToken_328 ?_
                                  refine x_if_eq (tgt := 336) dX11_nextToken_329 (inr (by decide)) (fun c329_71 => ?_) (fun c329_71 => ?_)
                                  · exact absurd c329_71 (by decide)
                                  · -- 329 eq -> 332
                                    refine x_il1 dX11_nextToken_332 ?_
                                    refine x_goto (tgt := 337) dX11_nextToken_333 ?_
                                    refine x_putI fl_X11_129 (sh_308 hS) (lq_308 hS) dX11_nextToken_337 ?_
                                    refine x_mem (V' := (up V 308 (ua (ua (ua (ua (V 308) 7 k) 8 k) 7 (k + 1)) 9 (tb (V 312) (V 308 4) k)))) (st2_up _ _ _ _ _) ?_
                                    refine x_il1 dX11_nextToken_340 ?_
                                    refine x_bipush dX11_nextToken_341 ?_
                                    refine x_icmp_eq (tgt := 352) dX11_nextToken_343 (inr (by omega)) (inr (by decide)) (fun c343_72 => ?_) (fun c343_72 => ?_)
                                    · -- 343 eq -> 352
                                      refine x_al0 dX11_nextToken_352 ?_
                                      refine x_al0 dX11_nextToken_353 ?_
                                      refine x_getI fl_X11_120 (sh_308 hS) (lq_308 hS) dX11_nextToken_354 ?_
                                      refine x_topI (a' := k + 1) (show (ua (ua (ua (ua (V 308) 7 k) 8 k) 7 (k + 1)) 9 (tb (V 312) (V 308 4) k)) 7 = k + 1 from ((ua_ne (by decide)).trans (ua_same _ _ _))) ?_
                                      refine x_cVi mm_X11_byteAt ml_X11_123 dX11_nextToken_357 (c_X11_byteAt2 (k + 1) hS (show 0 ≤ (V 308 4) ∧ (V 308 4) ≤ 300 from hT) (by omega)) (sh_308 hS) (lq_308 hS) ?_
                                      refine x_topI (a' := tb (V 312) (V 308 4) (k + 1)) rfl ?_
                                      refine x_bipush dX11_nextToken_360 ?_
                                      refine x_icmp_ne (tgt := 390) dX11_nextToken_362 (inr (by omega)) (inr (by decide)) (fun c362_73 => ?_) (fun c362_73 => ?_)
                                      · -- 362 ne -> 390
                                        exact x_vret hQ (by have hd1 : ¬ isDg (tC (V 312) (V 308 4) (V 308 7)) := (by rw [hC]; assumption); have hd2 : ¬ isLt (tC (V 312) (V 308 4) (V 308 7)) := (by rw [hC]; assumption); have hd3 : ¬ tTwo (V 312) (V 308 4) (V 308 7) := (by intro z; rcases z with ⟨z1, z2⟩; rw [hC] at z1; rw [hpl] at z2; omega); have hd0 : 0 ≤ tC (V 312) (V 308 4) (V 308 7) := (by rw [hC]; omega); have hT := tTok_3 hd0 hd1 hd2 hd3; have hX := tNx_3 hd0 hd1 hd2 hd3; rw [hC] at hT; exact rV.mk (upE rfl (mTok_eq (g := ua (ua (ua (ua (V 308) 7 k) 8 k) 7 (k + 1)) 9 (tb (V 312) (V 308 4) k)) (show k + 1 = _ from by rw [hX, hpl]) (show k = _ from hpl.symm) (show tb (V 312) (V 308 4) k = _ from by rw [hT]; first | exact (if_pos (by omega)).symm | exact (if_neg (by omega)).symm) (show V 308 10 = _ from (if_neg (by rw [hT]; split <;> omega)).symm) (show V 308 11 = _ from (if_neg (by rw [hT]; split <;> omega)).symm) (fun z z7 z8 z9 z10 z11 => by simp only [ua]; repeat rw [if_neg (by assumption)])).symm)) dX11_nextToken_390
                                      · -- 362 ne -> 365
                                        refine x_al0 dX11_nextToken_365 ?_
                                        refine x_dup dX11_nextToken_366 ?_
                                        refine x_getI fl_X11_120 (sh_308 hS) (lq_308 hS) dX11_nextToken_367 ?_
                                        refine x_topI (a' := k + 1) (show (ua (ua (ua (ua (V 308) 7 k) 8 k) 7 (k + 1)) 9 (tb (V 312) (V 308 4) k)) 7 = k + 1 from ((ua_ne (by decide)).trans (ua_same _ _ _))) ?_
                                        refine x_iconst dX11_nextToken_370 ?_
                                        refine x_iadd dX11_nextToken_371 ?_
                                        refine x_putI fl_X11_120 (sh_308 hS) (lq_308 hS) dX11_nextToken_372 ?_
                                        refine x_mem (V' := (up V 308 (ua (ua (ua (ua (ua (V 308) 7 k) 8 k) 7 (k + 1)) 9 (tb (V 312) (V 308 4) k)) 7 ((k + 1) + 1)))) (st2_up _ _ _ _ _) ?_
                                        refine x_al0 dX11_nextToken_375 ?_
                                        refine x_il1 dX11_nextToken_376 ?_
                                        refine x_bipush dX11_nextToken_377 ?_
                                        refine x_icmp_ne (tgt := 386) dX11_nextToken_379 (inr (by omega)) (inr (by decide)) (fun c379_74 => ?_) (fun c379_74 => ?_)
                                        · -- 379 ne -> 386
                                          refine x_iconst dX11_nextToken_386 ?_
                                          refine x_putI fl_X11_129 (sh_308 hS) (lq_308 hS) dX11_nextToken_387 ?_
                                          refine x_mem (V' := (up V 308 (ua (ua (ua (ua (ua (ua (V 308) 7 k) 8 k) 7 (k + 1)) 9 (tb (V 312) (V 308 4) k)) 7 ((k + 1) + 1)) 9 5))) (st2_up _ _ _ _ _) ?_
                                          exact x_vret hQ (by have hd : tTwo (V 312) (V 308 4) (V 308 7) := ⟨by rw [hC]; omega, by rw [hpl]; omega⟩; have hT := tTok_4 hd; have hX := tNx_4 hd; exact rV.mk (upE rfl (mTok_eq (g := ua (ua (ua (ua (ua (ua (V 308) 7 k) 8 k) 7 (k + 1)) 9 (tb (V 312) (V 308 4) k)) 7 ((k + 1) + 1)) 9 5) (show (k + 1) + 1 = _ from by rw [hX, hpl]) (show k = _ from hpl.symm) (show 5 = _ from by rw [hT, hC]; first | exact (if_pos (by omega)).symm | exact (if_neg (by omega)).symm) (show V 308 10 = _ from (if_neg (by rw [hT]; split <;> omega)).symm) (show V 308 11 = _ from (if_neg (by rw [hT]; split <;> omega)).symm) (fun z z7 z8 z9 z10 z11 => by simp only [ua]; repeat rw [if_neg (by assumption)])).symm)) dX11_nextToken_390
                                        · -- 379 ne -> 382
                                          refine x_iconst dX11_nextToken_382 ?_
                                          refine x_goto (tgt := 387) dX11_nextToken_383 ?_
                                          refine x_putI fl_X11_129 (sh_308 hS) (lq_308 hS) dX11_nextToken_387 ?_
                                          refine x_mem (V' := (up V 308 (ua (ua (ua (ua (ua (ua (V 308) 7 k) 8 k) 7 (k + 1)) 9 (tb (V 312) (V 308 4) k)) 7 ((k + 1) + 1)) 9 4))) (st2_up _ _ _ _ _) ?_
                                          exact x_vret hQ (by have hd : tTwo (V 312) (V 308 4) (V 308 7) := ⟨by rw [hC]; omega, by rw [hpl]; omega⟩; have hT := tTok_4 hd; have hX := tNx_4 hd; exact rV.mk (upE rfl (mTok_eq (g := ua (ua (ua (ua (ua (ua (V 308) 7 k) 8 k) 7 (k + 1)) 9 (tb (V 312) (V 308 4) k)) 7 ((k + 1) + 1)) 9 4) (show (k + 1) + 1 = _ from by rw [hX, hpl]) (show k = _ from hpl.symm) (show 4 = _ from by rw [hT, hC]; first | exact (if_pos (by omega)).symm | exact (if_neg (by omega)).symm) (show V 308 10 = _ from (if_neg (by rw [hT]; split <;> omega)).symm) (show V 308 11 = _ from (if_neg (by rw [hT]; split <;> omega)).symm) (fun z z7 z8 z9 z10 z11 => by simp only [ua]; repeat rw [if_neg (by assumption)])).symm)) dX11_nextToken_390
                                    · -- 343 eq -> 346
                                      refine x_il1 dX11_nextToken_346 ?_
                                      refine x_bipush dX11_nextToken_347 ?_
                                      refine x_icmp_ne (tgt := 390) dX11_nextToken_349 (inr (by omega)) (inr (by decide)) (fun c349_75 => ?_) (fun c349_75 => ?_)
                                      · -- 349 ne -> 390
                                        exact x_vret hQ (by have hd1 : ¬ isDg (tC (V 312) (V 308 4) (V 308 7)) := (by rw [hC]; assumption); have hd2 : ¬ isLt (tC (V 312) (V 308 4) (V 308 7)) := (by rw [hC]; assumption); have hd3 : ¬ tTwo (V 312) (V 308 4) (V 308 7) := (by intro z; rcases z with ⟨z1, z2⟩; rw [hC] at z1; rw [hpl] at z2; omega); have hd0 : 0 ≤ tC (V 312) (V 308 4) (V 308 7) := (by rw [hC]; omega); have hT := tTok_3 hd0 hd1 hd2 hd3; have hX := tNx_3 hd0 hd1 hd2 hd3; rw [hC] at hT; exact rV.mk (upE rfl (mTok_eq (g := ua (ua (ua (ua (V 308) 7 k) 8 k) 7 (k + 1)) 9 (tb (V 312) (V 308 4) k)) (show k + 1 = _ from by rw [hX, hpl]) (show k = _ from hpl.symm) (show tb (V 312) (V 308 4) k = _ from by rw [hT]; first | exact (if_pos (by omega)).symm | exact (if_neg (by omega)).symm) (show V 308 10 = _ from (if_neg (by rw [hT]; split <;> omega)).symm) (show V 308 11 = _ from (if_neg (by rw [hT]; split <;> omega)).symm) (fun z z7 z8 z9 z10 z11 => by simp only [ua]; repeat rw [if_neg (by assumption)])).symm)) dX11_nextToken_390
                                      · -- 349 ne -> 352
                                        refine x_al0 dX11_nextToken_352 ?_
                                        refine x_al0 dX11_nextToken_353 ?_
                                        refine x_getI fl_X11_120 (sh_308 hS) (lq_308 hS) dX11_nextToken_354 ?_
                                        refine x_topI (a' := k + 1) (show (ua (ua (ua (ua (V 308) 7 k) 8 k) 7 (k + 1)) 9 (tb (V 312) (V 308 4) k)) 7 = k + 1 from ((ua_ne (by decide)).trans (ua_same _ _ _))) ?_
                                        refine x_cVi mm_X11_byteAt ml_X11_123 dX11_nextToken_357 (c_X11_byteAt2 (k + 1) hS (show 0 ≤ (V 308 4) ∧ (V 308 4) ≤ 300 from hT) (by omega)) (sh_308 hS) (lq_308 hS) ?_
                                        refine x_topI (a' := tb (V 312) (V 308 4) (k + 1)) rfl ?_
                                        refine x_bipush dX11_nextToken_360 ?_
                                        refine x_icmp_ne (tgt := 390) dX11_nextToken_362 (inr (by omega)) (inr (by decide)) (fun c362_76 => ?_) (fun c362_76 => ?_)
                                        · -- 362 ne -> 390
                                          exact x_vret hQ (by have hd1 : ¬ isDg (tC (V 312) (V 308 4) (V 308 7)) := (by rw [hC]; assumption); have hd2 : ¬ isLt (tC (V 312) (V 308 4) (V 308 7)) := (by rw [hC]; assumption); have hd3 : ¬ tTwo (V 312) (V 308 4) (V 308 7) := (by intro z; rcases z with ⟨z1, z2⟩; rw [hC] at z1; rw [hpl] at z2; omega); have hd0 : 0 ≤ tC (V 312) (V 308 4) (V 308 7) := (by rw [hC]; omega); have hT := tTok_3 hd0 hd1 hd2 hd3; have hX := tNx_3 hd0 hd1 hd2 hd3; rw [hC] at hT; exact rV.mk (upE rfl (mTok_eq (g := ua (ua (ua (ua (V 308) 7 k) 8 k) 7 (k + 1)) 9 (tb (V 312) (V 308 4) k)) (show k + 1 = _ from by rw [hX, hpl]) (show k = _ from hpl.symm) (show tb (V 312) (V 308 4) k = _ from by rw [hT]; first | exact (if_pos (by omega)).symm | exact (if_neg (by omega)).symm) (show V 308 10 = _ from (if_neg (by rw [hT]; split <;> omega)).symm) (show V 308 11 = _ from (if_neg (by rw [hT]; split <;> omega)).symm) (fun z z7 z8 z9 z10 z11 => by simp only [ua]; repeat rw [if_neg (by assumption)])).symm)) dX11_nextToken_390
                                        · -- 362 ne -> 365
                                          refine x_al0 dX11_nextToken_365 ?_
                                          refine x_dup dX11_nextToken_366 ?_
                                          refine x_getI fl_X11_120 (sh_308 hS) (lq_308 hS) dX11_nextToken_367 ?_
                                          refine x_topI (a' := k + 1) (show (ua (ua (ua (ua (V 308) 7 k) 8 k) 7 (k + 1)) 9 (tb (V 312) (V 308 4) k)) 7 = k + 1 from ((ua_ne (by decide)).trans (ua_same _ _ _))) ?_
                                          refine x_iconst dX11_nextToken_370 ?_
                                          refine x_iadd dX11_nextToken_371 ?_
                                          refine x_putI fl_X11_120 (sh_308 hS) (lq_308 hS) dX11_nextToken_372 ?_
                                          refine x_mem (V' := (up V 308 (ua (ua (ua (ua (ua (V 308) 7 k) 8 k) 7 (k + 1)) 9 (tb (V 312) (V 308 4) k)) 7 ((k + 1) + 1)))) (st2_up _ _ _ _ _) ?_
                                          refine x_al0 dX11_nextToken_375 ?_
                                          refine x_il1 dX11_nextToken_376 ?_
                                          refine x_bipush dX11_nextToken_377 ?_
                                          refine x_icmp_ne (tgt := 386) dX11_nextToken_379 (inr (by omega)) (inr (by decide)) (fun c379_77 => ?_) (fun c379_77 => ?_)
                                          · -- 379 ne -> 386
                                            refine x_iconst dX11_nextToken_386 ?_
                                            refine x_putI fl_X11_129 (sh_308 hS) (lq_308 hS) dX11_nextToken_387 ?_
                                            refine x_mem (V' := (up V 308 (ua (ua (ua (ua (ua (ua (V 308) 7 k) 8 k) 7 (k + 1)) 9 (tb (V 312) (V 308 4) k)) 7 ((k + 1) + 1)) 9 5))) (st2_up _ _ _ _ _) ?_
                                            exact x_vret hQ (by have hd : tTwo (V 312) (V 308 4) (V 308 7) := ⟨by rw [hC]; omega, by rw [hpl]; omega⟩; have hT := tTok_4 hd; have hX := tNx_4 hd; exact rV.mk (upE rfl (mTok_eq (g := ua (ua (ua (ua (ua (ua (V 308) 7 k) 8 k) 7 (k + 1)) 9 (tb (V 312) (V 308 4) k)) 7 ((k + 1) + 1)) 9 5) (show (k + 1) + 1 = _ from by rw [hX, hpl]) (show k = _ from hpl.symm) (show 5 = _ from by rw [hT, hC]; first | exact (if_pos (by omega)).symm | exact (if_neg (by omega)).symm) (show V 308 10 = _ from (if_neg (by rw [hT]; split <;> omega)).symm) (show V 308 11 = _ from (if_neg (by rw [hT]; split <;> omega)).symm) (fun z z7 z8 z9 z10 z11 => by simp only [ua]; repeat rw [if_neg (by assumption)])).symm)) dX11_nextToken_390
                                          · -- 379 ne -> 382
                                            refine x_iconst dX11_nextToken_382 ?_
                                            refine x_goto (tgt := 387) dX11_nextToken_383 ?_
                                            refine x_putI fl_X11_129 (sh_308 hS) (lq_308 hS) dX11_nextToken_387 ?_
                                            refine x_mem (V' := (up V 308 (ua (ua (ua (ua (ua (ua (V 308) 7 k) 8 k) 7 (k + 1)) 9 (tb (V 312) (V 308 4) k)) 7 ((k + 1) + 1)) 9 4))) (st2_up _ _ _ _ _) ?_
                                            exact x_vret hQ (by have hd : tTwo (V 312) (V 308 4) (V 308 7) := ⟨by rw [hC]; omega, by rw [hpl]; omega⟩; have hT := tTok_4 hd; have hX := tNx_4 hd; exact rV.mk (upE rfl (mTok_eq (g := ua (ua (ua (ua (ua (ua (V 308) 7 k) 8 k) 7 (k + 1)) 9 (tb (V 312) (V 308 4) k)) 7 ((k + 1) + 1)) 9 4) (show (k + 1) + 1 = _ from by rw [hX, hpl]) (show k = _ from hpl.symm) (show 4 = _ from by rw [hT, hC]; first | exact (if_pos (by omega)).symm | exact (if_neg (by omega)).symm) (show V 308 10 = _ from (if_neg (by rw [hT]; split <;> omega)).symm) (show V 308 11 = _ from (if_neg (by rw [hT]; split <;> omega)).symm) (fun z z7 z8 z9 z10 z11 => by simp only [ua]; repeat rw [if_neg (by assumption)])).symm)) dX11_nextToken_390
                                · -- 306 eq -> 309
                                  refine x_il1 dX11_nextToken_309 ?_
                                  refine x_bipush dX11_nextToken_310 ?_
                                  refine x_icmp_eq (tgt := 321) dX11_nextToken_312 (inr (by omega)) (inr (by decide)) (fun c312_78 => ?_) (fun c312_78 => ?_)
                                  · -- 312 eq -> 321
                                    refine x_iconst dX11_nextToken_321 ?_
                                    refine x_goto (tgt := 326) dX11_nextToken_322 ?_
                                    refine x_is2 dX11_nextToken_326 ?_
                                    refine x_al0 dX11_nextToken_327 ?_
                                    refine x_il2 dX11_nextToken_328 ?_
                                    refine x_if_eq (tgt := 336) dX11_nextToken_329 (inr (by decide)) (fun c329_79 => ?_) (fun c329_79 => ?_)
                                    · exact absurd c329_79 (by decide)
                                    · -- 329 eq -> 332
                                      refine x_il1 dX11_nextToken_332 ?_
                                      refine x_goto (tgt := 337) dX11_nextToken_333 ?_
                                      refine x_putI fl_X11_129 (sh_308 hS) (lq_308 hS) dX11_nextToken_337 ?_
                                      refine x_mem (V' := (up V 308 (ua (ua (ua (ua (V 308) 7 k) 8 k) 7 (k + 1)) 9 (tb (V 312) (V 308 4) k)))) (st2_up _ _ _ _ _) ?_
                                      refine x_il1 dX11_nextToken_340 ?_
                                      refine x_bipush dX11_nextToken_341 ?_
                                      refine x_icmp_eq (tgt := 352) dX11_nextToken_343 (inr (by omega)) (inr (by decide)) (fun c343_80 => ?_) (fun c343_80 => ?_)
                                      · -- 343 eq -> 352
                                        refine x_al0 dX11_nextToken_352 ?_
                                        refine x_al0 dX11_nextToken_353 ?_
                                        refine x_getI fl_X11_120 (sh_308 hS) (lq_308 hS) dX11_nextToken_354 ?_
                                        refine x_topI (a' := k + 1) (show (ua (ua (ua (ua (V 308) 7 k) 8 k) 7 (k + 1)) 9 (tb (V 312) (V 308 4) k)) 7 = k + 1 from ((ua_ne (by decide)).trans (ua_same _ _ _))) ?_
                                        refine x_cVi mm_X11_byteAt ml_X11_123 dX11_nextToken_357 (c_X11_byteAt2 (k + 1) hS (show 0 ≤ (V 308 4) ∧ (V 308 4) ≤ 300 from hT) (by omega)) (sh_308 hS) (lq_308 hS) ?_
                                        refine x_topI (a' := tb (V 312) (V 308 4) (k + 1)) rfl ?_
                                        refine x_bipush dX11_nextToken_360 ?_
                                        refine x_icmp_ne (tgt := 390) dX11_nextToken_362 (inr (by omega)) (inr (by decide)) (fun c362_81 => ?_) (fun c362_81 => ?_)
                                        · -- 362 ne -> 390
                                          exact x_vret hQ (by have hd1 : ¬ isDg (tC (V 312) (V 308 4) (V 308 7)) := (by rw [hC]; assumption); have hd2 : ¬ isLt (tC (V 312) (V 308 4) (V 308 7)) := (by rw [hC]; assumption); have hd3 : ¬ tTwo (V 312) (V 308 4) (V 308 7) := (by intro z; rcases z with ⟨z1, z2⟩; rw [hC] at z1; rw [hpl] at z2; omega); have hd0 : 0 ≤ tC (V 312) (V 308 4) (V 308 7) := (by rw [hC]; omega); have hT := tTok_3 hd0 hd1 hd2 hd3; have hX := tNx_3 hd0 hd1 hd2 hd3; rw [hC] at hT; exact rV.mk (upE rfl (mTok_eq (g := ua (ua (ua (ua (V 308) 7 k) 8 k) 7 (k + 1)) 9 (tb (V 312) (V 308 4) k)) (show k + 1 = _ from by rw [hX, hpl]) (show k = _ from hpl.symm) (show tb (V 312) (V 308 4) k = _ from by rw [hT]; first | exact (if_pos (by omega)).symm | exact (if_neg (by omega)).symm) (show V 308 10 = _ from (if_neg (by rw [hT]; split <;> omega)).symm) (show V 308 11 = _ from (if_neg (by rw [hT]; split <;> omega)).symm) (fun z z7 z8 z9 z10 z11 => by simp only [ua]; repeat rw [if_neg (by assumption)])).symm)) dX11_nextToken_390
                                        · -- 362 ne -> 365
                                          refine x_al0 dX11_nextToken_365 ?_
                                          refine x_dup dX11_nextToken_366 ?_
                                          refine x_getI fl_X11_120 (sh_308 hS) (lq_308 hS) dX11_nextToken_367 ?_
                                          refine x_topI (a' := k + 1) (show (ua (ua (ua (ua (V 308) 7 k) 8 k) 7 (k + 1)) 9 (tb (V 312) (V 308 4) k)) 7 = k + 1 from ((ua_ne (by decide)).trans (ua_same _ _ _))) ?_
                                          refine x_iconst dX11_nextToken_370 ?_
                                          refine x_iadd dX11_nextToken_371 ?_
                                          refine x_putI fl_X11_120 (sh_308 hS) (lq_308 hS) dX11_nextToken_372 ?_
                                          refine x_mem (V' := (up V 308 (ua (ua (ua (ua (ua (V 308) 7 k) 8 k) 7 (k + 1)) 9 (tb (V 312) (V 308 4) k)) 7 ((k + 1) + 1)))) (st2_up _ _ _ _ _) ?_
                                          refine x_al0 dX11_nextToken_375 ?_
                                          refine x_il1 dX11_nextToken_376 ?_
                                          refine x_bipush dX11_nextToken_377 ?_
                                          refine x_icmp_ne (tgt := 386) dX11_nextToken_379 (inr (by omega)) (inr (by decide)) (fun c379_82 => ?_) (fun c379_82 => ?_)
                                          · -- 379 ne -> 386
                                            refine x_iconst dX11_nextToken_386 ?_
                                            refine x_putI fl_X11_129 (sh_308 hS) (lq_308 hS) dX11_nextToken_387 ?_
                                            refine x_mem (V' := (up V 308 (ua (ua (ua (ua (ua (ua (V 308) 7 k) 8 k) 7 (k + 1)) 9 (tb (V 312) (V 308 4) k)) 7 ((k + 1) + 1)) 9 5))) (st2_up _ _ _ _ _) ?_
                                            exact x_vret hQ (by have hd : tTwo (V 312) (V 308 4) (V 308 7) := ⟨by rw [hC]; omega, by rw [hpl]; omega⟩; have hT := tTok_4 hd; have hX := tNx_4 hd; exact rV.mk (upE rfl (mTok_eq (g := ua (ua (ua (ua (ua (ua (V 308) 7 k) 8 k) 7 (k + 1)) 9 (tb (V 312) (V 308 4) k)) 7 ((k + 1) + 1)) 9 5) (show (k + 1) + 1 = _ from by rw [hX, hpl]) (show k = _ from hpl.symm) (show 5 = _ from by rw [hT, hC]; first | exact (if_pos (by omega)).symm | exact (if_neg (by omega)).symm) (show V 308 10 = _ from (if_neg (by rw [hT]; split <;> omega)).symm) (show V 308 11 = _ from (if_neg (by rw [hT]; split <;> omega)).symm) (fun z z7 z8 z9 z10 z11 => by simp only [ua]; repeat rw [if_neg (by assumption)])).symm)) dX11_nextToken_390
                                          · -- 379 ne -> 382
                                            refine x_iconst dX11_nextToken_382 ?_
                                            refine x_goto (tgt := 387) dX11_nextToken_383 ?_
                                            refine x_putI fl_X11_129 (sh_308 hS) (lq_308 hS) dX11_nextToken_387 ?_
                                            refine x_mem (V' := (up V 308 (ua (ua (ua (ua (ua (ua (V 308) 7 k) 8 k) 7 (k + 1)) 9 (tb (V 312) (V 308 4) k)) 7 ((k + 1) + 1)) 9 4))) (st2_up _ _ _ _ _) ?_
                                            exact x_vret hQ (by have hd : tTwo (V 312) (V 308 4) (V 308 7) := ⟨by rw [hC]; omega, by rw [hpl]; omega⟩; have hT := tTok_4 hd; have hX := tNx_4 hd; exact rV.mk (upE rfl (mTok_eq (g := ua (ua (ua (ua (ua (ua (V 308) 7 k) 8 k) 7 (k + 1)) 9 (tb (V 312) (V 308 4) k)) 7 ((k + 1) + 1)) 9 4) (show (k + 1) + 1 = _ from by rw [hX, hpl]) (show k = _ from hpl.symm) (show 4 = _ from by rw [hT, hC]; first | exact (if_pos (by omega)).symm | exact (if_neg (by omega)).symm) (show V 308 10 = _ from (if_neg (by rw [hT]; split <;> omega)).symm) (show V 308 11 = _ from (if_neg (by rw [hT]; split <;> omega)).symm) (fun z z7 z8 z9 z10 z11 => by simp only [ua]; repeat rw [if_neg (by assumption)])).symm)) dX11_nextToken_390
                                      · -- 343 eq -> 346
                                        refine x_il1 dX11_nextToken_346 ?_
                                        refine x_bipush dX11_nextToken_347 ?_
                                        refine x_icmp_ne (tgt := 390) dX11_nextToken_349 (inr (by omega)) (inr (by decide)) (fun c349_83 => ?_) (fun c349_83 => ?_)
                                        · -- 349 ne -> 390
                                          exact x_vret hQ (by have hd1 : ¬ isDg (tC (V 312) (V 308 4) (V 308 7)) := (by rw [hC]; assumption); have hd2 : ¬ isLt (tC (V 312) (V 308 4) (V 308 7)) := (by rw [hC]; assumption); have hd3 : ¬ tTwo (V 312) (V 308 4) (V 308 7) := (by intro z; rcases z with ⟨z1, z2⟩; rw [hC] at z1; rw [hpl] at z2; omega); have hd0 : 0 ≤ tC (V 312) (V 308 4) (V 308 7) := (by rw [hC]; omega); have hT := tTok_3 hd0 hd1 hd2 hd3; have hX := tNx_3 hd0 hd1 hd2 hd3; rw [hC] at hT; exact rV.mk (upE rfl (mTok_eq (g := ua (ua (ua (ua (V 308) 7 k) 8 k) 7 (k + 1)) 9 (tb (V 312) (V 308 4) k)) (show k + 1 = _ from by rw [hX, hpl]) (show k = _ from hpl.symm) (show tb (V 312) (V 308 4) k = _ from by rw [hT]; first | exact (if_pos (by omega)).symm | exact (if_neg (by omega)).symm) (show V 308 10 = _ from (if_neg (by rw [hT]; split <;> omega)).symm) (show V 308 11 = _ from (if_neg (by rw [hT]; split <;> omega)).symm) (fun z z7 z8 z9 z10 z11 => by simp only [ua]; repeat rw [if_neg (by assumption)])).symm)) dX11_nextToken_390
                                        · -- 349 ne -> 352
                                          refine x_al0 dX11_nextToken_352 ?_
                                          refine x_al0 dX11_nextToken_353 ?_
                                          refine x_getI fl_X11_120 (sh_308 hS) (lq_308 hS) dX11_nextToken_354 ?_
                                          refine x_topI (a' := k + 1) (show (ua (ua (ua (ua (V 308) 7 k) 8 k) 7 (k + 1)) 9 (tb (V 312) (V 308 4) k)) 7 = k + 1 from ((ua_ne (by decide)).trans (ua_same _ _ _))) ?_
                                          refine x_cVi mm_X11_byteAt ml_X11_123 dX11_nextToken_357 (c_X11_byteAt2 (k + 1) hS (show 0 ≤ (V 308 4) ∧ (V 308 4) ≤ 300 from hT) (by omega)) (sh_308 hS) (lq_308 hS) ?_
                                          refine x_topI (a' := tb (V 312) (V 308 4) (k + 1)) rfl ?_
                                          refine x_bipush dX11_nextToken_360 ?_
                                          refine x_icmp_ne (tgt := 390) dX11_nextToken_362 (inr (by omega)) (inr (by decide)) (fun c362_84 => ?_) (fun c362_84 => ?_)
                                          · -- 362 ne -> 390
                                            exact x_vret hQ (by have hd1 : ¬ isDg (tC (V 312) (V 308 4) (V 308 7)) := (by rw [hC]; assumption); have hd2 : ¬ isLt (tC (V 312) (V 308 4) (V 308 7)) := (by rw [hC]; assumption); have hd3 : ¬ tTwo (V 312) (V 308 4) (V 308 7) := (by intro z; rcases z with ⟨z1, z2⟩; rw [hC] at z1; rw [hpl] at z2; omega); have hd0 : 0 ≤ tC (V 312) (V 308 4) (V 308 7) := (by rw [hC]; omega); have hT := tTok_3 hd0 hd1 hd2 hd3; have hX := tNx_3 hd0 hd1 hd2 hd3; rw [hC] at hT; exact rV.mk (upE rfl (mTok_eq (g := ua (ua (ua (ua (V 308) 7 k) 8 k) 7 (k + 1)) 9 (tb (V 312) (V 308 4) k)) (show k + 1 = _ from by rw [hX, hpl]) (show k = _ from hpl.symm) (show tb (V 312) (V 308 4) k = _ from by rw [hT]; first | exact (if_pos (by omega)).symm | exact (if_neg (by omega)).symm) (show V 308 10 = _ from (if_neg (by rw [hT]; split <;> omega)).symm) (show V 308 11 = _ from (if_neg (by rw [hT]; split <;> omega)).symm) (fun z z7 z8 z9 z10 z11 => by simp only [ua]; repeat rw [if_neg (by assumption)])).symm)) dX11_nextToken_390
                                          · -- 362 ne -> 365
                                            refine x_al0 dX11_nextToken_365 ?_
                                            refine x_dup dX11_nextToken_366 ?_
                                            refine x_getI fl_X11_120 (sh_308 hS) (lq_308 hS) dX11_nextToken_367 ?_
                                            refine x_topI (a' := k + 1) (show (ua (ua (ua (ua (V 308) 7 k) 8 k) 7 (k + 1)) 9 (tb (V 312) (V 308 4) k)) 7 = k + 1 from ((ua_ne (by decide)).trans (ua_same _ _ _))) ?_
                                            refine x_iconst dX11_nextToken_370 ?_
                                            refine x_iadd dX11_nextToken_371 ?_
                                            refine x_putI fl_X11_120 (sh_308 hS) (lq_308 hS) dX11_nextToken_372 ?_
                                            refine x_mem (V' := (up V 308 (ua (ua (ua (ua (ua (V 308) 7 k) 8 k) 7 (k + 1)) 9 (tb (V 312) (V 308 4) k)) 7 ((k + 1) + 1)))) (st2_up _ _ _ _ _) ?_
                                            refine x_al0 dX11_nextToken_375 ?_
                                            refine x_il1 dX11_nextToken_376 ?_
                                            refine x_bipush dX11_nextToken_377 ?_
                                            refine x_icmp_ne (tgt := 386) dX11_nextToken_379 (inr (by omega)) (inr (by decide)) (fun c379_85 => ?_) (fun c379_85 => ?_)
                                            · -- 379 ne -> 386
                                              refine x_iconst dX11_nextToken_386 ?_
                                              refine x_putI fl_X11_129 (sh_308 hS) (lq_308 hS) dX11_nextToken_387 ?_
                                              refine x_mem (V' := (up V 308 (ua (ua (ua (ua (ua (ua (V 308) 7 k) 8 k) 7 (k + 1)) 9 (tb (V 312) (V 308 4) k)) 7 ((k + 1) + 1)) 9 5))) (st2_up _ _ _ _ _) ?_
                                              exact x_vret hQ (by have hd : tTwo (V 312) (V 308 4) (V 308 7) := ⟨by rw [hC]; omega, by rw [hpl]; omega⟩; have hT := tTok_4 hd; have hX := tNx_4 hd; exact rV.mk (upE rfl (mTok_eq (g := ua (ua (ua (ua (ua (ua (V 308) 7 k) 8 k) 7 (k + 1)) 9 (tb (V 312) (V 308 4) k)) 7 ((k + 1) + 1)) 9 5) (show (k + 1) + 1 = _ from by rw [hX, hpl]) (show k = _ from hpl.symm) (show 5 = _ from by rw [hT, hC]; first | exact (if_pos (by omega)).symm | exact (if_neg (by omega)).symm) (show V 308 10 = _ from (if_neg (by rw [hT]; split <;> omega)).symm) (show V 308 11 = _ from (if_neg (by rw [hT]; split <;> omega)).symm) (fun z z7 z8 z9 z10 z11 => by simp only [ua]; repeat rw [if_neg (by assumption)])).symm)) dX11_nextToken_390
                                            · -- 379 ne -> 382
                                              refine x_iconst dX11_nextToken_382 ?_
                                              refine x_goto (tgt := 387) dX11_nextToken_383 ?_
                                              refine x_putI fl_X11_129 (sh_308 hS) (lq_308 hS) dX11_nextToken_387 ?_
                                              refine x_mem (V' := (up V 308 (ua (ua (ua (ua (ua (ua (V 308) 7 k) 8 k) 7 (k + 1)) 9 (tb (V 312) (V 308 4) k)) 7 ((k + 1) + 1)) 9 4))) (st2_up _ _ _ _ _) ?_
                                              exact x_vret hQ (by have hd : tTwo (V 312) (V 308 4) (V 308 7) := ⟨by rw [hC]; omega, by rw [hpl]; omega⟩; have hT := tTok_4 hd; have hX := tNx_4 hd; exact rV.mk (upE rfl (mTok_eq (g := ua (ua (ua (ua (ua (ua (V 308) 7 k) 8 k) 7 (k + 1)) 9 (tb (V 312) (V 308 4) k)) 7 ((k + 1) + 1)) 9 4) (show (k + 1) + 1 = _ from by rw [hX, hpl]) (show k = _ from hpl.symm) (show 4 = _ from by rw [hT, hC]; first | exact (if_pos (by omega)).symm | exact (if_neg (by omega)).symm) (show V 308 10 = _ from (if_neg (by rw [hT]; split <;> omega)).symm) (show V 308 11 = _ from (if_neg (by rw [hT]; split <;> omega)).symm) (fun z z7 z8 z9 z10 z11 => by simp only [ua]; repeat rw [if_neg (by assumption)])).symm)) dX11_nextToken_390
                                  · -- 312 eq -> 315
                                    refine x_il1 dX11_nextToken_315 ?_
                                    refine x_bipush dX11_nextToken_316 ?_
                                    refine x_icmp_ne (tgt := 325) dX11_nextToken_318 (inr (by omega)) (inr (by decide)) (fun c318_86 => ?_) (fun c318_86 => ?_)
                                    · -- 318 ne -> 325
                                      refine x_iconst dX11_nextToken_325 ?_
                                      refine x_is2 dX11_nextToken_326 ?_
                                      refine x_al0 dX11_nextToken_327 ?_
                                      refine x_il2 dX11_nextToken_328 ?_
                                      refine x_if_eq (tgt := 336) dX11_nextToken_329 (inr (by decide)) (fun c329_87 => ?_) (fun c329_87 => ?_)
                                      · -- 329 eq -> 336
                                        refine x_iconst dX11_nextToken_336 ?_
                                        refine x_putI fl_X11_129 (sh_308 hS) (lq_308 hS) dX11_nextToken_337 ?_
                                        refine x_mem (V' := (up V 308 (ua (ua (ua (ua (V 308) 7 k) 8 k) 7 (k + 1)) 9 3))) (st2_up _ _ _ _ _) ?_
                                        refine x_il1 dX11_nextToken_340 ?_
                                        refine x_bipush dX11_nextToken_341 ?_
                                        refine x_icmp_eq (tgt := 352) dX11_nextToken_343 (inr (by omega)) (inr (by decide)) (fun c343_88 => ?_) (fun c343_88 => ?_)
                                        · -- 343 eq -> 352
                                          refine x_al0 dX11_nextToken_352 ?_
                                          refine x_al0 dX11_nextToken_353 ?_
                                          refine x_getI fl_X11_120 (sh_308 hS) (lq_308 hS) dX11_nextToken_354 ?_
                                          refine x_topI (a' := k + 1) (show (ua (ua (ua (ua (V 308) 7 k) 8 k) 7 (k + 1)) 9 3) 7 = k + 1 from ((ua_ne (by decide)).trans (ua_same _ _ _))) ?_
                                          refine x_cVi mm_X11_byteAt ml_X11_123 dX11_nextToken_357 (c_X11_byteAt2 (k + 1) hS (show 0 ≤ (V 308 4) ∧ (V 308 4) ≤ 300 from hT) (by omega)) (sh_308 hS) (lq_308 hS) ?_
                                          refine x_topI (a' := tb (V 312) (V 308 4) (k + 1)) rfl ?_
                                          refine x_bipush dX11_nextToken_360 ?_
                                          refine x_icmp_ne (tgt := 390) dX11_nextToken_362 (inr (by omega)) (inr (by decide)) (fun c362_89 => ?_) (fun c362_89 => ?_)
                                          · -- 362 ne -> 390
                                            exact x_vret hQ (by have hd1 : ¬ isDg (tC (V 312) (V 308 4) (V 308 7)) := (by rw [hC]; assumption); have hd2 : ¬ isLt (tC (V 312) (V 308 4) (V 308 7)) := (by rw [hC]; assumption); have hd3 : ¬ tTwo (V 312) (V 308 4) (V 308 7) := (by intro z; rcases z with ⟨z1, z2⟩; rw [hC] at z1; rw [hpl] at z2; omega); have hd0 : 0 ≤ tC (V 312) (V 308 4) (V 308 7) := (by rw [hC]; omega); have hT := tTok_3 hd0 hd1 hd2 hd3; have hX := tNx_3 hd0 hd1 hd2 hd3; rw [hC] at hT; exact rV.mk (upE rfl (mTok_eq (g := ua (ua (ua (ua (V 308) 7 k) 8 k) 7 (k + 1)) 9 3) (show k + 1 = _ from by rw [hX, hpl]) (show k = _ from hpl.symm) (show 3 = _ from by rw [hT]; first | exact (if_pos (by omega)).symm | exact (if_neg (by omega)).symm) (show V 308 10 = _ from (if_neg (by rw [hT]; split <;> omega)).symm) (show V 308 11 = _ from (if_neg (by rw [hT]; split <;> omega)).symm) (fun z z7 z8 z9 z10 z11 => by simp only [ua]; repeat rw [if_neg (by assumption)])).symm)) dX11_nextToken_390
                                          · -- 362 ne -> 365
                                            refine x_al0 dX11_nextToken_365 ?_
                                            refine x_dup dX11_nextToken_366 ?_
                                            refine x_getI fl_X11_120 (sh_308 hS) (lq_308 hS) dX11_nextToken_367 ?_
                                            refine x_topI (a' := k + 1) (show (ua (ua (ua (ua (V 308) 7 k) 8 k) 7 (k + 1)) 9 3) 7 = k + 1 from ((ua_ne (by decide)).trans (ua_same _ _ _))) ?_
                                            refine x_iconst dX11_nextToken_370 ?_
                                            refine x_iadd dX11_nextToken_371 ?_
                                            refine x_putI fl_X11_120 (sh_308 hS) (lq_308 hS) dX11_nextToken_372 ?_
                                            refine x_mem (V' := (up V 308 (ua (ua (ua (ua (ua (V 308) 7 k) 8 k) 7 (k + 1)) 9 3) 7 ((k + 1) + 1)))) (st2_up _ _ _ _ _) ?_
                                            refine x_al0 dX11_nextToken_375 ?_
                                            refine x_il1 dX11_nextToken_376 ?_
                                            refine x_bipush dX11_nextToken_377 ?_
                                            refine x_icmp_ne (tgt := 386) dX11_nextToken_379 (inr (by omega)) (inr (by decide)) (fun c379_90 => ?_) (fun c379_90 => ?_)
                                            · -- 379 ne -> 386
                                              refine x_iconst dX11_nextToken_386 ?_
                                              refine x_putI fl_X11_129 (sh_308 hS) (lq_308 hS) dX11_nextToken_387 ?_
                                              refine x_mem (V' := (up V 308 (ua (ua (ua (ua (ua (ua (V 308) 7 k) 8 k) 7 (k + 1)) 9 3) 7 ((k + 1) + 1)) 9 5))) (st2_up _ _ _ _ _) ?_
                                              exact x_vret hQ (by have hd : tTwo (V 312) (V 308 4) (V 308 7) := ⟨by rw [hC]; omega, by rw [hpl]; omega⟩; have hT := tTok_4 hd; have hX := tNx_4 hd; exact rV.mk (upE rfl (mTok_eq (g := ua (ua (ua (ua (ua (ua (V 308) 7 k) 8 k) 7 (k + 1)) 9 3) 7 ((k + 1) + 1)) 9 5) (show (k + 1) + 1 = _ from by rw [hX, hpl]) (show k = _ from hpl.symm) (show 5 = _ from by rw [hT, hC]; first | exact (if_pos (by omega)).symm | exact (if_neg (by omega)).symm) (show V 308 10 = _ from (if_neg (by rw [hT]; split <;> omega)).symm) (show V 308 11 = _ from (if_neg (by rw [hT]; split <;> omega)).symm) (fun z z7 z8 z9 z10 z11 => by simp only [ua]; repeat rw [if_neg (by assumption)])).symm)) dX11_nextToken_390
                                            · -- 379 ne -> 382
                                              refine x_iconst dX11_nextToken_382 ?_
                                              refine x_goto (tgt := 387) dX11_nextToken_383 ?_
                                              refine x_putI fl_X11_129 (sh_308 hS) (lq_308 hS) dX11_nextToken_387 ?_
                                              refine x_mem (V' := (up V 308 (ua (ua (ua (ua (ua (ua (V 308) 7 k) 8 k) 7 (k + 1)) 9 3) 7 ((k + 1) + 1)) 9 4))) (st2_up _ _ _ _ _) ?_
                                              exact x_vret hQ (by have hd : tTwo (V 312) (V 308 4) (V 308 7) := ⟨by rw [hC]; omega, by rw [hpl]; omega⟩; have hT := tTok_4 hd; have hX := tNx_4 hd; exact rV.mk (upE rfl (mTok_eq (g := ua (ua (ua (ua (ua (ua (V 308) 7 k) 8 k) 7 (k + 1)) 9 3) 7 ((k + 1) + 1)) 9 4) (show (k + 1) + 1 = _ from by rw [hX, hpl]) (show k = _ from hpl.symm) (show 4 = _ from by rw [hT, hC]; first | exact (if_pos (by omega)).symm | exact (if_neg (by omega)).symm) (show V 308 10 = _ from (if_neg (by rw [hT]; split <;> omega)).symm) (show V 308 11 = _ from (if_neg (by rw [hT]; split <;> omega)).symm) (fun z z7 z8 z9 z10 z11 => by simp only [ua]; repeat rw [if_neg (by assumption)])).symm)) dX11_nextToken_390
                                        · -- 343 eq -> 346
                                          refine x_il1 dX11_nextToken_346 ?_
                                          refine x_bipush dX11_nextToken_347 ?_
                                          refine x_icmp_ne (tgt := 390) dX11_nextToken_349 (inr (by omega)) (inr (by decide)) (fun c349_91 => ?_) (fun c349_91 => ?_)
                                          · -- 349 ne -> 390
                                            exact x_vret hQ (by have hd1 : ¬ isDg (tC (V 312) (V 308 4) (V 308 7)) := (by rw [hC]; assumption); have hd2 : ¬ isLt (tC (V 312) (V 308 4) (V 308 7)) := (by rw [hC]; assumption); have hd3 : ¬ tTwo (V 312) (V 308 4) (V 308 7) := (by intro z; rcases z with ⟨z1, z2⟩; rw [hC] at z1; rw [hpl] at z2; omega); have hd0 : 0 ≤ tC (V 312) (V 308 4) (V 308 7) := (by rw [hC]; omega); have hT := tTok_3 hd0 hd1 hd2 hd3; have hX := tNx_3 hd0 hd1 hd2 hd3; rw [hC] at hT; exact rV.mk (upE rfl (mTok_eq (g := ua (ua (ua (ua (V 308) 7 k) 8 k) 7 (k + 1)) 9 3) (show k + 1 = _ from by rw [hX, hpl]) (show k = _ from hpl.symm) (show 3 = _ from by rw [hT]; first | exact (if_pos (by omega)).symm | exact (if_neg (by omega)).symm) (show V 308 10 = _ from (if_neg (by rw [hT]; split <;> omega)).symm) (show V 308 11 = _ from (if_neg (by rw [hT]; split <;> omega)).symm) (fun z z7 z8 z9 z10 z11 => by simp only [ua]; repeat rw [if_neg (by assumption)])).symm)) dX11_nextToken_390
                                          · -- 349 ne -> 352
                                            refine x_al0 dX11_nextToken_352 ?_
                                            refine x_al0 dX11_nextToken_353 ?_
                                            refine x_getI fl_X11_120 (sh_308 hS) (lq_308 hS) dX11_nextToken_354 ?_
                                            refine x_topI (a' := k + 1) (show (ua (ua (ua (ua (V 308) 7 k) 8 k) 7 (k + 1)) 9 3) 7 = k + 1 from ((ua_ne (by decide)).trans (ua_same _ _ _))) ?_
                                            refine x_cVi mm_X11_byteAt ml_X11_123 dX11_nextToken_357 (c_X11_byteAt2 (k + 1) hS (show 0 ≤ (V 308 4) ∧ (V 308 4) ≤ 300 from hT) (by omega)) (sh_308 hS) (lq_308 hS) ?_
                                            refine x_topI (a' := tb (V 312) (V 308 4) (k + 1)) rfl ?_
                                            refine x_bipush dX11_nextToken_360 ?_
                                            refine x_icmp_ne (tgt := 390) dX11_nextToken_362 (inr (by omega)) (inr (by decide)) (fun c362_92 => ?_) (fun c362_92 => ?_)
                                            · -- 362 ne -> 390
                                              exact x_vret hQ (by have hd1 : ¬ isDg (tC (V 312) (V 308 4) (V 308 7)) := (by rw [hC]; assumption); have hd2 : ¬ isLt (tC (V 312) (V 308 4) (V 308 7)) := (by rw [hC]; assumption); have hd3 : ¬ tTwo (V 312) (V 308 4) (V 308 7) := (by intro z; rcases z with ⟨z1, z2⟩; rw [hC] at z1; rw [hpl] at z2; omega); have hd0 : 0 ≤ tC (V 312) (V 308 4) (V 308 7) := (by rw [hC]; omega); have hT := tTok_3 hd0 hd1 hd2 hd3; have hX := tNx_3 hd0 hd1 hd2 hd3; rw [hC] at hT; exact rV.mk (upE rfl (mTok_eq (g := ua (ua (ua (ua (V 308) 7 k) 8 k) 7 (k + 1)) 9 3) (show k + 1 = _ from by rw [hX, hpl]) (show k = _ from hpl.symm) (show 3 = _ from by rw [hT]; first | exact (if_pos (by omega)).symm | exact (if_neg (by omega)).symm) (show V 308 10 = _ from (if_neg (by rw [hT]; split <;> omega)).symm) (show V 308 11 = _ from (if_neg (by rw [hT]; split <;> omega)).symm) (fun z z7 z8 z9 z10 z11 => by simp only [ua]; repeat rw [if_neg (by assumption)])).symm)) dX11_nextToken_390
                                            · -- 362 ne -> 365
                                              refine x_al0 dX11_nextToken_365 ?_
                                              refine x_dup dX11_nextToken_366 ?_
                                              refine x_getI fl_X11_120 (sh_308 hS) (lq_308 hS) dX11_nextToken_367 ?_
                                              refine x_topI (a' := k + 1) (show (ua (ua (ua (ua (V 308) 7 k) 8 k) 7 (k + 1)) 9 3) 7 = k + 1 from ((ua_ne (by decide)).trans (ua_same _ _ _))) ?_
                                              refine x_iconst dX11_nextToken_370 ?_
                                              refine x_iadd dX11_nextToken_371 ?_
                                              refine x_putI fl_X11_120 (sh_308 hS) (lq_308 hS) dX11_nextToken_372 ?_
                                              refine x_mem (V' := (up V 308 (ua (ua (ua (ua (ua (V 308) 7 k) 8 k) 7 (k + 1)) 9 3) 7 ((k + 1) + 1)))) (st2_up _ _ _ _ _) ?_
                                              refine x_al0 dX11_nextToken_375 ?_
                                              refine x_il1 dX11_nextToken_376 ?_
                                              refine x_bipush dX11_nextToken_377 ?_
                                              refine x_icmp_ne (tgt := 386) dX11_nextToken_379 (inr (by omega)) (inr (by decide)) (fun c379_93 => ?_) (fun c379_93 => ?_)
                                              · -- 379 ne -> 386
                                                refine x_iconst dX11_nextToken_386 ?_
                                                refine x_putI fl_X11_129 (sh_308 hS) (lq_308 hS) dX11_nextToken_387 ?_
                                                refine x_mem (V' := (up V 308 (ua (ua (ua (ua (ua (ua (V 308) 7 k) 8 k) 7 (k + 1)) 9 3) 7 ((k + 1) + 1)) 9 5))) (st2_up _ _ _ _ _) ?_
                                                exact x_vret hQ (by have hd : tTwo (V 312) (V 308 4) (V 308 7) := ⟨by rw [hC]; omega, by rw [hpl]; omega⟩; have hT := tTok_4 hd; have hX := tNx_4 hd; exact rV.mk (upE rfl (mTok_eq (g := ua (ua (ua (ua (ua (ua (V 308) 7 k) 8 k) 7 (k + 1)) 9 3) 7 ((k + 1) + 1)) 9 5) (show (k + 1) + 1 = _ from by rw [hX, hpl]) (show k = _ from hpl.symm) (show 5 = _ from by rw [hT, hC]; first | exact (if_pos (by omega)).symm | exact (if_neg (by omega)).symm) (show V 308 10 = _ from (if_neg (by rw [hT]; split <;> omega)).symm) (show V 308 11 = _ from (if_neg (by rw [hT]; split <;> omega)).symm) (fun z z7 z8 z9 z10 z11 => by simp only [ua]; repeat rw [if_neg (by assumption)])).symm)) dX11_nextToken_390
                                              · -- 379 ne -> 382
                                                refine x_iconst dX11_nextToken_382 ?_
                                                refine x_goto (tgt := 387) dX11_nextToken_383 ?_
                                                refine x_putI fl_X11_129 (sh_308 hS) (lq_308 hS) dX11_nextToken_387 ?_
                                                refine x_mem (V' := (up V 308 (ua (ua (ua (ua (ua (ua (V 308) 7 k) 8 k) 7 (k + 1)) 9 3) 7 ((k + 1) + 1)) 9 4))) (st2_up _ _ _ _ _) ?_
                                                exact x_vret hQ (by have hd : tTwo (V 312) (V 308 4) (V 308 7) := ⟨by rw [hC]; omega, by rw [hpl]; omega⟩; have hT := tTok_4 hd; have hX := tNx_4 hd; exact rV.mk (upE rfl (mTok_eq (g := ua (ua (ua (ua (ua (ua (V 308) 7 k) 8 k) 7 (k + 1)) 9 3) 7 ((k + 1) + 1)) 9 4) (show (k + 1) + 1 = _ from by rw [hX, hpl]) (show k = _ from hpl.symm) (show 4 = _ from by rw [hT, hC]; first | exact (if_pos (by omega)).symm | exact (if_neg (by omega)).symm) (show V 308 10 = _ from (if_neg (by rw [hT]; split <;> omega)).symm) (show V 308 11 = _ from (if_neg (by rw [hT]; split <;> omega)).symm) (fun z z7 z8 z9 z10 z11 => by simp only [ua]; repeat rw [if_neg (by assumption)])).symm)) dX11_nextToken_390
                                      · exact absurd c329_87 (by decide)
                                    · -- 318 ne -> 321
                                      refine x_iconst dX11_nextToken_321 ?_
                                      refine x_goto (tgt := 326) dX11_nextToken_322 ?_
                                      refine x_is2 dX11_nextToken_326 ?_
                                      refine x_al0 dX11_nextToken_327 ?_
                                      refine x_il2 dX11_nextToken_328 ?_
                                      refine x_if_eq (tgt := 336) dX11_nextToken_329 (inr (by decide)) (fun c329_94 => ?_) (fun c329_94 => ?_)
                                      · exact absurd c329_94 (by decide)
                                      · -- 329 eq -> 332
                                        refine x_il1 dX11_nextToken_332 ?_
                                        refine x_goto (tgt := 337) dX11_nextToken_333 ?_
                                        refine x_putI fl_X11_129 (sh_308 hS) (lq_308 hS) dX11_nextToken_337 ?_
                                        refine x_mem (V' := (up V 308 (ua (ua (ua (ua (V 308) 7 k) 8 k) 7 (k + 1)) 9 (tb (V 312) (V 308 4) k)))) (st2_up _ _ _ _ _) ?_
                                        refine x_il1 dX11_nextToken_340 ?_
                                        refine x_bipush dX11_nextToken_341 ?_
                                        refine x_icmp_eq (tgt := 352) dX11_nextToken_343 (inr (by omega)) (inr (by decide)) (fun c343_95 => ?_) (fun c343_95 => ?_)
                                        · -- 343 eq -> 352
                                          refine x_al0 dX11_nextToken_352 ?_
                                          refine x_al0 dX11_nextToken_353 ?_
                                          refine x_getI fl_X11_120 (sh_308 hS) (lq_308 hS) dX11_nextToken_354 ?_
                                          refine x_topI (a' := k + 1) (show (ua (ua (ua (ua (V 308) 7 k) 8 k) 7 (k + 1)) 9 (tb (V 312) (V 308 4) k)) 7 = k + 1 from ((ua_ne (by decide)).trans (ua_same _ _ _))) ?_
                                          refine x_cVi mm_X11_byteAt ml_X11_123 dX11_nextToken_357 (c_X11_byteAt2 (k + 1) hS (show 0 ≤ (V 308 4) ∧ (V 308 4) ≤ 300 from hT) (by omega)) (sh_308 hS) (lq_308 hS) ?_
                                          refine x_topI (a' := tb (V 312) (V 308 4) (k + 1)) rfl ?_
                                          refine x_bipush dX11_nextToken_360 ?_
                                          refine x_icmp_ne (tgt := 390) dX11_nextToken_362 (inr (by omega)) (inr (by decide)) (fun c362_96 => ?_) (fun c362_96 => ?_)
                                          · -- 362 ne -> 390
                                            exact x_vret hQ (by have hd1 : ¬ isDg (tC (V 312) (V 308 4) (V 308 7)) := (by rw [hC]; assumption); have hd2 : ¬ isLt (tC (V 312) (V 308 4) (V 308 7)) := (by rw [hC]; assumption); have hd3 : ¬ tTwo (V 312) (V 308 4) (V 308 7) := (by intro z; rcases z with ⟨z1, z2⟩; rw [hC] at z1; rw [hpl] at z2; omega); have hd0 : 0 ≤ tC (V 312) (V 308 4) (V 308 7) := (by rw [hC]; omega); have hT := tTok_3 hd0 hd1 hd2 hd3; have hX := tNx_3 hd0 hd1 hd2 hd3; rw [hC] at hT; exact rV.mk (upE rfl (mTok_eq (g := ua (ua (ua (ua (V 308) 7 k) 8 k) 7 (k + 1)) 9 (tb (V 312) (V 308 4) k)) (show k + 1 = _ from by rw [hX, hpl]) (show k = _ from hpl.symm) (show tb (V 312) (V 308 4) k = _ from by rw [hT]; first | exact (if_pos (by omega)).symm | exact (if_neg (by omega)).symm) (show V 308 10 = _ from (if_neg (by rw [hT]; split <;> omega)).symm) (show V 308 11 = _ from (if_neg (by rw [hT]; split <;> omega)).symm) (fun z z7 z8 z9 z10 z11 => by simp only [ua]; repeat rw [if_neg (by assumption)])).symm)) dX11_nextToken_390
                                          · -- 362 ne -> 365
                                            refine x_al0 dX11_nextToken_365 ?_
                                            refine x_dup dX11_nextToken_366 ?_
                                            refine x_getI fl_X11_120 (sh_308 hS) (lq_308 hS) dX11_nextToken_367 ?_
                                            refine x_topI (a' := k + 1) (show (ua (ua (ua (ua (V 308) 7 k) 8 k) 7 (k + 1)) 9 (tb (V 312) (V 308 4) k)) 7 = k + 1 from ((ua_ne (by decide)).trans (ua_same _ _ _))) ?_
                                            refine x_iconst dX11_nextToken_370 ?_
                                            refine x_iadd dX11_nextToken_371 ?_
                                            refine x_putI fl_X11_120 (sh_308 hS) (lq_308 hS) dX11_nextToken_372 ?_
                                            refine x_mem (V' := (up V 308 (ua (ua (ua (ua (ua (V 308) 7 k) 8 k) 7 (k + 1)) 9 (tb (V 312) (V 308 4) k)) 7 ((k + 1) + 1)))) (st2_up _ _ _ _ _) ?_
                                            refine x_al0 dX11_nextToken_375 ?_
                                            refine x_il1 dX11_nextToken_376 ?_
                                            refine x_bipush dX11_nextToken_377 ?_
                                            refine x_icmp_ne (tgt := 386) dX11_nextToken_379 (inr (by omega)) (inr (by decide)) (fun c379_97 => ?_) (fun c379_97 => ?_)
                                            · -- 379 ne -> 386
                                              refine x_iconst dX11_nextToken_386 ?_
                                              refine x_putI fl_X11_129 (sh_308 hS) (lq_308 hS) dX11_nextToken_387 ?_
                                              refine x_mem (V' := (up V 308 (ua (ua (ua (ua (ua (ua (V 308) 7 k) 8 k) 7 (k + 1)) 9 (tb (V 312) (V 308 4) k)) 7 ((k + 1) + 1)) 9 5))) (st2_up _ _ _ _ _) ?_
                                              exact x_vret hQ (by have hd : tTwo (V 312) (V 308 4) (V 308 7) := ⟨by rw [hC]; omega, by rw [hpl]; omega⟩; have hT := tTok_4 hd; have hX := tNx_4 hd; exact rV.mk (upE rfl (mTok_eq (g := ua (ua (ua (ua (ua (ua (V 308) 7 k) 8 k) 7 (k + 1)) 9 (tb (V 312) (V 308 4) k)) 7 ((k + 1) + 1)) 9 5) (show (k + 1) + 1 = _ from by rw [hX, hpl]) (show k = _ from hpl.symm) (show 5 = _ from by rw [hT, hC]; first | exact (if_pos (by omega)).symm | exact (if_neg (by omega)).symm) (show V 308 10 = _ from (if_neg (by rw [hT]; split <;> omega)).symm) (show V 308 11 = _ from (if_neg (by rw [hT]; split <;> omega)).symm) (fun z z7 z8 z9 z10 z11 => by simp only [ua]; repeat rw [if_neg (by assumption)])).symm)) dX11_nextToken_390
                                            · -- 379 ne -> 382
                                              refine x_iconst dX11_nextToken_382 ?_
                                              refine x_goto (tgt := 387) dX11_nextToken_383 ?_
                                              refine x_putI fl_X11_129 (sh_308 hS) (lq_308 hS) dX11_nextToken_387 ?_
                                              refine x_mem (V' := (up V 308 (ua (ua (ua (ua (ua (ua (V 308) 7 k) 8 k) 7 (k + 1)) 9 (tb (V 312) (V 308 4) k)) 7 ((k + 1) + 1)) 9 4))) (st2_up _ _ _ _ _) ?_
                                              exact x_vret hQ (by have hd : tTwo (V 312) (V 308 4) (V 308 7) := ⟨by rw [hC]; omega, by rw [hpl]; omega⟩; have hT := tTok_4 hd; have hX := tNx_4 hd; exact rV.mk (upE rfl (mTok_eq (g := ua (ua (ua (ua (ua (ua (V 308) 7 k) 8 k) 7 (k + 1)) 9 (tb (V 312) (V 308 4) k)) 7 ((k + 1) + 1)) 9 4) (show (k + 1) + 1 = _ from by rw [hX, hpl]) (show k = _ from hpl.symm) (show 4 = _ from by rw [hT, hC]; first | exact (if_pos (by omega)).symm | exact (if_neg (by omega)).symm) (show V 308 10 = _ from (if_neg (by rw [hT]; split <;> omega)).symm) (show V 308 11 = _ from (if_neg (by rw [hT]; split <;> omega)).symm) (fun z z7 z8 z9 z10 z11 => by simp only [ua]; repeat rw [if_neg (by assumption)])).symm)) dX11_nextToken_390
                                        · -- 343 eq -> 346
                                          refine x_il1 dX11_nextToken_346 ?_
                                          refine x_bipush dX11_nextToken_347 ?_
                                          refine x_icmp_ne (tgt := 390) dX11_nextToken_349 (inr (by omega)) (inr (by decide)) (fun c349_98 => ?_) (fun c349_98 => ?_)
                                          · -- 349 ne -> 390
                                            exact x_vret hQ (by have hd1 : ¬ isDg (tC (V 312) (V 308 4) (V 308 7)) := (by rw [hC]; assumption); have hd2 : ¬ isLt (tC (V 312) (V 308 4) (V 308 7)) := (by rw [hC]; assumption); have hd3 : ¬ tTwo (V 312) (V 308 4) (V 308 7) := (by intro z; rcases z with ⟨z1, z2⟩; rw [hC] at z1; rw [hpl] at z2; omega); have hd0 : 0 ≤ tC (V 312) (V 308 4) (V 308 7) := (by rw [hC]; omega); have hT := tTok_3 hd0 hd1 hd2 hd3; have hX := tNx_3 hd0 hd1 hd2 hd3; rw [hC] at hT; exact rV.mk (upE rfl (mTok_eq (g := ua (ua (ua (ua (V 308) 7 k) 8 k) 7 (k + 1)) 9 (tb (V 312) (V 308 4) k)) (show k + 1 = _ from by rw [hX, hpl]) (show k = _ from hpl.symm) (show tb (V 312) (V 308 4) k = _ from by rw [hT]; first | exact (if_pos (by omega)).symm | exact (if_neg (by omega)).symm) (show V 308 10 = _ from (if_neg (by rw [hT]; split <;> omega)).symm) (show V 308 11 = _ from (if_neg (by rw [hT]; split <;> omega)).symm) (fun z z7 z8 z9 z10 z11 => by simp only [ua]; repeat rw [if_neg (by assumption)])).symm)) dX11_nextToken_390
                                          · -- 349 ne -> 352
                                            refine x_al0 dX11_nextToken_352 ?_
                                            refine x_al0 dX11_nextToken_353 ?_
                                            refine x_getI fl_X11_120 (sh_308 hS) (lq_308 hS) dX11_nextToken_354 ?_
                                            refine x_topI (a' := k + 1) (show (ua (ua (ua (ua (V 308) 7 k) 8 k) 7 (k + 1)) 9 (tb (V 312) (V 308 4) k)) 7 = k + 1 from ((ua_ne (by decide)).trans (ua_same _ _ _))) ?_
                                            refine x_cVi mm_X11_byteAt ml_X11_123 dX11_nextToken_357 (c_X11_byteAt2 (k + 1) hS (show 0 ≤ (V 308 4) ∧ (V 308 4) ≤ 300 from hT) (by omega)) (sh_308 hS) (lq_308 hS) ?_
                                            refine x_topI (a' := tb (V 312) (V 308 4) (k + 1)) rfl ?_
                                            refine x_bipush dX11_nextToken_360 ?_
                                            refine x_icmp_ne (tgt := 390) dX11_nextToken_362 (inr (by omega)) (inr (by decide)) (fun c362_99 => ?_) (fun c362_99 => ?_)
                                            · -- 362 ne -> 390
                                              exact x_vret hQ (by have hd1 : ¬ isDg (tC (V 312) (V 308 4) (V 308 7)) := (by rw [hC]; assumption); have hd2 : ¬ isLt (tC (V 312) (V 308 4) (V 308 7)) := (by rw [hC]; assumption); have hd3 : ¬ tTwo (V 312) (V 308 4) (V 308 7) := (by intro z; rcases z with ⟨z1, z2⟩; rw [hC] at z1; rw [hpl] at z2; omega); have hd0 : 0 ≤ tC (V 312) (V 308 4) (V 308 7) := (by rw [hC]; omega); have hT := tTok_3 hd0 hd1 hd2 hd3; have hX := tNx_3 hd0 hd1 hd2 hd3; rw [hC] at hT; exact rV.mk (upE rfl (mTok_eq (g := ua (ua (ua (ua (V 308) 7 k) 8 k) 7 (k + 1)) 9 (tb (V 312) (V 308 4) k)) (show k + 1 = _ from by rw [hX, hpl]) (show k = _ from hpl.symm) (show tb (V 312) (V 308 4) k = _ from by rw [hT]; first | exact (if_pos (by omega)).symm | exact (if_neg (by omega)).symm) (show V 308 10 = _ from (if_neg (by rw [hT]; split <;> omega)).symm) (show V 308 11 = _ from (if_neg (by rw [hT]; split <;> omega)).symm) (fun z z7 z8 z9 z10 z11 => by simp only [ua]; repeat rw [if_neg (by assumption)])).symm)) dX11_nextToken_390
                                            · -- 362 ne -> 365
                                              refine x_al0 dX11_nextToken_365 ?_
                                              refine x_dup dX11_nextToken_366 ?_
                                              refine x_getI fl_X11_120 (sh_308 hS) (lq_308 hS) dX11_nextToken_367 ?_
                                              refine x_topI (a' := k + 1) (show (ua (ua (ua (ua (V 308) 7 k) 8 k) 7 (k + 1)) 9 (tb (V 312) (V 308 4) k)) 7 = k + 1 from ((ua_ne (by decide)).trans (ua_same _ _ _))) ?_
                                              refine x_iconst dX11_nextToken_370 ?_
                                              refine x_iadd dX11_nextToken_371 ?_
                                              refine x_putI fl_X11_120 (sh_308 hS) (lq_308 hS) dX11_nextToken_372 ?_
                                              refine x_mem (V' := (up V 308 (ua (ua (ua (ua (ua (V 308) 7 k) 8 k) 7 (k + 1)) 9 (tb (V 312) (V 308 4) k)) 7 ((k + 1) + 1)))) (st2_up _ _ _ _ _) ?_
                                              refine x_al0 dX11_nextToken_375 ?_
                                              refine x_il1 dX11_nextToken_376 ?_
                                              refine x_bipush dX11_nextToken_377 ?_
                                              refine x_icmp_ne (tgt := 386) dX11_nextToken_379 (inr (by omega)) (inr (by decide)) (fun c379_100 => ?_) (fun c379_100 => ?_)
                                              · -- 379 ne -> 386
                                                refine x_iconst dX11_nextToken_386 ?_
                                                refine x_putI fl_X11_129 (sh_308 hS) (lq_308 hS) dX11_nextToken_387 ?_
                                                refine x_mem (V' := (up V 308 (ua (ua (ua (ua (ua (ua (V 308) 7 k) 8 k) 7 (k + 1)) 9 (tb (V 312) (V 308 4) k)) 7 ((k + 1) + 1)) 9 5))) (st2_up _ _ _ _ _) ?_
                                                exact x_vret hQ (by have hd : tTwo (V 312) (V 308 4) (V 308 7) := ⟨by rw [hC]; omega, by rw [hpl]; omega⟩; have hT := tTok_4 hd; have hX := tNx_4 hd; exact rV.mk (upE rfl (mTok_eq (g := ua (ua (ua (ua (ua (ua (V 308) 7 k) 8 k) 7 (k + 1)) 9 (tb (V 312) (V 308 4) k)) 7 ((k + 1) + 1)) 9 5) (show (k + 1) + 1 = _ from by rw [hX, hpl]) (show k = _ from hpl.symm) (show 5 = _ from by rw [hT, hC]; first | exact (if_pos (by omega)).symm | exact (if_neg (by omega)).symm) (show V 308 10 = _ from (if_neg (by rw [hT]; split <;> omega)).symm) (show V 308 11 = _ from (if_neg (by rw [hT]; split <;> omega)).symm) (fun z z7 z8 z9 z10 z11 => by simp only [ua]; repeat rw [if_neg (by assumption)])).symm)) dX11_nextToken_390
                                              · -- 379 ne -> 382
                                                refine x_iconst dX11_nextToken_382 ?_
                                                refine x_goto (tgt := 387) dX11_nextToken_383 ?_
                                                refine x_putI fl_X11_129 (sh_308 hS) (lq_308 hS) dX11_nextToken_387 ?_
                                                refine x_mem (V' := (up V 308 (ua (ua (ua (ua (ua (ua (V 308) 7 k) 8 k) 7 (k + 1)) 9 (tb (V 312) (V 308 4) k)) 7 ((k + 1) + 1)) 9 4))) (st2_up _ _ _ _ _) ?_
                                                exact x_vret hQ (by have hd : tTwo (V 312) (V 308 4) (V 308 7) := ⟨by rw [hC]; omega, by rw [hpl]; omega⟩; have hT := tTok_4 hd; have hX := tNx_4 hd; exact rV.mk (upE rfl (mTok_eq (g := ua (ua (ua (ua (ua (ua (V 308) 7 k) 8 k) 7 (k + 1)) 9 (tb (V 312) (V 308 4) k)) 7 ((k + 1) + 1)) 9 4) (show (k + 1) + 1 = _ from by rw [hX, hpl]) (show k = _ from hpl.symm) (show 4 = _ from by rw [hT, hC]; first | exact (if_pos (by omega)).symm | exact (if_neg (by omega)).symm) (show V 308 10 = _ from (if_neg (by rw [hT]; split <;> omega)).symm) (show V 308 11 = _ from (if_neg (by rw [hT]; split <;> omega)).symm) (fun z z7 z8 z9 z10 z11 => by simp only [ua]; repeat rw [if_neg (by assumption)])).symm)) dX11_nextToken_390
              · -- 148 eq -> 151
                refine x_al0 dX11_nextToken_151 ?_
                refine x_iconst dX11_nextToken_152 ?_
                refine x_putI fl_X11_129 (sh_308 hS) (lq_308 hS) dX11_nextToken_153 ?_
                refine x_mem (V' := (up V 308 (ua (ua (ua (V 308) 7 k) 8 k) 9 2))) (st2_up _ _ _ _ _) ?_
                refine x_al0 dX11_nextToken_156 ?_
                refine x_lconst0 dX11_nextToken_157 ?_
                refine x_putL fl_X11_142 (sh_308 hS) (lq_308 hS) dX11_nextToken_158 ?_
                refine x_mem (V' := (up V 308 (ua (ua (ua (ua (V 308) 7 k) 8 k) 9 2) 11 0))) (st2_up _ _ _ _ _) ?_
                have lp161 : ∀ (N161 : Nat) (j : Int) (v : Int), (k ≤ j ∧ j ≤ V 308 4) → (∀ i, k ≤ i → i < j → isLt (tb (V 312) (V 308 4) i)) → (v = wdK (V 312) k (j - k).toNat) → (V 308 4 - j).toNat < N161 → X Γ B RX11 "nextToken" cX11_nextToken 3 none 3 0 0 161 [some (vR B 308), some (vI (tb (V 312) (V 308 4) k)), none] [] 0 0 S (up V 308 (ua (ua (ua (ua (V 308) 7 j) 8 k) 9 2) 11 v)) := by
                  intro N161
                  induction N161 with
                  | zero => intro j v hj hlt hw hN; exact absurd hN (Nat.not_lt_zero _)
                  | succ N161 ih161 =>
                    intro j v hj hlt hw hN161
                    have hb1 := tb_r hTp (V 308 4) j
                    have hwr := wdK_r hTp k (j - k).toNat
                    rw [← hw] at hwr
                    refine x_al0 dX11_nextToken_161 ?_
                    refine x_al0 dX11_nextToken_162 ?_
                    refine x_getI fl_X11_120 (sh_308 hS) (lq_308 hS) dX11_nextToken_163 ?_
                    refine x_topI (a' := j) (show (ua (ua (ua (ua (V 308) 7 j) 8 k) 9 2) 11 v) 7 = j from ((ua_ne (by decide)).trans ((ua_ne (by decide)).trans ((ua_ne (by decide)).trans (ua_same _ _ _))))) ?_
                    refine x_cVi mm_X11_byteAt ml_X11_123 dX11_nextToken_166 (c_X11_byteAt2 j hS (show 0 ≤ (V 308 4) ∧ (V 308 4) ≤ 300 from hT) (by omega)) (sh_308 hS) (lq_308 hS) ?_
                    refine x_topI (a' := tb (V 312) (V 308 4) j) rfl ?_
                    refine x_cSi mm_X11_isLetter ml_X11_139 dX11_nextToken_169 (c_X11_isLetter (tb (V 312) (V 308 4) j) (inr (by omega))) ?_
                    refine x_ifb_eq (tgt := 223) dX11_nextToken_172 (fun c172_101 => ?_) (fun c172_101 => ?_)
                    · -- 172 eq -> 223
                      refine x_al0 dX11_nextToken_223 ?_
                      refine x_getI fl_X11_120 (sh_308 hS) (lq_308 hS) dX11_nextToken_224 ?_
                      refine x_topI (a' := j) (show (ua (ua (ua (ua (V 308) 7 j) 8 k) 9 2) 11 v) 7 = j from ((ua_ne (by decide)).trans ((ua_ne (by decide)).trans ((ua_ne (by decide)).trans (ua_same _ _ _))))) ?_
                      refine x_al0 dX11_nextToken_227 ?_
                      refine x_getI fl_X11_126 (sh_308 hS) (lq_308 hS) dX11_nextToken_228 ?_
                      refine x_topI (a' := k) (show (ua (ua (ua (ua (V 308) 7 j) 8 k) 9 2) 11 v) 8 = k from ((ua_ne (by decide)).trans ((ua_ne (by decide)).trans (ua_same _ _ _)))) ?_
                      refine x_isub dX11_nextToken_231 ?_
                      refine x_bipush dX11_nextToken_232 ?_
                      refine x_icmp_le (tgt := 390) dX11_nextToken_234 (inr (by omega)) (inr (by decide)) (fun c234_102 => ?_) (fun c234_102 => ?_)
                      · -- 234 le -> 390
                        exact x_vret hQ (by have hd : isLt (tC (V 312) (V 308 4) (V 308 7)) := (by rw [hC]; assumption); have hT := tTok_2 hd; have hX := tNx_2 hd; have hDe : tLe (V 312) (V 308 4) (V 308 7) = j := (by simp only [tLe]; rw [hpl]; exact ends_at (by omega) (Or.inl (by omega)) (Or.inl (by omega)) (fun i i0 i1 => decide_eq_true (hlt i i0 i1)) (decide_eq_false (by assumption)) (by omega)); exact rV.mk (upE rfl (mTok_eq (g := ua (ua (ua (ua (V 308) 7 j) 8 k) 9 2) 11 v) (show j = _ from by rw [hX, hDe]) (show k = _ from hpl.symm) (show 2 = _ from hT.symm) (show V 308 10 = _ from (if_neg (by omega)).symm) (show v = _ from by rw [if_pos hT]; simp only [tWd]; rw [hDe, hpl]; first | (rw [if_pos (by omega)]) | (rw [if_neg (by omega)]; exact hw)) (fun z z7 z8 z9 z10 z11 => by simp only [ua]; repeat rw [if_neg (by assumption)])).symm)) dX11_nextToken_390
                      · -- 234 le -> 237
                        refine x_al0 dX11_nextToken_237 ?_
                        refine x_lconst0 dX11_nextToken_238 ?_
                        refine x_putL fl_X11_142 (sh_308 hS) (lq_308 hS) dX11_nextToken_239 ?_
                        refine x_mem (V' := (up V 308 (ua (ua (ua (ua (ua (V 308) 7 j) 8 k) 9 2) 11 v) 11 0))) (st2_up _ _ _ _ _) ?_
                        refine x_goto (tgt := 390) dX11_nextToken_242 ?_
                        exact x_vret hQ (by have hd : isLt (tC (V 312) (V 308 4) (V 308 7)) := (by rw [hC]; assumption); have hT := tTok_2 hd; have hX := tNx_2 hd; have hDe : tLe (V 312) (V 308 4) (V 308 7) = j := (by simp only [tLe]; rw [hpl]; exact ends_at (by omega) (Or.inl (by omega)) (Or.inl (by omega)) (fun i i0 i1 => decide_eq_true (hlt i i0 i1)) (decide_eq_false (by assumption)) (by omega)); exact rV.mk (upE rfl (mTok_eq (g := ua (ua (ua (ua (ua (V 308) 7 j) 8 k) 9 2) 11 v) 11 0) (show j = _ from by rw [hX, hDe]) (show k = _ from hpl.symm) (show 2 = _ from hT.symm) (show V 308 10 = _ from (if_neg (by omega)).symm) (show 0 = _ from by rw [if_pos hT]; simp only [tWd]; rw [hDe, hpl]; first | (rw [if_pos (by omega)]) | (rw [if_neg (by omega)]; exact hw)) (fun z z7 z8 z9 z10 z11 => by simp only [ua]; repeat rw [if_neg (by assumption)])).symm)) dX11_nextToken_390
                    · -- 172 eq -> 175
                      refine x_al0 dX11_nextToken_175 ?_
                      refine x_getI fl_X11_120 (sh_308 hS) (lq_308 hS) dX11_nextToken_176 ?_
                      refine x_topI (a' := j) (show (ua (ua (ua (ua (V 308) 7 j) 8 k) 9 2) 11 v) 7 = j from ((ua_ne (by decide)).trans ((ua_ne (by decide)).trans ((ua_ne (by decide)).trans (ua_same _ _ _))))) ?_
                      refine x_al0 dX11_nextToken_179 ?_
                      refine x_getI fl_X11_126 (sh_308 hS) (lq_308 hS) dX11_nextToken_180 ?_
                      refine x_topI (a' := k) (show (ua (ua (ua (ua (V 308) 7 j) 8 k) 9 2) 11 v) 8 = k from ((ua_ne (by decide)).trans ((ua_ne (by decide)).trans (ua_same _ _ _)))) ?_
                      refine x_isub dX11_nextToken_183 ?_
                      refine x_bipush dX11_nextToken_184 ?_
                      refine x_icmp_ge (tgt := 210) dX11_nextToken_186 (inr (by omega)) (inr (by decide)) (fun c186_103 => ?_) (fun c186_103 => ?_)
                      · -- 186 ge -> 210
                        refine x_al0 dX11_nextToken_210 ?_
                        refine x_dup dX11_nextToken_211 ?_
                        refine x_getI fl_X11_120 (sh_308 hS) (lq_308 hS) dX11_nextToken_212 ?_
                        refine x_topI (a' := j) (show (ua (ua (ua (ua (V 308) 7 j) 8 k) 9 2) 11 v) 7 = j from ((ua_ne (by decide)).trans ((ua_ne (by decide)).trans ((ua_ne (by decide)).trans (ua_same _ _ _))))) ?_
                        refine x_iconst dX11_nextToken_215 ?_
                        refine x_iadd dX11_nextToken_216 ?_
                        refine x_putI fl_X11_120 (sh_308 hS) (lq_308 hS) dX11_nextToken_217 ?_
                        refine x_mem (V' := (up V 308 (ua (ua (ua (ua (ua (V 308) 7 j) 8 k) 9 2) 11 v) 7 (j + 1)))) (st2_up _ _ _ _ _) ?_
                        refine x_goto (tgt := 161) dX11_nextToken_220 ?_
                        refine x_mem (V' := (up V 308 (ua (ua (ua (ua (V 308) 7 (j + 1)) 8 k) 9 2) 11 v))) (upE rfl (by funext z; simp only [ua]; (repeat' split) <;> first | rfl | omega)) ?_
                        exact x_fg (ih161 (j + 1) v (by omega) (fun i i0 i1 => by rcases (show i < j ∨ i = j by omega) with q | q; (exact hlt i i0 q); rw [q]; assumption) (by rw [show (j + 1 - k).toNat = (j - k).toNat + 1 by omega]; simp only [wdK]; rw [← hw, show k + (((j - k).toNat : Nat) : Int) = j by omega]; first | (rw [if_pos (by omega), bor_256 (by omega) (by omega)]; simp only [tb]; rw [if_pos (by omega)]) | (rw [if_neg (by omega)])) (by omega)) (And.intro rfl (And.intro rfl trivial))
                      · -- 186 ge -> 189
                        refine x_al0 dX11_nextToken_189 ?_
                        refine x_al0 dX11_nextToken_190 ?_
                        refine x_getL fl_X11_142 (sh_308 hS) (lq_308 hS) dX11_nextToken_191 ?_
                        refine x_topL (a' := v) (show (ua (ua (ua (ua (V 308) 7 j) 8 k) 9 2) 11 v) 11 = v from (ua_same _ _ _)) ?_
                        refine x_bipush dX11_nextToken_194 ?_
                        refine x_lshl (by decide) (by decide) dX11_nextToken_196 ?_
                        refine x_al0 dX11_nextToken_197 ?_
                        refine x_al0 dX11_nextToken_198 ?_
                        refine x_getI fl_X11_120 (sh_308 hS) (lq_308 hS) dX11_nextToken_199 ?_
                        refine x_topI (a' := j) (show (ua (ua (ua (ua (V 308) 7 j) 8 k) 9 2) 11 v) 7 = j from ((ua_ne (by decide)).trans ((ua_ne (by decide)).trans ((ua_ne (by decide)).trans (ua_same _ _ _))))) ?_
                        refine x_cVi mm_X11_byteAt ml_X11_123 dX11_nextToken_202 (c_X11_byteAt2 j hS (show 0 ≤ (V 308 4) ∧ (V 308 4) ≤ 300 from hT) (by omega)) (sh_308 hS) (lq_308 hS) ?_
                        refine x_topI (a' := tb (V 312) (V 308 4) j) rfl ?_
                        refine x_i2l (inr (by omega)) dX11_nextToken_205 ?_
                        refine x_lor (Int.mul_nonneg (by omega) (Int.le_of_lt (p2_pos _))) (by omega) dX11_nextToken_206 ?_
                        refine x_putL fl_X11_142 (sh_308 hS) (lq_308 hS) dX11_nextToken_207 ?_
                        refine x_mem (V' := (up V 308 (ua (ua (ua (ua (ua (V 308) 7 j) 8 k) 9 2) 11 v) 11 (bor (v * p2 8) (tb (V 312) (V 308 4) j))))) (st2_up _ _ _ _ _) ?_
                        refine x_al0 dX11_nextToken_210 ?_
                        refine x_dup dX11_nextToken_211 ?_
                        refine x_getI fl_X11_120 (sh_308 hS) (lq_308 hS) dX11_nextToken_212 ?_
                        refine x_topI (a' := j) (show (ua (ua (ua (ua (ua (V 308) 7 j) 8 k) 9 2) 11 v) 11 (bor (v * p2 8) (tb (V 312) (V 308 4) j))) 7 = j from ((ua_ne (by decide)).trans ((ua_ne (by decide)).trans ((ua_ne (by decide)).trans ((ua_ne (by decide)).trans (ua_same _ _ _)))))) ?_
                        refine x_iconst dX11_nextToken_215 ?_
                        refine x_iadd dX11_nextToken_216 ?_
                        refine x_putI fl_X11_120 (sh_308 hS) (lq_308 hS) dX11_nextToken_217 ?_
                        refine x_mem (V' := (up V 308 (ua (ua (ua (ua (ua (ua (V 308) 7 j) 8 k) 9 2) 11 v) 11 (bor (v * p2 8) (tb (V 312) (V 308 4) j))) 7 (j + 1)))) (st2_up _ _ _ _ _) ?_
                        refine x_goto (tgt := 161) dX11_nextToken_220 ?_
                        refine x_mem (V' := (up V 308 (ua (ua (ua (ua (V 308) 7 (j + 1)) 8 k) 9 2) 11 (bor (v * p2 8) (tb (V 312) (V 308 4) j))))) (upE rfl (by funext z; simp only [ua]; (repeat' split) <;> first | rfl | omega)) ?_
                        exact x_fg (ih161 (j + 1) (bor (v * p2 8) (tb (V 312) (V 308 4) j)) (by omega) (fun i i0 i1 => by rcases (show i < j ∨ i = j by omega) with q | q; (exact hlt i i0 q); rw [q]; assumption) (by rw [show (j + 1 - k).toNat = (j - k).toNat + 1 by omega]; simp only [wdK]; rw [← hw, show k + (((j - k).toNat : Nat) : Int) = j by omega]; first | (rw [if_pos (by omega), bor_256 (by omega) (by omega)]; simp only [tb]; rw [if_pos (by omega)]) | (rw [if_neg (by omega)])) (by omega)) (And.intro rfl (And.intro rfl trivial))
                exact x_fg (lp161 _ k 0 (by omega) (fun j j0 j1 => by omega) (by rw [show (k - k).toNat = 0 by omega]; rfl) (Nat.lt_succ_self _)) (And.intro rfl (And.intro rfl trivial))
            · -- 72 eq -> 75
              refine x_al0 dX11_nextToken_75 ?_
              refine x_iconst dX11_nextToken_76 ?_
              refine x_putI fl_X11_129 (sh_308 hS) (lq_308 hS) dX11_nextToken_77 ?_
              refine x_mem (V' := (up V 308 (ua (ua (ua (V 308) 7 k) 8 k) 9 1))) (st2_up _ _ _ _ _) ?_
              refine x_al0 dX11_nextToken_80 ?_
              refine x_iconst dX11_nextToken_81 ?_
              refine x_putI fl_X11_135 (sh_308 hS) (lq_308 hS) dX11_nextToken_82 ?_
              refine x_mem (V' := (up V 308 (ua (ua (ua (ua (V 308) 7 k) 8 k) 9 1) 10 0))) (st2_up _ _ _ _ _) ?_
              have lp85 : ∀ (N85 : Nat) (j : Int) (v : Int), (k ≤ j ∧ j ≤ V 308 4) → (∀ i, k ≤ i → i < j → isDg (tb (V 312) (V 308 4) i)) → (v = nmK (V 312) k (j - k).toNat) → (V 308 4 - j).toNat < N85 → X Γ B RX11 "nextToken" cX11_nextToken 3 none 3 0 0 85 [some (vR B 308), some (vI (tb (V 312) (V 308 4) k)), none] [] 0 0 S (up V 308 (ua (ua (ua (ua (V 308) 7 j) 8 k) 9 1) 10 v)) := by
                intro N85
                induction N85 with
                | zero => intro j v hj hdg hv hN; exact absurd hN (Nat.not_lt_zero _)
                | succ N85 ih85 =>
                  intro j v hj hdg hv hN85
                  have hb1 := tb_r hTp (V 308 4) j
                  have hvr := nmK_r (T := V 312) (s := k) (j - k).toNat (fun i i0 i1 => by have q := hdg i i0 (by omega); simp only [tb] at q; split at q; (exact q); omega)
                  rw [← hv] at hvr
                  refine x_al0 dX11_nextToken_85 ?_
                  refine x_al0 dX11_nextToken_86 ?_
                  refine x_getI fl_X11_120 (sh_308 hS) (lq_308 hS) dX11_nextToken_87 ?_
                  refine x_topI (a' := j) (show (ua (ua (ua (ua (V 308) 7 j) 8 k) 9 1) 10 v) 7 = j from ((ua_ne (by decide)).trans ((ua_ne (by decide)).trans ((ua_ne (by decide)).trans (ua_same _ _ _))))) ?_
                  refine x_cVi mm_X11_byteAt ml_X11_123 dX11_nextToken_90 (c_X11_byteAt2 j hS (show 0 ≤ (V 308 4) ∧ (V 308 4) ≤ 300 from hT) (by omega)) (sh_308 hS) (lq_308 hS) ?_
                  refine x_topI (a' := tb (V 312) (V 308 4) j) rfl ?_
                  refine x_cSi mm_X11_isDigit ml_X11_132 dX11_nextToken_93 (c_X11_isDigit (tb (V 312) (V 308 4) j) (inr (by omega))) ?_
                  refine x_ifb_eq (tgt := 390) dX11_nextToken_96 (fun c96_104 => ?_) (fun c96_104 => ?_)
                  · -- 96 eq -> 390
                    exact x_vret hQ (by have hd : isDg (tC (V 312) (V 308 4) (V 308 7)) := (by rw [hC]; assumption); have hT := tTok_1 hd; have hX := tNx_1 hd; have hDe : tDe (V 312) (V 308 4) (V 308 7) = j := (by simp only [tDe]; rw [hpl]; exact ends_at (by omega) (Or.inl (by omega)) (Or.inl (by omega)) (fun i i0 i1 => decide_eq_true (hdg i i0 i1)) (decide_eq_false (by assumption)) (by omega)); exact rV.mk (upE rfl (mTok_eq (g := ua (ua (ua (ua (V 308) 7 j) 8 k) 9 1) 10 v) (show j = _ from by rw [hX, hDe]) (show k = _ from hpl.symm) (show 1 = _ from hT.symm) (show v = _ from by rw [if_pos hT]; simp only [tNum]; rw [hDe, hpl]; exact hv) (show V 308 11 = _ from (if_neg (by omega)).symm) (fun z z7 z8 z9 z10 z11 => by simp only [ua]; repeat rw [if_neg (by assumption)])).symm)) dX11_nextToken_390
                  · -- 96 eq -> 99
                    refine x_al0 dX11_nextToken_99 ?_
                    refine x_getI fl_X11_135 (sh_308 hS) (lq_308 hS) dX11_nextToken_100 ?_
                    refine x_topI (a' := v) (show (ua (ua (ua (ua (V 308) 7 j) 8 k) 9 1) 10 v) 10 = v from (ua_same _ _ _)) ?_
                    refine x_ldc (a := 100000) ki_X11_138 (by decide) dX11_nextToken_103 ?_
                    refine x_icmp_ge (tgt := 131) dX11_nextToken_105 (inr (by omega)) (inr (by decide)) (fun c105_105 => ?_) (fun c105_105 => ?_)
                    · -- 105 ge -> 131
                      refine x_al0 dX11_nextToken_131 ?_
                      refine x_dup dX11_nextToken_132 ?_
                      refine x_getI fl_X11_120 (sh_308 hS) (lq_308 hS) dX11_nextToken_133 ?_
                      refine x_topI (a' := j) (show (ua (ua (ua (ua (V 308) 7 j) 8 k) 9 1) 10 v) 7 = j from ((ua_ne (by decide)).trans ((ua_ne (by decide)).trans ((ua_ne (by decide)).trans (ua_same _ _ _))))) ?_
                      refine x_iconst dX11_nextToken_136 ?_
                      refine x_iadd dX11_nextToken_137 ?_
                      refine x_putI fl_X11_120 (sh_308 hS) (lq_308 hS) dX11_nextToken_138 ?_
                      refine x_mem (V' := (up V 308 (ua (ua (ua (ua (ua (V 308) 7 j) 8 k) 9 1) 10 v) 7 (j + 1)))) (st2_up _ _ _ _ _) ?_
                      refine x_goto (tgt := 85) dX11_nextToken_141 ?_
                      refine x_mem (V' := (up V 308 (ua (ua (ua (ua (V 308) 7 (j + 1)) 8 k) 9 1) 10 v))) (upE rfl (by funext z; simp only [ua]; (repeat' split) <;> first | rfl | omega)) ?_
                      exact x_fg (ih85 (j + 1) v (by omega) (fun i i0 i1 => by rcases (show i < j ∨ i = j by omega) with q | q; (exact hdg i i0 q); rw [q]; assumption) (by rw [show (j + 1 - k).toNat = (j - k).toNat + 1 by omega]; simp only [nmK]; rw [← hv, show k + (((j - k).toNat : Nat) : Int) = j by omega]; first | (rw [if_pos (by omega)]; simp only [tb]; rw [if_pos (by omega)]) | (rw [if_neg (by omega)])) (by omega)) (And.intro rfl (And.intro rfl trivial))
                    · -- 105 ge -> 108
                      refine x_al0 dX11_nextToken_108 ?_
                      refine x_bipush dX11_nextToken_109 ?_
                      refine x_al0 dX11_nextToken_111 ?_
                      refine x_getI fl_X11_135 (sh_308 hS) (lq_308 hS) dX11_nextToken_112 ?_
                      refine x_topI (a' := v) (show (ua (ua (ua (ua (V 308) 7 j) 8 k) 9 1) 10 v) 10 = v from (ua_same _ _ _)) ?_
                      refine x_imul dX11_nextToken_115 ?_
                      refine x_al0 dX11_nextToken_116 ?_
                      refine x_al0 dX11_nextToken_117 ?_
                      refine x_getI fl_X11_120 (sh_308 hS) (lq_308 hS) dX11_nextToken_118 ?_
                      refine x_topI (a' := j) (show (ua (ua (ua (ua (V 308) 7 j) 8 k) 9 1) 10 v) 7 = j from ((ua_ne (by decide)).trans ((ua_ne (by decide)).trans ((ua_ne (by decide)).trans (ua_same _ _ _))))) ?_
                      refine x_cVi mm_X11_byteAt ml_X11_123 dX11_nextToken_121 (c_X11_byteAt2 j hS (show 0 ≤ (V 308 4) ∧ (V 308 4) ≤ 300 from hT) (by omega)) (sh_308 hS) (lq_308 hS) ?_
                      refine x_topI (a' := tb (V 312) (V 308 4) j) rfl ?_
                      refine x_iadd dX11_nextToken_124 ?_
                      refine x_bipush dX11_nextToken_125 ?_
                      refine x_isub dX11_nextToken_127 ?_
                      refine x_putI fl_X11_135 (sh_308 hS) (lq_308 hS) dX11_nextToken_128 ?_
                      refine x_mem (V' := (up V 308 (ua (ua (ua (ua (ua (V 308) 7 j) 8 k) 9 1) 10 v) 10 (((10 * v) + (tb (V 312) (V 308 4) j)) - 48)))) (st2_up _ _ _ _ _) ?_
                      refine x_al0 dX11_nextToken_131 ?_
                      refine x_dup dX11_nextToken_132 ?_
                      refine x_getI fl_X11_120 (sh_308 hS) (lq_308 hS) dX11_nextToken_133 ?_
                      refine x_topI (a' := j) (show (ua (ua (ua (ua (ua (V 308) 7 j) 8 k) 9 1) 10 v) 10 (((10 * v) + (tb (V 312) (V 308 4) j)) - 48)) 7 = j from ((ua_ne (by decide)).trans ((ua_ne (by decide)).trans ((ua_ne (by decide)).trans ((ua_ne (by decide)).trans (ua_same _ _ _)))))) ?_
                      refine x_iconst dX11_nextToken_136 ?_
                      refine x_iadd dX11_nextToken_137 ?_
                      refine x_putI fl_X11_120 (sh_308 hS) (lq_308 hS) dX11_nextToken_138 ?_
                      refine x_mem (V' := (up V 308 (ua (ua (ua (ua (ua (ua (V 308) 7 j) 8 k) 9 1) 10 v) 10 (((10 * v) + (tb (V 312) (V 308 4) j)) - 48)) 7 (j + 1)))) (st2_up _ _ _ _ _) ?_
                      refine x_goto (tgt := 85) dX11_nextToken_141 ?_
                      refine x_mem (V' := (up V 308 (ua (ua (ua (ua (V 308) 7 (j + 1)) 8 k) 9 1) 10 (((10 * v) + (tb (V 312) (V 308 4) j)) - 48)))) (upE rfl (by funext z; simp only [ua]; (repeat' split) <;> first | rfl | omega)) ?_
                      exact x_fg (ih85 (j + 1) (((10 * v) + (tb (V 312) (V 308 4) j)) - 48) (by omega) (fun i i0 i1 => by rcases (show i < j ∨ i = j by omega) with q | q; (exact hdg i i0 q); rw [q]; assumption) (by rw [show (j + 1 - k).toNat = (j - k).toNat + 1 by omega]; simp only [nmK]; rw [← hv, show k + (((j - k).toNat : Nat) : Int) = j by omega]; first | (rw [if_pos (by omega)]; simp only [tb]; rw [if_pos (by omega)]) | (rw [if_neg (by omega)])) (by omega)) (And.intro rfl (And.intro rfl trivial))
              exact x_fg (lp85 _ k 0 (by omega) (fun j j0 j1 => by omega) (by rw [show (k - k).toNat = 0 by omega]; rfl) (Nat.lt_succ_self _)) (And.intro rfl (And.intro rfl trivial))
          · -- 57 ge -> 60
            refine x_al0 dX11_nextToken_60 ?_
            refine x_iconst dX11_nextToken_61 ?_
            refine x_putI fl_X11_129 (sh_308 hS) (lq_308 hS) dX11_nextToken_62 ?_
            refine x_mem (V' := (up V 308 (ua (ua (ua (V 308) 7 k) 8 k) 9 0))) (st2_up _ _ _ _ _) ?_
            refine x_goto (tgt := 390) dX11_nextToken_65 ?_
            exact x_vret hQ (by have hT := tTok_0 (show tC (V 312) (V 308 4) (V 308 7) < 0 by rw [hC]; omega); have hX := tNx_0 (show tC (V 312) (V 308 4) (V 308 7) < 0 by rw [hC]; omega); exact rV.mk (upE rfl (mTok_eq (g := ua (ua (ua (V 308) 7 k) 8 k) 9 0) (show k = _ from by rw [hX, hpl]) (show k = _ from hpl.symm) (show 0 = _ from hT.symm) (show V 308 10 = _ from (if_neg (by omega)).symm) (show V 308 11 = _ from (if_neg (by omega)).symm) (fun z z7 z8 z9 z10 z11 => by simp only [ua]; repeat rw [if_neg (by assumption)])).symm)) dX11_nextToken_390
        · -- 23 ne -> 26
          refine x_al0 dX11_nextToken_26 ?_
          refine x_dup dX11_nextToken_27 ?_
          refine x_getI fl_X11_120 (sh_308 hS) (lq_308 hS) dX11_nextToken_28 ?_
          refine x_topI (a' := k) (show (ua (V 308) 7 k) 7 = k from (ua_same _ _ _)) ?_
          refine x_iconst dX11_nextToken_31 ?_
          refine x_iadd dX11_nextToken_32 ?_
          refine x_putI fl_X11_120 (sh_308 hS) (lq_308 hS) dX11_nextToken_33 ?_
          refine x_mem (V' := (up V 308 (ua (ua (V 308) 7 k) 7 (k + 1)))) (st2_up _ _ _ _ _) ?_
          refine x_goto (tgt := 0) dX11_nextToken_36 ?_
          refine x_mem (V' := (up V 308 (ua (V 308) 7 (k + 1)))) (upE rfl (by simp only [ua_ua])) ?_
          exact x_fg (ih0 (k + 1) (by omega) (fun j j0 j1 => by rcases (show j < k ∨ j = k by omega) with q | q; (exact hsp j j0 q); rw [q]; omega) (by omega)) (And.intro rfl trivial)
  refine x_mem (V' := (up V 308 (ua (V 308) 7 (V 308 7)))) (Eq.trans (show _ = (up V 308 (V 308)) from (Eq.symm (up_self _ 308))) (show (up V 308 (V 308)) = (up V 308 (ua (V 308) 7 (V 308 7))) from (upE rfl (ua_self _ _).symm))) ?_
  exact x_fg (lp0 _ (V 308 7) (by omega) (fun j j0 j1 => by omega) (Nat.lt_succ_self _)) (And.intro rfl trivial)
set_option maxRecDepth 100000 in
set_option maxHeartbeats 4000000 in
theorem c_X11_w3 {B : Bs} {S : Stt} {V : Va} (a : Int) (b : Int) (c : Int) (ha : 0 ≤ a ∧ a < 256) (hb : 0 ≤ b ∧ b < 256) (hc : 0 ≤ c ∧ c < 256) : C B yX11_w3 cX11_w3 3 (some .long) 1 0 0 [vI a, vI b, vI c] S V (rL S V ((a * 256 + b) * 256 + c)) := by
  refine C.of [some (vI a), some (vI b), some (vI c)] ?_
  intro Γ hQ
  have e1 : bor (a * p2 8) b = a * 256 + b := bor_256 (by omega) (by omega)
  refine x_il0 dX11_w3_0 ?_
  refine x_i2l (inr (by omega)) dX11_w3_1 ?_
  refine x_bipush dX11_w3_2 ?_
  refine x_lshl (by decide) (by decide) dX11_w3_4 ?_
  refine x_il1 dX11_w3_5 ?_
  refine x_i2l (inr (by omega)) dX11_w3_6 ?_
  refine x_lor (Int.mul_nonneg (by omega) (Int.le_of_lt (p2_pos _))) (by omega) dX11_w3_7 ?_
  refine x_bipush dX11_w3_8 ?_
  refine x_lshl (by decide) (by decide) dX11_w3_10 ?_
  refine x_il2 dX11_w3_11 ?_
  refine x_i2l (inr (by omega)) dX11_w3_12 ?_
  refine x_lor (Int.mul_nonneg (by omega) (Int.le_of_lt (p2_pos _))) (by omega) dX11_w3_13 ?_
  exact x_lret hQ (rL.mk (by rw [e1]; exact (bor_256 (by omega) (by omega)).symm) rfl) dX11_w3_14
set_option maxRecDepth 100000 in
set_option maxHeartbeats 4000000 in
theorem c_X11_w4 {B : Bs} {S : Stt} {V : Va} (a : Int) (b : Int) (c : Int) (d : Int) (ha : 0 ≤ a ∧ a < 256) (hb : 0 ≤ b ∧ b < 256) (hc : 0 ≤ c ∧ c < 256) (hd : 0 ≤ d ∧ d < 256) : C B yX11_w4 cX11_w4 4 (some .long) 2 0 0 [vI a, vI b, vI c, vI d] S V (rL S V (((a * 256 + b) * 256 + c) * 256 + d)) := by
  refine C.of [some (vI a), some (vI b), some (vI c), some (vI d)] ?_
  intro Γ hQ
  refine x_il0 dX11_w4_0 ?_
  refine x_il1 dX11_w4_1 ?_
  refine x_il2 dX11_w4_2 ?_
  refine x_cSl mm_X11_w3 ml_X11_146 dX11_w4_3 (c_X11_w3 a b c (by first | decide | omega) (by first | decide | omega) (by first | decide | omega)) ?_
  refine x_bipush dX11_w4_6 ?_
  refine x_lshl (by decide) (by decide) dX11_w4_8 ?_
  refine x_il3 dX11_w4_9 ?_
  refine x_i2l (inr (by omega)) dX11_w4_10 ?_
  refine x_lor (Int.mul_nonneg (by omega) (Int.le_of_lt (p2_pos _))) (by omega) dX11_w4_11 ?_
  exact x_lret hQ (rL.mk (bor_256 (by omega) (by omega)).symm rfl) dX11_w4_12
set_option maxRecDepth 100000 in
set_option maxHeartbeats 4000000 in
theorem c_X11_w5 {B : Bs} {S : Stt} {V : Va} (a : Int) (b : Int) (c : Int) (d : Int) (e : Int) (ha : 0 ≤ a ∧ a < 256) (hb : 0 ≤ b ∧ b < 256) (hc : 0 ≤ c ∧ c < 256) (hd : 0 ≤ d ∧ d < 256) (he : 0 ≤ e ∧ e < 256) : C B yX11_w5 cX11_w5 5 (some .long) 2 0 0 [vI a, vI b, vI c, vI d, vI e] S V (rL S V ((((a * 256 + b) * 256 + c) * 256 + d) * 256 + e)) := by
  refine C.of [some (vI a), some (vI b), some (vI c), some (vI d), some (vI e)] ?_
  intro Γ hQ
  have e1 : bor (((a * 256 + b) * 256 + c) * p2 8) d = ((a * 256 + b) * 256 + c) * 256 + d := bor_256 (by omega) (by omega)
  refine x_il0 dX11_w5_0 ?_
  refine x_il1 dX11_w5_1 ?_
  refine x_il2 dX11_w5_2 ?_
  refine x_cSl mm_X11_w3 ml_X11_146 dX11_w5_3 (c_X11_w3 a b c (by first | decide | omega) (by first | decide | omega) (by first | decide | omega)) ?_
  refine x_bipush dX11_w5_6 ?_
  refine x_lshl (by decide) (by decide) dX11_w5_8 ?_
  refine x_il3 dX11_w5_9 ?_
  refine x_i2l (inr (by omega)) dX11_w5_10 ?_
  refine x_lor (Int.mul_nonneg (by omega) (Int.le_of_lt (p2_pos _))) (by omega) dX11_w5_11 ?_
  refine x_bipush dX11_w5_12 ?_
  refine x_lshl (by decide) (by decide) dX11_w5_14 ?_
  refine x_il4 dX11_w5_15 ?_
  refine x_i2l (inr (by omega)) dX11_w5_17 ?_
  refine x_lor (Int.mul_nonneg (by omega) (Int.le_of_lt (p2_pos _))) (by omega) dX11_w5_18 ?_
  exact x_lret hQ (rL.mk (by rw [e1]; exact (bor_256 (by omega) (by omega)).symm) rfl) dX11_w5_19
set_option maxRecDepth 100000 in
set_option maxHeartbeats 4000000 in
theorem c_X11_w6 {B : Bs} {S : Stt} {V : Va} (a : Int) (b : Int) (c : Int) (d : Int) (e : Int) (g : Int) (ha : 0 ≤ a ∧ a < 256) (hb : 0 ≤ b ∧ b < 256) (hc : 0 ≤ c ∧ c < 256) (hd : 0 ≤ d ∧ d < 256) (he : 0 ≤ e ∧ e < 256) (hg : 0 ≤ g ∧ g < 256) : C B yX11_w6 cX11_w6 6 (some .long) 3 0 0 [vI a, vI b, vI c, vI d, vI e, vI g] S V (rL S V (((((a * 256 + b) * 256 + c) * 256 + d) * 256 + e) * 256 + g)) := by
  refine C.of [some (vI a), some (vI b), some (vI c), some (vI d), some (vI e), some (vI g)] ?_
  intro Γ hQ
  refine x_il0 dX11_w6_0 ?_
  refine x_il1 dX11_w6_1 ?_
  refine x_il2 dX11_w6_2 ?_
  refine x_il3 dX11_w6_3 ?_
  refine x_il4 dX11_w6_4 ?_
  refine x_cSl mm_X11_w5 ml_X11_150 dX11_w6_6 (c_X11_w5 a b c d e (by first | decide | omega) (by first | decide | omega) (by first | decide | omega) (by first | decide | omega) (by first | decide | omega)) ?_
  refine x_bipush dX11_w6_9 ?_
  refine x_lshl (by decide) (by decide) dX11_w6_11 ?_
  refine x_il5 dX11_w6_12 ?_
  refine x_i2l (inr (by omega)) dX11_w6_14 ?_
  refine x_lor (Int.mul_nonneg (by omega) (Int.le_of_lt (p2_pos _))) (by omega) dX11_w6_15 ?_
  exact x_lret hQ (rL.mk (bor_256 (by omega) (by omega)).symm rfl) dX11_w6_16
