set_option maxRecDepth 100000 in
set_option maxHeartbeats 4000000 in
theorem c_X11_burn {B : Bs} {S : Stt} {V : Va} (town : Int) (hS : Stat S) (hA : AB (V 309)) (h0 : 0 ≤ (V 309 0) ∧ (V 309 0) ≤ 10) (h1 : 0 ≤ (V 309 1) ∧ (V 309 1) ≤ 16) (h5 : 0 ≤ (V 309 5) ∧ (V 309 5) ≤ 20) (hP : ∀ b, 0 ≤ b → b < 16 → 0 ≤ (V 309) (30 + 6 * b + 5)) (htown : InR town) : C B yX11_burn cX11_burn 4 (some .int) 3 0 0 [vR B 308, vI town] S V (rI S (up V 309 (mBurnF (V 309) town)) (if mTownOk (V 309) town then mProofs (V 309) town (V 309 1) else -1)) := by
  refine C.of [some (vR B 308), some (vI town), none, none] ?_
  intro Γ hQ
  refine x_al0 dX11_burn_0 ?_
  refine x_il1 dX11_burn_1 ?_
  refine x_cVi mm_X11_isTown ml_X11_83 dX11_burn_2 (c_X11_isTown town hS hA (inr (by omega))) (sh_308 hS) (lq_308 hS) ?_
  refine x_ifb_ne (tgt := 10) dX11_burn_5 (fun c5_1 => ?_) (fun c5_1 => ?_)
  · -- 5 ne -> 10
    refine x_al0 dX11_burn_10 ?_
    refine x_cVv mm_X11_keep ml_X11_94 dX11_burn_11 (c_X11_keep hS hA h5) (sh_308 hS) (lq_308 hS) ?_
    refine x_al0 dX11_burn_14 ?_
    refine x_il1 dX11_burn_15 ?_
    refine x_cVi mm_X11_proofsOf ml_X11_97 dX11_burn_16 (c_X11_proofsOf town hS (show AB (mKeep (V 309)) from (AB_mKeep hA h5)) (show 0 ≤ (mKeep (V 309) 1) ∧ (mKeep (V 309) 1) ≤ 16 from (by show 0 ≤ mKeep (V 309) 1 ∧ mKeep (V 309) 1 ≤ 16; rw [mKeep_lo (by omega) (by omega) h5]; exact h1)) (by omega)) (sh_308 hS) (lq_308 hS) ?_
    refine x_topI (a' := mProofs (mKeep (V 309)) town (mKeep (V 309) 1)) (by show mProofs (mKeep (V 309)) town (mKeep (V 309) 1) = _; rfl) ?_
    refine x_topI (a' := mProofs (V 309) town (V 309 1)) (by simp only [mProofs]; rw [mKeep_lo (by omega) (by omega) h5]; exact sumT_c (fun k hk hk2 => by rw [mKeep_lo (by omega) (by omega) h5])) ?_
    refine x_is2 dX11_burn_19 ?_
    refine x_iconst dX11_burn_20 ?_
    refine x_is3 dX11_burn_21 ?_
    have lp22 : ∀ (N22 : Nat) (b : Int), (0 ≤ b ∧ b ≤ V 309 1) → (V 309 1 - b).toNat < N22 → X Γ B RX11 "burn" cX11_burn 4 (some .int) 3 0 0 22 [some (vR B 308), some (vI town), some (vI (mProofs (V 309) town (V 309 1))), some (vI b)] [] 0 0 S (up V 309 (burnK (mKeep (V 309)) town b)) := by
      intro N22
      induction N22 with
      | zero => intro b hb hN; exact absurd hN (Nat.not_lt_zero _)
      | succ N22 ih22 =>
        intro b hb hN22
        refine x_il3 dX11_burn_22 ?_
        refine x_al0 dX11_burn_23 ?_
        refine x_getR fl_X11_7 (sh_308 hS) (lq_308 hS) (rf_308_0 hS) dX11_burn_24 ?_
        refine x_iconst dX11_burn_27 ?_
        have hb2 := hA 1
        refine x_iald (sh_309 hS) (lq_309 hS) (by omega) (by omega) dX11_burn_28 ?_
        refine x_topI (a' := V 309 1) (show (burnK (mKeep (V 309)) town b) 1 = V 309 1 from (by rw [burnK_rd (by omega), mKeep_lo (by omega) (by omega) h5])) ?_
        refine x_icmp_ge (tgt := 57) dX11_burn_29 (inr (by omega)) (inr (by omega)) (fun c29_3 => ?_) (fun c29_3 => ?_)
        · -- 29 ge -> 57
          refine x_il2 dX11_burn_57 ?_
          exact x_iret hQ (rI.mk (by first | (rw [if_pos (by simp only [mTownOk]; omega)]) | (rw [if_neg (by simp only [mTownOk]; omega)])) (by simp only [mBurnF]; first | (rw [if_pos (by simp only [mTownOk]; omega), show b = V 309 1 by omega]) | (rw [if_neg (by simp only [mTownOk]; omega), up_self]))) dX11_burn_58
        · -- 29 ge -> 32
          refine x_al0 dX11_burn_32 ?_
          refine x_getR fl_X11_7 (sh_308 hS) (lq_308 hS) (rf_308_0 hS) dX11_burn_33 ?_
          refine x_il3 dX11_burn_36 ?_
          refine x_cSi mm_X11_boneAt ml_X11_87 dX11_burn_37 (c_X11_boneAt b) ?_
          refine x_iconst dX11_burn_40 ?_
          refine x_iadd dX11_burn_41 ?_
          refine x_dup2 dX11_burn_42 ?_
          have hb4 := hA ((30 + 6 * b) + 5)
          refine x_iald (sh_309 hS) (lq_309 hS) (by omega) (by omega) dX11_burn_43 ?_
          refine x_topI (a' := V 309 ((30 + 6 * b) + 5)) (show (burnK (mKeep (V 309)) town b) ((30 + 6 * b) + 5) = V 309 ((30 + 6 * b) + 5) from (by rw [burnK_rd (by omega), mKeep_lo (by omega) (by omega) h5])) ?_
          refine x_iconst dX11_burn_44 ?_
          refine x_il1 dX11_burn_45 ?_
          refine x_shl1 (by omega) (by omega) dX11_burn_46 ?_
          refine x_iconst dX11_burn_47 ?_
          refine x_not dX11_burn_48 ?_
          refine x_andn (hP _ (by omega) (by omega)) (Int.le_of_lt (p2_pos _)) dX11_burn_49 ?_
          refine x_iast (sh_309 hS) (lq_309 hS) (by omega) (by omega) dX11_burn_50 ?_
          refine x_mem (V' := (up V 309 (ua (burnK (mKeep (V 309)) town b) ((30 + 6 * b) + 5) ((V 309 ((30 + 6 * b) + 5)) - band (V 309 ((30 + 6 * b) + 5)) (p2 town))))) (st2_up _ _ _ _ _) ?_
          refine x_inc3 dX11_burn_51 ?_
          refine x_goto (tgt := 22) dX11_burn_54 ?_
          refine x_mem (V' := (up V 309 (burnK (mKeep (V 309)) town (b + 1)))) (upE rfl (by rw [← burnK_s (mKeep (V 309)) (t := town) hb.1, mKeep_lo (by omega) (by omega) h5])) ?_
          exact x_fg (ih22 (b + 1) (by omega) (by omega)) (And.intro rfl (And.intro rfl (And.intro rfl (And.intro rfl trivial))))
    refine x_mem (V' := (up V 309 (burnK (mKeep (V 309)) town 0))) (upE rfl (burnK_0 _ _)) ?_
    exact x_fg (lp22 _ 0 (by omega) (Nat.lt_succ_self _)) (And.intro rfl (And.intro rfl (And.intro rfl (And.intro rfl trivial))))
  · -- 5 ne -> 8
    refine x_iconst dX11_burn_8 ?_
    exact x_iret hQ (rI.mk (by first | (rw [if_pos (by simp only [mTownOk]; omega)]) | (rw [if_neg (by simp only [mTownOk]; omega)])) (by simp only [mBurnF]; first | (rw [if_pos (by simp only [mTownOk]; omega), show b = V 309 1 by omega]) | (rw [if_neg (by simp only [mTownOk]; omega), up_self]))) dX11_burn_9
set_option maxRecDepth 100000 in
set_option maxHeartbeats 4000000 in
theorem c_X11_four {B : Bs} {S : Stt} {V : Va} (v : Int) (hS : Stat S) (hn : 0 ≤ (V 308 4) ∧ (V 308 4) ≤ 296) (hv : InR v) : C B yX11_four cX11_four 3 none 1 0 0 [vR B 308, vI v] S V (rV S (up (up V 308 (ua (V 308) 4 ((V 308 4) + 1 + 1 + 1 + 1))) 312 (tape4 (V 312) (V 308 4) v))) := by
  refine C.of [some (vR B 308), some (vI v), none] ?_
  intro Γ hQ
  refine x_bipush dX11_four_0 ?_
  refine x_is2 dX11_four_2 ?_
  refine x_il2 dX11_four_3 ?_
  refine x_if_lt (tgt := 39) dX11_four_4 (inr (by decide)) (fun c4_1 => ?_) (fun c4_1 => ?_)
  · exact absurd c4_1 (by decide)
  · -- 4 lt -> 7
    refine x_al0 dX11_four_7 ?_
    refine x_getR fl_X11_19 (sh_308 hS) (lq_308 hS) (rf_308_3 hS) dX11_four_8 ?_
    refine x_al0 dX11_four_11 ?_
    refine x_getI fl_X11_114 (sh_308 hS) (lq_308 hS) dX11_four_12 ?_
    refine x_topI (a' := V 308 4) rfl ?_
    refine x_il1 dX11_four_15 ?_
    refine x_il2 dX11_four_16 ?_
    refine x_ishr (inr (by omega)) (by decide) (by decide) dX11_four_17 ?_
    refine x_sipush dX11_four_18 ?_
    refine x_and255 dX11_four_21 ?_
    refine x_iast (sh_312 hS) (lq_312 hS) (by omega) (by omega) dX11_four_22 ?_
    refine x_mem (V' := (up V 312 (ua (V 312) (V 308 4) ((v / p2 24) % 256)))) rfl ?_
    refine x_al0 dX11_four_23 ?_
    refine x_dup dX11_four_24 ?_
    refine x_getI fl_X11_114 (sh_308 hS) (lq_308 hS) dX11_four_25 ?_
    refine x_topI (a' := V 308 4) rfl ?_
    refine x_iconst dX11_four_28 ?_
    refine x_iadd dX11_four_29 ?_
    refine x_putI fl_X11_114 (sh_308 hS) (lq_308 hS) dX11_four_30 ?_
    refine x_mem (V' := (up (up V 308 (ua (V 308) 4 ((V 308 4) + 1))) 312 (ua (V 312) (V 308 4) ((v / p2 24) % 256)))) (st2_c (by decide) rfl) ?_
    refine x_dec2 dX11_four_33 ?_
    refine x_goto (tgt := 3) dX11_four_36 ?_
    refine x_il2 dX11_four_3 ?_
    refine x_if_lt (tgt := 39) dX11_four_4 (inr (by omega)) (fun c4_2 => ?_) (fun c4_2 => ?_)
    · exact absurd c4_2 (by decide)
    · -- 4 lt -> 7
      refine x_al0 dX11_four_7 ?_
      refine x_getR fl_X11_19 (sh_308 hS) (lq_308 hS) (rf_308_3 hS) dX11_four_8 ?_
      refine x_al0 dX11_four_11 ?_
      refine x_getI fl_X11_114 (sh_308 hS) (lq_308 hS) dX11_four_12 ?_
      refine x_topI (a' := (V 308 4) + 1) (show (ua (V 308) 4 ((V 308 4) + 1)) 4 = (V 308 4) + 1 from (ua_same _ _ _)) ?_
      refine x_il1 dX11_four_15 ?_
      refine x_il2 dX11_four_16 ?_
      refine x_ishr (inr (by omega)) (by omega) (by omega) dX11_four_17 ?_
      refine x_sipush dX11_four_18 ?_
      refine x_and255 dX11_four_21 ?_
      refine x_iast (sh_312 hS) (lq_312 hS) (by omega) (by omega) dX11_four_22 ?_
      refine x_mem (V' := (up (up V 308 (ua (V 308) 4 ((V 308 4) + 1))) 312 (ua (ua (V 312) (V 308 4) ((v / p2 24) % 256)) ((V 308 4) + 1) ((v / p2 (24 - 8)) % 256)))) (st2_up _ _ _ _ _) ?_
      refine x_al0 dX11_four_23 ?_
      refine x_dup dX11_four_24 ?_
      refine x_getI fl_X11_114 (sh_308 hS) (lq_308 hS) dX11_four_25 ?_
      refine x_topI (a' := (V 308 4) + 1) (show (ua (V 308) 4 ((V 308 4) + 1)) 4 = (V 308 4) + 1 from (ua_same _ _ _)) ?_
      refine x_iconst dX11_four_28 ?_
      refine x_iadd dX11_four_29 ?_
      refine x_putI fl_X11_114 (sh_308 hS) (lq_308 hS) dX11_four_30 ?_
      refine x_mem (V' := (up (up V 308 (ua (ua (V 308) 4 ((V 308 4) + 1)) 4 (((V 308 4) + 1) + 1))) 312 (ua (ua (V 312) (V 308 4) ((v / p2 24) % 256)) ((V 308 4) + 1) ((v / p2 (24 - 8)) % 256)))) (st2_c (by decide) (st2_up _ _ _ _ _)) ?_
      refine x_dec2 dX11_four_33 ?_
      refine x_goto (tgt := 3) dX11_four_36 ?_
      refine x_il2 dX11_four_3 ?_
      refine x_if_lt (tgt := 39) dX11_four_4 (inr (by omega)) (fun c4_3 => ?_) (fun c4_3 => ?_)
      · exact absurd c4_3 (by decide)
      · -- 4 lt -> 7
        refine x_al0 dX11_four_7 ?_
        refine x_getR fl_X11_19 (sh_308 hS) (lq_308 hS) (rf_308_3 hS) dX11_four_8 ?_
        refine x_al0 dX11_four_11 ?_
        refine x_getI fl_X11_114 (sh_308 hS) (lq_308 hS) dX11_four_12 ?_
        refine x_topI (a' := ((V 308 4) + 1) + 1) (show (ua (ua (V 308) 4 ((V 308 4) + 1)) 4 (((V 308 4) + 1) + 1)) 4 = ((V 308 4) + 1) + 1 from (ua_same _ _ _)) ?_
        refine x_il1 dX11_four_15 ?_
        refine x_il2 dX11_four_16 ?_
        refine x_ishr (inr (by omega)) (by omega) (by omega) dX11_four_17 ?_
        refine x_sipush dX11_four_18 ?_
        refine x_and255 dX11_four_21 ?_
        refine x_iast (sh_312 hS) (lq_312 hS) (by omega) (by omega) dX11_four_22 ?_
        refine x_mem (V' := (up (up V 308 (ua (ua (V 308) 4 ((V 308 4) + 1)) 4 (((V 308 4) + 1) + 1))) 312 (ua (ua (ua (V 312) (V 308 4) ((v / p2 24) % 256)) ((V 308 4) + 1) ((v / p2 (24 - 8)) % 256)) (((V 308 4) + 1) + 1) ((v / p2 ((24 - 8) - 8)) % 256)))) (st2_up _ _ _ _ _) ?_
        refine x_al0 dX11_four_23 ?_
        refine x_dup dX11_four_24 ?_
        refine x_getI fl_X11_114 (sh_308 hS) (lq_308 hS) dX11_four_25 ?_
        refine x_topI (a' := ((V 308 4) + 1) + 1) (show (ua (ua (V 308) 4 ((V 308 4) + 1)) 4 (((V 308 4) + 1) + 1)) 4 = ((V 308 4) + 1) + 1 from (ua_same _ _ _)) ?_
        refine x_iconst dX11_four_28 ?_
        refine x_iadd dX11_four_29 ?_
        refine x_putI fl_X11_114 (sh_308 hS) (lq_308 hS) dX11_four_30 ?_
        refine x_mem (V' := (up (up V 308 (ua (ua (ua (V 308) 4 ((V 308 4) + 1)) 4 (((V 308 4) + 1) + 1)) 4 ((((V 308 4) + 1) + 1) + 1))) 312 (ua (ua (ua (V 312) (V 308 4) ((v / p2 24) % 256)) ((V 308 4) + 1) ((v / p2 (24 - 8)) % 256)) (((V 308 4) + 1) + 1) ((v / p2 ((24 - 8) - 8)) % 256)))) (st2_c (by decide) (st2_up _ _ _ _ _)) ?_
        refine x_dec2 dX11_four_33 ?_
        refine x_goto (tgt := 3) dX11_four_36 ?_
        refine x_il2 dX11_four_3 ?_
        refine x_if_lt (tgt := 39) dX11_four_4 (inr (by omega)) (fun c4_4 => ?_) (fun c4_4 => ?_)
        · exact absurd c4_4 (by decide)
        · -- 4 lt -> 7
          refine x_al0 dX11_four_7 ?_
          refine x_getR fl_X11_19 (sh_308 hS) (lq_308 hS) (rf_308_3 hS) dX11_four_8 ?_
          refine x_al0 dX11_four_11 ?_
          refine x_getI fl_X11_114 (sh_308 hS) (lq_308 hS) dX11_four_12 ?_
          refine x_topI (a' := (((V 308 4) + 1) + 1) + 1) (show (ua (ua (ua (V 308) 4 ((V 308 4) + 1)) 4 (((V 308 4) + 1) + 1)) 4 ((((V 308 4) + 1) + 1) + 1)) 4 = (((V 308 4) + 1) + 1) + 1 from (ua_same _ _ _)) ?_
          refine x_il1 dX11_four_15 ?_
          refine x_il2 dX11_four_16 ?_
          refine x_ishr (inr (by omega)) (by omega) (by omega) dX11_four_17 ?_
          refine x_sipush dX11_four_18 ?_
          refine x_and255 dX11_four_21 ?_
          refine x_iast (sh_312 hS) (lq_312 hS) (by omega) (by omega) dX11_four_22 ?_
          refine x_mem (V' := (up (up V 308 (ua (ua (ua (V 308) 4 ((V 308 4) + 1)) 4 (((V 308 4) + 1) + 1)) 4 ((((V 308 4) + 1) + 1) + 1))) 312 (ua (ua (ua (ua (V 312) (V 308 4) ((v / p2 24) % 256)) ((V 308 4) + 1) ((v / p2 (24 - 8)) % 256)) (((V 308 4) + 1) + 1) ((v / p2 ((24 - 8) - 8)) % 256)) ((((V 308 4) + 1) + 1) + 1) ((v / p2 (((24 - 8) - 8) - 8)) % 256)))) (st2_up _ _ _ _ _) ?_
          refine x_al0 dX11_four_23 ?_
          refine x_dup dX11_four_24 ?_
          refine x_getI fl_X11_114 (sh_308 hS) (lq_308 hS) dX11_four_25 ?_
          refine x_topI (a' := (((V 308 4) + 1) + 1) + 1) (show (ua (ua (ua (V 308) 4 ((V 308 4) + 1)) 4 (((V 308 4) + 1) + 1)) 4 ((((V 308 4) + 1) + 1) + 1)) 4 = (((V 308 4) + 1) + 1) + 1 from (ua_same _ _ _)) ?_
          refine x_iconst dX11_four_28 ?_
          refine x_iadd dX11_four_29 ?_
          refine x_putI fl_X11_114 (sh_308 hS) (lq_308 hS) dX11_four_30 ?_
          refine x_mem (V' := (up (up V 308 (ua (ua (ua (ua (V 308) 4 ((V 308 4) + 1)) 4 (((V 308 4) + 1) + 1)) 4 ((((V 308 4) + 1) + 1) + 1)) 4 (((((V 308 4) + 1) + 1) + 1) + 1))) 312 (ua (ua (ua (ua (V 312) (V 308 4) ((v / p2 24) % 256)) ((V 308 4) + 1) ((v / p2 (24 - 8)) % 256)) (((V 308 4) + 1) + 1) ((v / p2 ((24 - 8) - 8)) % 256)) ((((V 308 4) + 1) + 1) + 1) ((v / p2 (((24 - 8) - 8) - 8)) % 256)))) (st2_c (by decide) (st2_up _ _ _ _ _)) ?_
          refine x_dec2 dX11_four_33 ?_
          refine x_goto (tgt := 3) dX11_four_36 ?_
          refine x_il2 dX11_four_3 ?_
          refine x_if_lt (tgt := 39) dX11_four_4 (inr (by omega)) (fun c4_5 => ?_) (fun c4_5 => ?_)
          · -- 4 lt -> 39
            exact x_vret hQ (rV.mk (upE (upE rfl (by simp only [ua_ua])) rfl)) dX11_four_39
          · exact absurd c4_5 (by decide)
set_option maxRecDepth 100000 in
set_option maxHeartbeats 4000000 in
theorem c_X11_feed {B : Bs} {S : Stt} {V : Va} (a : Int) (b : Int) (c : Int) (d : Int) (e : Int) (hS : Stat S) (hT : 0 ≤ (V 308 4) ∧ (V 308 4) ≤ 300) (ha : InR a) (hb : InR b) (hc : InR c) (hd : InR d) (he : InR e) : C B yX11_feed cX11_feed 6 (some .int) 2 0 0 [vR B 308, vI a, vI b, vI c, vI d, vI e] S V (rI S (up (up V 308 (if (V 308 4) + 20 ≤ 300 then ua (V 308) 4 ((V 308 4) + 20) else (V 308))) 312 (if (V 308 4) + 20 ≤ 300 then feedT (V 312) (V 308 4) a b c d e else (V 312))) (if (V 308 4) + 20 ≤ 300 then (V 308 4) + 20 else -1)) := by
  refine C.of [some (vR B 308), some (vI a), some (vI b), some (vI c), some (vI d), some (vI e)] ?_
  intro Γ hQ
  refine x_al0 dX11_feed_0 ?_
  refine x_getI fl_X11_114 (sh_308 hS) (lq_308 hS) dX11_feed_1 ?_
  refine x_topI (a' := V 308 4) rfl ?_
  refine x_bipush dX11_feed_4 ?_
  refine x_iadd dX11_feed_6 ?_
  refine x_sipush dX11_feed_7 ?_
  refine x_icmp_le (tgt := 15) dX11_feed_10 (inr (by omega)) (inr (by decide)) (fun c10_1 => ?_) (fun c10_1 => ?_)
  · -- 10 le -> 15
    refine x_al0 dX11_feed_15 ?_
    refine x_il1 dX11_feed_16 ?_
    refine x_cVv mm_X11_four ml_X11_117 dX11_feed_17 (c_X11_four a hS (by omega) (inr (by omega))) (sh_308 hS) (lq_308 hS) ?_
    refine x_al0 dX11_feed_20 ?_
    refine x_il2 dX11_feed_21 ?_
    refine x_cVv mm_X11_four ml_X11_117 dX11_feed_22 (c_X11_four b hS (show 0 ≤ ((V 308 4) + 1 + 1 + 1 + 1) ∧ ((V 308 4) + 1 + 1 + 1 + 1) ≤ 296 from (by omega)) (inr (by omega))) (sh_308 hS) (lq_308 hS) ?_
    refine x_mem (V' := (up (up V 308 (ua (ua (V 308) 4 ((V 308 4) + 1 + 1 + 1 + 1)) 4 (((V 308 4) + 1 + 1 + 1 + 1) + 1 + 1 + 1 + 1))) 312 (tape4 (tape4 (V 312) (V 308 4) a) ((V 308 4) + 1 + 1 + 1 + 1) b))) (Eq.trans (congrArg (fun z => up z 312 _) (up_k (by decide) (up_up _ _ _ _))) (up_up _ _ _ _)) ?_
    refine x_al0 dX11_feed_25 ?_
    refine x_il3 dX11_feed_26 ?_
    refine x_cVv mm_X11_four ml_X11_117 dX11_feed_27 (c_X11_four c hS (show 0 ≤ (((V 308 4) + 1 + 1 + 1 + 1) + 1 + 1 + 1 + 1) ∧ (((V 308 4) + 1 + 1 + 1 + 1) + 1 + 1 + 1 + 1) ≤ 296 from (by omega)) (inr (by omega))) (sh_308 hS) (lq_308 hS) ?_
    refine x_mem (V' := (up (up V 308 (ua (ua (ua (V 308) 4 ((V 308 4) + 1 + 1 + 1 + 1)) 4 (((V 308 4) + 1 + 1 + 1 + 1) + 1 + 1 + 1 + 1)) 4 ((((V 308 4) + 1 + 1 + 1 + 1) + 1 + 1 + 1 + 1) + 1 + 1 + 1 + 1))) 312 (tape4 (tape4 (tape4 (V 312) (V 308 4) a) ((V 308 4) + 1 + 1 + 1 + 1) b) (((V 308 4) + 1 + 1 + 1 + 1) + 1 + 1 + 1 + 1) c))) (Eq.trans (congrArg (fun z => up z 312 _) (up_k (by decide) (up_up _ _ _ _))) (up_up _ _ _ _)) ?_
    refine x_al0 dX11_feed_30 ?_
    refine x_il4 dX11_feed_31 ?_
    refine x_cVv mm_X11_four ml_X11_117 dX11_feed_33 (c_X11_four d hS (show 0 ≤ ((((V 308 4) + 1 + 1 + 1 + 1) + 1 + 1 + 1 + 1) + 1 + 1 + 1 + 1) ∧ ((((V 308 4) + 1 + 1 + 1 + 1) + 1 + 1 + 1 + 1) + 1 + 1 + 1 + 1) ≤ 296 from (by omega)) (inr (by omega))) (sh_308 hS) (lq_308 hS) ?_
    refine x_mem (V' := (up (up V 308 (ua (ua (ua (ua (V 308) 4 ((V 308 4) + 1 + 1 + 1 + 1)) 4 (((V 308 4) + 1 + 1 + 1 + 1) + 1 + 1 + 1 + 1)) 4 ((((V 308 4) + 1 + 1 + 1 + 1) + 1 + 1 + 1 + 1) + 1 + 1 + 1 + 1)) 4 (((((V 308 4) + 1 + 1 + 1 + 1) + 1 + 1 + 1 + 1) + 1 + 1 + 1 + 1) + 1 + 1 + 1 + 1))) 312 (tape4 (tape4 (tape4 (tape4 (V 312) (V 308 4) a) ((V 308 4) + 1 + 1 + 1 + 1) b) (((V 308 4) + 1 + 1 + 1 + 1) + 1 + 1 + 1 + 1) c) ((((V 308 4) + 1 + 1 + 1 + 1) + 1 + 1 + 1 + 1) + 1 + 1 + 1 + 1) d))) (Eq.trans (congrArg (fun z => up z 312 _) (up_k (by decide) (up_up _ _ _ _))) (up_up _ _ _ _)) ?_
    refine x_al0 dX11_feed_36 ?_
    refine x_il5 dX11_feed_37 ?_
    refine x_cVv mm_X11_four ml_X11_117 dX11_feed_39 (c_X11_four e hS (show 0 ≤ (((((V 308 4) + 1 + 1 + 1 + 1) + 1 + 1 + 1 + 1) + 1 + 1 + 1 + 1) + 1 + 1 + 1 + 1) ∧ (((((V 308 4) + 1 + 1 + 1 + 1) + 1 + 1 + 1 + 1) + 1 + 1 + 1 + 1) + 1 + 1 + 1 + 1) ≤ 296 from (by omega)) (inr (by omega))) (sh_308 hS) (lq_308 hS) ?_
    refine x_mem (V' := (up (up V 308 (ua (ua (ua (ua (ua (V 308) 4 ((V 308 4) + 1 + 1 + 1 + 1)) 4 (((V 308 4) + 1 + 1 + 1 + 1) + 1 + 1 + 1 + 1)) 4 ((((V 308 4) + 1 + 1 + 1 + 1) + 1 + 1 + 1 + 1) + 1 + 1 + 1 + 1)) 4 (((((V 308 4) + 1 + 1 + 1 + 1) + 1 + 1 + 1 + 1) + 1 + 1 + 1 + 1) + 1 + 1 + 1 + 1)) 4 ((((((V 308 4) + 1 + 1 + 1 + 1) + 1 + 1 + 1 + 1) + 1 + 1 + 1 + 1) + 1 + 1 + 1 + 1) + 1 + 1 + 1 + 1))) 312 (tape4 (tape4 (tape4 (tape4 (tape4 (V 312) (V 308 4) a) ((V 308 4) + 1 + 1 + 1 + 1) b) (((V 308 4) + 1 + 1 + 1 + 1) + 1 + 1 + 1 + 1) c) ((((V 308 4) + 1 + 1 + 1 + 1) + 1 + 1 + 1 + 1) + 1 + 1 + 1 + 1) d) (((((V 308 4) + 1 + 1 + 1 + 1) + 1 + 1 + 1 + 1) + 1 + 1 + 1 + 1) + 1 + 1 + 1 + 1) e))) (Eq.trans (congrArg (fun z => up z 312 _) (up_k (by decide) (up_up _ _ _ _))) (up_up _ _ _ _)) ?_
    refine x_al0 dX11_feed_42 ?_
    refine x_getI fl_X11_114 (sh_308 hS) (lq_308 hS) dX11_feed_43 ?_
    refine x_topI (a' := (((((V 308 4) + 1 + 1 + 1 + 1) + 1 + 1 + 1 + 1) + 1 + 1 + 1 + 1) + 1 + 1 + 1 + 1) + 1 + 1 + 1 + 1) (show (ua (ua (ua (ua (ua (V 308) 4 ((V 308 4) + 1 + 1 + 1 + 1)) 4 (((V 308 4) + 1 + 1 + 1 + 1) + 1 + 1 + 1 + 1)) 4 ((((V 308 4) + 1 + 1 + 1 + 1) + 1 + 1 + 1 + 1) + 1 + 1 + 1 + 1)) 4 (((((V 308 4) + 1 + 1 + 1 + 1) + 1 + 1 + 1 + 1) + 1 + 1 + 1 + 1) + 1 + 1 + 1 + 1)) 4 ((((((V 308 4) + 1 + 1 + 1 + 1) + 1 + 1 + 1 + 1) + 1 + 1 + 1 + 1) + 1 + 1 + 1 + 1) + 1 + 1 + 1 + 1)) 4 = (((((V 308 4) + 1 + 1 + 1 + 1) + 1 + 1 + 1 + 1) + 1 + 1 + 1 + 1) + 1 + 1 + 1 + 1) + 1 + 1 + 1 + 1 from (ua_same _ _ _)) ?_
    exact x_iret hQ (rI.mk (by rw [if_pos (by omega)]; omega) (by rw [if_pos (by omega), if_pos (by omega)]; refine upE (upE rfl ?_) rfl; simp only [ua_ua]; congr 1; omega)) dX11_feed_46
  · -- 10 le -> 13
    refine x_iconst dX11_feed_13 ?_
    exact x_iret hQ (rI.mk (by rw [if_neg (by omega)]) (by rw [if_neg (by omega), if_neg (by omega), up_self, up_self])) dX11_feed_14
set_option maxRecDepth 100000 in
set_option maxHeartbeats 4000000 in
theorem c_X11_end {B : Bs} {S : Stt} {V : Va} (n : Int) (hS : Stat S) (hT : 0 ≤ (V 308 4) ∧ (V 308 4) ≤ 300) (hn : InR n) : C B yX11_end cX11_end 2 (some .int) 2 0 0 [vR B 308, vI n] S V (rI S (up V 308 (if 0 ≤ n ∧ n ≤ (V 308 4) then ua (V 308) 4 n else (V 308))) (if 0 ≤ n ∧ n ≤ (V 308 4) then n else -1)) := by
  refine C.of [some (vR B 308), some (vI n)] ?_
  intro Γ hQ
  refine x_il1 dX11_end_0 ?_
  refine x_iconst dX11_end_1 ?_
  refine x_al0 dX11_end_2 ?_
  refine x_getI fl_X11_114 (sh_308 hS) (lq_308 hS) dX11_end_3 ?_
  refine x_topI (a' := V 308 4) rfl ?_
  refine x_cSi mm_X11_isIn ml_X11_75 dX11_end_6 (c_X11_isIn n 0 (V 308 4) (inr (by omega)) (inr (by decide)) (inr (by omega))) ?_
  refine x_ifb_ne (tgt := 14) dX11_end_9 (fun c9_1 => ?_) (fun c9_1 => ?_)
  · -- 9 ne -> 14
    refine x_al0 dX11_end_14 ?_
    refine x_il1 dX11_end_15 ?_
    refine x_putI fl_X11_114 (sh_308 hS) (lq_308 hS) dX11_end_16 ?_
    refine x_mem (V' := (up V 308 (ua (V 308) 4 n))) rfl ?_
    refine x_il1 dX11_end_19 ?_
    exact x_iret hQ (rI.mk (by first | rfl | omega | (rw [if_pos (by omega)]) | (rw [if_neg (by omega)])) (by first | (rw [if_pos (by omega)]) | (rw [if_neg (by omega), up_self]))) dX11_end_20
  · -- 9 ne -> 12
    refine x_iconst dX11_end_12 ?_
    exact x_iret hQ (rI.mk (by first | rfl | omega | (rw [if_pos (by omega)]) | (rw [if_neg (by omega)])) (by first | (rw [if_pos (by omega)]) | (rw [if_neg (by omega), up_self]))) dX11_end_13
set_option maxRecDepth 100000 in
set_option maxHeartbeats 4000000 in
theorem c_X11_byteAt {B : Bs} {S : Stt} {V : Va} (k : Int) (hS : Stat S) (hT : 0 ≤ (V 308 4) ∧ (V 308 4) ≤ 300) (hk : 0 ≤ k ∧ InR k) : C B yX11_byteAt cX11_byteAt 2 (some .int) 1 0 0 [vR B 308, vI k] S V (rI S V (if k < (V 308 4) then (V 312) k else -1)) := by
  refine C.of [some (vR B 308), some (vI k)] ?_
  intro Γ hQ
  refine x_il1 dX11_byteAt_0 ?_
  refine x_al0 dX11_byteAt_1 ?_
  refine x_getI fl_X11_114 (sh_308 hS) (lq_308 hS) dX11_byteAt_2 ?_
  refine x_topI (a' := V 308 4) rfl ?_
  refine x_icmp_ge (tgt := 17) dX11_byteAt_5 (inr (by omega)) (inr (by omega)) (fun c5_1 => ?_) (fun c5_1 => ?_)
  · -- 5 ge -> 17
    refine x_iconst dX11_byteAt_17 ?_
    exact x_iret hQ (rI.mk (by first | rfl | omega | (rw [if_pos (by omega)]) | (rw [if_neg (by omega)])) rfl) dX11_byteAt_18
  · -- 5 ge -> 8
    refine x_al0 dX11_byteAt_8 ?_
    refine x_getR fl_X11_19 (sh_308 hS) (lq_308 hS) (rf_308_3 hS) dX11_byteAt_9 ?_
    refine x_il1 dX11_byteAt_12 ?_
    refine x_iald (sh_312 hS) (lq_312 hS) (by omega) (by omega) dX11_byteAt_13 ?_
    refine x_topI (a' := V 312 k) rfl ?_
    refine x_goto (tgt := 18) dX11_byteAt_14 ?_
    exact x_iret hQ (rI.mk (by first | rfl | omega | (rw [if_pos (by omega)]) | (rw [if_neg (by omega)])) rfl) dX11_byteAt_18
set_option maxRecDepth 100000 in
set_option maxHeartbeats 4000000 in
theorem c_X11_isLetter {B : Bs} {S : Stt} {V : Va} (c : Int) (hc : InR c) : C B yX11_isLetter cX11_isLetter 1 (some .boolean) 2 0 0 [vI c] S V (rI S V (if (97 ≤ c ∧ c ≤ 122) ∨ (65 ≤ c ∧ c ≤ 90) then 1 else 0)) := by
  refine C.of [some (vI c)] ?_
  intro Γ hQ
  refine x_il0 dX11_isLetter_0 ?_
  refine x_bipush dX11_isLetter_1 ?_
  refine x_bipush dX11_isLetter_3 ?_
  refine x_cSi mm_X11_isIn ml_X11_75 dX11_isLetter_5 (c_X11_isIn c 97 122 (inr (by omega)) (inr (by decide)) (inr (by decide))) ?_
  refine x_ifb_ne (tgt := 22) dX11_isLetter_8 (fun c8_1 => ?_) (fun c8_1 => ?_)
  · -- 8 ne -> 22
    refine x_iconst dX11_isLetter_22 ?_
    refine x_goto (tgt := 27) dX11_isLetter_23 ?_
    exact x_zret hQ (rI.mk (by first | rfl | omega | (rw [if_pos (by omega)]) | (rw [if_neg (by omega)])) rfl) (by decide) dX11_isLetter_27
  · -- 8 ne -> 11
    refine x_il0 dX11_isLetter_11 ?_
    refine x_bipush dX11_isLetter_12 ?_
    refine x_bipush dX11_isLetter_14 ?_
    refine x_cSi mm_X11_isIn ml_X11_75 dX11_isLetter_16 (c_X11_isIn c 65 90 (inr (by omega)) (inr (by decide)) (inr (by decide))) ?_
    refine x_ifb_eq (tgt := 26) dX11_isLetter_19 (fun c19_2 => ?_) (fun c19_2 => ?_)
    · -- 19 eq -> 26
      refine x_iconst dX11_isLetter_26 ?_
      exact x_zret hQ (rI.mk (by first | rfl | omega | (rw [if_pos (by omega)]) | (rw [if_neg (by omega)])) rfl) (by decide) dX11_isLetter_27
    · -- 19 eq -> 22
      refine x_iconst dX11_isLetter_22 ?_
      refine x_goto (tgt := 27) dX11_isLetter_23 ?_
      exact x_zret hQ (rI.mk (by first | rfl | omega | (rw [if_pos (by omega)]) | (rw [if_neg (by omega)])) rfl) (by decide) dX11_isLetter_27
set_option maxRecDepth 100000 in
set_option maxHeartbeats 4000000 in
theorem c_X11_isDigit {B : Bs} {S : Stt} {V : Va} (c : Int) (hc : InR c) : C B yX11_isDigit cX11_isDigit 1 (some .boolean) 2 0 0 [vI c] S V (rI S V (if 48 ≤ c ∧ c ≤ 57 then 1 else 0)) := by
  refine C.of [some (vI c)] ?_
  intro Γ hQ
  refine x_il0 dX11_isDigit_0 ?_
  refine x_bipush dX11_isDigit_1 ?_
  refine x_bipush dX11_isDigit_3 ?_
  refine x_cSi mm_X11_isIn ml_X11_75 dX11_isDigit_5 (c_X11_isIn c 48 57 (inr (by omega)) (inr (by decide)) (inr (by decide))) ?_
  exact x_zret hQ (rI.mk (by first | rfl | omega | (rw [if_pos (by omega)]) | (rw [if_neg (by omega)])) rfl) (ite_01 _) dX11_isDigit_8
set_option maxRecDepth 100000 in
set_option maxHeartbeats 4000000 in
theorem c_X11_fault {B : Bs} {S : Stt} {V : Va} (what : Int) (hS : Stat S) (hwhat : InR what) : C B yX11_fault cX11_fault 2 (some .int) 1 0 0 [vR B 308, vI what] S V (rI S V (if what = 0 then (V 308 5) else if what = 1 then (V 308 6) else -1)) := by
  refine C.of [some (vR B 308), some (vI what)] ?_
  intro Γ hQ
  refine x_il1 dX11_fault_0 ?_
  refine x_if_ne (tgt := 11) dX11_fault_1 (inr (by omega)) (fun c1_1 => ?_) (fun c1_1 => ?_)
  · -- 1 ne -> 11
    refine x_il1 dX11_fault_11 ?_
    refine x_iconst dX11_fault_12 ?_
    refine x_icmp_ne (tgt := 23) dX11_fault_13 (inr (by omega)) (inr (by decide)) (fun c13_2 => ?_) (fun c13_2 => ?_)
    · -- 13 ne -> 23
      refine x_iconst dX11_fault_23 ?_
      exact x_iret hQ (rI.mk (by first | (rw [if_pos (by omega)]) | (rw [if_neg (by omega), if_pos (by omega)]) | (rw [if_neg (by omega), if_neg (by omega)])) rfl) dX11_fault_24
    · -- 13 ne -> 16
      refine x_al0 dX11_fault_16 ?_
      refine x_getI fl_X11_26 (sh_308 hS) (lq_308 hS) dX11_fault_17 ?_
      refine x_topI (a' := V 308 6) rfl ?_
      refine x_goto (tgt := 24) dX11_fault_20 ?_
      exact x_iret hQ (rI.mk (by first | (rw [if_pos (by omega)]) | (rw [if_neg (by omega), if_pos (by omega)]) | (rw [if_neg (by omega), if_neg (by omega)])) rfl) dX11_fault_24
  · -- 1 ne -> 4
    refine x_al0 dX11_fault_4 ?_
    refine x_getI fl_X11_22 (sh_308 hS) (lq_308 hS) dX11_fault_5 ?_
    refine x_topI (a' := V 308 5) rfl ?_
    refine x_goto (tgt := 24) dX11_fault_8 ?_
    exact x_iret hQ (rI.mk (by first | (rw [if_pos (by omega)]) | (rw [if_neg (by omega), if_pos (by omega)]) | (rw [if_neg (by omega), if_neg (by omega)])) rfl) dX11_fault_24
set_option maxRecDepth 100000 in
set_option maxHeartbeats 4000000 in
theorem c_X11_by {B : Bs} {S : Stt} {V : Va} (text : Int) (hS : Stat S) (hA : AB (V 309)) (h3 : 0 ≤ (V 309 3) ∧ (V 309 3) ≤ 4) (htext : InR text) : C B yX11_by cX11_by 2 (some .boolean) 2 0 0 [vR B 308, vI text] S V (rI S (up V 309 (if -1 ≤ text ∧ text ≤ (V 309 3) - 1 then ua (V 309) 4 text else (V 309))) (if -1 ≤ text ∧ text ≤ (V 309 3) - 1 then 1 else 0)) := by
  refine C.of [some (vR B 308), some (vI text)] ?_
  intro Γ hQ
  refine x_il1 dX11_by_0 ?_
  refine x_iconst dX11_by_1 ?_
  refine x_al0 dX11_by_2 ?_
  refine x_getR fl_X11_7 (sh_308 hS) (lq_308 hS) (rf_308_0 hS) dX11_by_3 ?_
  refine x_iconst dX11_by_6 ?_
  have hb1 := hA 3
  refine x_iald (sh_309 hS) (lq_309 hS) (by omega) (by omega) dX11_by_7 ?_
  refine x_topI (a' := V 309 3) rfl ?_
  refine x_iconst dX11_by_8 ?_
  refine x_isub dX11_by_9 ?_
  refine x_cSi mm_X11_isIn ml_X11_75 dX11_by_10 (c_X11_isIn text (-1) ((V 309 3) - 1) (inr (by omega)) (inr (by decide)) (inr (by omega))) ?_
  refine x_ifb_ne (tgt := 18) dX11_by_13 (fun c13_2 => ?_) (fun c13_2 => ?_)
  · -- 13 ne -> 18
    refine x_al0 dX11_by_18 ?_
    refine x_getR fl_X11_7 (sh_308 hS) (lq_308 hS) (rf_308_0 hS) dX11_by_19 ?_
    refine x_iconst dX11_by_22 ?_
    refine x_il1 dX11_by_23 ?_
    refine x_iast (sh_309 hS) (lq_309 hS) (by omega) (by omega) dX11_by_24 ?_
    refine x_mem (V' := (up V 309 (ua (V 309) 4 text))) rfl ?_
    refine x_iconst dX11_by_25 ?_
    exact x_zret hQ (rI.mk (by first | rfl | omega | (rw [if_pos (by omega)]) | (rw [if_neg (by omega)])) (by first | (rw [if_pos (by omega)]) | (rw [if_neg (by omega), up_self]))) (by decide) dX11_by_26
  · -- 13 ne -> 16
    refine x_iconst dX11_by_16 ?_
    exact x_zret hQ (rI.mk (by first | rfl | omega | (rw [if_pos (by omega)]) | (rw [if_neg (by omega)])) (by first | (rw [if_pos (by omega)]) | (rw [if_neg (by omega), up_self]))) (by decide) dX11_by_17
set_option maxRecDepth 100000 in
set_option maxHeartbeats 4000000 in
theorem c_X11_rules {B : Bs} {S : Stt} {V : Va} (loss : Int) (pace : Int) (hS : Stat S) (hloss : InR loss) (hpace : InR pace) : C B yX11_rules cX11_rules 3 (some .boolean) 2 0 0 [vR B 308, vI loss, vI pace] S V (rI S (up V 309 (if 0 ≤ loss ∧ loss ≤ 9 ∧ 1 ≤ pace ∧ pace ≤ 99 then ua (ua (V 309) 7 loss) 8 pace else (V 309))) (if 0 ≤ loss ∧ loss ≤ 9 ∧ 1 ≤ pace ∧ pace ≤ 99 then 1 else 0)) := by
  refine C.of [some (vR B 308), some (vI loss), some (vI pace)] ?_
  intro Γ hQ
  refine x_il1 dX11_rules_0 ?_
  refine x_iconst dX11_rules_1 ?_
  refine x_bipush dX11_rules_2 ?_
  refine x_cSi mm_X11_isIn ml_X11_75 dX11_rules_4 (c_X11_isIn loss 0 9 (inr (by omega)) (inr (by decide)) (inr (by decide))) ?_
  refine x_ifb_eq (tgt := 20) dX11_rules_7 (fun c7_1 => ?_) (fun c7_1 => ?_)
  · -- 7 eq -> 20
    refine x_iconst dX11_rules_20 ?_
    exact x_zret hQ (rI.mk (by first | rfl | omega | (rw [if_pos (by omega)]) | (rw [if_neg (by omega)])) (by first | (rw [if_pos (by omega)]) | (rw [if_neg (by omega), up_self]))) (by decide) dX11_rules_21
  · -- 7 eq -> 10
    refine x_il2 dX11_rules_10 ?_
    refine x_iconst dX11_rules_11 ?_
    refine x_bipush dX11_rules_12 ?_
    refine x_cSi mm_X11_isIn ml_X11_75 dX11_rules_14 (c_X11_isIn pace 1 99 (inr (by omega)) (inr (by decide)) (inr (by decide))) ?_
    refine x_ifb_ne (tgt := 22) dX11_rules_17 (fun c17_2 => ?_) (fun c17_2 => ?_)
    · -- 17 ne -> 22
      refine x_al0 dX11_rules_22 ?_
      refine x_getR fl_X11_7 (sh_308 hS) (lq_308 hS) (rf_308_0 hS) dX11_rules_23 ?_
      refine x_bipush dX11_rules_26 ?_
      refine x_il1 dX11_rules_28 ?_
      refine x_iast (sh_309 hS) (lq_309 hS) (by omega) (by omega) dX11_rules_29 ?_
      refine x_mem (V' := (up V 309 (ua (V 309) 7 loss))) rfl ?_
      refine x_al0 dX11_rules_30 ?_
      refine x_getR fl_X11_7 (sh_308 hS) (lq_308 hS) (rf_308_0 hS) dX11_rules_31 ?_
      refine x_bipush dX11_rules_34 ?_
      refine x_il2 dX11_rules_36 ?_
      refine x_iast (sh_309 hS) (lq_309 hS) (by omega) (by omega) dX11_rules_37 ?_
      refine x_mem (V' := (up V 309 (ua (ua (V 309) 7 loss) 8 pace))) (st2_up _ _ _ _ _) ?_
      refine x_iconst dX11_rules_38 ?_
      exact x_zret hQ (rI.mk (by first | rfl | omega | (rw [if_pos (by omega)]) | (rw [if_neg (by omega)])) (by first | (rw [if_pos (by omega)]) | (rw [if_neg (by omega), up_self]))) (by decide) dX11_rules_39
    · -- 17 ne -> 20
      refine x_iconst dX11_rules_20 ?_
      exact x_zret hQ (rI.mk (by first | rfl | omega | (rw [if_pos (by omega)]) | (rw [if_neg (by omega)])) (by first | (rw [if_pos (by omega)]) | (rw [if_neg (by omega), up_self]))) (by decide) dX11_rules_21
set_option maxRecDepth 100000 in
set_option maxHeartbeats 4000000 in
theorem c_X11_seen {B : Bs} {S : Stt} {V : Va} (town : Int) (kind : Int) (weight : Int) (year : Int) (hS : Stat S) (hA : AB (V 309)) (h0 : 0 ≤ (V 309 0) ∧ (V 309 0) ≤ 10) (h6 : 0 ≤ (V 309 6) ∧ (V 309 6) ≤ 12) (htown : InR town) (hkind : InR kind) (hweight : InR weight) (hyear : InR year) : C B yX11_seen cX11_seen 6 (some .int) 3 0 0 [vR B 308, vI town, vI kind, vI weight, vI year] S V (rI S (up V 309 (if mSeenC (V 309) town kind weight year then mSeenA (V 309) town kind weight year else (V 309))) (if mSeenC (V 309) town kind weight year then (V 309 6) else -1)) := by
  refine C.of [some (vR B 308), some (vI town), some (vI kind), some (vI weight), some (vI year), none] ?_
  intro Γ hQ
  refine x_al0 dX11_seen_0 ?_
  refine x_il1 dX11_seen_1 ?_
  refine x_cVi mm_X11_isTown ml_X11_83 dX11_seen_2 (c_X11_isTown town hS hA (inr (by omega))) (sh_308 hS) (lq_308 hS) ?_
  refine x_ifb_eq (tgt := 53) dX11_seen_5 (fun c5_1 => ?_) (fun c5_1 => ?_)
  · -- 5 eq -> 53
    refine x_iconst dX11_seen_53 ?_
    exact x_iret hQ (rI.mk (by first | (rw [if_pos (by simp only [mSeenC, mTownOk]; omega)]; omega) | (rw [if_neg (by simp only [mSeenC, mTownOk]; omega)])) (by first | (rw [if_pos (by simp only [mSeenC, mTownOk]; omega)]; rfl) | (rw [if_neg (by simp only [mSeenC, mTownOk]; omega), up_self]))) dX11_seen_54
  · -- 5 eq -> 8
    refine x_il2 dX11_seen_8 ?_
    refine x_iconst dX11_seen_9 ?_
    refine x_bipush dX11_seen_10 ?_
    refine x_cSi mm_X11_isIn ml_X11_75 dX11_seen_12 (c_X11_isIn kind 0 19 (inr (by omega)) (inr (by decide)) (inr (by decide))) ?_
    refine x_ifb_eq (tgt := 53) dX11_seen_15 (fun c15_2 => ?_) (fun c15_2 => ?_)
    · -- 15 eq -> 53
      refine x_iconst dX11_seen_53 ?_
      exact x_iret hQ (rI.mk (by first | (rw [if_pos (by simp only [mSeenC, mTownOk]; omega)]; omega) | (rw [if_neg (by simp only [mSeenC, mTownOk]; omega)])) (by first | (rw [if_pos (by simp only [mSeenC, mTownOk]; omega)]; rfl) | (rw [if_neg (by simp only [mSeenC, mTownOk]; omega), up_self]))) dX11_seen_54
    · -- 15 eq -> 18
      refine x_il3 dX11_seen_18 ?_
      refine x_iconst dX11_seen_19 ?_
      refine x_sipush dX11_seen_20 ?_
      refine x_cSi mm_X11_isIn ml_X11_75 dX11_seen_23 (c_X11_isIn weight 1 999 (inr (by omega)) (inr (by decide)) (inr (by decide))) ?_
      refine x_ifb_eq (tgt := 53) dX11_seen_26 (fun c26_3 => ?_) (fun c26_3 => ?_)
      · -- 26 eq -> 53
        refine x_iconst dX11_seen_53 ?_
        exact x_iret hQ (rI.mk (by first | (rw [if_pos (by simp only [mSeenC, mTownOk]; omega)]; omega) | (rw [if_neg (by simp only [mSeenC, mTownOk]; omega)])) (by first | (rw [if_pos (by simp only [mSeenC, mTownOk]; omega)]; rfl) | (rw [if_neg (by simp only [mSeenC, mTownOk]; omega), up_self]))) dX11_seen_54
      · -- 26 eq -> 29
        refine x_il4 dX11_seen_29 ?_
        refine x_iconst dX11_seen_31 ?_
        refine x_sipush dX11_seen_32 ?_
        refine x_cSi mm_X11_isIn ml_X11_75 dX11_seen_35 (c_X11_isIn year 0 999 (inr (by omega)) (inr (by decide)) (inr (by decide))) ?_
        refine x_ifb_eq (tgt := 53) dX11_seen_38 (fun c38_4 => ?_) (fun c38_4 => ?_)
        · -- 38 eq -> 53
          refine x_iconst dX11_seen_53 ?_
          exact x_iret hQ (rI.mk (by first | (rw [if_pos (by simp only [mSeenC, mTownOk]; omega)]; omega) | (rw [if_neg (by simp only [mSeenC, mTownOk]; omega)])) (by first | (rw [if_pos (by simp only [mSeenC, mTownOk]; omega)]; rfl) | (rw [if_neg (by simp only [mSeenC, mTownOk]; omega), up_self]))) dX11_seen_54
        · -- 38 eq -> 41
          refine x_al0 dX11_seen_41 ?_
          refine x_getR fl_X11_7 (sh_308 hS) (lq_308 hS) (rf_308_0 hS) dX11_seen_42 ?_
          refine x_bipush dX11_seen_45 ?_
          have hb5 := hA 6
          refine x_iald (sh_309 hS) (lq_309 hS) (by omega) (by omega) dX11_seen_47 ?_
          refine x_topI (a' := V 309 6) rfl ?_
          refine x_bipush dX11_seen_48 ?_
          refine x_icmp_ne (tgt := 55) dX11_seen_50 (inr (by omega)) (inr (by decide)) (fun c50_6 => ?_) (fun c50_6 => ?_)
          · -- 50 ne -> 55
            refine x_bipush dX11_seen_55 ?_
            refine x_iconst dX11_seen_57 ?_
            refine x_al0 dX11_seen_58 ?_
            refine x_getR fl_X11_7 (sh_308 hS) (lq_308 hS) (rf_308_0 hS) dX11_seen_59 ?_
            refine x_bipush dX11_seen_62 ?_
            have hb7 := hA 6
            refine x_iald (sh_309 hS) (lq_309 hS) (by omega) (by omega) dX11_seen_64 ?_
            refine x_topI (a' := V 309 6) rfl ?_
            refine x_imul dX11_seen_65 ?_
            refine x_iadd dX11_seen_66 ?_
            refine x_is5 dX11_seen_67 ?_
            refine x_al0 dX11_seen_69 ?_
            refine x_getR fl_X11_7 (sh_308 hS) (lq_308 hS) (rf_308_0 hS) dX11_seen_70 ?_
            refine x_il5 dX11_seen_73 ?_
            refine x_il1 dX11_seen_75 ?_
            refine x_iast (sh_309 hS) (lq_309 hS) (by omega) (by omega) dX11_seen_76 ?_
            refine x_mem (V' := (up V 309 (ua (V 309) (126 + (4 * (V 309 6))) town))) rfl ?_
            refine x_al0 dX11_seen_77 ?_
            refine x_getR fl_X11_7 (sh_308 hS) (lq_308 hS) (rf_308_0 hS) dX11_seen_78 ?_
            refine x_il5 dX11_seen_81 ?_
            refine x_iconst dX11_seen_83 ?_
            refine x_iadd dX11_seen_84 ?_
            refine x_il2 dX11_seen_85 ?_
            refine x_iast (sh_309 hS) (lq_309 hS) (by omega) (by omega) dX11_seen_86 ?_
            refine x_mem (V' := (up V 309 (ua (ua (V 309) (126 + (4 * (V 309 6))) town) ((126 + (4 * (V 309 6))) + 1) kind))) (st2_up _ _ _ _ _) ?_
            refine x_al0 dX11_seen_87 ?_
            refine x_getR fl_X11_7 (sh_308 hS) (lq_308 hS) (rf_308_0 hS) dX11_seen_88 ?_
            refine x_il5 dX11_seen_91 ?_
            refine x_iconst dX11_seen_93 ?_
            refine x_iadd dX11_seen_94 ?_
            refine x_il3 dX11_seen_95 ?_
            refine x_iast (sh_309 hS) (lq_309 hS) (by omega) (by omega) dX11_seen_96 ?_
            refine x_mem (V' := (up V 309 (ua (ua (ua (V 309) (126 + (4 * (V 309 6))) town) ((126 + (4 * (V 309 6))) + 1) kind) ((126 + (4 * (V 309 6))) + 2) weight))) (st2_up _ _ _ _ _) ?_
            refine x_al0 dX11_seen_97 ?_
            refine x_getR fl_X11_7 (sh_308 hS) (lq_308 hS) (rf_308_0 hS) dX11_seen_98 ?_
            refine x_il5 dX11_seen_101 ?_
            refine x_iconst dX11_seen_103 ?_
            refine x_iadd dX11_seen_104 ?_
            refine x_il4 dX11_seen_105 ?_
            refine x_iast (sh_309 hS) (lq_309 hS) (by omega) (by omega) dX11_seen_107 ?_
            refine x_mem (V' := (up V 309 (ua (ua (ua (ua (V 309) (126 + (4 * (V 309 6))) town) ((126 + (4 * (V 309 6))) + 1) kind) ((126 + (4 * (V 309 6))) + 2) weight) ((126 + (4 * (V 309 6))) + 3) year))) (st2_up _ _ _ _ _) ?_
            refine x_al0 dX11_seen_108 ?_
            refine x_getR fl_X11_7 (sh_308 hS) (lq_308 hS) (rf_308_0 hS) dX11_seen_109 ?_
            refine x_bipush dX11_seen_112 ?_
            refine x_dup2 dX11_seen_114 ?_
            have hb8 := hA 6
            refine x_iald (sh_309 hS) (lq_309 hS) (by omega) (by omega) dX11_seen_115 ?_
            refine x_topI (a' := V 309 6) (show (ua (ua (ua (ua (V 309) (126 + (4 * (V 309 6))) town) ((126 + (4 * (V 309 6))) + 1) kind) ((126 + (4 * (V 309 6))) + 2) weight) ((126 + (4 * (V 309 6))) + 3) year) 6 = V 309 6 from ((ua_ne (by omega)).trans ((ua_ne (by omega)).trans ((ua_ne (by omega)).trans (ua_ne (by omega)))))) ?_
            refine x_iconst dX11_seen_116 ?_
            refine x_iadd dX11_seen_117 ?_
            refine x_iast (sh_309 hS) (lq_309 hS) (by omega) (by omega) dX11_seen_118 ?_
            refine x_mem (V' := (up V 309 (ua (ua (ua (ua (ua (V 309) (126 + (4 * (V 309 6))) town) ((126 + (4 * (V 309 6))) + 1) kind) ((126 + (4 * (V 309 6))) + 2) weight) ((126 + (4 * (V 309 6))) + 3) year) 6 ((V 309 6) + 1)))) (st2_up _ _ _ _ _) ?_
            refine x_al0 dX11_seen_119 ?_
            refine x_getR fl_X11_7 (sh_308 hS) (lq_308 hS) (rf_308_0 hS) dX11_seen_120 ?_
            refine x_bipush dX11_seen_123 ?_
            refine x_iald (sh_309 hS) (lq_309 hS) (by omega) (by omega) dX11_seen_125 ?_
            refine x_topI (a' := (V 309 6) + 1) (show (ua (ua (ua (ua (ua (V 309) (126 + (4 * (V 309 6))) town) ((126 + (4 * (V 309 6))) + 1) kind) ((126 + (4 * (V 309 6))) + 2) weight) ((126 + (4 * (V 309 6))) + 3) year) 6 ((V 309 6) + 1)) 6 = (V 309 6) + 1 from (ua_same _ _ _)) ?_
            refine x_iconst dX11_seen_126 ?_
            refine x_isub dX11_seen_127 ?_
            exact x_iret hQ (rI.mk (by first | (rw [if_pos (by simp only [mSeenC, mTownOk]; omega)]; omega) | (rw [if_neg (by simp only [mSeenC, mTownOk]; omega)])) (by first | (rw [if_pos (by simp only [mSeenC, mTownOk]; omega)]; rfl) | (rw [if_neg (by simp only [mSeenC, mTownOk]; omega), up_self]))) dX11_seen_128
          · -- 50 ne -> 53
            refine x_iconst dX11_seen_53 ?_
            exact x_iret hQ (rI.mk (by first | (rw [if_pos (by simp only [mSeenC, mTownOk]; omega)]; omega) | (rw [if_neg (by simp only [mSeenC, mTownOk]; omega)])) (by first | (rw [if_pos (by simp only [mSeenC, mTownOk]; omega)]; rfl) | (rw [if_neg (by simp only [mSeenC, mTownOk]; omega), up_self]))) dX11_seen_54
set_option maxRecDepth 100000 in
set_option maxHeartbeats 4000000 in
theorem c_X11_forget {B : Bs} {S : Stt} {V : Va} (hS : Stat S) : C B yX11_forget cX11_forget 2 (some .int) 1 0 0 [vR B 308] S V (rI S (up V 309 (ua (V 309) 6 0)) (V 309 6)) := by
  refine C.of [some (vR B 308), none] ?_
  intro Γ hQ
  refine x_al0 dX11_forget_0 ?_
  refine x_getR fl_X11_7 (sh_308 hS) (lq_308 hS) (rf_308_0 hS) dX11_forget_1 ?_
  refine x_bipush dX11_forget_4 ?_
  refine x_iald (sh_309 hS) (lq_309 hS) (by omega) (by omega) dX11_forget_6 ?_
  refine x_topI (a' := V 309 6) rfl ?_
  refine x_is1 dX11_forget_7 ?_
  refine x_al0 dX11_forget_8 ?_
  refine x_getR fl_X11_7 (sh_308 hS) (lq_308 hS) (rf_308_0 hS) dX11_forget_9 ?_
  refine x_bipush dX11_forget_12 ?_
  refine x_iconst dX11_forget_14 ?_
  refine x_iast (sh_309 hS) (lq_309 hS) (by omega) (by omega) dX11_forget_15 ?_
  refine x_mem (V' := (up V 309 (ua (V 309) 6 0))) rfl ?_
  refine x_il1 dX11_forget_16 ?_
  exact x_iret hQ (rI.mk (by first | rfl | omega | (rw [if_pos (by omega)]) | (rw [if_neg (by omega)])) rfl) dX11_forget_17
set_option maxRecDepth 100000 in
set_option maxHeartbeats 4000000 in
theorem c_X11_same {B : Bs} {S : Stt} {V : Va} (ahead : Int) (one : Int) (hS : Stat S) (hA : AB (V 309)) (h6 : 0 ≤ (V 309 6) ∧ (V 309 6) ≤ 12) (h78 : 0 ≤ (V 309 7) ∧ (V 309 7) ≤ 9 ∧ 1 ≤ (V 309 8) ∧ (V 309 8) ≤ 99) (hQt : ∀ s, 0 ≤ s → s < (V 309 6) → 0 ≤ (V 309) (126 + 4 * s) ∧ (V 309) (126 + 4 * s) < 10 ∧ 0 ≤ (V 309) (126 + 4 * s + 2) ∧ (V 309) (126 + 4 * s + 2) ≤ 999 ∧ 0 ≤ (V 309) (126 + 4 * s + 3) ∧ (V 309) (126 + 4 * s + 3) ≤ 999) (hahead : InR ahead) (hone : InR one) : C B yX11_same cX11_same 6 (some .boolean) 3 0 0 [vR B 308, vI ahead, vI one] S V (rI S V (if mSame (V 309) ahead one then 1 else 0)) := by
  refine C.of [some (vR B 308), some (vI ahead), some (vI one), none, none, none] ?_
  intro Γ hQ
  refine x_il1 dX11_same_0 ?_
  refine x_iconst dX11_same_1 ?_
  refine x_al0 dX11_same_2 ?_
  refine x_getR fl_X11_7 (sh_308 hS) (lq_308 hS) (rf_308_0 hS) dX11_same_3 ?_
  refine x_bipush dX11_same_6 ?_
  have hb1 := hA 6
  refine x_iald (sh_309 hS) (lq_309 hS) (by omega) (by omega) dX11_same_8 ?_
  refine x_topI (a' := V 309 6) rfl ?_
  refine x_iconst dX11_same_9 ?_
  refine x_isub dX11_same_10 ?_
  refine x_cSi mm_X11_isIn ml_X11_75 dX11_same_11 (c_X11_isIn ahead 0 ((V 309 6) - 1) (inr (by omega)) (inr (by decide)) (inr (by omega))) ?_
  refine x_ifb_eq (tgt := 34) dX11_same_14 (fun c14_2 => ?_) (fun c14_2 => ?_)
  · -- 14 eq -> 34
    refine x_iconst dX11_same_34 ?_
    exact x_zret hQ (rI.mk (by first | (rw [if_pos (by simp only [mSame, mSeenOk]; omega)]) | (rw [if_neg (by simp only [mSame, mSeenOk]; omega)])) rfl) (by decide) dX11_same_35
  · -- 14 eq -> 17
    refine x_il2 dX11_same_17 ?_
    refine x_iconst dX11_same_18 ?_
    refine x_al0 dX11_same_19 ?_
    refine x_getR fl_X11_7 (sh_308 hS) (lq_308 hS) (rf_308_0 hS) dX11_same_20 ?_
    refine x_bipush dX11_same_23 ?_
    have hb3 := hA 6
    refine x_iald (sh_309 hS) (lq_309 hS) (by omega) (by omega) dX11_same_25 ?_
    refine x_topI (a' := V 309 6) rfl ?_
    refine x_iconst dX11_same_26 ?_
    refine x_isub dX11_same_27 ?_
    refine x_cSi mm_X11_isIn ml_X11_75 dX11_same_28 (c_X11_isIn one 0 ((V 309 6) - 1) (inr (by omega)) (inr (by decide)) (inr (by omega))) ?_
    refine x_ifb_ne (tgt := 36) dX11_same_31 (fun c31_4 => ?_) (fun c31_4 => ?_)
    · -- 31 ne -> 36
      have q1 := hQt ahead (by omega) (by omega)
      have q2 := hQt one (by omega) (by omega)
      refine x_bipush dX11_same_36 ?_
      refine x_iconst dX11_same_38 ?_
      refine x_il1 dX11_same_39 ?_
      refine x_imul dX11_same_40 ?_
      refine x_iadd dX11_same_41 ?_
      refine x_is3 dX11_same_42 ?_
      refine x_bipush dX11_same_43 ?_
      refine x_iconst dX11_same_45 ?_
      refine x_il2 dX11_same_46 ?_
      refine x_imul dX11_same_47 ?_
      refine x_iadd dX11_same_48 ?_
      refine x_is4 dX11_same_49 ?_
      refine x_al0 dX11_same_51 ?_
      refine x_getR fl_X11_7 (sh_308 hS) (lq_308 hS) (rf_308_0 hS) dX11_same_52 ?_
      refine x_il4 dX11_same_55 ?_
      refine x_iconst dX11_same_57 ?_
      refine x_iadd dX11_same_58 ?_
      have hb5 := hA ((126 + (4 * one)) + 3)
      refine x_iald (sh_309 hS) (lq_309 hS) (by omega) (by omega) dX11_same_59 ?_
      refine x_topI (a' := V 309 ((126 + (4 * one)) + 3)) rfl ?_
      refine x_al0 dX11_same_60 ?_
      refine x_getR fl_X11_7 (sh_308 hS) (lq_308 hS) (rf_308_0 hS) dX11_same_61 ?_
      refine x_il3 dX11_same_64 ?_
      refine x_iconst dX11_same_65 ?_
      refine x_iadd dX11_same_66 ?_
      have hb6 := hA ((126 + (4 * ahead)) + 3)
      refine x_iald (sh_309 hS) (lq_309 hS) (by omega) (by omega) dX11_same_67 ?_
      refine x_topI (a' := V 309 ((126 + (4 * ahead)) + 3)) rfl ?_
      refine x_isub dX11_same_68 ?_
      refine x_is5 dX11_same_69 ?_
      refine x_al0 dX11_same_71 ?_
      refine x_getR fl_X11_7 (sh_308 hS) (lq_308 hS) (rf_308_0 hS) dX11_same_72 ?_
      refine x_il3 dX11_same_75 ?_
      refine x_iconst dX11_same_76 ?_
      refine x_iadd dX11_same_77 ?_
      have hb7 := hA ((126 + (4 * ahead)) + 1)
      refine x_iald (sh_309 hS) (lq_309 hS) (by omega) (by omega) dX11_same_78 ?_
      refine x_topI (a' := V 309 ((126 + (4 * ahead)) + 1)) rfl ?_
      refine x_al0 dX11_same_79 ?_
      refine x_getR fl_X11_7 (sh_308 hS) (lq_308 hS) (rf_308_0 hS) dX11_same_80 ?_
      refine x_il4 dX11_same_83 ?_
      refine x_iconst dX11_same_85 ?_
      refine x_iadd dX11_same_86 ?_
      have hb8 := hA ((126 + (4 * one)) + 1)
      refine x_iald (sh_309 hS) (lq_309 hS) (by omega) (by omega) dX11_same_87 ?_
      refine x_topI (a' := V 309 ((126 + (4 * one)) + 1)) rfl ?_
      refine x_icmp_ne (tgt := 131) dX11_same_88 (inr (by omega)) (inr (by omega)) (fun c88_9 => ?_) (fun c88_9 => ?_)
      · -- 88 ne -> 131
        refine x_iconst dX11_same_131 ?_
        exact x_zret hQ (rI.mk (by first | (rw [if_pos (by simp only [mSame, mSeenOk]; omega)]) | (rw [if_neg (by simp only [mSame, mSeenOk]; omega)])) rfl) (by decide) dX11_same_132
      · -- 88 ne -> 91
        refine x_il5 dX11_same_91 ?_
        refine x_if_le (tgt := 131) dX11_same_93 (inr (by omega)) (fun c93_10 => ?_) (fun c93_10 => ?_)
        · -- 93 le -> 131
          refine x_iconst dX11_same_131 ?_
          exact x_zret hQ (rI.mk (by first | (rw [if_pos (by simp only [mSame, mSeenOk]; omega)]) | (rw [if_neg (by simp only [mSame, mSeenOk]; omega)])) rfl) (by decide) dX11_same_132
        · -- 93 le -> 96
          have hm : 0 ≤ V 309 7 * (V 309 (126 + 4 * one + 3) - V 309 (126 + 4 * ahead + 3)) ∧ V 309 7 * (V 309 (126 + 4 * one + 3) - V 309 (126 + 4 * ahead + 3)) ≤ 9 * 999 := ⟨Int.mul_nonneg (by omega) (by omega), Int.mul_le_mul (by omega) (by omega) (by omega) (by omega)⟩
          refine x_al0 dX11_same_96 ?_
          refine x_getR fl_X11_7 (sh_308 hS) (lq_308 hS) (rf_308_0 hS) dX11_same_97 ?_
          refine x_il3 dX11_same_100 ?_
          refine x_iconst dX11_same_101 ?_
          refine x_iadd dX11_same_102 ?_
          have hb11 := hA ((126 + (4 * ahead)) + 2)
          refine x_iald (sh_309 hS) (lq_309 hS) (by omega) (by omega) dX11_same_103 ?_
          refine x_topI (a' := V 309 ((126 + (4 * ahead)) + 2)) rfl ?_
          refine x_al0 dX11_same_104 ?_
          refine x_getR fl_X11_7 (sh_308 hS) (lq_308 hS) (rf_308_0 hS) dX11_same_105 ?_
          refine x_il4 dX11_same_108 ?_
          refine x_iconst dX11_same_110 ?_
          refine x_iadd dX11_same_111 ?_
          have hb12 := hA ((126 + (4 * one)) + 2)
          refine x_iald (sh_309 hS) (lq_309 hS) (by omega) (by omega) dX11_same_112 ?_
          refine x_topI (a' := V 309 ((126 + (4 * one)) + 2)) rfl ?_
          refine x_isub dX11_same_113 ?_
          refine x_iconst dX11_same_114 ?_
          refine x_al0 dX11_same_115 ?_
          refine x_getR fl_X11_7 (sh_308 hS) (lq_308 hS) (rf_308_0 hS) dX11_same_116 ?_
          refine x_bipush dX11_same_119 ?_
          have hb13 := hA 7
          refine x_iald (sh_309 hS) (lq_309 hS) (by omega) (by omega) dX11_same_121 ?_
          refine x_topI (a' := V 309 7) rfl ?_
          refine x_il5 dX11_same_122 ?_
          refine x_imul dX11_same_124 ?_
          refine x_cSi mm_X11_isIn ml_X11_75 dX11_same_125 (c_X11_isIn ((V 309 ((126 + (4 * ahead)) + 2)) - (V 309 ((126 + (4 * one)) + 2))) 0 ((V 309 7) * ((V 309 ((126 + (4 * one)) + 3)) - (V 309 ((126 + (4 * ahead)) + 3)))) (inr (by omega)) (inr (by decide)) (inr (by omega))) ?_
          refine x_ifb_ne (tgt := 133) dX11_same_128 (fun c128_14 => ?_) (fun c128_14 => ?_)
          · -- 128 ne -> 133
            refine x_al0 dX11_same_133 ?_
            refine x_al0 dX11_same_134 ?_
            refine x_getR fl_X11_7 (sh_308 hS) (lq_308 hS) (rf_308_0 hS) dX11_same_135 ?_
            refine x_il3 dX11_same_138 ?_
            have hb15 := hA (126 + (4 * ahead))
            refine x_iald (sh_309 hS) (lq_309 hS) (by omega) (by omega) dX11_same_139 ?_
            refine x_topI (a' := V 309 (126 + (4 * ahead))) rfl ?_
            refine x_al0 dX11_same_140 ?_
            refine x_getR fl_X11_7 (sh_308 hS) (lq_308 hS) (rf_308_0 hS) dX11_same_141 ?_
            refine x_il4 dX11_same_144 ?_
            have hb16 := hA (126 + (4 * one))
            refine x_iald (sh_309 hS) (lq_309 hS) (by omega) (by omega) dX11_same_146 ?_
            refine x_topI (a' := V 309 (126 + (4 * one))) rfl ?_
            refine x_cVi mm_X11_miles ml_X11_333 dX11_same_147 (c_X11_miles (V 309 (126 + (4 * ahead))) (V 309 (126 + (4 * one))) hS hA (by omega) (by omega)) (sh_308 hS) (lq_308 hS) ?_
            have hmm := mMiles_r hA (V 309 (126 + 4 * ahead)) (V 309 (126 + 4 * one))
            refine x_topI (a' := mMiles (V 309) (V 309 (126 + 4 * ahead)) (V 309 (126 + 4 * one))) rfl ?_
            refine x_al0 dX11_same_150 ?_
            refine x_getR fl_X11_7 (sh_308 hS) (lq_308 hS) (rf_308_0 hS) dX11_same_151 ?_
            refine x_bipush dX11_same_154 ?_
            have hb17 := hA 8
            refine x_iald (sh_309 hS) (lq_309 hS) (by omega) (by omega) dX11_same_156 ?_
            refine x_topI (a' := V 309 8) rfl ?_
            refine x_idiv (inr (by omega)) (inr (by omega)) (by omega) dX11_same_157 ?_
            refine x_topI (a' := (mMiles (V 309) (V 309 (126 + 4 * ahead)) (V 309 (126 + 4 * one))) / (V 309 8)) (Int.tdiv_eq_ediv_of_nonneg (by omega)) ?_
            have hdv : 0 ≤ mMiles (V 309) (V 309 (126 + 4 * ahead)) (V 309 (126 + 4 * one)) / V 309 8 ∧ mMiles (V 309) (V 309 (126 + 4 * ahead)) (V 309 (126 + 4 * one)) / V 309 8 < 200000 := ⟨Int.ediv_nonneg (by omega) (by omega), Int.lt_of_le_of_lt (Int.ediv_le_self _ (by omega)) (by omega)⟩
            refine x_il5 dX11_same_158 ?_
            refine x_icmp_gt (tgt := 167) dX11_same_160 (inr (by omega)) (inr (by omega)) (fun c160_18 => ?_) (fun c160_18 => ?_)
            · -- 160 gt -> 167
              refine x_iconst dX11_same_167 ?_
              exact x_zret hQ (rI.mk (by first | (rw [if_pos (by simp only [mSame, mSeenOk]; omega)]) | (rw [if_neg (by simp only [mSame, mSeenOk]; omega)])) rfl) (by decide) dX11_same_168
            · -- 160 gt -> 163
              refine x_iconst dX11_same_163 ?_
              refine x_goto (tgt := 168) dX11_same_164 ?_
              exact x_zret hQ (rI.mk (by first | (rw [if_pos (by simp only [mSame, mSeenOk]; omega)]) | (rw [if_neg (by simp only [mSame, mSeenOk]; omega)])) rfl) (by decide) dX11_same_168
          · -- 128 ne -> 131
            refine x_iconst dX11_same_131 ?_
            exact x_zret hQ (rI.mk (by first | (rw [if_pos (by simp only [mSame, mSeenOk]; omega)]) | (rw [if_neg (by simp only [mSame, mSeenOk]; omega)])) rfl) (by decide) dX11_same_132
    · -- 31 ne -> 34
      refine x_iconst dX11_same_34 ?_
      exact x_zret hQ (rI.mk (by first | (rw [if_pos (by simp only [mSame, mSeenOk]; omega)]) | (rw [if_neg (by simp only [mSame, mSeenOk]; omega)])) rfl) (by decide) dX11_same_35
set_option maxRecDepth 100000 in
set_option maxHeartbeats 4000000 in
theorem c_X11_copy_309 {B : Bs} {S : Stt} {V : Va} (hS : Stat S) : C B yX11_copy cX11_copy 3 none 1 0 0 [vR B 309, vR B 310] S V (rV S (up V 310 (cpK (V 309) (V 310) 1814))) := by
  refine C.of [some (vR B 309), some (vR B 310), none] ?_
  intro Γ hQ
  refine x_iconst dX11_copy_0 ?_
  refine x_is2 dX11_copy_1 ?_
  have lp2 : ∀ (N2 : Nat) (k : Int), (0 ≤ k ∧ k ≤ 1814) → (1814 - k).toNat < N2 → X Γ B RX11 "copy" cX11_copy 3 none 1 0 0 2 [some (vR B 309), some (vR B 310), some (vI k)] [] 0 0 S (up V 310 (cpK (V 309) (V 310) k)) := by
    intro N2
    induction N2 with
    | zero => intro k hk hN; exact absurd hN (Nat.not_lt_zero _)
    | succ N2 ih2 =>
      intro k hk hN2
      refine x_il2 dX11_copy_2 ?_
      refine x_sipush dX11_copy_3 ?_
      refine x_icmp_ge (tgt := 21) dX11_copy_6 (inr (by omega)) (inr (by decide)) (fun c6_1 => ?_) (fun c6_1 => ?_)
      · -- 6 ge -> 21
        exact x_vret hQ (rV.mk (by rw [show k = 1814 by omega])) dX11_copy_21
      · -- 6 ge -> 9
        refine x_al1 dX11_copy_9 ?_
        refine x_il2 dX11_copy_10 ?_
        refine x_al0 dX11_copy_11 ?_
        refine x_il2 dX11_copy_12 ?_
        refine x_iald (sh_309 hS) (lq_309 hS) (by omega) (by omega) dX11_copy_13 ?_
        refine x_topI (a' := V 309 k) rfl ?_
        refine x_iast (sh_310 hS) (lq_310 hS) (by omega) (by omega) dX11_copy_14 ?_
        refine x_mem (V' := (up V 310 (ua (cpK (V 309) (V 310) k) k (V 309 k)))) (st2_up _ _ _ _ _) ?_
        refine x_inc2 dX11_copy_15 ?_
        refine x_goto (tgt := 2) dX11_copy_18 ?_
        refine x_mem (V' := (up V 310 (cpK (V 309) (V 310) (k + 1)))) (upE rfl (cpK_s _ _ hk.1)) ?_
        exact x_fg (ih2 (k + 1) (by omega) (by omega)) (And.intro rfl (And.intro rfl (And.intro rfl trivial)))
  refine x_mem (V' := (up V 310 (cpK (V 309) (V 310) 0))) (Eq.trans (show _ = (up V 310 (V 310)) from (Eq.symm (up_self _ 310))) (show (up V 310 (V 310)) = (up V 310 (cpK (V 309) (V 310) 0)) from (upE rfl (cpK_0 _ _)))) ?_
  exact x_fg (lp2 _ 0 (by omega) (Nat.lt_succ_self _)) (And.intro rfl (And.intro rfl (And.intro rfl trivial)))
set_option maxRecDepth 100000 in
set_option maxHeartbeats 4000000 in
theorem c_X11_copy_310 {B : Bs} {S : Stt} {V : Va} (hS : Stat S) : C B yX11_copy cX11_copy 3 none 1 0 0 [vR B 310, vR B 309] S V (rV S (up V 309 (cpK (V 310) (V 309) 1814))) := by
  refine C.of [some (vR B 310), some (vR B 309), none] ?_
  intro Γ hQ
  refine x_iconst dX11_copy_0 ?_
  refine x_is2 dX11_copy_1 ?_
  have lp2 : ∀ (N2 : Nat) (k : Int), (0 ≤ k ∧ k ≤ 1814) → (1814 - k).toNat < N2 → X Γ B RX11 "copy" cX11_copy 3 none 1 0 0 2 [some (vR B 310), some (vR B 309), some (vI k)] [] 0 0 S (up V 309 (cpK (V 310) (V 309) k)) := by
    intro N2
    induction N2 with
    | zero => intro k hk hN; exact absurd hN (Nat.not_lt_zero _)
    | succ N2 ih2 =>
      intro k hk hN2
      refine x_il2 dX11_copy_2 ?_
      refine x_sipush dX11_copy_3 ?_
      refine x_icmp_ge (tgt := 21) dX11_copy_6 (inr (by omega)) (inr (by decide)) (fun c6_1 => ?_) (fun c6_1 => ?_)
      · -- 6 ge -> 21
        exact x_vret hQ (rV.mk (by rw [show k = 1814 by omega])) dX11_copy_21
      · -- 6 ge -> 9
        refine x_al1 dX11_copy_9 ?_
        refine x_il2 dX11_copy_10 ?_
        refine x_al0 dX11_copy_11 ?_
        refine x_il2 dX11_copy_12 ?_
        refine x_iald (sh_310 hS) (lq_310 hS) (by omega) (by omega) dX11_copy_13 ?_
        refine x_topI (a' := V 310 k) rfl ?_
        refine x_iast (sh_309 hS) (lq_309 hS) (by omega) (by omega) dX11_copy_14 ?_
        refine x_mem (V' := (up V 309 (ua (cpK (V 310) (V 309) k) k (V 310 k)))) (st2_up _ _ _ _ _) ?_
        refine x_inc2 dX11_copy_15 ?_
        refine x_goto (tgt := 2) dX11_copy_18 ?_
        refine x_mem (V' := (up V 309 (cpK (V 310) (V 309) (k + 1)))) (upE rfl (cpK_s _ _ hk.1)) ?_
        exact x_fg (ih2 (k + 1) (by omega) (by omega)) (And.intro rfl (And.intro rfl (And.intro rfl trivial)))
  refine x_mem (V' := (up V 309 (cpK (V 310) (V 309) 0))) (Eq.trans (show _ = (up V 309 (V 309)) from (Eq.symm (up_self _ 309))) (show (up V 309 (V 309)) = (up V 309 (cpK (V 310) (V 309) 0)) from (upE rfl (cpK_0 _ _)))) ?_
  exact x_fg (lp2 _ 0 (by omega) (Nat.lt_succ_self _)) (And.intro rfl (And.intro rfl (And.intro rfl trivial)))
set_option maxRecDepth 100000 in
set_option maxHeartbeats 4000000 in
theorem c_X11_image {B : Bs} {S : Stt} {V : Va} (hS : Stat S) : C B yX11_image cX11_image 1 (some .int) 2 0 0 [vR B 308] S V (rI S (up V 310 (cpK (V 309) (V 310) 1814)) (V 309 2)) := by
  refine C.of [some (vR B 308)] ?_
  intro Γ hQ
  refine x_al0 dX11_image_0 ?_
  refine x_getR fl_X11_7 (sh_308 hS) (lq_308 hS) (rf_308_0 hS) dX11_image_1 ?_
  refine x_al0 dX11_image_4 ?_
  refine x_getR fl_X11_13 (sh_308 hS) (lq_308 hS) (rf_308_1 hS) dX11_image_5 ?_
  refine x_cSv mm_X11_copy ml_X11_71 dX11_image_8 (c_X11_copy_309 hS) ?_
  refine x_al0 dX11_image_11 ?_
  refine x_getR fl_X11_7 (sh_308 hS) (lq_308 hS) (rf_308_0 hS) dX11_image_12 ?_
  refine x_iconst dX11_image_15 ?_
  refine x_iald (sh_309 hS) (lq_309 hS) (by omega) (by omega) dX11_image_16 ?_
  refine x_topI (a' := V 309 2) rfl ?_
  exact x_iret hQ (rI.mk (by first | rfl | omega | (rw [if_pos (by omega)]) | (rw [if_neg (by omega)])) rfl) dX11_image_17
set_option maxRecDepth 100000 in
set_option maxHeartbeats 4000000 in
theorem c_X11_back {B : Bs} {S : Stt} {V : Va} (hS : Stat S) : C B yX11_back cX11_back 1 (some .int) 2 0 0 [vR B 308] S V (rI S (up V 309 (cpK (V 310) (V 309) 1814)) (V 310 2)) := by
  refine C.of [some (vR B 308)] ?_
  intro Γ hQ
  refine x_al0 dX11_back_0 ?_
  refine x_getR fl_X11_13 (sh_308 hS) (lq_308 hS) (rf_308_1 hS) dX11_back_1 ?_
  refine x_al0 dX11_back_4 ?_
  refine x_getR fl_X11_7 (sh_308 hS) (lq_308 hS) (rf_308_0 hS) dX11_back_5 ?_
  refine x_cSv mm_X11_copy ml_X11_71 dX11_back_8 (c_X11_copy_310 hS) ?_
  refine x_al0 dX11_back_11 ?_
  refine x_getR fl_X11_7 (sh_308 hS) (lq_308 hS) (rf_308_0 hS) dX11_back_12 ?_
  refine x_iconst dX11_back_15 ?_
  refine x_iald (sh_309 hS) (lq_309 hS) (by omega) (by omega) dX11_back_16 ?_
  refine x_topI (a' := cpK (V 310) (V 309) 1814 2) rfl ?_
  exact x_iret hQ (rI.mk (by simp only [cpK]; rw [if_pos (by omega)]) rfl) dX11_back_17
set_option maxRecDepth 100000 in
set_option maxHeartbeats 4000000 in
theorem c_X11_about {B : Bs} {S : Stt} {V : Va} (what : Int) (hS : Stat S) (hA : AB (V 309)) (h0 : 0 ≤ (V 309 0) ∧ (V 309 0) ≤ 10) (h1 : 0 ≤ (V 309 1) ∧ (V 309 1) ≤ 16) (hwhat : InR what) : C B yX11_about cX11_about 2 (some .int) 3 0 0 [vR B 308, vI what] S V (rI S V (mAbout (V 309) (V 308 4) what)) := by
  refine C.of [some (vR B 308), some (vI what)] ?_
  intro Γ hQ
  refine x_il1 dX11_about_0 ?_
  refine x_bipush dX11_about_1 ?_
  refine x_bipush dX11_about_3 ?_
  refine x_al0 dX11_about_5 ?_
  refine x_getR fl_X11_7 (sh_308 hS) (lq_308 hS) (rf_308_0 hS) dX11_about_6 ?_
  refine x_iconst dX11_about_9 ?_
  have hb1 := hA 0
  refine x_iald (sh_309 hS) (lq_309 hS) (by omega) (by omega) dX11_about_10 ?_
  refine x_topI (a' := V 309 0) rfl ?_
  refine x_iadd dX11_about_11 ?_
  refine x_cSi mm_X11_isIn ml_X11_75 dX11_about_12 (c_X11_isIn what 10 (9 + (V 309 0)) (inr (by omega)) (inr (by decide)) (inr (by omega))) ?_
  refine x_ifb_eq (tgt := 27) dX11_about_15 (fun c15_2 => ?_) (fun c15_2 => ?_)
  · -- 15 eq -> 27
    refine x_il1 dX11_about_27 ?_
    refine x_bipush dX11_about_28 ?_
    refine x_bipush dX11_about_30 ?_
    refine x_al0 dX11_about_32 ?_
    refine x_getR fl_X11_7 (sh_308 hS) (lq_308 hS) (rf_308_0 hS) dX11_about_33 ?_
    refine x_iconst dX11_about_36 ?_
    have hb3 := hA 0
    refine x_iald (sh_309 hS) (lq_309 hS) (by omega) (by omega) dX11_about_37 ?_
    refine x_topI (a' := V 309 0) rfl ?_
    refine x_iadd dX11_about_38 ?_
    refine x_cSi mm_X11_isIn ml_X11_75 dX11_about_39 (c_X11_isIn what 20 (19 + (V 309 0)) (inr (by omega)) (inr (by decide)) (inr (by omega))) ?_
    refine x_ifb_eq (tgt := 54) dX11_about_42 (fun c42_4 => ?_) (fun c42_4 => ?_)
    · -- 42 eq -> 54
      refine x_il1 dX11_about_54 ?_
      by_cases hs5 : what = 0
      · refine x_tswIn (tgt := 108) (off := 53) dX11_about_55 0 hs5 ?_
        refine x_al0 dX11_about_108 ?_
        refine x_getR fl_X11_7 (sh_308 hS) (lq_308 hS) (rf_308_0 hS) dX11_about_109 ?_
        refine x_il1 dX11_about_112 ?_
        have hb6 := hA what
        refine x_iald (sh_309 hS) (lq_309 hS) (by omega) (by omega) dX11_about_113 ?_
        refine x_topI (a' := V 309 what) rfl ?_
        exact x_iret hQ (rI.mk (by simp only [mAbout]; rw [if_neg (by omega), if_neg (by omega), if_pos (by omega)]) rfl) dX11_about_114
      by_cases hs7 : what = 1
      · refine x_tswIn (tgt := 108) (off := 53) dX11_about_55 1 hs7 ?_
        refine x_al0 dX11_about_108 ?_
        refine x_getR fl_X11_7 (sh_308 hS) (lq_308 hS) (rf_308_0 hS) dX11_about_109 ?_
        refine x_il1 dX11_about_112 ?_
        have hb8 := hA what
        refine x_iald (sh_309 hS) (lq_309 hS) (by omega) (by omega) dX11_about_113 ?_
        refine x_topI (a' := V 309 what) rfl ?_
        exact x_iret hQ (rI.mk (by simp only [mAbout]; rw [if_neg (by omega), if_neg (by omega), if_pos (by omega)]) rfl) dX11_about_114
      by_cases hs9 : what = 2
      · refine x_tswIn (tgt := 108) (off := 53) dX11_about_55 2 hs9 ?_
        refine x_al0 dX11_about_108 ?_
        refine x_getR fl_X11_7 (sh_308 hS) (lq_308 hS) (rf_308_0 hS) dX11_about_109 ?_
        refine x_il1 dX11_about_112 ?_
        have hb10 := hA what
        refine x_iald (sh_309 hS) (lq_309 hS) (by omega) (by omega) dX11_about_113 ?_
        refine x_topI (a' := V 309 what) rfl ?_
        exact x_iret hQ (rI.mk (by simp only [mAbout]; rw [if_neg (by omega), if_neg (by omega), if_pos (by omega)]) rfl) dX11_about_114
      by_cases hs11 : what = 3
      · refine x_tswIn (tgt := 108) (off := 53) dX11_about_55 3 hs11 ?_
        refine x_al0 dX11_about_108 ?_
        refine x_getR fl_X11_7 (sh_308 hS) (lq_308 hS) (rf_308_0 hS) dX11_about_109 ?_
        refine x_il1 dX11_about_112 ?_
        have hb12 := hA what
        refine x_iald (sh_309 hS) (lq_309 hS) (by omega) (by omega) dX11_about_113 ?_
        refine x_topI (a' := V 309 what) rfl ?_
        exact x_iret hQ (rI.mk (by simp only [mAbout]; rw [if_neg (by omega), if_neg (by omega), if_pos (by omega)]) rfl) dX11_about_114
      by_cases hs13 : what = 4
      · refine x_tswIn (tgt := 108) (off := 53) dX11_about_55 4 hs13 ?_
        refine x_al0 dX11_about_108 ?_
        refine x_getR fl_X11_7 (sh_308 hS) (lq_308 hS) (rf_308_0 hS) dX11_about_109 ?_
        refine x_il1 dX11_about_112 ?_
        have hb14 := hA what
        refine x_iald (sh_309 hS) (lq_309 hS) (by omega) (by omega) dX11_about_113 ?_
        refine x_topI (a' := V 309 what) rfl ?_
        exact x_iret hQ (rI.mk (by simp only [mAbout]; rw [if_neg (by omega), if_neg (by omega), if_pos (by omega)]) rfl) dX11_about_114
      by_cases hs15 : what = 5
      · refine x_tswIn (tgt := 108) (off := 53) dX11_about_55 5 hs15 ?_
        refine x_al0 dX11_about_108 ?_
        refine x_getR fl_X11_7 (sh_308 hS) (lq_308 hS) (rf_308_0 hS) dX11_about_109 ?_
        refine x_il1 dX11_about_112 ?_
        have hb16 := hA what
        refine x_iald (sh_309 hS) (lq_309 hS) (by omega) (by omega) dX11_about_113 ?_
        refine x_topI (a' := V 309 what) rfl ?_
        exact x_iret hQ (rI.mk (by simp only [mAbout]; rw [if_neg (by omega), if_neg (by omega), if_pos (by omega)]) rfl) dX11_about_114
      by_cases hs17 : what = 6
      · refine x_tswIn (tgt := 108) (off := 53) dX11_about_55 6 hs17 ?_
        refine x_al0 dX11_about_108 ?_
        refine x_getR fl_X11_7 (sh_308 hS) (lq_308 hS) (rf_308_0 hS) dX11_about_109 ?_
        refine x_il1 dX11_about_112 ?_
        have hb18 := hA what
        refine x_iald (sh_309 hS) (lq_309 hS) (by omega) (by omega) dX11_about_113 ?_
        refine x_topI (a' := V 309 what) rfl ?_
        exact x_iret hQ (rI.mk (by simp only [mAbout]; rw [if_neg (by omega), if_neg (by omega), if_pos (by omega)]) rfl) dX11_about_114
      by_cases hs19 : what = 7
      · refine x_tswIn (tgt := 108) (off := 53) dX11_about_55 7 hs19 ?_
        refine x_al0 dX11_about_108 ?_
        refine x_getR fl_X11_7 (sh_308 hS) (lq_308 hS) (rf_308_0 hS) dX11_about_109 ?_
        refine x_il1 dX11_about_112 ?_
        have hb20 := hA what
        refine x_iald (sh_309 hS) (lq_309 hS) (by omega) (by omega) dX11_about_113 ?_
        refine x_topI (a' := V 309 what) rfl ?_
        exact x_iret hQ (rI.mk (by simp only [mAbout]; rw [if_neg (by omega), if_neg (by omega), if_pos (by omega)]) rfl) dX11_about_114
      by_cases hs21 : what = 8
      · refine x_tswIn (tgt := 108) (off := 53) dX11_about_55 8 hs21 ?_
        refine x_al0 dX11_about_108 ?_
        refine x_getR fl_X11_7 (sh_308 hS) (lq_308 hS) (rf_308_0 hS) dX11_about_109 ?_
        refine x_il1 dX11_about_112 ?_
        have hb22 := hA what
        refine x_iald (sh_309 hS) (lq_309 hS) (by omega) (by omega) dX11_about_113 ?_
        refine x_topI (a' := V 309 what) rfl ?_
        exact x_iret hQ (rI.mk (by simp only [mAbout]; rw [if_neg (by omega), if_neg (by omega), if_pos (by omega)]) rfl) dX11_about_114
      by_cases hs23 : what = 9
      · refine x_tswIn (tgt := 115) (off := 60) dX11_about_55 9 hs23 ?_
        refine x_al0 dX11_about_115 ?_
        refine x_getI fl_X11_114 (sh_308 hS) (lq_308 hS) dX11_about_116 ?_
        refine x_topI (a' := V 308 4) rfl ?_
        exact x_iret hQ (rI.mk (by simp only [mAbout]; rw [if_neg (by omega), if_neg (by omega), if_neg (by omega), if_pos (by omega)]) rfl) dX11_about_119
      refine x_tswOut (tgt := 120) dX11_about_55 (inr (by omega)) (by omega) ?_
      refine x_bipush dX11_about_120 ?_
      exact x_iret hQ (rI.mk (by simp only [mAbout]; rw [if_neg (by omega), if_neg (by omega), if_neg (by omega), if_neg (by omega)]) rfl) dX11_about_122
    · -- 42 eq -> 45
      refine x_al0 dX11_about_45 ?_
      refine x_il1 dX11_about_46 ?_
      refine x_bipush dX11_about_47 ?_
      refine x_isub dX11_about_49 ?_
      refine x_cVi mm_X11_bonesAt ml_X11_392 dX11_about_50 (c_X11_bonesAt (what - 20) hS hA h1 (inr (by omega))) (sh_308 hS) (lq_308 hS) ?_
      exact x_iret hQ (rI.mk (by simp only [mAbout]; rw [if_neg (by omega), if_pos (by omega)]) rfl) dX11_about_53
  · -- 15 eq -> 18
    refine x_al0 dX11_about_18 ?_
    refine x_il1 dX11_about_19 ?_
    refine x_bipush dX11_about_20 ?_
    refine x_isub dX11_about_22 ?_
    refine x_cVi mm_X11_proofsOf ml_X11_97 dX11_about_23 (c_X11_proofsOf (what - 10) hS hA h1 (by omega)) (sh_308 hS) (lq_308 hS) ?_
    exact x_iret hQ (rI.mk (by simp only [mAbout]; rw [if_pos (by omega)]) rfl) dX11_about_26
