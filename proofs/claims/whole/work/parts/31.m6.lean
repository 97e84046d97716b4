set_option maxRecDepth 100000 in
set_option maxHeartbeats 4000000 in
theorem c_X11_draw {B : Bs} {S : Stt} {V : Va} (m : Int) (hS : Stat S) (hd : 0 ≤ (V 308 35) ∧ (V 308 35) < 70100) (hm : 1 ≤ m ∧ m ≤ 10) : C B yX11_draw cX11_draw 3 (some .int) 1 0 0 [vR B 308, vI m] S V (rI S (up V 308 (ua (V 308) 35 (drawN (V 308 35)))) ((V 308 35) % m)) := by
  refine C.of [some (vR B 308), some (vI m), none] ?_
  intro Γ hQ
  refine x_al0 dX11_draw_0 ?_
  refine x_getI fl_X11_377 (sh_308 hS) (lq_308 hS) dX11_draw_1 ?_
  refine x_topI (a' := V 308 35) rfl ?_
  refine x_il1 dX11_draw_4 ?_
  refine x_irem (inr (by omega)) (inr (by omega)) (by omega) dX11_draw_5 ?_
  refine x_topI (a' := (V 308 35) % m) (Int.tmod_eq_emod_of_nonneg (by omega)) ?_
  refine x_is2 dX11_draw_6 ?_
  refine x_al0 dX11_draw_7 ?_
  refine x_al0 dX11_draw_8 ?_
  refine x_getI fl_X11_377 (sh_308 hS) (lq_308 hS) dX11_draw_9 ?_
  refine x_topI (a' := V 308 35) rfl ?_
  refine x_i2l (inr (by omega)) dX11_draw_12 ?_
  refine x_ldc2 (a := 173) kl_X11_380 (by decide) dX11_draw_13 ?_
  refine x_lmul dX11_draw_16 ?_
  refine x_ldc2 (a := 41) kl_X11_382 (by decide) dX11_draw_17 ?_
  refine x_ladd dX11_draw_20 ?_
  refine x_ldc2 (a := 30103) kl_X11_384 (by decide) dX11_draw_21 ?_
  refine x_lrem (inl_ (by omega)) (inl_ (by decide)) (by decide) dX11_draw_24 ?_
  refine x_topL (a' := (((V 308 35) * 173) + 41) % 30103) (Int.tmod_eq_emod_of_nonneg (by omega)) ?_
  refine x_l2i dX11_draw_25 ?_
  have hz := Int.emod_nonneg (V 308 35 * 173 + 41) (show (30103 : Int) ≠ 0 by omega)
  refine x_putI fl_X11_377 (sh_308 hS) (lq_308 hS) dX11_draw_26 ?_
  refine x_mem (V' := (up V 308 (ua (V 308) 35 ((((V 308 35) * 173) + 41) % 30103)))) rfl ?_
  refine x_il2 dX11_draw_29 ?_
  exact x_iret hQ (rI.mk (by first | rfl | omega | (rw [if_pos (by omega)]) | (rw [if_neg (by omega)])) rfl) dX11_draw_30
set_option maxRecDepth 100000 in
set_option maxHeartbeats 4000000 in
theorem c_X11_isHolyTown {B : Bs} {S : Stt} {V : Va} (town : Int) (hS : Stat S) (hA : AB (V 309)) (hX : AB (V 311)) (h44 : -1 ≤ (V 309 4) ∧ (V 309 4) ≤ 3) (hW : 0 ≤ (V 309 4) → TW (V 311) (V 309 4)) (hN : AB (V 314)) (hTr : TRb (V 316)) (h1 : 0 ≤ (V 309 1) ∧ (V 309 1) ≤ 16) (htown : InR town) : C B yX11_isHolyTown cX11_isHolyTown 3 (some .boolean) 5 0 0 [vR B 308, vI town] S V (rIs S V (if mHolyTown (V 309) (V 311) town then 1 else 0)) := by
  refine C.of [some (vR B 308), some (vI town), none] ?_
  intro Γ hQ
  refine x_iconst dX11_isHolyTown_0 ?_
  refine x_is2 dX11_isHolyTown_1 ?_
  have lp2 : ∀ (N2 : Nat) (b : Int) (f : Int → Int) (g : Int → Int) (h : Int → Int), (0 ≤ b ∧ b ≤ V 309 1) → (∀ j, 0 ≤ j → j < b → ¬ (V 309 (30 + 6 * j + 3) = town ∧ mHoly (V 309) (V 311) j)) → (AB f) → (TRb h) → (V 309 1 - b).toNat < N2 → X Γ B RX11 "isHolyTown" cX11_isHolyTown 3 (some .boolean) 5 0 0 2 [some (vR B 308), some (vI town), some (vI b)] [] 0 0 S (up (up (up V 314 f) 315 g) 316 h) := by
    intro N2
    induction N2 with
    | zero => intro b f g h hb hno hf hh hN; exact absurd hN (Nat.not_lt_zero _)
    | succ N2 ih2 =>
      intro b f g h hb hno hf hh hN2
      refine x_il2 dX11_isHolyTown_2 ?_
      refine x_al0 dX11_isHolyTown_3 ?_
      refine x_getR fl_X11_7 (sh_308 hS) (lq_308 hS) (rf_308_0 hS) dX11_isHolyTown_4 ?_
      refine x_iconst dX11_isHolyTown_7 ?_
      have hb1 := hA 1
      refine x_iald (sh_309 hS) (lq_309 hS) (by omega) (by omega) dX11_isHolyTown_8 ?_
      refine x_topI (a' := V 309 1) rfl ?_
      refine x_icmp_ge (tgt := 43) dX11_isHolyTown_9 (inr (by omega)) (inr (by omega)) (fun c9_2 => ?_) (fun c9_2 => ?_)
      · -- 9 ge -> 43
        refine x_iconst dX11_isHolyTown_43 ?_
        exact x_zret hQ ⟨f, g, h, hf, hh, (congrArg (fun z : Int => some (vI z)) (if_neg (by simp only [mHolyTown]; rw [findT_no (fun j h1 h2 => decide_eq_false (hno j h1 (by omega)))]; omega))), rfl, (upE (upE (upE rfl rfl) rfl) rfl)⟩ (by decide) dX11_isHolyTown_44
      · -- 9 ge -> 12
        refine x_al0 dX11_isHolyTown_12 ?_
        refine x_getR fl_X11_7 (sh_308 hS) (lq_308 hS) (rf_308_0 hS) dX11_isHolyTown_13 ?_
        refine x_il2 dX11_isHolyTown_16 ?_
        refine x_cSi mm_X11_boneAt ml_X11_87 dX11_isHolyTown_17 (c_X11_boneAt b) ?_
        refine x_iconst dX11_isHolyTown_20 ?_
        refine x_iadd dX11_isHolyTown_21 ?_
        have hb3 := hA ((30 + 6 * b) + 3)
        refine x_iald (sh_309 hS) (lq_309 hS) (by omega) (by omega) dX11_isHolyTown_22 ?_
        refine x_topI (a' := V 309 ((30 + 6 * b) + 3)) rfl ?_
        refine x_il1 dX11_isHolyTown_23 ?_
        refine x_icmp_ne (tgt := 37) dX11_isHolyTown_24 (inr (by omega)) (inr (by omega)) (fun c24_4 => ?_) (fun c24_4 => ?_)
        · -- 24 ne -> 37
          refine x_inc2 dX11_isHolyTown_37 ?_
          refine x_goto (tgt := 2) dX11_isHolyTown_40 ?_
          exact x_fg (ih2 (b + 1) f g h (by omega) (fun j h1 h2 => by rcases (show j < b ∨ j = b by omega) with q | rfl; (exact hno j h1 q); first | (rintro ⟨z1, z2⟩; contradiction) | omega) hf hh (by omega)) (And.intro rfl (And.intro rfl (And.intro rfl trivial)))
        · -- 24 ne -> 27
          refine x_al0 dX11_isHolyTown_27 ?_
          refine x_il2 dX11_isHolyTown_28 ?_
          refine x_cVis mm_X11_isHoly ml_X11_306 dX11_isHolyTown_29 (c_X11_isHoly b hS (show AB (V 309) from hA) (show AB (V 311) from hX) (show -1 ≤ (V 309 4) ∧ (V 309 4) ≤ 3 from h44) (show 0 ≤ (V 309 4) → TW (V 311) (V 309 4) from hW) (show AB f from hf) (show TRb h from hh) (by omega)) (sh_308 hS) (lq_308 hS) (fun f5 g5 h5 hf5 hh5 => ?_)
          refine x_top (v' := vI (if mHoly (V 309) (V 311) b then 1 else 0)) rfl ?_
          refine x_mem (V' := (up (up (up V 314 f5) 315 g5) 316 h5)) (Eq.trans (Eq.trans (congrArg (fun z => up z 316 _) (congrArg (fun z => up z 315 _) (up_k (by decide) (up_k (by decide) (up_up _ _ _ _))))) (congrArg (fun z => up z 316 _) (up_k (by decide) (up_up _ _ _ _)))) (up_up _ _ _ _)) ?_
          refine x_ifb_eq (tgt := 37) dX11_isHolyTown_32 (fun c32_6 => ?_) (fun c32_6 => ?_)
          · -- 32 eq -> 37
            refine x_inc2 dX11_isHolyTown_37 ?_
            refine x_goto (tgt := 2) dX11_isHolyTown_40 ?_
            exact x_fg (ih2 (b + 1) f5 g5 h5 (by omega) (fun j h1 h2 => by rcases (show j < b ∨ j = b by omega) with q | rfl; (exact hno j h1 q); first | (rintro ⟨z1, z2⟩; contradiction) | omega) hf5 hh5 (by omega)) (And.intro rfl (And.intro rfl (And.intro rfl trivial)))
          · -- 32 eq -> 35
            refine x_iconst dX11_isHolyTown_35 ?_
            exact x_zret hQ ⟨f5, g5, h5, hf5, hh5, (congrArg (fun z : Int => some (vI z)) (if_pos (by simp only [mHolyTown]; rw [findT_at (k := b) (by omega) (by omega) (decide_eq_true ⟨by omega, by assumption⟩) (fun j h1 h2 => decide_eq_false (hno j h1 h2))]; omega))), rfl, (upE (upE (upE rfl rfl) rfl) rfl)⟩ (by decide) dX11_isHolyTown_36
  refine x_mem (V' := (up (up (up V 314 (V 314)) 315 (V 315)) 316 (V 316))) (Eq.trans (Eq.trans (show _ = (up V 314 (V 314)) from (Eq.symm (up_self _ 314))) (show _ = (up (up V 314 (V 314)) 315 (V 315)) from (Eq.symm (up_self _ 315)))) (show _ = (up (up (up V 314 (V 314)) 315 (V 315)) 316 (V 316)) from (Eq.symm (up_self _ 316)))) ?_
  exact x_fg (lp2 _ 0 (V 314) (V 315) (V 316) (by omega) (fun j h1 h2 => by omega) hN hTr (Nat.lt_succ_self _)) (And.intro rfl (And.intro rfl (And.intro rfl trivial)))
set_option maxRecDepth 100000 in
set_option maxHeartbeats 4000000 in
theorem c_X11_pilgrims {B : Bs} {S : Stt} {V : Va} (seed : Int) (n : Int) (c : Int) (town : Int) (hS : Stat S) (hA : AB (V 309)) (hX : AB (V 311)) (h44 : -1 ≤ (V 309 4) ∧ (V 309 4) ≤ 3) (hW : 0 ≤ (V 309 4) → TW (V 311) (V 309 4)) (hN : AB (V 314)) (hTr : TRb (V 316)) (h0 : 0 ≤ (V 309 0) ∧ (V 309 0) ≤ 10) (h1 : 0 ≤ (V 309 1) ∧ (V 309 1) ≤ 16) (hseed : InR seed) (hn : InR n) (hc : InR c) (htown : InR town) : C B yX11_pilgrims cX11_pilgrims 8 (some .int) 6 0 0 [vR B 308, vI seed, vI n, vI c, vI town] S V (rIs S (up V 308 (if 0 ≤ seed ∧ seed ≤ 9999 ∧ 1 ≤ n ∧ n ≤ 99 ∧ 0 ≤ c ∧ c ≤ 6 ∧ mTownOk (V 309) town then ua (V 308) 35 (mPil (V 309) (V 311) c town (seed * 7 + 15) n.toNat).1 else (V 308))) (if 0 ≤ seed ∧ seed ≤ 9999 ∧ 1 ≤ n ∧ n ≤ 99 ∧ 0 ≤ c ∧ c ≤ 6 ∧ mTownOk (V 309) town then (mPil (V 309) (V 311) c town (seed * 7 + 15) n.toNat).2 else -1)) := by
  refine C.of [some (vR B 308), some (vI seed), some (vI n), some (vI c), some (vI town), none, none, none] ?_
  intro Γ hQ
  refine x_il1 dX11_pilgrims_0 ?_
  refine x_iconst dX11_pilgrims_1 ?_
  refine x_sipush dX11_pilgrims_2 ?_
  refine x_cSi mm_X11_isIn ml_X11_75 dX11_pilgrims_5 (c_X11_isIn seed 0 9999 (inr (by omega)) (inr (by decide)) (inr (by decide))) ?_
  refine x_ifb_eq (tgt := 40) dX11_pilgrims_8 (fun c8_1 => ?_) (fun c8_1 => ?_)
  · -- 8 eq -> 40
    refine x_iconst dX11_pilgrims_40 ?_
    exact x_iret hQ ⟨(V 314), (V 315), (V 316), hN, hTr, (congrArg (fun z : Int => some (vI z)) (if_neg (by simp only [mTownOk]; omega))), rfl, (Eq.trans (upE (upE (upE (by rw [if_neg (by simp only [mTownOk]; omega), up_self]) rfl) rfl) rfl) (scr_self _))⟩ dX11_pilgrims_41
  · -- 8 eq -> 11
    refine x_il2 dX11_pilgrims_11 ?_
    refine x_iconst dX11_pilgrims_12 ?_
    refine x_bipush dX11_pilgrims_13 ?_
    refine x_cSi mm_X11_isIn ml_X11_75 dX11_pilgrims_15 (c_X11_isIn n 1 99 (inr (by omega)) (inr (by decide)) (inr (by decide))) ?_
    refine x_ifb_eq (tgt := 40) dX11_pilgrims_18 (fun c18_2 => ?_) (fun c18_2 => ?_)
    · -- 18 eq -> 40
      refine x_iconst dX11_pilgrims_40 ?_
      exact x_iret hQ ⟨(V 314), (V 315), (V 316), hN, hTr, (congrArg (fun z : Int => some (vI z)) (if_neg (by simp only [mTownOk]; omega))), rfl, (Eq.trans (upE (upE (upE (by rw [if_neg (by simp only [mTownOk]; omega), up_self]) rfl) rfl) rfl) (scr_self _))⟩ dX11_pilgrims_41
    · -- 18 eq -> 21
      refine x_il3 dX11_pilgrims_21 ?_
      refine x_iconst dX11_pilgrims_22 ?_
      refine x_bipush dX11_pilgrims_23 ?_
      refine x_cSi mm_X11_isIn ml_X11_75 dX11_pilgrims_25 (c_X11_isIn c 0 6 (inr (by omega)) (inr (by decide)) (inr (by decide))) ?_
      refine x_ifb_eq (tgt := 40) dX11_pilgrims_28 (fun c28_3 => ?_) (fun c28_3 => ?_)
      · -- 28 eq -> 40
        refine x_iconst dX11_pilgrims_40 ?_
        exact x_iret hQ ⟨(V 314), (V 315), (V 316), hN, hTr, (congrArg (fun z : Int => some (vI z)) (if_neg (by simp only [mTownOk]; omega))), rfl, (Eq.trans (upE (upE (upE (by rw [if_neg (by simp only [mTownOk]; omega), up_self]) rfl) rfl) rfl) (scr_self _))⟩ dX11_pilgrims_41
      · -- 28 eq -> 31
        refine x_al0 dX11_pilgrims_31 ?_
        refine x_il4 dX11_pilgrims_32 ?_
        refine x_cVi mm_X11_isTown ml_X11_83 dX11_pilgrims_34 (c_X11_isTown town hS hA (inr (by omega))) (sh_308 hS) (lq_308 hS) ?_
        refine x_ifb_ne (tgt := 42) dX11_pilgrims_37 (fun c37_4 => ?_) (fun c37_4 => ?_)
        · -- 37 ne -> 42
          refine x_al0 dX11_pilgrims_42 ?_
          refine x_il1 dX11_pilgrims_43 ?_
          refine x_bipush dX11_pilgrims_44 ?_
          refine x_imul dX11_pilgrims_46 ?_
          refine x_bipush dX11_pilgrims_47 ?_
          refine x_iadd dX11_pilgrims_49 ?_
          refine x_putI fl_X11_377 (sh_308 hS) (lq_308 hS) dX11_pilgrims_50 ?_
          refine x_mem (V' := (up V 308 (ua (V 308) 35 ((seed * 7) + 15)))) rfl ?_
          refine x_iconst dX11_pilgrims_53 ?_
          refine x_is5 dX11_pilgrims_54 ?_
          refine x_iconst dX11_pilgrims_56 ?_
          refine x_is6 dX11_pilgrims_57 ?_
          have lp59 : ∀ (N59 : Nat) (k : Int) (he : Int) (x : Int) (f : Int → Int) (g : Int → Int) (h : Int → Int), (0 ≤ k ∧ k ≤ n) → (x = (mPil (V 309) (V 311) c town (seed * 7 + 15) k.toNat).1) → (he = (mPil (V 309) (V 311) c town (seed * 7 + 15) k.toNat).2) → (AB f) → (TRb h) → (n - k).toNat < N59 → X Γ B RX11 "pilgrims" cX11_pilgrims 8 (some .int) 6 0 0 59 [some (vR B 308), some (vI seed), some (vI n), some (vI c), some (vI town), some (vI he), some (vI k), none] [] 0 0 S (up (up (up (up V 308 (ua (V 308) 35 x)) 314 f) 315 g) 316 h) := by
            intro N59
            induction N59 with
            | zero => intro k he x f g h hk hx hhe hf hh hN; exact absurd hN (Nat.not_lt_zero _)
            | succ N59 ih59 =>
              intro k he x f g h hk hx hhe hf hh hN59
              have hxr := mPil_r (a := V 309) (tx := V 311) (c := c) (town := town) (x0 := seed * 7 + 15) (by omega) k.toNat
              rw [← hx] at hxr
              have hd1 : 0 ≤ drawN x ∧ drawN x < 30103 := by simp only [drawN]; omega
              have hd2 : 0 ≤ drawN (drawN x) ∧ drawN (drawN x) < 30103 := by simp only [drawN]; omega
              refine x_il6 dX11_pilgrims_59 ?_
              refine x_il2 dX11_pilgrims_61 ?_
              refine x_icmp_ge (tgt := 112) dX11_pilgrims_62 (inr (by omega)) (inr (by omega)) (fun c62_5 => ?_) (fun c62_5 => ?_)
              · -- 62 ge -> 112
                refine x_il5 dX11_pilgrims_112 ?_
                exact x_iret hQ ⟨f, g, h, hf, hh, (congrArg (fun z : Int => some (vI z)) (by rw [if_pos (by simp only [mTownOk]; omega), hhe, show k = n by omega])), rfl, (upE (upE (upE (by rw [if_pos (by simp only [mTownOk]; omega), hx, show k = n by omega]) rfl) rfl) rfl)⟩ dX11_pilgrims_114
              · -- 62 ge -> 65
                have hmz := Int.emod_nonneg x (show V 309 0 ≠ 0 by omega)
                have hmz2 := Int.emod_lt_of_pos x (show 0 < V 309 0 by omega)
                refine x_al0 dX11_pilgrims_65 ?_
                refine x_al0 dX11_pilgrims_66 ?_
                refine x_getR fl_X11_7 (sh_308 hS) (lq_308 hS) (rf_308_0 hS) dX11_pilgrims_67 ?_
                refine x_iconst dX11_pilgrims_70 ?_
                have hb6 := hA 0
                refine x_iald (sh_309 hS) (lq_309 hS) (by omega) (by omega) dX11_pilgrims_71 ?_
                refine x_topI (a' := V 309 0) rfl ?_
                refine x_cVi mm_X11_draw ml_X11_386 dX11_pilgrims_72 (c_X11_draw (V 309 0) hS (show 0 ≤ x ∧ x < 70100 from (by omega)) (by omega)) (sh_308 hS) (lq_308 hS) ?_
                refine x_topI (a' := x % (V 309 0)) rfl ?_
                refine x_mem (V' := (up (up (up (up V 308 (ua (ua (V 308) 35 x) 35 (drawN x))) 314 f) 315 g) 316 h)) (up_k (by decide) (up_k (by decide) (up_k (by decide) (up_up _ _ _ _)))) ?_
                refine x_is7 dX11_pilgrims_75 ?_
                refine x_al0 dX11_pilgrims_77 ?_
                refine x_il7 dX11_pilgrims_78 ?_
                refine x_cVis mm_X11_isHolyTown ml_X11_389 dX11_pilgrims_80 (c_X11_isHolyTown (x % (V 309 0)) hS (show AB (V 309) from hA) (show AB (V 311) from hX) (show -1 ≤ (V 309 4) ∧ (V 309 4) ≤ 3 from h44) (show 0 ≤ (V 309 4) → TW (V 311) (V 309 4) from hW) (show AB f from hf) (show TRb h from hh) (show 0 ≤ (V 309 1) ∧ (V 309 1) ≤ 16 from h1) (inr (by omega))) (sh_308 hS) (lq_308 hS) (fun f7 g7 h7 hf7 hh7 => ?_)
                refine x_top (v' := vI (if mHolyTown (V 309) (V 311) (x % (V 309 0)) then 1 else 0)) rfl ?_
                refine x_mem (V' := (up (up (up (up V 308 (ua (ua (V 308) 35 x) 35 (drawN x))) 314 f7) 315 g7) 316 h7)) (Eq.trans (Eq.trans (congrArg (fun z => up z 316 _) (congrArg (fun z => up z 315 _) (up_k (by decide) (up_k (by decide) (up_up _ _ _ _))))) (congrArg (fun z => up z 316 _) (up_k (by decide) (up_up _ _ _ _)))) (up_up _ _ _ _)) ?_
                refine x_ifb_eq (tgt := 106) dX11_pilgrims_83 (fun c83_8 => ?_) (fun c83_8 => ?_)
                · -- 83 eq -> 106
                  refine x_inc6 dX11_pilgrims_106 ?_
                  refine x_goto (tgt := 59) dX11_pilgrims_109 ?_
                  refine x_mem (V' := (up (up (up (up V 308 (ua (V 308) 35 (drawN x))) 314 f7) 315 g7) 316 h7)) (upE (upE (upE (upE rfl (by simp only [ua_ua])) rfl) rfl) rfl) ?_
                  exact x_fg (ih59 (k + 1) he (drawN x) f7 g7 h7 (by omega) (by rw [show (k + 1).toNat = k.toNat + 1 by omega]; simp only [mPil]; rw [← hx]; first | (rw [if_pos (by assumption)]) | (rw [if_neg (by assumption)])) (by rw [show (k + 1).toNat = k.toNat + 1 by omega]; simp only [mPil]; rw [← hx]; first | (rw [if_pos (by assumption), ← hhe]; first | (rw [if_pos (by omega)]) | (rw [if_neg (by omega)]; omega)) | (rw [if_neg (by assumption), ← hhe])) hf7 hh7 (by omega)) (And.intro rfl (And.intro rfl (And.intro rfl (And.intro rfl (And.intro rfl (And.intro rfl (And.intro rfl trivial)))))))
                · -- 83 eq -> 86
                  refine x_al0 dX11_pilgrims_86 ?_
                  refine x_bipush dX11_pilgrims_87 ?_
                  refine x_cVi mm_X11_draw ml_X11_386 dX11_pilgrims_89 (c_X11_draw 6 hS (show 0 ≤ (drawN x) ∧ (drawN x) < 70100 from (by omega)) (by omega)) (sh_308 hS) (lq_308 hS) ?_
                  refine x_topI (a' := (drawN x) % 6) rfl ?_
                  refine x_mem (V' := (up (up (up (up V 308 (ua (ua (ua (V 308) 35 x) 35 (drawN x)) 35 (drawN (drawN x)))) 314 f7) 315 g7) 316 h7)) (up_k (by decide) (up_k (by decide) (up_k (by decide) (up_up _ _ _ _)))) ?_
                  refine x_il3 dX11_pilgrims_92 ?_
                  refine x_icmp_ge (tgt := 106) dX11_pilgrims_93 (inr (by omega)) (inr (by omega)) (fun c93_9 => ?_) (fun c93_9 => ?_)
                  · -- 93 ge -> 106
                    refine x_inc6 dX11_pilgrims_106 ?_
                    refine x_goto (tgt := 59) dX11_pilgrims_109 ?_
                    refine x_mem (V' := (up (up (up (up V 308 (ua (V 308) 35 (drawN (drawN x)))) 314 f7) 315 g7) 316 h7)) (upE (upE (upE (upE rfl (by simp only [ua_ua])) rfl) rfl) rfl) ?_
                    exact x_fg (ih59 (k + 1) he (drawN (drawN x)) f7 g7 h7 (by omega) (by rw [show (k + 1).toNat = k.toNat + 1 by omega]; simp only [mPil]; rw [← hx]; first | (rw [if_pos (by assumption)]) | (rw [if_neg (by assumption)])) (by rw [show (k + 1).toNat = k.toNat + 1 by omega]; simp only [mPil]; rw [← hx]; first | (rw [if_pos (by assumption), ← hhe]; first | (rw [if_pos (by omega)]) | (rw [if_neg (by omega)]; omega)) | (rw [if_neg (by assumption), ← hhe])) hf7 hh7 (by omega)) (And.intro rfl (And.intro rfl (And.intro rfl (And.intro rfl (And.intro rfl (And.intro rfl (And.intro rfl trivial)))))))
                  · -- 93 ge -> 96
                    refine x_il7 dX11_pilgrims_96 ?_
                    refine x_il4 dX11_pilgrims_98 ?_
                    refine x_icmp_ne (tgt := 106) dX11_pilgrims_100 (inr (by omega)) (inr (by omega)) (fun c100_10 => ?_) (fun c100_10 => ?_)
                    · -- 100 ne -> 106
                      refine x_inc6 dX11_pilgrims_106 ?_
                      refine x_goto (tgt := 59) dX11_pilgrims_109 ?_
                      refine x_mem (V' := (up (up (up (up V 308 (ua (V 308) 35 (drawN (drawN x)))) 314 f7) 315 g7) 316 h7)) (upE (upE (upE (upE rfl (by simp only [ua_ua])) rfl) rfl) rfl) ?_
                      exact x_fg (ih59 (k + 1) he (drawN (drawN x)) f7 g7 h7 (by omega) (by rw [show (k + 1).toNat = k.toNat + 1 by omega]; simp only [mPil]; rw [← hx]; first | (rw [if_pos (by assumption)]) | (rw [if_neg (by assumption)])) (by rw [show (k + 1).toNat = k.toNat + 1 by omega]; simp only [mPil]; rw [← hx]; first | (rw [if_pos (by assumption), ← hhe]; first | (rw [if_pos (by omega)]) | (rw [if_neg (by omega)]; omega)) | (rw [if_neg (by assumption), ← hhe])) hf7 hh7 (by omega)) (And.intro rfl (And.intro rfl (And.intro rfl (And.intro rfl (And.intro rfl (And.intro rfl (And.intro rfl trivial)))))))
                    · -- 100 ne -> 103
                      refine x_inc5 dX11_pilgrims_103 ?_
                      refine x_inc6 dX11_pilgrims_106 ?_
                      refine x_goto (tgt := 59) dX11_pilgrims_109 ?_
                      refine x_mem (V' := (up (up (up (up V 308 (ua (V 308) 35 (drawN (drawN x)))) 314 f7) 315 g7) 316 h7)) (upE (upE (upE (upE rfl (by simp only [ua_ua])) rfl) rfl) rfl) ?_
                      exact x_fg (ih59 (k + 1) (he + 1) (drawN (drawN x)) f7 g7 h7 (by omega) (by rw [show (k + 1).toNat = k.toNat + 1 by omega]; simp only [mPil]; rw [← hx]; first | (rw [if_pos (by assumption)]) | (rw [if_neg (by assumption)])) (by rw [show (k + 1).toNat = k.toNat + 1 by omega]; simp only [mPil]; rw [← hx]; first | (rw [if_pos (by assumption), ← hhe]; first | (rw [if_pos (by omega)]) | (rw [if_neg (by omega)]; omega)) | (rw [if_neg (by assumption), ← hhe])) hf7 hh7 (by omega)) (And.intro rfl (And.intro rfl (And.intro rfl (And.intro rfl (And.intro rfl (And.intro rfl (And.intro rfl trivial)))))))
          refine x_mem (V' := (up (up (up (up V 308 (ua (V 308) 35 (seed * 7 + 15))) 314 (V 314)) 315 (V 315)) 316 (V 316))) (Eq.trans (Eq.trans (Eq.trans (show _ = (up (up V 308 (ua (V 308) 35 ((seed * 7) + 15))) 314 (V 314)) from (Eq.symm (up_self _ 314))) (show _ = (up (up (up V 308 (ua (V 308) 35 ((seed * 7) + 15))) 314 (V 314)) 315 (V 315)) from (Eq.symm (up_self _ 315)))) (show _ = (up (up (up (up V 308 (ua (V 308) 35 ((seed * 7) + 15))) 314 (V 314)) 315 (V 315)) 316 (V 316)) from (Eq.symm (up_self _ 316)))) (show (up (up (up (up V 308 (ua (V 308) 35 ((seed * 7) + 15))) 314 (V 314)) 315 (V 315)) 316 (V 316)) = (up (up (up (up V 308 (ua (V 308) 35 (seed * 7 + 15))) 314 (V 314)) 315 (V 315)) 316 (V 316)) from (upE (upE (upE (upE rfl rfl) rfl) rfl) rfl))) ?_
          exact x_fg (lp59 _ 0 0 (seed * 7 + 15) (V 314) (V 315) (V 316) (by omega) rfl rfl hN hTr (Nat.lt_succ_self _)) (And.intro rfl (And.intro rfl (And.intro rfl (And.intro rfl (And.intro rfl (And.intro rfl (And.intro rfl trivial)))))))
        · -- 37 ne -> 40
          refine x_iconst dX11_pilgrims_40 ?_
          exact x_iret hQ ⟨(V 314), (V 315), (V 316), hN, hTr, (congrArg (fun z : Int => some (vI z)) (if_neg (by simp only [mTownOk]; omega))), rfl, (Eq.trans (upE (upE (upE (by rw [if_neg (by simp only [mTownOk]; omega), up_self]) rfl) rfl) rfl) (scr_self _))⟩ dX11_pilgrims_41
set_option maxRecDepth 100000 in
set_option maxHeartbeats 4000000 in
theorem c_X11_power {B : Bs} {S : Stt} {V : Va} (x : Int) (n : Int) (hx : InR x) (hn : 0 ≤ n ∧ n ≤ 20) : C B yX11_power cX11_power 5 (some .long) 1 0 0 [vI x, vI n] S V (rL S V (pw x n)) := by
  refine C.of [some (vI x), some (vI n), none, none, none] ?_
  intro Γ hQ
  refine x_lconst1 dX11_power_0 ?_
  refine x_ls2 dX11_power_1 ?_
  refine x_iconst dX11_power_2 ?_
  refine x_is4 dX11_power_3 ?_
  have lp5 : ∀ (N5 : Nat) (v : Int) (k : Int), (0 ≤ k ∧ k ≤ n) → (v = pw x k) → (n - k).toNat < N5 → X Γ B RX11 "power" cX11_power 5 (some .long) 1 0 0 5 [some (vI x), some (vI n), some (vL v), none, some (vI k)] [] 0 0 S V := by
    intro N5
    induction N5 with
    | zero => intro v k hk hv hN; exact absurd hN (Nat.not_lt_zero _)
    | succ N5 ih5 =>
      intro v k hk hv hN5
      refine x_il4 dX11_power_5 ?_
      refine x_il1 dX11_power_7 ?_
      refine x_icmp_ge (tgt := 22) dX11_power_8 (inr (by omega)) (inr (by omega)) (fun c8_1 => ?_) (fun c8_1 => ?_)
      · -- 8 ge -> 22
        refine x_ll2 dX11_power_22 ?_
        exact x_lret hQ (rL.mk (by rw [hv, show k = n by omega]) rfl) dX11_power_23
      · -- 8 ge -> 11
        refine x_ll2 dX11_power_11 ?_
        refine x_il0 dX11_power_12 ?_
        refine x_i2l (inr (by omega)) dX11_power_13 ?_
        refine x_lmul dX11_power_14 ?_
        refine x_ls2 dX11_power_15 ?_
        refine x_inc4 dX11_power_16 ?_
        refine x_goto (tgt := 5) dX11_power_19 ?_
        exact x_fg (ih5 (v * x) (k + 1) (by omega) (by rw [pw_s _ hk.1, hv]) (by omega)) (And.intro rfl (And.intro rfl (And.intro rfl (And.intro rfl trivial))))
  exact x_fg (lp5 _ 1 0 (by omega) (pw_0 _).symm (Nat.lt_succ_self _)) (And.intro rfl (And.intro rfl (And.intro rfl (And.intro rfl trivial))))
set_option maxRecDepth 100000 in
set_option maxHeartbeats 4000000 in
theorem c_X11_common {B : Bs} {S : Stt} {V : Va} (x : Int) (y : Int) (hx : 0 ≤ x ∧ x < 9223372036854775808) (hy : 0 ≤ y ∧ y < 9223372036854775808) : C B yX11_common cX11_common 10 (some .long) 1 0 0 [vL x, vL y] S V (rL S V (gcdI x y)) := by
  refine C.of [some (vL x), none, some (vL y), none, none, none, none, none, none, none] ?_
  intro Γ hQ
  refine x_ll0 dX11_common_0 ?_
  refine x_ls4 dX11_common_1 ?_
  refine x_ll2 dX11_common_3 ?_
  refine x_ls6 dX11_common_4 ?_
  have lp6 : ∀ (N6 : Nat) (p : Int) (q : Int), (0 ≤ p ∧ p < 9223372036854775808) → (0 ≤ q ∧ q < 9223372036854775808) → (gcdI p q = gcdI x y) → q.toNat < N6 → X Γ B RX11 "common" cX11_common 10 (some .long) 1 0 0 6 [some (vL x), none, some (vL y), none, some (vL p), none, some (vL q), none, none, none] [] 0 0 S V := by
    intro N6
    induction N6 with
    | zero => intro p q hp hq hg hN; exact absurd hN (Nat.not_lt_zero _)
    | succ N6 ih6 =>
      intro p q hp hq hg hN6
      refine x_ll6 dX11_common_6 ?_
      refine x_lconst0 dX11_common_8 ?_
      refine x_lcmp_eq (tgt := 31) dX11_common_9 dX11_common_10 (inl_ (by omega)) (inl_ (by decide)) (fun c9_1 => ?_) (fun c9_1 => ?_)
      · -- 9 eq -> 31
        refine x_ll4 dX11_common_31 ?_
        exact x_lret hQ (rL.mk (by rw [← hg, show q = 0 by omega, gcdI_0 hp.1]) rfl) dX11_common_33
      · -- 9 eq -> 13
        refine x_ll4 dX11_common_13 ?_
        refine x_ll6 dX11_common_15 ?_
        refine x_lrem (inl_ (by omega)) (inl_ (by omega)) (by omega) dX11_common_17 ?_
        refine x_topL (a' := p % q) (Int.tmod_eq_emod_of_nonneg (by omega)) ?_
        refine x_ls8 dX11_common_18 ?_
        refine x_ll6 dX11_common_20 ?_
        refine x_ls4 dX11_common_22 ?_
        refine x_ll8 dX11_common_24 ?_
        refine x_ls6 dX11_common_26 ?_
        refine x_goto (tgt := 6) dX11_common_28 ?_
        exact x_fg (ih6 q (p % q) (by omega) ⟨Int.emod_nonneg _ (by omega), by have := Int.emod_lt_of_pos p (show 0 < q by omega); omega⟩ (by rw [gcdI_s hp.1 (by omega), hg]) (by have := Int.emod_lt_of_pos p (show 0 < q by omega); have := Int.emod_nonneg p (show q ≠ 0 by omega); omega)) (And.intro rfl (And.intro rfl (And.intro rfl (And.intro rfl trivial))))
  exact x_fg (lp6 _ x y (by omega) (by omega) (by omega) (Nat.lt_succ_self _)) (And.intro rfl (And.intro rfl (And.intro rfl (And.intro rfl trivial))))
set_option maxRecDepth 100000 in
set_option maxHeartbeats 4000000 in
theorem c_X11_choices {B : Bs} {S : Stt} {V : Va} (n : Int) (k : Int) (hn : 0 ≤ n ∧ n ≤ 20) (hk : 0 ≤ k ∧ k ≤ n) : C B yX11_choices cX11_choices 5 (some .long) 1 0 0 [vI n, vI k] S V (rL S V (choK n k k.toNat)) := by
  refine C.of [some (vI n), some (vI k), none, none, none] ?_
  intro Γ hQ
  refine x_lconst1 dX11_choices_0 ?_
  refine x_ls2 dX11_choices_1 ?_
  refine x_iconst dX11_choices_2 ?_
  refine x_is4 dX11_choices_3 ?_
  have lp5 : ∀ (N5 : Nat) (v : Int) (i : Int), (1 ≤ i ∧ i ≤ k + 1) → (v = choK n k (i - 1).toNat) → (k + 1 - i).toNat < N5 → X Γ B RX11 "choices" cX11_choices 5 (some .long) 1 0 0 5 [some (vI n), some (vI k), some (vL v), none, some (vI i)] [] 0 0 S V := by
    intro N5
    induction N5 with
    | zero => intro v i hi hv hN; exact absurd hN (Nat.not_lt_zero _)
    | succ N5 ih5 =>
      intro v i hi hv hN5
      refine x_il4 dX11_choices_5 ?_
      refine x_il1 dX11_choices_7 ?_
      refine x_icmp_gt (tgt := 31) dX11_choices_8 (inr (by omega)) (inr (by omega)) (fun c8_1 => ?_) (fun c8_1 => ?_)
      · -- 8 gt -> 31
        refine x_ll2 dX11_choices_31 ?_
        exact x_lret hQ (rL.mk (by rw [hv, show i - 1 = k by omega]) rfl) dX11_choices_32
      · -- 8 gt -> 11
        have hvr := choK_rI (i := (i - 1).toNat) hn hk (by omega)
        rw [← hv] at hvr
        have hmr : 0 ≤ v * (n - k + i) ∧ v * (n - k + i) ≤ 200000 * 20 := ⟨Int.mul_nonneg hvr.1 (by omega), Int.mul_le_mul hvr.2 (by omega) (by omega) (by omega)⟩
        refine x_ll2 dX11_choices_11 ?_
        refine x_il0 dX11_choices_12 ?_
        refine x_il1 dX11_choices_13 ?_
        refine x_isub dX11_choices_14 ?_
        refine x_il4 dX11_choices_15 ?_
        refine x_iadd dX11_choices_17 ?_
        refine x_i2l (inr (by omega)) dX11_choices_18 ?_
        refine x_lmul dX11_choices_19 ?_
        refine x_il4 dX11_choices_20 ?_
        refine x_i2l (inr (by omega)) dX11_choices_22 ?_
        refine x_ldiv (inl_ (by omega)) (inl_ (by omega)) (by omega) dX11_choices_23 ?_
        refine x_topL (a' := (v * ((n - k) + i)) / i) (Int.tdiv_eq_ediv_of_nonneg (by omega)) ?_
        refine x_ls2 dX11_choices_24 ?_
        refine x_inc4 dX11_choices_25 ?_
        refine x_goto (tgt := 5) dX11_choices_28 ?_
        exact x_fg (ih5 ((v * ((n - k) + i)) / i) (i + 1) (by omega) (by rw [show (i + 1 - 1).toNat = (i - 1).toNat + 1 by omega]; simp only [choK]; rw [← hv, show (((i - 1).toNat : Nat) : Int) + 1 = i by omega]) (by omega)) (And.intro rfl (And.intro rfl (And.intro rfl (And.intro rfl trivial))))
  exact x_fg (lp5 _ 1 1 (by omega) rfl (Nat.lt_succ_self _)) (And.intro rfl (And.intro rfl (And.intro rfl (And.intro rfl trivial))))
set_option maxRecDepth 100000 in
set_option maxHeartbeats 4000000 in
theorem c_X11_chance {B : Bs} {S : Stt} {V : Va} (n : Int) (h : Int) (c : Int) (what : Int) (hS : Stat S) (hn : InR n) (hh : InR h) (hc : InR c) (hwhat : InR what) : C B yX11_chance cX11_chance 9 (some .long) 2 0 0 [vR B 308, vI n, vI h, vI c, vI what] S V (rL S V (mChance n h c what)) := by
  refine C.of [some (vR B 308), some (vI n), some (vI h), some (vI c), some (vI what), none, none, none, none] ?_
  intro Γ hQ
  refine x_il1 dX11_chance_0 ?_
  refine x_iconst dX11_chance_1 ?_
  refine x_bipush dX11_chance_2 ?_
  refine x_cSi mm_X11_isIn ml_X11_75 dX11_chance_4 (c_X11_isIn n 0 20 (inr (by omega)) (inr (by decide)) (inr (by decide))) ?_
  refine x_ifb_eq (tgt := 39) dX11_chance_7 (fun c7_1 => ?_) (fun c7_1 => ?_)
  · -- 7 eq -> 39
    refine x_ldc2 (a := (-1)) kl_X11_355 (by decide) dX11_chance_39 ?_
    exact x_lret hQ (rL.mk (by simp only [mChance]; rw [if_neg (by omega)]) rfl) dX11_chance_42
  · -- 7 eq -> 10
    refine x_il2 dX11_chance_10 ?_
    refine x_iconst dX11_chance_11 ?_
    refine x_il1 dX11_chance_12 ?_
    refine x_cSi mm_X11_isIn ml_X11_75 dX11_chance_13 (c_X11_isIn h 0 n (inr (by omega)) (inr (by decide)) (inr (by omega))) ?_
    refine x_ifb_eq (tgt := 39) dX11_chance_16 (fun c16_2 => ?_) (fun c16_2 => ?_)
    · -- 16 eq -> 39
      refine x_ldc2 (a := (-1)) kl_X11_355 (by decide) dX11_chance_39 ?_
      exact x_lret hQ (rL.mk (by simp only [mChance]; rw [if_neg (by omega)]) rfl) dX11_chance_42
    · -- 16 eq -> 19
      refine x_il3 dX11_chance_19 ?_
      refine x_iconst dX11_chance_20 ?_
      refine x_bipush dX11_chance_21 ?_
      refine x_cSi mm_X11_isIn ml_X11_75 dX11_chance_23 (c_X11_isIn c 0 6 (inr (by omega)) (inr (by decide)) (inr (by decide))) ?_
      refine x_ifb_eq (tgt := 39) dX11_chance_26 (fun c26_3 => ?_) (fun c26_3 => ?_)
      · -- 26 eq -> 39
        refine x_ldc2 (a := (-1)) kl_X11_355 (by decide) dX11_chance_39 ?_
        exact x_lret hQ (rL.mk (by simp only [mChance]; rw [if_neg (by omega)]) rfl) dX11_chance_42
      · -- 26 eq -> 29
        refine x_il4 dX11_chance_29 ?_
        refine x_iconst dX11_chance_31 ?_
        refine x_iconst dX11_chance_32 ?_
        refine x_cSi mm_X11_isIn ml_X11_75 dX11_chance_33 (c_X11_isIn what 0 1 (inr (by omega)) (inr (by decide)) (inr (by decide))) ?_
        refine x_ifb_ne (tgt := 43) dX11_chance_36 (fun c36_4 => ?_) (fun c36_4 => ?_)
        · -- 36 ne -> 43
          refine x_lconst0 dX11_chance_43 ?_
          refine x_ls5 dX11_chance_44 ?_
          refine x_il2 dX11_chance_46 ?_
          refine x_is7 dX11_chance_47 ?_
          have lp49 : ∀ (N49 : Nat) (v : Int) (k : Int), (h ≤ k ∧ k ≤ n + 1) → (v = chaK n h c (k - h).toNat) → (n + 1 - k).toNat < N49 → X Γ B RX11 "chance" cX11_chance 9 (some .long) 2 0 0 49 [some (vR B 308), some (vI n), some (vI h), some (vI c), some (vI what), some (vL v), none, some (vI k), none] [] 0 0 S V := by
            intro N49
            induction N49 with
            | zero => intro v k hk hv hN; exact absurd hN (Nat.not_lt_zero _)
            | succ N49 ih49 =>
              intro v k hk hv hN49
              refine x_il7 dX11_chance_49 ?_
              refine x_il1 dX11_chance_51 ?_
              refine x_icmp_gt (tgt := 91) dX11_chance_52 (inr (by omega)) (inr (by omega)) (fun c52_5 => ?_) (fun c52_5 => ?_)
              · -- 52 gt -> 91
                have hvv : v = chaS n h c := by rw [hv]; simp only [chaS]; rw [show k - h = n + 1 - h by omega]
                have hsr := chaS_rI (n := n) (h := h) (c := c) (by omega) (by omega) (by omega)
                rw [← hvv] at hsr
                have hpr := pw6_rI (n := n) (by omega)
                have hgr := gcdI_r (x := v) (y := pw 6 n) (by omega)
                refine x_bipush dX11_chance_91 ?_
                refine x_il1 dX11_chance_93 ?_
                refine x_cSl mm_X11_power ml_X11_361 dX11_chance_94 (c_X11_power 6 n (inr (by decide)) (by omega)) ?_
                refine x_ls7 dX11_chance_97 ?_
                refine x_il4 dX11_chance_99 ?_
                refine x_if_ne (tgt := 109) dX11_chance_101 (inr (by omega)) (fun c101_6 => ?_) (fun c101_6 => ?_)
                · -- 101 ne -> 109
                  refine x_ll7 dX11_chance_109 ?_
                  refine x_ll5 dX11_chance_111 ?_
                  refine x_ll7 dX11_chance_113 ?_
                  refine x_cSl mm_X11_common ml_X11_364 dX11_chance_115 (c_X11_common v (pw 6 n) (by omega) (by omega)) ?_
                  refine x_ldiv (inl_ (by omega)) (inl_ (by omega)) (by omega) dX11_chance_118 ?_
                  refine x_topL (a' := (pw 6 n) / (gcdI v (pw 6 n))) (Int.tdiv_eq_ediv_of_nonneg (by omega)) ?_
                  exact x_lret hQ (rL.mk (by simp only [mChance]; rw [if_pos (by omega), ← hvv]; first | (rw [if_pos (by omega)]) | (rw [if_neg (by omega)])) rfl) dX11_chance_119
                · -- 101 ne -> 104
                  refine x_ll5 dX11_chance_104 ?_
                  refine x_goto (tgt := 111) dX11_chance_106 ?_
                  refine x_ll5 dX11_chance_111 ?_
                  refine x_ll7 dX11_chance_113 ?_
                  refine x_cSl mm_X11_common ml_X11_364 dX11_chance_115 (c_X11_common v (pw 6 n) (by omega) (by omega)) ?_
                  refine x_ldiv (inl_ (by omega)) (inl_ (by omega)) (by omega) dX11_chance_118 ?_
                  refine x_topL (a' := v / (gcdI v (pw 6 n))) (Int.tdiv_eq_ediv_of_nonneg (by omega)) ?_
                  exact x_lret hQ (rL.mk (by simp only [mChance]; rw [if_pos (by omega), ← hvv]; first | (rw [if_pos (by omega)]) | (rw [if_neg (by omega)])) rfl) dX11_chance_119
              · -- 52 gt -> 55
                refine x_ll5 dX11_chance_55 ?_
                refine x_il1 dX11_chance_57 ?_
                refine x_il7 dX11_chance_58 ?_
                refine x_cSl mm_X11_choices ml_X11_357 dX11_chance_60 (c_X11_choices n k (by omega) (by omega)) ?_
                refine x_il3 dX11_chance_63 ?_
                refine x_il7 dX11_chance_64 ?_
                refine x_cSl mm_X11_power ml_X11_361 dX11_chance_66 (c_X11_power c k (inr (by omega)) (by omega)) ?_
                refine x_lmul dX11_chance_69 ?_
                refine x_bipush dX11_chance_70 ?_
                refine x_il3 dX11_chance_72 ?_
                refine x_isub dX11_chance_73 ?_
                refine x_il1 dX11_chance_74 ?_
                refine x_il7 dX11_chance_75 ?_
                refine x_isub dX11_chance_77 ?_
                refine x_cSl mm_X11_power ml_X11_361 dX11_chance_78 (c_X11_power (6 - c) (n - k) (inr (by omega)) (by omega)) ?_
                refine x_lmul dX11_chance_81 ?_
                refine x_ladd dX11_chance_82 ?_
                refine x_ls5 dX11_chance_83 ?_
                refine x_inc7 dX11_chance_85 ?_
                refine x_goto (tgt := 49) dX11_chance_88 ?_
                exact x_fg (ih49 (v + (((choK n k k.toNat) * (pw c k)) * (pw (6 - c) (n - k)))) (k + 1) (by omega) (by rw [show (k + 1 - h).toNat = (k - h).toNat + 1 by omega]; simp only [chaK]; rw [← hv, show h + (((k - h).toNat : Nat) : Int) = k by omega]) (by omega)) (And.intro rfl (And.intro rfl (And.intro rfl (And.intro rfl (And.intro rfl (And.intro rfl (And.intro rfl trivial)))))))
          exact x_fg (lp49 _ 0 h (by omega) (by rw [show h - h = 0 by omega]; rfl) (Nat.lt_succ_self _)) (And.intro rfl (And.intro rfl (And.intro rfl (And.intro rfl (And.intro rfl (And.intro rfl (And.intro rfl trivial)))))))
        · -- 36 ne -> 39
          refine x_ldc2 (a := (-1)) kl_X11_355 (by decide) dX11_chance_39 ?_
          exact x_lret hQ (rL.mk (by simp only [mChance]; rw [if_neg (by omega)]) rfl) dX11_chance_42
