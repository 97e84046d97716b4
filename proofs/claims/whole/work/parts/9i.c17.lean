set_option maxRecDepth 100000 in
set_option maxHeartbeats 4000000 in
theorem c_X1_link {B : Bs} {S : Stt} {V : Va} (place : Int) (hS : Stat S) (h134 : 0 ≤ (V 134 4) ∧ (V 134 4) ≤ 12 ∧ 0 ≤ (V 134 5) ∧ (V 134 5) ≤ 9 ∧ 1 ≤ (V 134 6) ∧ (V 134 6) ≤ 99) (hA2 : AB (V 2)) (hA3 : AB (V 3)) (hA136 : AB (V 136)) (h138 : ∀ s, 0 ≤ (V 138) s ∧ (V 138) s ≤ 999) (h137 : ∀ s, 0 ≤ (V 137) s ∧ (V 137) s ≤ 999) (h135 : ∀ s, 0 ≤ s → s < (V 134 4) → 0 ≤ (V 135) s ∧ (V 135) s < 10) (hpl : 0 ≤ place ∧ place < (V 134 4)) (hso : Srt (V 138) (V 298) (V 134 4)) : C B yX1_link cX1_link 7 none 3 0 0 [vR B 297, vI place] S V (rVR S (fun VN => ∃ c sel bt pc, VN = up (up (up V 297 (ua (V 297) 4 c)) 299 bt) 300 pc ∧ LkI V (V 298 place) place c sel bt pc)) := by
  refine C.of [some (vR B 297), some (vI place), none, none, none, none, none] ?_
  intro Γ hQ
  have ho := hso.1 place hpl.1 hpl.2
  refine x_al0 dX1_link_0 ?_
  refine x_getR fl_X1_11 (sh_297 hS) (lq_297 hS) (rf_297_1 hS) dX1_link_1 ?_
  refine x_il1 dX1_link_4 ?_
  refine x_iald (sh_298 hS) (lq_298 hS) (by omega) (by omega) dX1_link_5 ?_
  refine x_topI (a' := V 298 place) rfl ?_
  refine x_is2 dX1_link_6 ?_
  refine x_al0 dX1_link_7 ?_
  refine x_iconst dX1_link_8 ?_
  refine x_putI fl_X1_76 (sh_297 hS) (lq_297 hS) dX1_link_9 ?_
  refine x_mem (V' := (up V 297 (ua (V 297) 4 0))) rfl ?_
  refine x_iconst dX1_link_12 ?_
  refine x_is3 dX1_link_13 ?_
  have lp14 : ∀ (N14 : Nat) (x : Int) (c : Int) (sel : Int → Int) (bt : Int → Int) (pc : Int → Int), (0 ≤ x ∧ x ≤ place) → (0 ≤ c ∧ c ≤ x) → (LkI V (V 298 place) x c sel bt pc) → (place - x).toNat < N14 → X Γ B RX1 "link" cX1_link 7 none 3 0 0 14 [some (vR B 297), some (vI place), some (vI (V 298 place)), some (vI x), none, none, none] [] 0 0 S (up (up (up V 297 (ua (V 297) 4 c)) 299 bt) 300 pc) := by
    intro N14
    induction N14 with
    | zero => intro x c sel bt pc hx hc hL hN; exact absurd hN (Nat.not_lt_zero _)
    | succ N14 ih14 =>
      intro x c sel bt pc hx hc hL hN14
      refine x_il3 dX1_link_14 ?_
      refine x_il1 dX1_link_15 ?_
      refine x_icmp_ge (tgt := 128) dX1_link_16 (inr (by omega)) (inr (by omega)) (fun c16_1 => ?_) (fun c16_1 => ?_)
      · -- 16 ge -> 128
        exact x_vret hQ ⟨rfl, rfl, c, sel, bt, pc, rfl, (by have q := hL; rw [show x = place by omega] at q; exact q)⟩ dX1_link_128
      · -- 16 ge -> 19
        refine x_al0 dX1_link_19 ?_
        refine x_getR fl_X1_11 (sh_297 hS) (lq_297 hS) (rf_297_1 hS) dX1_link_20 ?_
        refine x_il3 dX1_link_23 ?_
        refine x_iald (sh_298 hS) (lq_298 hS) (by omega) (by omega) dX1_link_24 ?_
        refine x_topI (a' := V 298 x) rfl ?_
        have hox := hso.1 x hx.1 (by omega)
        refine x_is4 dX1_link_25 ?_
        refine x_al0 dX1_link_27 ?_
        refine x_getR fl_X1_32 (sh_297 hS) (lq_297 hS) (rf_297_0 hS) dX1_link_28 ?_
        refine x_il4 dX1_link_31 ?_
        refine x_il2 dX1_link_33 ?_
        refine x_cVi mm_X9_canBeSame ml_X1_79 dX1_link_34 (c_X9_canBeSame (V 298 x) (V 298 place) hS (show 0 ≤ (V 134 4) ∧ (V 134 4) ≤ 12 ∧ 0 ≤ (V 134 5) ∧ (V 134 5) ≤ 9 ∧ 1 ≤ (V 134 6) ∧ (V 134 6) ≤ 99 from h134) (show AB (V 2) from hA2) (show AB (V 3) from hA3) (show AB (V 136) from hA136) (show ∀ s, 0 ≤ (V 138) s ∧ (V 138) s ≤ 999 from h138) (show ∀ s, 0 ≤ (V 137) s ∧ (V 137) s ≤ 999 from h137) (show ∀ s, 0 ≤ s → s < (V 134 4) → 0 ≤ (V 135) s ∧ (V 135) s < 10 from h135) (inr (by omega)) (inr (by omega))) (sh_1 hS) (lq_1 hS) ?_
        refine x_ifb_eq (tgt := 122) dX1_link_37 (fun c37_2 => ?_) (fun c37_2 => ?_)
        · -- 37 eq -> 122
          have hb := c37_2
          refine x_inc3 dX1_link_122 ?_
          refine x_goto (tgt := 14) dX1_link_125 ?_
          exact x_fg (ih14 (x + 1) c sel bt pc (by omega) (by omega) (by first | exact LkI_no hL hx.1 hb | exact LkI_on hL hx.1 hb rfl (lkP_0 ht) | exact LkI_on hL hx.1 hb rfl (lkP_1 ht)) (by omega)) (And.intro rfl (And.intro rfl (And.intro rfl (And.intro rfl trivial))))
        · -- 37 eq -> 40
          have t1 := h135 (V 298 x) hox.1 hox.2
          have t2 := h135 (V 298 place) ho.1 ho.2
          refine x_al0 dX1_link_40 ?_
          refine x_getR fl_X1_32 (sh_297 hS) (lq_297 hS) (rf_297_0 hS) dX1_link_41 ?_
          refine x_getR fl_X1_51 (sh_1 hS) (lq_1 hS) (rf_1_6 hS) dX1_link_44 ?_
          refine x_getR fl_X1_83 (sh_134 hS) (lq_134 hS) (rf_134_0 hS) dX1_link_47 ?_
          refine x_il4 dX1_link_50 ?_
          refine x_iald (sh_135 hS) (lq_135 hS) (by omega) (by omega) dX1_link_52 ?_
          refine x_topI (a' := V 135 (V 298 x)) rfl ?_
          refine x_al0 dX1_link_53 ?_
          refine x_getR fl_X1_32 (sh_297 hS) (lq_297 hS) (rf_297_0 hS) dX1_link_54 ?_
          refine x_getR fl_X1_51 (sh_1 hS) (lq_1 hS) (rf_1_6 hS) dX1_link_57 ?_
          refine x_getR fl_X1_83 (sh_134 hS) (lq_134 hS) (rf_134_0 hS) dX1_link_60 ?_
          refine x_il2 dX1_link_63 ?_
          refine x_iald (sh_135 hS) (lq_135 hS) (by omega) (by omega) dX1_link_64 ?_
          refine x_topI (a' := V 135 (V 298 place)) rfl ?_
          refine x_icmp_ne (tgt := 72) dX1_link_65 (inr (by omega)) (inr (by omega)) (fun c65_3 => ?_) (fun c65_3 => ?_)
          · -- 65 ne -> 72
            refine x_lconst1 dX1_link_72 ?_
            have ht := c65_3
            refine x_ls5 dX1_link_73 ?_
            refine x_al0 dX1_link_75 ?_
            refine x_getR fl_X1_15 (sh_297 hS) (lq_297 hS) (rf_297_2 hS) dX1_link_76 ?_
            refine x_al0 dX1_link_79 ?_
            refine x_getI fl_X1_76 (sh_297 hS) (lq_297 hS) dX1_link_80 ?_
            refine x_topI (a' := c) (show (ua (V 297) 4 c) 4 = c from (ua_same _ _ _)) ?_
            refine x_iconst dX1_link_83 ?_
            refine x_il3 dX1_link_84 ?_
            refine x_shl1 (by omega) (by omega) dX1_link_85 ?_
            refine x_iast (sh_299 hS) (lq_299 hS) (by omega) (by omega) dX1_link_86 ?_
            refine x_mem (V' := (up (up (up V 297 (ua (V 297) 4 c)) 299 (ua bt c (p2 x))) 300 pc)) (st2_c (by decide) (st2_up _ _ _ _ _)) ?_
            refine x_al0 dX1_link_87 ?_
            refine x_getR fl_X1_18 (sh_297 hS) (lq_297 hS) (rf_297_3 hS) dX1_link_88 ?_
            refine x_al0 dX1_link_91 ?_
            refine x_getI fl_X1_76 (sh_297 hS) (lq_297 hS) dX1_link_92 ?_
            refine x_topI (a' := c) (show (ua (V 297) 4 c) 4 = c from (ua_same _ _ _)) ?_
            refine x_ll5 dX1_link_95 ?_
            refine x_bipush dX1_link_97 ?_
            refine x_lshl (by decide) (by decide) dX1_link_99 ?_
            refine x_il4 dX1_link_100 ?_
            refine x_i2l (inr (by omega)) dX1_link_102 ?_
            refine x_lconst1 dX1_link_103 ?_
            refine x_ladd dX1_link_104 ?_
            refine x_il2 dX1_link_105 ?_
            refine x_cSi mm_X1_digitOf ml_X1_41 dX1_link_106 (c_X1_digitOf (V 298 place) (by omega)) ?_
            refine x_lshl (by omega) (by omega) dX1_link_109 ?_
            refine x_ladd dX1_link_110 ?_
            refine x_last (sh_300 hS) (lq_300 hS) (by omega) (by omega) dX1_link_111 ?_
            refine x_mem (V' := (up (up (up V 297 (ua (V 297) 4 c)) 299 (ua bt c (p2 x))) 300 (ua pc c ((1 * p2 48) + (((V 298 x) + 1) * p2 (4 * (11 - (V 298 place)))))))) (st2_up _ _ _ _ _) ?_
            refine x_al0 dX1_link_112 ?_
            refine x_dup dX1_link_113 ?_
            refine x_getI fl_X1_76 (sh_297 hS) (lq_297 hS) dX1_link_114 ?_
            refine x_topI (a' := c) (show (ua (V 297) 4 c) 4 = c from (ua_same _ _ _)) ?_
            refine x_iconst dX1_link_117 ?_
            refine x_iadd dX1_link_118 ?_
            refine x_putI fl_X1_76 (sh_297 hS) (lq_297 hS) dX1_link_119 ?_
            refine x_mem (V' := (up (up (up V 297 (ua (ua (V 297) 4 c) 4 (c + 1))) 299 (ua bt c (p2 x))) 300 (ua pc c ((1 * p2 48) + (((V 298 x) + 1) * p2 (4 * (11 - (V 298 place)))))))) (st2_c (by decide) (st2_c (by decide) (st2_up _ _ _ _ _))) ?_
            have hb := c37_2
            refine x_inc3 dX1_link_122 ?_
            refine x_goto (tgt := 14) dX1_link_125 ?_
            refine x_mem (V' := (up (up (up V 297 (ua (V 297) 4 (c + 1))) 299 (ua bt c (p2 x))) 300 (ua pc c ((1 * p2 48) + (((V 298 x) + 1) * p2 (4 * (11 - (V 298 place)))))))) (upE (upE (upE rfl (ua_ua _ _ _ _)) rfl) rfl) ?_
            exact x_fg (ih14 (x + 1) (c + 1) (ua sel c x) (ua bt c (p2 x)) (ua pc c ((1 * p2 48) + (((V 298 x) + 1) * p2 (4 * (11 - (V 298 place)))))) (by omega) (by omega) (by first | exact LkI_no hL hx.1 hb | exact LkI_on hL hx.1 hb rfl (lkP_0 ht) | exact LkI_on hL hx.1 hb rfl (lkP_1 ht)) (by omega)) (And.intro rfl (And.intro rfl (And.intro rfl (And.intro rfl trivial))))
          · -- 65 ne -> 68
            refine x_lconst0 dX1_link_68 ?_
            refine x_goto (tgt := 73) dX1_link_69 ?_
            have ht := c65_3
            refine x_ls5 dX1_link_73 ?_
            refine x_al0 dX1_link_75 ?_
            refine x_getR fl_X1_15 (sh_297 hS) (lq_297 hS) (rf_297_2 hS) dX1_link_76 ?_
            refine x_al0 dX1_link_79 ?_
            refine x_getI fl_X1_76 (sh_297 hS) (lq_297 hS) dX1_link_80 ?_
            refine x_topI (a' := c) (show (ua (V 297) 4 c) 4 = c from (ua_same _ _ _)) ?_
            refine x_iconst dX1_link_83 ?_
            refine x_il3 dX1_link_84 ?_
            refine x_shl1 (by omega) (by omega) dX1_link_85 ?_
            refine x_iast (sh_299 hS) (lq_299 hS) (by omega) (by omega) dX1_link_86 ?_
            refine x_mem (V' := (up (up (up V 297 (ua (V 297) 4 c)) 299 (ua bt c (p2 x))) 300 pc)) (st2_c (by decide) (st2_up _ _ _ _ _)) ?_
            refine x_al0 dX1_link_87 ?_
            refine x_getR fl_X1_18 (sh_297 hS) (lq_297 hS) (rf_297_3 hS) dX1_link_88 ?_
            refine x_al0 dX1_link_91 ?_
            refine x_getI fl_X1_76 (sh_297 hS) (lq_297 hS) dX1_link_92 ?_
            refine x_topI (a' := c) (show (ua (V 297) 4 c) 4 = c from (ua_same _ _ _)) ?_
            refine x_ll5 dX1_link_95 ?_
            refine x_bipush dX1_link_97 ?_
            refine x_lshl (by decide) (by decide) dX1_link_99 ?_
            refine x_il4 dX1_link_100 ?_
            refine x_i2l (inr (by omega)) dX1_link_102 ?_
            refine x_lconst1 dX1_link_103 ?_
            refine x_ladd dX1_link_104 ?_
            refine x_il2 dX1_link_105 ?_
            refine x_cSi mm_X1_digitOf ml_X1_41 dX1_link_106 (c_X1_digitOf (V 298 place) (by omega)) ?_
            refine x_lshl (by omega) (by omega) dX1_link_109 ?_
            refine x_ladd dX1_link_110 ?_
            refine x_last (sh_300 hS) (lq_300 hS) (by omega) (by omega) dX1_link_111 ?_
            refine x_mem (V' := (up (up (up V 297 (ua (V 297) 4 c)) 299 (ua bt c (p2 x))) 300 (ua pc c ((0 * p2 48) + (((V 298 x) + 1) * p2 (4 * (11 - (V 298 place)))))))) (st2_up _ _ _ _ _) ?_
            refine x_al0 dX1_link_112 ?_
            refine x_dup dX1_link_113 ?_
            refine x_getI fl_X1_76 (sh_297 hS) (lq_297 hS) dX1_link_114 ?_
            refine x_topI (a' := c) (show (ua (V 297) 4 c) 4 = c from (ua_same _ _ _)) ?_
            refine x_iconst dX1_link_117 ?_
            refine x_iadd dX1_link_118 ?_
            refine x_putI fl_X1_76 (sh_297 hS) (lq_297 hS) dX1_link_119 ?_
            refine x_mem (V' := (up (up (up V 297 (ua (ua (V 297) 4 c) 4 (c + 1))) 299 (ua bt c (p2 x))) 300 (ua pc c ((0 * p2 48) + (((V 298 x) + 1) * p2 (4 * (11 - (V 298 place)))))))) (st2_c (by decide) (st2_c (by decide) (st2_up _ _ _ _ _))) ?_
            have hb := c37_2
            refine x_inc3 dX1_link_122 ?_
            refine x_goto (tgt := 14) dX1_link_125 ?_
            refine x_mem (V' := (up (up (up V 297 (ua (V 297) 4 (c + 1))) 299 (ua bt c (p2 x))) 300 (ua pc c ((0 * p2 48) + (((V 298 x) + 1) * p2 (4 * (11 - (V 298 place)))))))) (upE (upE (upE rfl (ua_ua _ _ _ _)) rfl) rfl) ?_
            exact x_fg (ih14 (x + 1) (c + 1) (ua sel c x) (ua bt c (p2 x)) (ua pc c ((0 * p2 48) + (((V 298 x) + 1) * p2 (4 * (11 - (V 298 place)))))) (by omega) (by omega) (by first | exact LkI_no hL hx.1 hb | exact LkI_on hL hx.1 hb rfl (lkP_0 ht) | exact LkI_on hL hx.1 hb rfl (lkP_1 ht)) (by omega)) (And.intro rfl (And.intro rfl (And.intro rfl (And.intro rfl trivial))))
  refine x_mem (V' := (up (up (up V 297 (ua (V 297) 4 0)) 299 (V 299)) 300 (V 300))) (Eq.trans (show _ = (up (up V 297 (ua (V 297) 4 0)) 299 (V 299)) from (Eq.symm (up_self _ 299))) (show _ = (up (up (up V 297 (ua (V 297) 4 0)) 299 (V 299)) 300 (V 300)) from (Eq.symm (up_self _ 300)))) ?_
  exact x_fg (lp14 _ 0 0 (V 299) (V 299) (V 300) (by omega) (by omega) (LkI_0 _ _ _ _ _) (Nat.lt_succ_self _)) (And.intro rfl (And.intro rfl (And.intro rfl (And.intro rfl trivial))))
