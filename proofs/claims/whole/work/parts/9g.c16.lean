set_option maxRecDepth 100000 in
set_option maxHeartbeats 4000000 in
theorem c_X1_digitOf {B : Bs} {S : Stt} {V : Va} (one : Int) (ho : 0 ≤ one ∧ one ≤ 11) : C B yX1_digitOf cX1_digitOf 1 (some .int) 1 0 0 [vI one] S V (rI S V (4 * (11 - one))) := by
  refine C.of [some (vI one)] ?_
  intro Γ hQ
  refine x_iconst dX1_digitOf_0 ?_
  refine x_bipush dX1_digitOf_1 ?_
  refine x_il0 dX1_digitOf_3 ?_
  refine x_isub dX1_digitOf_4 ?_
  refine x_imul dX1_digitOf_5 ?_
  exact x_iret hQ (rI.mk (by first | rfl | omega | (rw [if_pos (by omega)]) | (rw [if_neg (by omega)])) rfl) dX1_digitOf_6
set_option maxRecDepth 100000 in
set_option maxHeartbeats 4000000 in
theorem c_X1_sortByYear {B : Bs} {S : Stt} {V : Va} (hS : Stat S) (hq4 : 0 ≤ (V 134 4) ∧ (V 134 4) ≤ 12) (hyr : ∀ s, 0 ≤ (V 138) s ∧ (V 138) s ≤ 999) : C B yX1_sortByYear cX1_sortByYear 4 none 1 0 0 [vR B 297] S V (rVR S (fun VN => ∃ o, VN = up V 298 o ∧ PmS o (V 134 4) ∧ Srt (V 138) o (V 134 4))) := by
  refine C.of [some (vR B 297), none, none, none] ?_
  intro Γ hQ
  refine x_al0 dX1_sortByYear_0 ?_
  refine x_getR fl_X1_32 (sh_297 hS) (lq_297 hS) (rf_297_0 hS) dX1_sortByYear_1 ?_
  refine x_getR fl_X1_51 (sh_1 hS) (lq_1 hS) (rf_1_6 hS) dX1_sortByYear_4 ?_
  refine x_getR fl_X1_73 (sh_134 hS) (lq_134 hS) (rf_134_3 hS) dX1_sortByYear_7 ?_
  refine x_as1 dX1_sortByYear_10 ?_
  refine x_iconst dX1_sortByYear_11 ?_
  refine x_is2 dX1_sortByYear_12 ?_
  have lp13 : ∀ (N13 : Nat) (i : Int) (o : Int → Int), (0 ≤ i ∧ i ≤ V 134 4) → (PmS o i) → (Srt (V 138) o i) → (V 134 4 - i).toNat < N13 → X Γ B RX1 "sortByYear" cX1_sortByYear 4 none 1 0 0 13 [some (vR B 297), some (vR B 138), some (vI i), none] [] 0 0 S (up V 298 o) := by
    intro N13
    induction N13 with
    | zero => intro i o hi hP hR hN; exact absurd hN (Nat.not_lt_zero _)
    | succ N13 ih13 =>
      intro i o hi hP hR hN13
      refine x_il2 dX1_sortByYear_13 ?_
      refine x_al0 dX1_sortByYear_14 ?_
      refine x_getR fl_X1_32 (sh_297 hS) (lq_297 hS) (rf_297_0 hS) dX1_sortByYear_15 ?_
      refine x_getR fl_X1_51 (sh_1 hS) (lq_1 hS) (rf_1_6 hS) dX1_sortByYear_18 ?_
      refine x_getI fl_X1_55 (sh_134 hS) (lq_134 hS) dX1_sortByYear_21 ?_
      refine x_topI (a' := V 134 4) rfl ?_
      refine x_icmp_ge (tgt := 82) dX1_sortByYear_24 (inr (by omega)) (inr (by omega)) (fun c24_1 => ?_) (fun c24_1 => ?_)
      · -- 24 ge -> 82
        exact x_vret hQ ⟨rfl, rfl, o, rfl, (by have q := hP; rw [show i = V 134 4 by omega] at q; exact q), (by have q := hR; rw [show i = V 134 4 by omega] at q; exact q)⟩ dX1_sortByYear_82
      · -- 24 ge -> 27
        refine x_il2 dX1_sortByYear_27 ?_
        refine x_is3 dX1_sortByYear_28 ?_
        have lp29 : ∀ (N29 : Nat) (k : Int) (o : Int → Int), (0 ≤ k ∧ k ≤ i) → (PmH o i k) → (SrH (V 138) o i k) → k.toNat < N29 → X Γ B RX1 "sortByYear" cX1_sortByYear 4 none 1 0 0 29 [some (vR B 297), some (vR B 138), some (vI i), some (vI k)] [] 0 0 S (up V 298 o) := by
          intro N29
          induction N29 with
          | zero => intro k o hk hH hG hN; exact absurd hN (Nat.not_lt_zero _)
          | succ N29 ih29 =>
            intro k o hk hH hG hN29
            refine x_il3 dX1_sortByYear_29 ?_
            refine x_if_le (tgt := 69) dX1_sortByYear_30 (inr (by omega)) (fun c30_2 => ?_) (fun c30_2 => ?_)
            · -- 30 le -> 69
              refine x_al0 dX1_sortByYear_69 ?_
              refine x_getR fl_X1_11 (sh_297 hS) (lq_297 hS) (rf_297_1 hS) dX1_sortByYear_70 ?_
              refine x_il3 dX1_sortByYear_73 ?_
              refine x_il2 dX1_sortByYear_74 ?_
              refine x_iast (sh_298 hS) (lq_298 hS) (by omega) (by omega) dX1_sortByYear_75 ?_
              refine x_mem (V' := (up V 298 (ua o k i))) (st2_up _ _ _ _ _) ?_
              refine x_inc2 dX1_sortByYear_76 ?_
              refine x_goto (tgt := 13) dX1_sortByYear_79 ?_
              exact x_fg (ih13 (i + 1) (ua o k i) (by omega) (PmH_e hH) (SrH_e hk.1 hk.2 (fun _ => by omega) hG) (by omega)) (And.intro rfl (And.intro rfl (And.intro rfl trivial)))
            · -- 30 le -> 33
              have r1 := hG.1 (k - 1) (by omega) (by omega) (by omega)
              have y1 := hyr (o (k - 1))
              have y2 := hyr i
              refine x_al1 dX1_sortByYear_33 ?_
              refine x_al0 dX1_sortByYear_34 ?_
              refine x_getR fl_X1_11 (sh_297 hS) (lq_297 hS) (rf_297_1 hS) dX1_sortByYear_35 ?_
              refine x_il3 dX1_sortByYear_38 ?_
              refine x_iconst dX1_sortByYear_39 ?_
              refine x_isub dX1_sortByYear_40 ?_
              refine x_iald (sh_298 hS) (lq_298 hS) (by omega) (by omega) dX1_sortByYear_41 ?_
              refine x_topI (a' := o (k - 1)) rfl ?_
              refine x_iald (sh_138 hS) (lq_138 hS) (by omega) (by omega) dX1_sortByYear_42 ?_
              refine x_topI (a' := V 138 (o (k - 1))) rfl ?_
              refine x_al1 dX1_sortByYear_43 ?_
              refine x_il2 dX1_sortByYear_44 ?_
              refine x_iald (sh_138 hS) (lq_138 hS) (by omega) (by omega) dX1_sortByYear_45 ?_
              refine x_topI (a' := V 138 i) rfl ?_
              refine x_icmp_le (tgt := 69) dX1_sortByYear_46 (inr (by omega)) (inr (by omega)) (fun c46_3 => ?_) (fun c46_3 => ?_)
              · -- 46 le -> 69
                refine x_al0 dX1_sortByYear_69 ?_
                refine x_getR fl_X1_11 (sh_297 hS) (lq_297 hS) (rf_297_1 hS) dX1_sortByYear_70 ?_
                refine x_il3 dX1_sortByYear_73 ?_
                refine x_il2 dX1_sortByYear_74 ?_
                refine x_iast (sh_298 hS) (lq_298 hS) (by omega) (by omega) dX1_sortByYear_75 ?_
                refine x_mem (V' := (up V 298 (ua o k i))) (st2_up _ _ _ _ _) ?_
                refine x_inc2 dX1_sortByYear_76 ?_
                refine x_goto (tgt := 13) dX1_sortByYear_79 ?_
                exact x_fg (ih13 (i + 1) (ua o k i) (by omega) (PmH_e hH) (SrH_e hk.1 hk.2 (fun _ => by omega) hG) (by omega)) (And.intro rfl (And.intro rfl (And.intro rfl trivial)))
              · -- 46 le -> 49
                refine x_al0 dX1_sortByYear_49 ?_
                refine x_getR fl_X1_11 (sh_297 hS) (lq_297 hS) (rf_297_1 hS) dX1_sortByYear_50 ?_
                refine x_il3 dX1_sortByYear_53 ?_
                refine x_al0 dX1_sortByYear_54 ?_
                refine x_getR fl_X1_11 (sh_297 hS) (lq_297 hS) (rf_297_1 hS) dX1_sortByYear_55 ?_
                refine x_il3 dX1_sortByYear_58 ?_
                refine x_iconst dX1_sortByYear_59 ?_
                refine x_isub dX1_sortByYear_60 ?_
                refine x_iald (sh_298 hS) (lq_298 hS) (by omega) (by omega) dX1_sortByYear_61 ?_
                refine x_topI (a' := o (k - 1)) rfl ?_
                refine x_iast (sh_298 hS) (lq_298 hS) (by omega) (by omega) dX1_sortByYear_62 ?_
                refine x_mem (V' := (up V 298 (ua o k (o (k - 1))))) (st2_up _ _ _ _ _) ?_
                refine x_dec3 dX1_sortByYear_63 ?_
                refine x_goto (tgt := 29) dX1_sortByYear_66 ?_
                exact x_fg (ih29 (k - 1) (ua o k (o (k - 1))) (by omega) (PmH_s (by omega) hk.2 hH) (SrH_s (by omega) hk.2 (by omega) hG) (by omega)) (And.intro rfl (And.intro rfl (And.intro rfl (And.intro rfl trivial))))
        exact x_fg (lp29 _ i o (by omega) (PmH_0 hi.1 hP) (SrH_0 hR) (Nat.lt_succ_self _)) (And.intro rfl (And.intro rfl (And.intro rfl (And.intro rfl trivial))))
  refine x_mem (V' := (up V 298 (V 298))) (show _ = (up V 298 (V 298)) from (Eq.symm (up_self _ 298))) ?_
  exact x_fg (lp13 _ 0 (V 298) (by omega) (PmS_0 _) (Srt_0 _ _) (Nat.lt_succ_self _)) (And.intro rfl (And.intro rfl (And.intro rfl trivial)))
