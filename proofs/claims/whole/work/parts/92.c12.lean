set_option maxRecDepth 100000 in
set_option maxHeartbeats 4000000 in
theorem c_X4_gather {B : Bs} {S : Stt} {V : Va} (hS : Stat S) (h17 : 0 ≤ (V 1 7) ∧ (V 1 7) ≤ 10) (hset : 1 ≤ (V 303 6) ∧ (V 303 6) < p2 (V 1 7)) (h8 : bN (V 303 6) 16 ≤ 8) (hA2 : AB (V 2)) (hA3 : AB (V 3)) (hXY : ∀ s t, 0 ≤ s → s < (V 1 7) → 0 ≤ t → t < (V 1 7) → 0 ≤ cMiles V s t ∧ cMiles V s t ≤ 198) (hD6 : ∀ q, 0 ≤ (V 306) q ∧ (V 306) q ≤ 198) : C B yX4_gather cX4_gather 3 none 2 0 0 [vR B 303] S V (rVR S (fun VN => ∃ c tw bw, VN = up (up (up V 303 (ua (V 303) 5 c)) 304 tw) 306 bw ∧ ColT (V 303 6) c (V 1 7) tw ∧ (∀ i j, 0 ≤ i → i < c → 0 ≤ j → j < c → bw (i * 8 + j) = cMiles V (tw i) (tw j)) ∧ ∀ q, 0 ≤ bw q ∧ bw q ≤ 198)) := by
  refine C.of [some (vR B 303), none, none] ?_
  intro Γ hQ
  have hpb := p2_le (t := V 1 7) (u := 10) (by omega)
  have hp10 : p2 10 = 1024 := by decide
  have h8t : bN (V 303 6) (V 1 7) ≤ 8 := by have z := bN_top (set := V 303 6) (t := V 1 7) (by omega) hset.2 h17.1 (16 - V 1 7).toNat; rw [show V 1 7 + (((16 - V 1 7).toNat : Nat) : Int) = 16 by omega] at z; omega
  have ct64 : ∀ (c : Int) (tw : Int → Int), (0 ≤ c ∧ c ≤ 8) → (ColT (V 303 6) c (V 1 7) tw) → X Γ B RX4 "gather" cX4_gather 3 none 2 0 0 64 [some (vR B 303), none, none] [] 0 0 S (up (up V 303 (ua (V 303) 5 c)) 304 tw) := by
    intro c tw hc hC
    have h3 := hC.2.2.1
    refine x_iconst dX4_gather_64 ?_
    refine x_is1 dX4_gather_65 ?_
    have lp66 : ∀ (N66 : Nat) (i : Int) (bw : Int → Int), (0 ≤ i ∧ i ≤ c) → (∀ q, 0 ≤ bw q ∧ bw q ≤ 198) → (∀ x y, 0 ≤ x → x < i → 0 ≤ y → y < c → bw (x * 8 + y) = cMiles V (tw x) (tw y)) → (c - i).toNat < N66 → X Γ B RX4 "gather" cX4_gather 3 none 2 0 0 66 [some (vR B 303), some (vI i), none] [] 0 0 S (up (up (up V 303 (ua (V 303) 5 c)) 304 tw) 306 bw) := by
      intro N66
      induction N66 with
      | zero => intro i bw hi hbw hbi hN; exact absurd hN (Nat.not_lt_zero _)
      | succ N66 ih66 =>
        intro i bw hi hbw hbi hN66
        refine x_il1 dX4_gather_66 ?_
        refine x_al0 dX4_gather_67 ?_
        refine x_getI fl_X4_53 (sh_303 hS) (lq_303 hS) dX4_gather_68 ?_
        refine x_topI (a' := c) (show (ua (V 303) 5 c) 5 = c from (ua_same _ _ _)) ?_
        refine x_icmp_ge (tgt := 126) dX4_gather_71 (inr (by omega)) (inr (by omega)) (fun c71_1 => ?_) (fun c71_1 => ?_)
        · -- 71 ge -> 126
          exact x_vret hQ ⟨rfl, rfl, c, tw, bw, rfl, hC, (fun x y x0 x1 y0 y1 => hbi x y x0 (by omega) y0 y1), hbw⟩ dX4_gather_126
        · -- 71 ge -> 74
          refine x_iconst dX4_gather_74 ?_
          refine x_is2 dX4_gather_75 ?_
          have lp76 : ∀ (N76 : Nat) (j : Int) (bw : Int → Int), (0 ≤ j ∧ j ≤ c) → (∀ q, 0 ≤ bw q ∧ bw q ≤ 198) → (∀ x y, 0 ≤ x → x ≤ i → 0 ≤ y → y < c → (x < i ∨ y < j) → bw (x * 8 + y) = cMiles V (tw x) (tw y)) → (c - j).toNat < N76 → X Γ B RX4 "gather" cX4_gather 3 none 2 0 0 76 [some (vR B 303), some (vI i), some (vI j)] [] 0 0 S (up (up (up V 303 (ua (V 303) 5 c)) 304 tw) 306 bw) := by
            intro N76
            induction N76 with
            | zero => intro j bw hj hbw2 hbj hN; exact absurd hN (Nat.not_lt_zero _)
            | succ N76 ih76 =>
              intro j bw hj hbw2 hbj hN76
              refine x_il2 dX4_gather_76 ?_
              refine x_al0 dX4_gather_77 ?_
              refine x_getI fl_X4_53 (sh_303 hS) (lq_303 hS) dX4_gather_78 ?_
              refine x_topI (a' := c) (show (ua (V 303) 5 c) 5 = c from (ua_same _ _ _)) ?_
              refine x_icmp_ge (tgt := 120) dX4_gather_81 (inr (by omega)) (inr (by omega)) (fun c81_2 => ?_) (fun c81_2 => ?_)
              · -- 81 ge -> 120
                refine x_inc1 dX4_gather_120 ?_
                refine x_goto (tgt := 66) dX4_gather_123 ?_
                exact x_fg (ih66 (i + 1) bw (by omega) hbw2 (fun x y x0 x1 y0 y1 => hbj x y x0 (by omega) y0 y1 (by omega)) (by omega)) (And.intro rfl (And.intro rfl trivial))
              · -- 81 ge -> 84
                have k1 := h3 i (by omega) (by omega)
                have k2 := h3 j (by omega) (by omega)
                refine x_al0 dX4_gather_84 ?_
                refine x_getR fl_X4_18 (sh_303 hS) (lq_303 hS) (rf_303_3 hS) dX4_gather_85 ?_
                refine x_il1 dX4_gather_88 ?_
                refine x_bipush dX4_gather_89 ?_
                refine x_imul dX4_gather_91 ?_
                refine x_il2 dX4_gather_92 ?_
                refine x_iadd dX4_gather_93 ?_
                refine x_al0 dX4_gather_94 ?_
                refine x_getR fl_X4_28 (sh_303 hS) (lq_303 hS) (rf_303_0 hS) dX4_gather_95 ?_
                refine x_al0 dX4_gather_98 ?_
                refine x_getR fl_X4_9 (sh_303 hS) (lq_303 hS) (rf_303_1 hS) dX4_gather_99 ?_
                refine x_il1 dX4_gather_102 ?_
                refine x_iald (sh_304 hS) (lq_304 hS) (by omega) (by omega) dX4_gather_103 ?_
                refine x_topI (a' := tw i) rfl ?_
                refine x_al0 dX4_gather_104 ?_
                refine x_getR fl_X4_9 (sh_303 hS) (lq_303 hS) (rf_303_1 hS) dX4_gather_105 ?_
                refine x_il2 dX4_gather_108 ?_
                refine x_iald (sh_304 hS) (lq_304 hS) (by omega) (by omega) dX4_gather_109 ?_
                refine x_topI (a' := tw j) rfl ?_
                refine x_cVi mm_X9_milesBetween ml_X4_58 dX4_gather_110 (c_X9_milesBetween (tw i) (tw j) hS (show AB (V 2) from hA2) (show AB (V 3) from hA3) (by omega) (by omega)) (sh_1 hS) (lq_1 hS) ?_
                refine x_iast (sh_306 hS) (lq_306 hS) (by omega) (by omega) dX4_gather_113 ?_
                refine x_mem (V' := (up (up (up V 303 (ua (V 303) 5 c)) 304 tw) 306 (ua bw ((i * 8) + j) (cMiles (up (up (up V 303 (ua (V 303) 5 c)) 304 tw) 306 bw) (tw i) (tw j))))) (st2_up _ _ _ _ _) ?_
                refine x_inc2 dX4_gather_114 ?_
                refine x_goto (tgt := 76) dX4_gather_117 ?_
                exact x_fg (ih76 (j + 1) (ua bw ((i * 8) + j) (cMiles (up (up (up V 303 (ua (V 303) 5 c)) 304 tw) 306 bw) (tw i) (tw j))) (by omega) (fun q => by simp only [ua]; split; (exact hXY (tw i) (tw j) (by omega) (by omega) (by omega) (by omega)); (exact hbw2 q)) (fun x y x0 x1 y0 y1 z => by by_cases e : x = i ∧ y = j; (rw [e.1, e.2, ua_same]; rfl); (rw [ua_ne (by omega)]; exact hbj x y x0 x1 y0 y1 (by omega))) (by omega)) (And.intro rfl (And.intro rfl (And.intro rfl trivial)))
          exact x_fg (lp76 _ 0 bw (by omega) hbw (fun x y x0 x1 y0 y1 z => hbi x y x0 (by omega) y0 y1) (Nat.lt_succ_self _)) (And.intro rfl (And.intro rfl (And.intro rfl trivial)))
    refine x_mem (V' := (up (up (up V 303 (ua (V 303) 5 c)) 304 tw) 306 (V 306))) (show _ = (up (up (up V 303 (ua (V 303) 5 c)) 304 tw) 306 (V 306)) from (Eq.symm (up_self _ 306))) ?_
    exact x_fg (lp66 _ 0 (V 306) (by omega) hD6 (fun x y x0 x1 => by omega) (Nat.lt_succ_self _)) (And.intro rfl (And.intro rfl trivial))
  refine x_al0 dX4_gather_0 ?_
  refine x_iconst dX4_gather_1 ?_
  refine x_putI fl_X4_53 (sh_303 hS) (lq_303 hS) dX4_gather_2 ?_
  refine x_mem (V' := (up V 303 (ua (V 303) 5 0))) rfl ?_
  refine x_iconst dX4_gather_5 ?_
  refine x_is1 dX4_gather_6 ?_
  have lp7 : ∀ (N7 : Nat) (t : Int) (c : Int) (tw : Int → Int), (0 ≤ t ∧ t ≤ V 1 7) → (0 ≤ c ∧ c ≤ 8) → (ColT (V 303 6) c t tw) → (V 1 7 - t).toNat < N7 → X Γ B RX4 "gather" cX4_gather 3 none 2 0 0 7 [some (vR B 303), some (vI t), none] [] 0 0 S (up (up V 303 (ua (V 303) 5 c)) 304 tw) := by
    intro N7
    induction N7 with
    | zero => intro t c tw ht hc hC hN; exact absurd hN (Nat.not_lt_zero _)
    | succ N7 ih7 =>
      intro t c tw ht hc hC hN7
      refine x_il1 dX4_gather_7 ?_
      refine x_al0 dX4_gather_8 ?_
      refine x_getR fl_X4_28 (sh_303 hS) (lq_303 hS) (rf_303_0 hS) dX4_gather_9 ?_
      refine x_getI fl_X4_56 (sh_1 hS) (lq_1 hS) dX4_gather_12 ?_
      refine x_topI (a' := V 1 7) rfl ?_
      refine x_icmp_ge (tgt := 64) dX4_gather_15 (inr (by omega)) (inr (by omega)) (fun c15_3 => ?_) (fun c15_3 => ?_)
      · -- 15 ge -> 64
        exact x_fg (ct64 c tw (by omega) (by first | (have q := hC; rw [show t = V 1 7 by omega] at q; exact q) | (have q := hC; rw [show c = 8 by omega] at q ⊢; exact ColT_full q (by omega) h8t))) (And.intro rfl trivial)
      · -- 15 ge -> 18
        refine x_al0 dX4_gather_18 ?_
        refine x_getI fl_X4_53 (sh_303 hS) (lq_303 hS) dX4_gather_19 ?_
        refine x_topI (a' := c) (show (ua (V 303) 5 c) 5 = c from (ua_same _ _ _)) ?_
        refine x_bipush dX4_gather_22 ?_
        refine x_icmp_ge (tgt := 64) dX4_gather_24 (inr (by omega)) (inr (by decide)) (fun c24_4 => ?_) (fun c24_4 => ?_)
        · -- 24 ge -> 64
          exact x_fg (ct64 c tw (by omega) (by first | (have q := hC; rw [show t = V 1 7 by omega] at q; exact q) | (have q := hC; rw [show c = 8 by omega] at q ⊢; exact ColT_full q (by omega) h8t))) (And.intro rfl trivial)
        · -- 24 ge -> 27
          refine x_al0 dX4_gather_27 ?_
          refine x_getI fl_X4_24 (sh_303 hS) (lq_303 hS) dX4_gather_28 ?_
          refine x_topI (a' := V 303 6) (show (ua (V 303) 5 c) 6 = V 303 6 from (ua_ne (by decide))) ?_
          refine x_il1 dX4_gather_31 ?_
          refine x_ishr (inr (by omega)) (by omega) (by omega) dX4_gather_32 ?_
          refine x_iconst dX4_gather_33 ?_
          refine x_and1 dX4_gather_34 ?_
          refine x_if_eq (tgt := 58) dX4_gather_35 (inr (by omega)) (fun c35_5 => ?_) (fun c35_5 => ?_)
          · -- 35 eq -> 58
            refine x_inc1 dX4_gather_58 ?_
            refine x_goto (tgt := 7) dX4_gather_61 ?_
            exact x_fg (ih7 (t + 1) c tw (by omega) (by omega) (by first | exact ColT_on hC ht.1 (by omega) | exact ColT_no hC ht.1 (by omega)) (by omega)) (And.intro rfl (And.intro rfl trivial))
          · -- 35 eq -> 38
            refine x_al0 dX4_gather_38 ?_
            refine x_getR fl_X4_9 (sh_303 hS) (lq_303 hS) (rf_303_1 hS) dX4_gather_39 ?_
            refine x_al0 dX4_gather_42 ?_
            refine x_getI fl_X4_53 (sh_303 hS) (lq_303 hS) dX4_gather_43 ?_
            refine x_topI (a' := c) (show (ua (V 303) 5 c) 5 = c from (ua_same _ _ _)) ?_
            refine x_il1 dX4_gather_46 ?_
            refine x_iast (sh_304 hS) (lq_304 hS) (by omega) (by omega) dX4_gather_47 ?_
            refine x_mem (V' := (up (up V 303 (ua (V 303) 5 c)) 304 (ua tw c t))) (st2_up _ _ _ _ _) ?_
            refine x_al0 dX4_gather_48 ?_
            refine x_dup dX4_gather_49 ?_
            refine x_getI fl_X4_53 (sh_303 hS) (lq_303 hS) dX4_gather_50 ?_
            refine x_topI (a' := c) (show (ua (V 303) 5 c) 5 = c from (ua_same _ _ _)) ?_
            refine x_iconst dX4_gather_53 ?_
            refine x_iadd dX4_gather_54 ?_
            refine x_putI fl_X4_53 (sh_303 hS) (lq_303 hS) dX4_gather_55 ?_
            refine x_mem (V' := (up (up V 303 (ua (ua (V 303) 5 c) 5 (c + 1))) 304 (ua tw c t))) (st2_c (by decide) (st2_up _ _ _ _ _)) ?_
            refine x_inc1 dX4_gather_58 ?_
            refine x_goto (tgt := 7) dX4_gather_61 ?_
            refine x_mem (V' := (up (up V 303 (ua (V 303) 5 (c + 1))) 304 (ua tw c t))) (upE (upE rfl (ua_ua _ _ _ _)) rfl) ?_
            exact x_fg (ih7 (t + 1) (c + 1) (ua tw c t) (by omega) (by omega) (by first | exact ColT_on hC ht.1 (by omega) | exact ColT_no hC ht.1 (by omega)) (by omega)) (And.intro rfl (And.intro rfl trivial))
  refine x_mem (V' := (up (up V 303 (ua (V 303) 5 0)) 304 (V 304))) (show _ = (up (up V 303 (ua (V 303) 5 0)) 304 (V 304)) from (Eq.symm (up_self _ 304))) ?_
  exact x_fg (lp7 _ 0 0 (V 304) (by omega) (by omega) (ColT_0 _ _) (Nat.lt_succ_self _)) (And.intro rfl (And.intro rfl trivial))
