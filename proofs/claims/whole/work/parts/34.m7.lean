set_option maxRecDepth 100000 in
set_option maxHeartbeats 4000000 in
theorem c_X11_mayBe {B : Bs} {S : Stt} {V : Va} (i : Int) (j : Int) (set : Int) (hS : Stat S) (hz : TRb (V 323)) (hi : 0 ≤ i ∧ i < 12) (hj : -1 ≤ j ∧ j < 12) (hset : 0 ≤ set ∧ set < 4096) : C B yX11_mayBe cX11_mayBe 4 (some .boolean) 1 0 0 [vR B 308, vI i, vI j, vI set] S V (rI S V (if mOpt (V 323) i j set then 1 else 0)) := by
  refine C.of [some (vR B 308), some (vI i), some (vI j), some (vI set)] ?_
  intro Γ hQ
  refine x_il2 dX11_mayBe_0 ?_
  refine x_if_lt (tgt := 26) dX11_mayBe_1 (inr (by omega)) (fun c1_1 => ?_) (fun c1_1 => ?_)
  · -- 1 lt -> 26
    refine x_iconst dX11_mayBe_26 ?_
    refine x_goto (tgt := 31) dX11_mayBe_27 ?_
    exact x_zret hQ (rI.mk (by first | (rw [if_pos (by simp only [mOpt]; omega)]) | (rw [if_neg (by simp only [mOpt]; omega)])) rfl) (by decide) dX11_mayBe_31
  · -- 1 lt -> 4
    refine x_il3 dX11_mayBe_4 ?_
    refine x_il2 dX11_mayBe_5 ?_
    refine x_ishr (inr (by omega)) (by omega) (by omega) dX11_mayBe_6 ?_
    refine x_iconst dX11_mayBe_7 ?_
    refine x_and1 dX11_mayBe_8 ?_
    refine x_if_ne (tgt := 30) dX11_mayBe_9 (inr (by omega)) (fun c9_2 => ?_) (fun c9_2 => ?_)
    · -- 9 ne -> 30
      refine x_iconst dX11_mayBe_30 ?_
      exact x_zret hQ (rI.mk (by first | (rw [if_pos (by simp only [mOpt]; omega)]) | (rw [if_neg (by simp only [mOpt]; omega)])) rfl) (by decide) dX11_mayBe_31
    · -- 9 ne -> 12
      refine x_al0 dX11_mayBe_12 ?_
      refine x_getR fl_X11_62 (sh_308 hS) (lq_308 hS) (rf_308_32 hS) dX11_mayBe_13 ?_
      refine x_bipush dX11_mayBe_16 ?_
      refine x_il2 dX11_mayBe_18 ?_
      refine x_imul dX11_mayBe_19 ?_
      refine x_il1 dX11_mayBe_20 ?_
      refine x_iadd dX11_mayBe_21 ?_
      have hz1 := hz (12 * j + i)
      refine x_zald (sh_323 hS) (lq_323 hS) (by omega) (by omega) dX11_mayBe_22 ?_
      refine x_topI (a' := V 323 ((12 * j) + i)) rfl ?_
      refine x_if_eq (tgt := 30) dX11_mayBe_23 (inr (by omega)) (fun c23_3 => ?_) (fun c23_3 => ?_)
      · -- 23 eq -> 30
        refine x_iconst dX11_mayBe_30 ?_
        exact x_zret hQ (rI.mk (by first | (rw [if_pos (by simp only [mOpt]; omega)]) | (rw [if_neg (by simp only [mOpt]; omega)])) rfl) (by decide) dX11_mayBe_31
      · -- 23 eq -> 26
        refine x_iconst dX11_mayBe_26 ?_
        refine x_goto (tgt := 31) dX11_mayBe_27 ?_
        exact x_zret hQ (rI.mk (by first | (rw [if_pos (by simp only [mOpt]; omega)]) | (rw [if_neg (by simp only [mOpt]; omega)])) rfl) (by decide) dX11_mayBe_31
set_option maxRecDepth 100000 in
set_option maxHeartbeats 4000000 in
theorem c_X11_costOf {B : Bs} {S : Stt} {V : Va} (i : Int) (j : Int) (hS : Stat S) (hA : AB (V 309)) (hi : 0 ≤ i ∧ i < 12) (hj : -1 ≤ j ∧ j < 12) : C B yX11_costOf cX11_costOf 3 (some .int) 1 0 0 [vR B 308, vI i, vI j] S V (rI S V (mCo (V 309) i j)) := by
  refine C.of [some (vR B 308), some (vI i), some (vI j)] ?_
  intro Γ hQ
  refine x_il2 dX11_costOf_0 ?_
  refine x_if_ge (tgt := 9) dX11_costOf_1 (inr (by omega)) (fun c1_1 => ?_) (fun c1_1 => ?_)
  · -- 1 ge -> 9
    refine x_al0 dX11_costOf_9 ?_
    refine x_getR fl_X11_7 (sh_308 hS) (lq_308 hS) (rf_308_0 hS) dX11_costOf_10 ?_
    refine x_bipush dX11_costOf_13 ?_
    refine x_iconst dX11_costOf_15 ?_
    refine x_il1 dX11_costOf_16 ?_
    refine x_imul dX11_costOf_17 ?_
    refine x_iadd dX11_costOf_18 ?_
    have hb2 := hA (126 + (4 * i))
    refine x_iald (sh_309 hS) (lq_309 hS) (by omega) (by omega) dX11_costOf_19 ?_
    refine x_topI (a' := V 309 (126 + (4 * i))) rfl ?_
    refine x_al0 dX11_costOf_20 ?_
    refine x_getR fl_X11_7 (sh_308 hS) (lq_308 hS) (rf_308_0 hS) dX11_costOf_21 ?_
    refine x_bipush dX11_costOf_24 ?_
    refine x_iconst dX11_costOf_26 ?_
    refine x_il2 dX11_costOf_27 ?_
    refine x_imul dX11_costOf_28 ?_
    refine x_iadd dX11_costOf_29 ?_
    have hb3 := hA (126 + (4 * j))
    refine x_iald (sh_309 hS) (lq_309 hS) (by omega) (by omega) dX11_costOf_30 ?_
    refine x_topI (a' := V 309 (126 + (4 * j))) rfl ?_
    refine x_icmp_eq (tgt := 38) dX11_costOf_31 (inr (by omega)) (inr (by omega)) (fun c31_4 => ?_) (fun c31_4 => ?_)
    · -- 31 eq -> 38
      refine x_iconst dX11_costOf_38 ?_
      exact x_iret hQ (rI.mk (by simp only [mCo]; first | (rw [if_pos (by omega)]) | (rw [if_neg (by omega), if_pos (by omega)]) | (rw [if_neg (by omega), if_neg (by omega)])) rfl) dX11_costOf_39
    · -- 31 eq -> 34
      refine x_iconst dX11_costOf_34 ?_
      refine x_goto (tgt := 39) dX11_costOf_35 ?_
      exact x_iret hQ (rI.mk (by simp only [mCo]; first | (rw [if_pos (by omega)]) | (rw [if_neg (by omega), if_pos (by omega)]) | (rw [if_neg (by omega), if_neg (by omega)])) rfl) dX11_costOf_39
  · -- 1 ge -> 4
    refine x_bipush dX11_costOf_4 ?_
    refine x_goto (tgt := 39) dX11_costOf_6 ?_
    exact x_iret hQ (rI.mk (by simp only [mCo]; first | (rw [if_pos (by omega)]) | (rw [if_neg (by omega), if_pos (by omega)]) | (rw [if_neg (by omega), if_neg (by omega)])) rfl) dX11_costOf_39
set_option maxRecDepth 100000 in
set_option maxHeartbeats 4000000 in
theorem c_X11_behind {B : Bs} {S : Stt} {V : Va} (i : Int) (j : Int) (set : Int) (hi : 0 ≤ i ∧ i < 12) (hj : -1 ≤ j ∧ j < 12) (hset : 0 ≤ set ∧ set < 4096) : C B yX11_behind cX11_behind 4 (some .int) 1 0 0 [vR B 308, vI i, vI j, vI set] S V (rI S V (4096 * (i + 1) + mNx set j)) := by
  refine C.of [some (vR B 308), some (vI i), some (vI j), some (vI set)] ?_
  intro Γ hQ
  refine x_sipush dX11_behind_0 ?_
  refine x_il1 dX11_behind_3 ?_
  refine x_iconst dX11_behind_4 ?_
  refine x_iadd dX11_behind_5 ?_
  refine x_imul dX11_behind_6 ?_
  refine x_il2 dX11_behind_7 ?_
  refine x_if_ge (tgt := 15) dX11_behind_8 (inr (by omega)) (fun c8_1 => ?_) (fun c8_1 => ?_)
  · -- 8 ge -> 15
    refine x_il3 dX11_behind_15 ?_
    refine x_iconst dX11_behind_16 ?_
    refine x_il2 dX11_behind_17 ?_
    refine x_shl1 (by omega) (by omega) dX11_behind_18 ?_
    refine x_ior (by omega) (Int.le_of_lt (p2_pos _)) dX11_behind_19 ?_
    refine x_iadd dX11_behind_20 ?_
    exact x_iret hQ (rI.mk (by simp only [mNx]; first | (rw [if_pos (by omega)]) | (rw [if_neg (by omega)])) rfl) dX11_behind_21
  · -- 8 ge -> 11
    refine x_il3 dX11_behind_11 ?_
    refine x_goto (tgt := 20) dX11_behind_12 ?_
    refine x_iadd dX11_behind_20 ?_
    exact x_iret hQ (rI.mk (by simp only [mNx]; first | (rw [if_pos (by omega)]) | (rw [if_neg (by omega)])) rfl) dX11_behind_21
set_option maxRecDepth 100000 in
set_option maxHeartbeats 4000000 in
theorem c_X11_reckonOne {B : Bs} {S : Stt} {V : Va} (i : Int) (set : Int) (hS : Stat S) (hA : AB (V 309)) (hn : 0 ≤ (V 309 6) ∧ (V 309 6) ≤ 12) (hz : TRb (V 323)) (hi : 0 ≤ i ∧ i < (V 309 6)) (hst : 0 ≤ set ∧ set < p2 (V 309 6)) (hc : ∀ s, 0 ≤ s → s < p2 (V 309 6) → 0 ≤ (V 321) (4096 * (i + 1) + s) ∧ (V 321) (4096 * (i + 1) + s) ≤ 2000) : C B yX11_reckonOne cX11_reckonOne 9 none 2 0 0 [vR B 308, vI i, vI set] S V (rV S (up (up V 321 (ua (V 321) (4096 * i + set) (rF (V 321) (V 322) (V 323) (V 309) i set ((V 309 6) + 1).toNat).1)) 322 (ua (V 322) (4096 * i + set) (rF (V 321) (V 322) (V 323) (V 309) i set ((V 309 6) + 1).toNat).2))) := by
  refine C.of [some (vR B 308), some (vI i), some (vI set), none, none, none, none, none, none] ?_
  intro Γ hQ
  have h12 := p2_12 hn.2
  refine x_ldcw (a := 1000000) ki_X11_342 (by decide) dX11_reckonOne_0 ?_
  refine x_is3 dX11_reckonOne_3 ?_
  refine x_lconst0 dX11_reckonOne_4 ?_
  refine x_ls4 dX11_reckonOne_5 ?_
  refine x_iconst dX11_reckonOne_7 ?_
  refine x_is6 dX11_reckonOne_8 ?_
  have lp10 : ∀ (N10 : Nat) (b : Int) (w : Int) (j : Int), (-1 ≤ j ∧ j ≤ V 309 6) → (b = (rF (V 321) (V 322) (V 323) (V 309) i set (j + 1).toNat).1) → (w = (rF (V 321) (V 322) (V 323) (V 309) i set (j + 1).toNat).2) → (V 309 6 - j).toNat < N10 → X Γ B RX11 "reckonOne" cX11_reckonOne 9 none 2 0 0 10 [some (vR B 308), some (vI i), some (vI set), some (vI b), some (vL w), none, some (vI j), none, none] [] 0 0 S V := by
    intro N10
    induction N10 with
    | zero => intro b w j hj hb hw hN; exact absurd hN (Nat.not_lt_zero _)
    | succ N10 ih10 =>
      intro b w j hj hb hw hN10
      have hbr := rF_r (cs := V 321) (ws := V 322) (sm := V 323) (a := V 309) (i := i) hst hc (j + 1).toNat (by omega)
      rw [← hb] at hbr
      have hco := mCo_r (V 309) i j
      refine x_il6 dX11_reckonOne_10 ?_
      refine x_al0 dX11_reckonOne_12 ?_
      refine x_getR fl_X11_7 (sh_308 hS) (lq_308 hS) (rf_308_0 hS) dX11_reckonOne_13 ?_
      refine x_bipush dX11_reckonOne_16 ?_
      have hb1 := hA 6
      refine x_iald (sh_309 hS) (lq_309 hS) (by omega) (by omega) dX11_reckonOne_18 ?_
      refine x_topI (a' := V 309 6) rfl ?_
      refine x_icmp_ge (tgt := 109) dX11_reckonOne_19 (inr (by omega)) (inr (by omega)) (fun c19_2 => ?_) (fun c19_2 => ?_)
      · -- 19 ge -> 109
        refine x_al0 dX11_reckonOne_109 ?_
        refine x_getR fl_X11_56 (sh_308 hS) (lq_308 hS) (rf_308_30 hS) dX11_reckonOne_110 ?_
        refine x_sipush dX11_reckonOne_113 ?_
        refine x_il1 dX11_reckonOne_116 ?_
        refine x_imul dX11_reckonOne_117 ?_
        refine x_il2 dX11_reckonOne_118 ?_
        refine x_iadd dX11_reckonOne_119 ?_
        refine x_il3 dX11_reckonOne_120 ?_
        refine x_iast (sh_321 hS) (lq_321 hS) (by omega) (by omega) dX11_reckonOne_121 ?_
        refine x_mem (V' := (up V 321 (ua (V 321) ((4096 * i) + set) b))) rfl ?_
        refine x_al0 dX11_reckonOne_122 ?_
        refine x_getR fl_X11_59 (sh_308 hS) (lq_308 hS) (rf_308_31 hS) dX11_reckonOne_123 ?_
        refine x_sipush dX11_reckonOne_126 ?_
        refine x_il1 dX11_reckonOne_129 ?_
        refine x_imul dX11_reckonOne_130 ?_
        refine x_il2 dX11_reckonOne_131 ?_
        refine x_iadd dX11_reckonOne_132 ?_
        refine x_ll4 dX11_reckonOne_133 ?_
        refine x_last (sh_322 hS) (lq_322 hS) (by omega) (by omega) dX11_reckonOne_135 ?_
        refine x_mem (V' := (up (up V 321 (ua (V 321) ((4096 * i) + set) b)) 322 (ua (V 322) ((4096 * i) + set) w))) rfl ?_
        exact x_vret hQ (rV.mk (upE (upE rfl (by rw [hb, show j = V 309 6 by omega])) (by rw [hw, show j = V 309 6 by omega]))) dX11_reckonOne_136
      · -- 19 ge -> 22
        have hnx := mNx_lt (j := j) hst (by omega)
        have hcr := hc _ hnx.1 hnx.2
        refine x_al0 dX11_reckonOne_22 ?_
        refine x_il1 dX11_reckonOne_23 ?_
        refine x_il6 dX11_reckonOne_24 ?_
        refine x_il2 dX11_reckonOne_26 ?_
        refine x_cVi mm_X11_mayBe ml_X11_343 dX11_reckonOne_27 (c_X11_mayBe i j set hS hz (by omega) (by omega) (by omega)) (sh_308 hS) (lq_308 hS) ?_
        refine x_ifb_ne (tgt := 36) dX11_reckonOne_30 (fun c30_3 => ?_) (fun c30_3 => ?_)
        · -- 30 ne -> 36
          refine x_al0 dX11_reckonOne_36 ?_
          refine x_il1 dX11_reckonOne_37 ?_
          refine x_il6 dX11_reckonOne_38 ?_
          refine x_il2 dX11_reckonOne_40 ?_
          refine x_cVi mm_X11_behind ml_X11_346 dX11_reckonOne_41 (c_X11_behind i j set (by omega) (by omega) (by omega)) (sh_308 hS) (lq_308 hS) ?_
          refine x_is7 dX11_reckonOne_44 ?_
          refine x_al0 dX11_reckonOne_46 ?_
          refine x_il1 dX11_reckonOne_47 ?_
          refine x_il6 dX11_reckonOne_48 ?_
          refine x_cVi mm_X11_costOf ml_X11_349 dX11_reckonOne_50 (c_X11_costOf i j hS hA (by omega) (by omega)) (sh_308 hS) (lq_308 hS) ?_
          refine x_al0 dX11_reckonOne_53 ?_
          refine x_getR fl_X11_56 (sh_308 hS) (lq_308 hS) (rf_308_30 hS) dX11_reckonOne_54 ?_
          refine x_il7 dX11_reckonOne_57 ?_
          refine x_iald (sh_321 hS) (lq_321 hS) (by omega) (by omega) dX11_reckonOne_59 ?_
          refine x_topI (a' := V 321 (4096 * (i + 1) + mNx set j)) rfl ?_
          refine x_iadd dX11_reckonOne_60 ?_
          refine x_is8 dX11_reckonOne_61 ?_
          refine x_il8 dX11_reckonOne_63 ?_
          refine x_il3 dX11_reckonOne_65 ?_
          refine x_icmp_le (tgt := 72) dX11_reckonOne_66 (inr (by omega)) (inr (by omega)) (fun c66_4 => ?_) (fun c66_4 => ?_)
          · -- 66 le -> 72
            refine x_il8 dX11_reckonOne_72 ?_
            refine x_il3 dX11_reckonOne_74 ?_
            refine x_icmp_ne (tgt := 91) dX11_reckonOne_75 (inr (by omega)) (inr (by omega)) (fun c75_5 => ?_) (fun c75_5 => ?_)
            · -- 75 ne -> 91
              refine x_al0 dX11_reckonOne_91 ?_
              refine x_getR fl_X11_59 (sh_308 hS) (lq_308 hS) (rf_308_31 hS) dX11_reckonOne_92 ?_
              refine x_il7 dX11_reckonOne_95 ?_
              refine x_lald (sh_322 hS) (lq_322 hS) (by omega) (by omega) dX11_reckonOne_97 ?_
              refine x_topL (a' := V 322 (4096 * (i + 1) + mNx set j)) rfl ?_
              refine x_ls4 dX11_reckonOne_98 ?_
              refine x_il8 dX11_reckonOne_100 ?_
              refine x_is3 dX11_reckonOne_102 ?_
              refine x_inc6 dX11_reckonOne_103 ?_
              refine x_goto (tgt := 10) dX11_reckonOne_106 ?_
              exact x_fg (ih10 ((mCo (V 309) i j) + (V 321 (4096 * (i + 1) + mNx set j))) (V 322 (4096 * (i + 1) + mNx set j)) (j + 1) (by omega) (by rw [show (j + 1 + 1).toNat = (j + 1).toNat + 1 by omega]; simp only [rF]; rw [show (((j + 1).toNat : Nat) : Int) - 1 = j by omega, ← hb, ← hw]; (first | (rw [if_neg (by assumption)]) | (rw [if_pos (by assumption), if_pos (by omega)]) | (rw [if_pos (by assumption), if_neg (by omega), if_pos (by omega)]) | (rw [if_pos (by assumption), if_neg (by omega), if_neg (by omega)])); all_goals (first | exact hb | exact hw)) (by rw [show (j + 1 + 1).toNat = (j + 1).toNat + 1 by omega]; simp only [rF]; rw [show (((j + 1).toNat : Nat) : Int) - 1 = j by omega, ← hb, ← hw]; (first | (rw [if_neg (by assumption)]) | (rw [if_pos (by assumption), if_pos (by omega)]) | (rw [if_pos (by assumption), if_neg (by omega), if_pos (by omega)]) | (rw [if_pos (by assumption), if_neg (by omega), if_neg (by omega)])); all_goals (first | exact hb | exact hw)) (by omega)) (And.intro rfl (And.intro rfl (And.intro rfl (And.intro rfl (And.intro rfl (And.intro rfl trivial))))))
            · -- 75 ne -> 78
              refine x_ll4 dX11_reckonOne_78 ?_
              refine x_al0 dX11_reckonOne_80 ?_
              refine x_getR fl_X11_59 (sh_308 hS) (lq_308 hS) (rf_308_31 hS) dX11_reckonOne_81 ?_
              refine x_il7 dX11_reckonOne_84 ?_
              refine x_lald (sh_322 hS) (lq_322 hS) (by omega) (by omega) dX11_reckonOne_86 ?_
              refine x_topL (a' := V 322 (4096 * (i + 1) + mNx set j)) rfl ?_
              refine x_ladd dX11_reckonOne_87 ?_
              refine x_goto (tgt := 98) dX11_reckonOne_88 ?_
              refine x_ls4 dX11_reckonOne_98 ?_
              refine x_il8 dX11_reckonOne_100 ?_
              refine x_is3 dX11_reckonOne_102 ?_
              refine x_inc6 dX11_reckonOne_103 ?_
              refine x_goto (tgt := 10) dX11_reckonOne_106 ?_
              exact x_fg (ih10 ((mCo (V 309) i j) + (V 321 (4096 * (i + 1) + mNx set j))) (w + (V 322 (4096 * (i + 1) + mNx set j))) (j + 1) (by omega) (by rw [show (j + 1 + 1).toNat = (j + 1).toNat + 1 by omega]; simp only [rF]; rw [show (((j + 1).toNat : Nat) : Int) - 1 = j by omega, ← hb, ← hw]; (first | (rw [if_neg (by assumption)]) | (rw [if_pos (by assumption), if_pos (by omega)]) | (rw [if_pos (by assumption), if_neg (by omega), if_pos (by omega)]) | (rw [if_pos (by assumption), if_neg (by omega), if_neg (by omega)])); all_goals (first | exact hb | exact hw)) (by rw [show (j + 1 + 1).toNat = (j + 1).toNat + 1 by omega]; simp only [rF]; rw [show (((j + 1).toNat : Nat) : Int) - 1 = j by omega, ← hb, ← hw]; (first | (rw [if_neg (by assumption)]) | (rw [if_pos (by assumption), if_pos (by omega)]) | (rw [if_pos (by assumption), if_neg (by omega), if_pos (by omega)]) | (rw [if_pos (by assumption), if_neg (by omega), if_neg (by omega)])); all_goals (first | exact hb | exact hw)) (by omega)) (And.intro rfl (And.intro rfl (And.intro rfl (And.intro rfl (And.intro rfl (And.intro rfl trivial))))))
          · -- 66 le -> 69
            refine x_goto (tgt := 103) dX11_reckonOne_69 ?_
            refine x_inc6 dX11_reckonOne_103 ?_
            refine x_goto (tgt := 10) dX11_reckonOne_106 ?_
            exact x_fg (ih10 b w (j + 1) (by omega) (by rw [show (j + 1 + 1).toNat = (j + 1).toNat + 1 by omega]; simp only [rF]; rw [show (((j + 1).toNat : Nat) : Int) - 1 = j by omega, ← hb, ← hw]; (first | (rw [if_neg (by assumption)]) | (rw [if_pos (by assumption), if_pos (by omega)]) | (rw [if_pos (by assumption), if_neg (by omega), if_pos (by omega)]) | (rw [if_pos (by assumption), if_neg (by omega), if_neg (by omega)])); all_goals (first | exact hb | exact hw)) (by rw [show (j + 1 + 1).toNat = (j + 1).toNat + 1 by omega]; simp only [rF]; rw [show (((j + 1).toNat : Nat) : Int) - 1 = j by omega, ← hb, ← hw]; (first | (rw [if_neg (by assumption)]) | (rw [if_pos (by assumption), if_pos (by omega)]) | (rw [if_pos (by assumption), if_neg (by omega), if_pos (by omega)]) | (rw [if_pos (by assumption), if_neg (by omega), if_neg (by omega)])); all_goals (first | exact hb | exact hw)) (by omega)) (And.intro rfl (And.intro rfl (And.intro rfl (And.intro rfl (And.intro rfl (And.intro rfl trivial))))))
        · -- 30 ne -> 33
          refine x_goto (tgt := 103) dX11_reckonOne_33 ?_
          refine x_inc6 dX11_reckonOne_103 ?_
          refine x_goto (tgt := 10) dX11_reckonOne_106 ?_
          exact x_fg (ih10 b w (j + 1) (by omega) (by rw [show (j + 1 + 1).toNat = (j + 1).toNat + 1 by omega]; simp only [rF]; rw [show (((j + 1).toNat : Nat) : Int) - 1 = j by omega, ← hb, ← hw]; (first | (rw [if_neg (by assumption)]) | (rw [if_pos (by assumption), if_pos (by omega)]) | (rw [if_pos (by assumption), if_neg (by omega), if_pos (by omega)]) | (rw [if_pos (by assumption), if_neg (by omega), if_neg (by omega)])); all_goals (first | exact hb | exact hw)) (by rw [show (j + 1 + 1).toNat = (j + 1).toNat + 1 by omega]; simp only [rF]; rw [show (((j + 1).toNat : Nat) : Int) - 1 = j by omega, ← hb, ← hw]; (first | (rw [if_neg (by assumption)]) | (rw [if_pos (by assumption), if_pos (by omega)]) | (rw [if_pos (by assumption), if_neg (by omega), if_pos (by omega)]) | (rw [if_pos (by assumption), if_neg (by omega), if_neg (by omega)])); all_goals (first | exact hb | exact hw)) (by omega)) (And.intro rfl (And.intro rfl (And.intro rfl (And.intro rfl (And.intro rfl (And.intro rfl trivial))))))
  exact x_fg (lp10 _ 1000000 0 (-1) (by omega) rfl rfl (Nat.lt_succ_self _)) (And.intro rfl (And.intro rfl (And.intro rfl (And.intro rfl (And.intro rfl (And.intro rfl trivial))))))
set_option maxRecDepth 100000 in
set_option maxHeartbeats 4000000 in
theorem c_X11_reckon {B : Bs} {S : Stt} {V : Va} (hS : Stat S) (hA : AB (V 309)) (h6 : 0 ≤ (V 309 6) ∧ (V 309 6) ≤ 12) (h78 : 0 ≤ (V 309 7) ∧ (V 309 7) ≤ 9 ∧ 1 ≤ (V 309 8) ∧ (V 309 8) ≤ 99) (hQt : ∀ s, 0 ≤ s → s < (V 309 6) → 0 ≤ (V 309) (126 + 4 * s) ∧ (V 309) (126 + 4 * s) < 10 ∧ 0 ≤ (V 309) (126 + 4 * s + 2) ∧ (V 309) (126 + 4 * s + 2) ≤ 999 ∧ 0 ≤ (V 309) (126 + 4 * s + 3) ∧ (V 309) (126 + 4 * s + 3) ≤ 999) (hz : TRb (V 323)) : C B yX11_reckon cX11_reckon 4 none 4 0 0 [vR B 308] S V (rV S (up (up (up V 321 (cT (V 321) (V 309) (V 309 6) (-1) 0)) 322 (wT (V 322) (V 309) (V 309 6) (-1) 0)) 323 (smK (V 323) (V 309) (V 309 6) (12 * (V 309 6))))) := by
  refine C.of [some (vR B 308), none, none, none] ?_
  intro Γ hQ
  have h12 := p2_12 h6.2
  refine x_al0 dX11_reckon_0 ?_
  refine x_getR fl_X11_7 (sh_308 hS) (lq_308 hS) (rf_308_0 hS) dX11_reckon_1 ?_
  refine x_bipush dX11_reckon_4 ?_
  have hb1 := hA 6
  refine x_iald (sh_309 hS) (lq_309 hS) (by omega) (by omega) dX11_reckon_6 ?_
  refine x_topI (a' := V 309 6) rfl ?_
  refine x_is1 dX11_reckon_7 ?_
  refine x_iconst dX11_reckon_8 ?_
  refine x_is2 dX11_reckon_9 ?_
  have lp10 : ∀ (N10 : Nat) (j : Int), (0 ≤ j ∧ j ≤ V 309 6) → (V 309 6 - j).toNat < N10 → X Γ B RX11 "reckon" cX11_reckon 4 none 4 0 0 10 [some (vR B 308), some (vI (V 309 6)), some (vI j), none] [] 0 0 S (up V 323 (smK (V 323) (V 309) (V 309 6) (12 * j))) := by
    intro N10
    induction N10 with
    | zero => intro j hj hN; exact absurd hN (Nat.not_lt_zero _)
    | succ N10 ih10 =>
      intro j hj hN10
      refine x_il2 dX11_reckon_10 ?_
      refine x_il1 dX11_reckon_11 ?_
      refine x_icmp_ge (tgt := 51) dX11_reckon_12 (inr (by omega)) (inr (by omega)) (fun c12_2 => ?_) (fun c12_2 => ?_)
      · -- 12 ge -> 51
        refine x_iconst dX11_reckon_51 ?_
        refine x_is2 dX11_reckon_52 ?_
        have lp53 : ∀ (N53 : Nat) (t : Int), (0 ≤ t ∧ t ≤ p2 (V 309 6)) → (p2 (V 309 6) - t).toNat < N53 → X Γ B RX11 "reckon" cX11_reckon 4 none 4 0 0 53 [some (vR B 308), some (vI (V 309 6)), some (vI t), none] [] 0 0 S (up (up (up V 321 (cT (V 321) (V 309) (V 309 6) (V 309 6) t)) 322 (wT (V 322) (V 309) (V 309 6) (V 309 6) t)) 323 (smK (V 323) (V 309) (V 309 6) (12 * V 309 6))) := by
          intro N53
          induction N53 with
          | zero => intro t ht hN; exact absurd hN (Nat.not_lt_zero _)
          | succ N53 ih53 =>
            intro t ht hN53
            refine x_il2 dX11_reckon_53 ?_
            refine x_iconst dX11_reckon_54 ?_
            refine x_il1 dX11_reckon_55 ?_
            refine x_shl1 (by omega) (by omega) dX11_reckon_56 ?_
            refine x_icmp_ge (tgt := 92) dX11_reckon_57 (inr (by omega)) (inr (by omega)) (fun c57_3 => ?_) (fun c57_3 => ?_)
            · -- 57 ge -> 92
              refine x_il1 dX11_reckon_92 ?_
              refine x_iconst dX11_reckon_93 ?_
              refine x_isub dX11_reckon_94 ?_
              refine x_is2 dX11_reckon_95 ?_
              have lp96 : ∀ (N96 : Nat) (i : Int), (-1 ≤ i ∧ i < V 309 6) → (i + 1).toNat < N96 → X Γ B RX11 "reckon" cX11_reckon 4 none 4 0 0 96 [some (vR B 308), some (vI (V 309 6)), some (vI i), none] [] 0 0 S (up (up (up V 321 (cT (V 321) (V 309) (V 309 6) i 0)) 322 (wT (V 322) (V 309) (V 309 6) i 0)) 323 (smK (V 323) (V 309) (V 309 6) (12 * V 309 6))) := by
                intro N96
                induction N96 with
                | zero => intro i hi hN; exact absurd hN (Nat.not_lt_zero _)
                | succ N96 ih96 =>
                  intro i hi hN96
                  refine x_il2 dX11_reckon_96 ?_
                  refine x_if_lt (tgt := 127) dX11_reckon_97 (inr (by omega)) (fun c97_4 => ?_) (fun c97_4 => ?_)
                  · -- 97 lt -> 127
                    exact x_vret hQ (rV.mk (by rw [show i = -1 by omega])) dX11_reckon_127
                  · -- 97 lt -> 100
                    refine x_iconst dX11_reckon_100 ?_
                    refine x_is3 dX11_reckon_101 ?_
                    have lp102 : ∀ (N102 : Nat) (t : Int), (0 ≤ t ∧ t ≤ p2 (V 309 6)) → (p2 (V 309 6) - t).toNat < N102 → X Γ B RX11 "reckon" cX11_reckon 4 none 4 0 0 102 [some (vR B 308), some (vI (V 309 6)), some (vI i), some (vI t)] [] 0 0 S (up (up (up V 321 (cT (V 321) (V 309) (V 309 6) i t)) 322 (wT (V 322) (V 309) (V 309 6) i t)) 323 (smK (V 323) (V 309) (V 309 6) (12 * V 309 6))) := by
                      intro N102
                      induction N102 with
                      | zero => intro t ht hN; exact absurd hN (Nat.not_lt_zero _)
                      | succ N102 ih102 =>
                        intro t ht hN102
                        refine x_il3 dX11_reckon_102 ?_
                        refine x_iconst dX11_reckon_103 ?_
                        refine x_il1 dX11_reckon_104 ?_
                        refine x_shl1 (by omega) (by omega) dX11_reckon_105 ?_
                        refine x_icmp_ge (tgt := 121) dX11_reckon_106 (inr (by omega)) (inr (by omega)) (fun c106_5 => ?_) (fun c106_5 => ?_)
                        · -- 106 ge -> 121
                          refine x_dec2 dX11_reckon_121 ?_
                          refine x_goto (tgt := 96) dX11_reckon_124 ?_
                          refine x_mem (V' := (up (up (up V 321 (cT (V 321) (V 309) (V 309 6) (i - 1) 0)) 322 (wT (V 322) (V 309) (V 309 6) (i - 1) 0)) 323 (smK (V 323) (V 309) (V 309 6) (12 * V 309 6)))) (upE (upE (upE rfl (by rw [show t = p2 (V 309 6) by omega]; exact cT_i)) (by rw [show t = p2 (V 309 6) by omega]; exact wT_i)) rfl) ?_
                          exact x_fg (ih96 (i - 1) (by omega) (by omega)) (And.intro rfl (And.intro rfl (And.intro rfl trivial)))
                        · -- 106 ge -> 109
                          refine x_al0 dX11_reckon_109 ?_
                          refine x_il2 dX11_reckon_110 ?_
                          refine x_il3 dX11_reckon_111 ?_
                          refine x_cVv mm_X11_reckonOne ml_X11_339 dX11_reckon_112 (c_X11_reckonOne i t hS (show AB (V 309) from hA) (show 0 ≤ (V 309 6) ∧ (V 309 6) ≤ 12 from h6) (show TRb (smK (V 323) (V 309) (V 309 6) (12 * V 309 6)) from (TRb_smK hz)) (show 0 ≤ i ∧ i < (V 309 6) from (by omega)) (show 0 ≤ t ∧ t < p2 (V 309 6) from (by omega)) (show ∀ s, 0 ≤ s → s < p2 (V 309 6) → 0 ≤ (cT (V 321) (V 309) (V 309 6) i t) (4096 * (i + 1) + s) ∧ (cT (V 321) (V 309) (V 309 6) i t) (4096 * (i + 1) + s) ≤ 2000 from (fun s s0 s1 => cT_c h6.2 (by omega) (by omega) ⟨s0, s1⟩))) (sh_308 hS) (lq_308 hS) ?_
                          refine x_mem (V' := (up (up (up V 321 (ua (cT (V 321) (V 309) (V 309 6) i t) (4096 * i + t) ((rF (cT (V 321) (V 309) (V 309 6) i t) (wT (V 322) (V 309) (V 309 6) i t) (smK (V 323) (V 309) (V 309 6) (12 * V 309 6)) (V 309) i t ((V 309 6) + 1).toNat).1))) 322 (ua (wT (V 322) (V 309) (V 309 6) i t) (4096 * i + t) ((rF (cT (V 321) (V 309) (V 309 6) i t) (wT (V 322) (V 309) (V 309 6) i t) (smK (V 323) (V 309) (V 309 6) (12 * V 309 6)) (V 309) i t ((V 309 6) + 1).toNat).2))) 323 (smK (V 323) (V 309) (V 309 6) (12 * V 309 6)))) (Eq.trans (congrArg (fun z => up z 322 _) (up_k (by decide) (up_k (by decide) (up_up _ _ _ _)))) (up_k (by decide) (up_up _ _ _ _))) ?_
                          refine x_inc3 dX11_reckon_115 ?_
                          refine x_goto (tgt := 102) dX11_reckon_118 ?_
                          refine x_mem (V' := (up (up (up V 321 (cT (V 321) (V 309) (V 309 6) i (t + 1))) 322 (wT (V 322) (V 309) (V 309 6) i (t + 1))) 323 (smK (V 323) (V 309) (V 309 6) (12 * V 309 6)))) (upE (upE (upE rfl (cT_s h6.2 (by omega) (by omega) (congrArg (fun z : Int × Int => z.1) (rF_dp h6.2 (by omega) (by omega))))) (wT_s h6.2 (by omega) (by omega) (congrArg (fun z : Int × Int => z.2) (rF_dp h6.2 (by omega) (by omega))))) rfl) ?_
                          exact x_fg (ih102 (t + 1) (by omega) (by omega)) (And.intro rfl (And.intro rfl (And.intro rfl (And.intro rfl trivial))))
                    exact x_fg (lp102 _ 0 (by omega) (Nat.lt_succ_self _)) (And.intro rfl (And.intro rfl (And.intro rfl (And.intro rfl trivial))))
              refine x_mem (V' := (up (up (up V 321 (cT (V 321) (V 309) (V 309 6) ((V 309 6) - 1) 0)) 322 (wT (V 322) (V 309) (V 309 6) ((V 309 6) - 1) 0)) 323 (smK (V 323) (V 309) (V 309 6) (12 * V 309 6)))) (upE (upE (upE rfl (by rw [show t = p2 (V 309 6) by omega]; exact cT_i)) (by rw [show t = p2 (V 309 6) by omega]; exact wT_i)) rfl) ?_
              exact x_fg (lp96 _ ((V 309 6) - 1) (by omega) (Nat.lt_succ_self _)) (And.intro rfl (And.intro rfl (And.intro rfl trivial)))
            · -- 57 ge -> 60
              refine x_al0 dX11_reckon_60 ?_
              refine x_getR fl_X11_56 (sh_308 hS) (lq_308 hS) (rf_308_30 hS) dX11_reckon_61 ?_
              refine x_sipush dX11_reckon_64 ?_
              refine x_il1 dX11_reckon_67 ?_
              refine x_imul dX11_reckon_68 ?_
              refine x_il2 dX11_reckon_69 ?_
              refine x_iadd dX11_reckon_70 ?_
              refine x_iconst dX11_reckon_71 ?_
              refine x_iast (sh_321 hS) (lq_321 hS) (by omega) (by omega) dX11_reckon_72 ?_
              refine x_mem (V' := (up (up (up V 321 (ua (cT (V 321) (V 309) (V 309 6) (V 309 6) t) ((4096 * (V 309 6)) + t) 0)) 322 (wT (V 322) (V 309) (V 309 6) (V 309 6) t)) 323 (smK (V 323) (V 309) (V 309 6) (12 * V 309 6)))) (st2_c (by decide) (st2_c (by decide) (st2_up _ _ _ _ _))) ?_
              refine x_al0 dX11_reckon_73 ?_
              refine x_getR fl_X11_59 (sh_308 hS) (lq_308 hS) (rf_308_31 hS) dX11_reckon_74 ?_
              refine x_sipush dX11_reckon_77 ?_
              refine x_il1 dX11_reckon_80 ?_
              refine x_imul dX11_reckon_81 ?_
              refine x_il2 dX11_reckon_82 ?_
              refine x_iadd dX11_reckon_83 ?_
              refine x_lconst1 dX11_reckon_84 ?_
              refine x_last (sh_322 hS) (lq_322 hS) (by omega) (by omega) dX11_reckon_85 ?_
              refine x_mem (V' := (up (up (up V 321 (ua (cT (V 321) (V 309) (V 309 6) (V 309 6) t) ((4096 * (V 309 6)) + t) 0)) 322 (ua (wT (V 322) (V 309) (V 309 6) (V 309 6) t) ((4096 * (V 309 6)) + t) 1)) 323 (smK (V 323) (V 309) (V 309 6) (12 * V 309 6)))) (st2_c (by decide) (st2_up _ _ _ _ _)) ?_
              refine x_inc2 dX11_reckon_86 ?_
              refine x_goto (tgt := 53) dX11_reckon_89 ?_
              refine x_mem (V' := (up (up (up V 321 (cT (V 321) (V 309) (V 309 6) (V 309 6) (t + 1))) 322 (wT (V 322) (V 309) (V 309 6) (V 309 6) (t + 1))) 323 (smK (V 323) (V 309) (V 309 6) (12 * V 309 6)))) (upE (upE (upE rfl (cT_s h6.2 (by omega) (by omega) (by rw [show (V 309 6 - V 309 6).toNat = 0 by omega]; rfl))) (wT_s h6.2 (by omega) (by omega) (by rw [show (V 309 6 - V 309 6).toNat = 0 by omega]; rfl))) rfl) ?_
              exact x_fg (ih53 (t + 1) (by omega) (by omega)) (And.intro rfl (And.intro rfl (And.intro rfl trivial)))
        refine x_mem (V' := (up (up (up V 321 (cT (V 321) (V 309) (V 309 6) (V 309 6) 0)) 322 (wT (V 322) (V 309) (V 309 6) (V 309 6) 0)) 323 (smK (V 323) (V 309) (V 309 6) (12 * V 309 6)))) (Eq.trans (Eq.trans (show _ = (up (up V 321 (V 321)) 323 (smK (V 323) (V 309) (V 309 6) (12 * j))) from (Eq.trans (Eq.symm (up_self _ 321)) (up_k (by decide) rfl))) (show _ = (up (up (up V 321 (V 321)) 322 (V 322)) 323 (smK (V 323) (V 309) (V 309 6) (12 * j))) from (Eq.trans (Eq.symm (up_self _ 322)) (up_k (by decide) rfl)))) (show (up (up (up V 321 (V 321)) 322 (V 322)) 323 (smK (V 323) (V 309) (V 309 6) (12 * j))) = (up (up (up V 321 (cT (V 321) (V 309) (V 309 6) (V 309 6) 0)) 322 (wT (V 322) (V 309) (V 309 6) (V 309 6) 0)) 323 (smK (V 323) (V 309) (V 309 6) (12 * V 309 6))) from (upE (upE (upE rfl cT_b) wT_b) (by rw [show j = V 309 6 by omega])))) ?_
        exact x_fg (lp53 _ 0 (by omega) (Nat.lt_succ_self _)) (And.intro rfl (And.intro rfl (And.intro rfl trivial)))
      · -- 12 ge -> 15
        refine x_iconst dX11_reckon_15 ?_
        refine x_is3 dX11_reckon_16 ?_
        have lp17 : ∀ (N17 : Nat) (i : Int), (0 ≤ i ∧ i ≤ V 309 6) → (V 309 6 - i).toNat < N17 → X Γ B RX11 "reckon" cX11_reckon 4 none 4 0 0 17 [some (vR B 308), some (vI (V 309 6)), some (vI j), some (vI i)] [] 0 0 S (up V 323 (smK (V 323) (V 309) (V 309 6) (12 * j + i))) := by
          intro N17
          induction N17 with
          | zero => intro i hi hN; exact absurd hN (Nat.not_lt_zero _)
          | succ N17 ih17 =>
            intro i hi hN17
            refine x_il3 dX11_reckon_17 ?_
            refine x_il1 dX11_reckon_18 ?_
            refine x_icmp_ge (tgt := 45) dX11_reckon_19 (inr (by omega)) (inr (by omega)) (fun c19_6 => ?_) (fun c19_6 => ?_)
            · -- 19 ge -> 45
              refine x_inc2 dX11_reckon_45 ?_
              refine x_goto (tgt := 10) dX11_reckon_48 ?_
              refine x_mem (V' := (up V 323 (smK (V 323) (V 309) (V 309 6) (12 * (j + 1))))) (upE rfl (by rw [show i = V 309 6 by omega]; exact smK_n h6 hj.1)) ?_
              exact x_fg (ih10 (j + 1) (by omega) (by omega)) (And.intro rfl (And.intro rfl (And.intro rfl trivial)))
            · -- 19 ge -> 22
              refine x_al0 dX11_reckon_22 ?_
              refine x_getR fl_X11_62 (sh_308 hS) (lq_308 hS) (rf_308_32 hS) dX11_reckon_23 ?_
              refine x_bipush dX11_reckon_26 ?_
              refine x_il2 dX11_reckon_28 ?_
              refine x_imul dX11_reckon_29 ?_
              refine x_il3 dX11_reckon_30 ?_
              refine x_iadd dX11_reckon_31 ?_
              refine x_al0 dX11_reckon_32 ?_
              refine x_il2 dX11_reckon_33 ?_
              refine x_il3 dX11_reckon_34 ?_
              refine x_cVi mm_X11_same ml_X11_336 dX11_reckon_35 (c_X11_same j i hS (show AB (V 309) from hA) (show 0 ≤ (V 309 6) ∧ (V 309 6) ≤ 12 from h6) (show 0 ≤ (V 309 7) ∧ (V 309 7) ≤ 9 ∧ 1 ≤ (V 309 8) ∧ (V 309 8) ≤ 99 from h78) (show ∀ s, 0 ≤ s → s < (V 309 6) → 0 ≤ (V 309) (126 + 4 * s) ∧ (V 309) (126 + 4 * s) < 10 ∧ 0 ≤ (V 309) (126 + 4 * s + 2) ∧ (V 309) (126 + 4 * s + 2) ≤ 999 ∧ 0 ≤ (V 309) (126 + 4 * s + 3) ∧ (V 309) (126 + 4 * s + 3) ≤ 999 from hQt) (inr (by omega)) (inr (by omega))) (sh_308 hS) (lq_308 hS) ?_
              refine x_top (v' := vI (if mSame (V 309) j i then 1 else 0)) rfl ?_
              refine x_zast (sh_323 hS) (lq_323 hS) (by omega) (by omega) (ite_01 _) dX11_reckon_38 ?_
              refine x_mem (V' := (up V 323 (ua (smK (V 323) (V 309) (V 309 6) (12 * j + i)) ((12 * j) + i) (if mSame (V 309) j i then 1 else 0)))) (st2_up _ _ _ _ _) ?_
              refine x_inc3 dX11_reckon_39 ?_
              refine x_goto (tgt := 17) dX11_reckon_42 ?_
              refine x_mem (V' := (up V 323 (smK (V 323) (V 309) (V 309 6) (12 * j + (i + 1))))) (upE rfl (smK_s h6.2 hj.1 (by omega))) ?_
              exact x_fg (ih17 (i + 1) (by omega) (by omega)) (And.intro rfl (And.intro rfl (And.intro rfl (And.intro rfl trivial))))
        refine x_mem (V' := (up V 323 (smK (V 323) (V 309) (V 309 6) (12 * j + 0)))) (upE rfl (by rw [show 12 * j + 0 = 12 * j by omega])) ?_
        exact x_fg (lp17 _ 0 (by omega) (Nat.lt_succ_self _)) (And.intro rfl (And.intro rfl (And.intro rfl (And.intro rfl trivial))))
  refine x_mem (V' := (up V 323 (smK (V 323) (V 309) (V 309 6) (12 * 0)))) (Eq.trans (show _ = (up V 323 (V 323)) from (Eq.symm (up_self _ 323))) (show (up V 323 (V 323)) = (up V 323 (smK (V 323) (V 309) (V 309 6) (12 * 0))) from (upE rfl (smK_0 _ _ _)))) ?_
  exact x_fg (lp10 _ 0 (by omega) (Nat.lt_succ_self _)) (And.intro rfl (And.intro rfl (And.intro rfl trivial)))
set_option maxRecDepth 100000 in
set_option maxHeartbeats 4000000 in
theorem c_X11_best {B : Bs} {S : Stt} {V : Va} (what : Int) (hS : Stat S) (hA : AB (V 309)) (h6 : 0 ≤ (V 309 6) ∧ (V 309 6) ≤ 12) (h78 : 0 ≤ (V 309 7) ∧ (V 309 7) ≤ 9 ∧ 1 ≤ (V 309 8) ∧ (V 309 8) ≤ 99) (hQt : ∀ s, 0 ≤ s → s < (V 309 6) → 0 ≤ (V 309) (126 + 4 * s) ∧ (V 309) (126 + 4 * s) < 10 ∧ 0 ≤ (V 309) (126 + 4 * s + 2) ∧ (V 309) (126 + 4 * s + 2) ≤ 999 ∧ 0 ≤ (V 309) (126 + 4 * s + 3) ∧ (V 309) (126 + 4 * s + 3) ≤ 999) (hz : TRb (V 323)) (hwhat : InR what) : C B yX11_best cX11_best 2 (some .int) 5 0 0 [vR B 308, vI what] S V (rI S (up (up (up V 321 (if 0 ≤ what ∧ what ≤ 1 then cT (V 321) (V 309) (V 309 6) (-1) 0 else (V 321))) 322 (if 0 ≤ what ∧ what ≤ 1 then wT (V 322) (V 309) (V 309 6) (-1) 0 else (V 322))) 323 (if 0 ≤ what ∧ what ≤ 1 then smK (V 323) (V 309) (V 309 6) (12 * (V 309 6)) else (V 323))) (if 0 ≤ what ∧ what ≤ 1 then (if what = 0 then (mDP (smf (V 309)) (V 309) (V 309 6) ((V 309 6)).toNat 0).1 / 100 else (mDP (smf (V 309)) (V 309) (V 309 6) ((V 309 6)).toNat 0).1 % 100) else -1)) := by
  refine C.of [some (vR B 308), some (vI what)] ?_
  intro Γ hQ
  refine x_il1 dX11_best_0 ?_
  refine x_iconst dX11_best_1 ?_
  refine x_iconst dX11_best_2 ?_
  refine x_cSi mm_X11_isIn ml_X11_75 dX11_best_3 (c_X11_isIn what 0 1 (inr (by omega)) (inr (by decide)) (inr (by decide))) ?_
  refine x_ifb_ne (tgt := 11) dX11_best_6 (fun c6_1 => ?_) (fun c6_1 => ?_)
  · -- 6 ne -> 11
    refine x_al0 dX11_best_11 ?_
    refine x_cVv mm_X11_reckon ml_X11_352 dX11_best_12 (c_X11_reckon hS hA h6 h78 hQt hz) (sh_308 hS) (lq_308 hS) ?_
    have hdr := mDP_r (sm := smf (V 309)) (a := V 309) (n := V 309 6) (by omega) (V 309 6).toNat (by omega) 0 (by omega) (p2_pos _)
    refine x_il1 dX11_best_15 ?_
    refine x_if_ne (tgt := 31) dX11_best_16 (inr (by omega)) (fun c16_2 => ?_) (fun c16_2 => ?_)
    · -- 16 ne -> 31
      refine x_al0 dX11_best_31 ?_
      refine x_getR fl_X11_56 (sh_308 hS) (lq_308 hS) (rf_308_30 hS) dX11_best_32 ?_
      refine x_iconst dX11_best_35 ?_
      refine x_iald (sh_321 hS) (lq_321 hS) (by omega) (by omega) dX11_best_36 ?_
      refine x_topI (a' := (mDP (smf (V 309)) (V 309) (V 309 6) (V 309 6).toNat 0).1) (show (cT (V 321) (V 309) (V 309 6) (-1) 0) 0 = (mDP (smf (V 309)) (V 309) (V 309 6) (V 309 6).toNat 0).1 from (by have := cT_rd (c := V 321) (a := V 309) (n := V 309 6) (i := -1) (j := 0) (t := 0) (s := 0) h6.2 (by omega) (by omega) ⟨by omega, p2_pos _⟩; rw [show (V 309 6 - 0).toNat = (V 309 6).toNat by omega] at this; exact this)) ?_
      refine x_bipush dX11_best_37 ?_
      refine x_irem (inr (by omega)) (inr (by decide)) (by decide) dX11_best_39 ?_
      refine x_topI (a' := ((mDP (smf (V 309)) (V 309) (V 309 6) (V 309 6).toNat 0).1) % 100) (Int.tmod_eq_emod_of_nonneg (by omega)) ?_
      exact x_iret hQ (rI.mk (by rw [if_pos (by omega)]; first | (rw [if_pos (by omega)]) | (rw [if_neg (by omega)])) (by rw [if_pos (by omega), if_pos (by omega), if_pos (by omega)])) dX11_best_40
    · -- 16 ne -> 19
      refine x_al0 dX11_best_19 ?_
      refine x_getR fl_X11_56 (sh_308 hS) (lq_308 hS) (rf_308_30 hS) dX11_best_20 ?_
      refine x_iconst dX11_best_23 ?_
      refine x_iald (sh_321 hS) (lq_321 hS) (by omega) (by omega) dX11_best_24 ?_
      refine x_topI (a' := (mDP (smf (V 309)) (V 309) (V 309 6) (V 309 6).toNat 0).1) (show (cT (V 321) (V 309) (V 309 6) (-1) 0) 0 = (mDP (smf (V 309)) (V 309) (V 309 6) (V 309 6).toNat 0).1 from (by have := cT_rd (c := V 321) (a := V 309) (n := V 309 6) (i := -1) (j := 0) (t := 0) (s := 0) h6.2 (by omega) (by omega) ⟨by omega, p2_pos _⟩; rw [show (V 309 6 - 0).toNat = (V 309 6).toNat by omega] at this; exact this)) ?_
      refine x_bipush dX11_best_25 ?_
      refine x_idiv (inr (by omega)) (inr (by decide)) (by decide) dX11_best_27 ?_
      refine x_topI (a' := ((mDP (smf (V 309)) (V 309) (V 309 6) (V 309 6).toNat 0).1) / 100) (Int.tdiv_eq_ediv_of_nonneg (by omega)) ?_
      refine x_goto (tgt := 40) dX11_best_28 ?_
      exact x_iret hQ (rI.mk (by rw [if_pos (by omega)]; first | (rw [if_pos (by omega)]) | (rw [if_neg (by omega)])) (by rw [if_pos (by omega), if_pos (by omega), if_pos (by omega)])) dX11_best_40
  · -- 6 ne -> 9
    refine x_iconst dX11_best_9 ?_
    exact x_iret hQ (rI.mk (by rw [if_neg (by omega)]) (by rw [if_neg (by omega), if_neg (by omega), if_neg (by omega), up_self, up_self, up_self])) dX11_best_10
set_option maxRecDepth 100000 in
set_option maxHeartbeats 4000000 in
theorem c_X11_histories {B : Bs} {S : Stt} {V : Va} (hS : Stat S) (hA : AB (V 309)) (h6 : 0 ≤ (V 309 6) ∧ (V 309 6) ≤ 12) (h78 : 0 ≤ (V 309 7) ∧ (V 309 7) ≤ 9 ∧ 1 ≤ (V 309 8) ∧ (V 309 8) ≤ 99) (hQt : ∀ s, 0 ≤ s → s < (V 309 6) → 0 ≤ (V 309) (126 + 4 * s) ∧ (V 309) (126 + 4 * s) < 10 ∧ 0 ≤ (V 309) (126 + 4 * s + 2) ∧ (V 309) (126 + 4 * s + 2) ≤ 999 ∧ 0 ≤ (V 309) (126 + 4 * s + 3) ∧ (V 309) (126 + 4 * s + 3) ≤ 999) (hz : TRb (V 323)) : C B yX11_histories cX11_histories 1 (some .long) 5 0 0 [vR B 308] S V (rL S (up (up (up V 321 (cT (V 321) (V 309) (V 309 6) (-1) 0)) 322 (wT (V 322) (V 309) (V 309 6) (-1) 0)) 323 (smK (V 323) (V 309) (V 309 6) (12 * (V 309 6)))) ((mDP (smf (V 309)) (V 309) (V 309 6) ((V 309 6)).toNat 0).2)) := by
  refine C.of [some (vR B 308)] ?_
  intro Γ hQ
  refine x_al0 dX11_histories_0 ?_
  refine x_cVv mm_X11_reckon ml_X11_352 dX11_histories_1 (c_X11_reckon hS hA h6 h78 hQt hz) (sh_308 hS) (lq_308 hS) ?_
  refine x_al0 dX11_histories_4 ?_
  refine x_getR fl_X11_59 (sh_308 hS) (lq_308 hS) (rf_308_31 hS) dX11_histories_5 ?_
  refine x_iconst dX11_histories_8 ?_
  refine x_lald (sh_322 hS) (lq_322 hS) (by omega) (by omega) dX11_histories_9 ?_
  refine x_topL (a' := (mDP (smf (V 309)) (V 309) (V 309 6) (V 309 6).toNat 0).2) (show (wT (V 322) (V 309) (V 309 6) (-1) 0) 0 = (mDP (smf (V 309)) (V 309) (V 309 6) (V 309 6).toNat 0).2 from (by have := wT_rd (c := V 322) (a := V 309) (n := V 309 6) (i := -1) (j := 0) (t := 0) (s := 0) h6.2 (by omega) (by omega) ⟨by omega, p2_pos _⟩; rw [show (V 309 6 - 0).toNat = (V 309 6).toNat by omega] at this; exact this)) ?_
  exact x_lret hQ (rL.mk (by first | rfl | omega | (rw [if_pos (by omega)]) | (rw [if_neg (by omega)])) rfl) dX11_histories_10
set_option maxRecDepth 100000 in
set_option maxHeartbeats 4000000 in
theorem c_X11_led {B : Bs} {S : Stt} {V : Va} (one : Int) (hS : Stat S) (hA : AB (V 309)) (h6 : 0 ≤ (V 309 6) ∧ (V 309 6) ≤ 12) (h78 : 0 ≤ (V 309 7) ∧ (V 309 7) ≤ 9 ∧ 1 ≤ (V 309 8) ∧ (V 309 8) ≤ 99) (hQt : ∀ s, 0 ≤ s → s < (V 309 6) → 0 ≤ (V 309) (126 + 4 * s) ∧ (V 309) (126 + 4 * s) < 10 ∧ 0 ≤ (V 309) (126 + 4 * s + 2) ∧ (V 309) (126 + 4 * s + 2) ≤ 999 ∧ 0 ≤ (V 309) (126 + 4 * s + 3) ∧ (V 309) (126 + 4 * s + 3) ≤ 999) (hz : TRb (V 323)) (hone : InR one) : C B yX11_led cX11_led 5 (some .int) 5 0 0 [vR B 308, vI one] S V (rI S (up (up (up V 321 (if 0 ≤ one ∧ one ≤ (V 309 6) - 1 then cT (V 321) (V 309) (V 309 6) (-1) 0 else (V 321))) 322 (if 0 ≤ one ∧ one ≤ (V 309 6) - 1 then wT (V 322) (V 309) (V 309 6) (-1) 0 else (V 322))) 323 (if 0 ≤ one ∧ one ≤ (V 309 6) - 1 then smK (V 323) (V 309) (V 309 6) (12 * (V 309 6)) else (V 323))) (if 0 ≤ one ∧ one ≤ (V 309 6) - 1 then lCh (smf (V 309)) (V 309) (V 309 6) one (lSet (smf (V 309)) (V 309) (V 309 6) one.toNat) else -2)) := by
  refine C.of [some (vR B 308), some (vI one), none, none, none] ?_
  intro Γ hQ
  have h12 := p2_12 h6.2
  refine x_il1 dX11_led_0 ?_
  refine x_iconst dX11_led_1 ?_
  refine x_al0 dX11_led_2 ?_
  refine x_getR fl_X11_7 (sh_308 hS) (lq_308 hS) (rf_308_0 hS) dX11_led_3 ?_
  refine x_bipush dX11_led_6 ?_
  have hb1 := hA 6
  refine x_iald (sh_309 hS) (lq_309 hS) (by omega) (by omega) dX11_led_8 ?_
  refine x_topI (a' := V 309 6) rfl ?_
  refine x_iconst dX11_led_9 ?_
  refine x_isub dX11_led_10 ?_
  refine x_cSi mm_X11_isIn ml_X11_75 dX11_led_11 (c_X11_isIn one 0 ((V 309 6) - 1) (inr (by omega)) (inr (by decide)) (inr (by omega))) ?_
  refine x_ifb_ne (tgt := 20) dX11_led_14 (fun c14_2 => ?_) (fun c14_2 => ?_)
  · -- 14 ne -> 20
    refine x_al0 dX11_led_20 ?_
    refine x_cVv mm_X11_reckon ml_X11_352 dX11_led_21 (c_X11_reckon hS hA h6 h78 hQt hz) (sh_308 hS) (lq_308 hS) ?_
    refine x_iconst dX11_led_24 ?_
    refine x_is2 dX11_led_25 ?_
    refine x_iconst dX11_led_26 ?_
    refine x_is3 dX11_led_27 ?_
    have lp28 : ∀ (N28 : Nat) (set : Int) (i : Int), (0 ≤ i ∧ i ≤ one) → (set = lSet (smf (V 309)) (V 309) (V 309 6) i.toNat) → (V 309 6 - i).toNat < N28 → X Γ B RX11 "led" cX11_led 5 (some .int) 5 0 0 28 [some (vR B 308), some (vI one), some (vI set), some (vI i), none] [] 0 0 S (up (up (up V 321 (cT (V 321) (V 309) (V 309 6) (-1) 0)) 322 (wT (V 322) (V 309) (V 309 6) (-1) 0)) 323 (smK (V 323) (V 309) (V 309 6) (12 * (V 309 6)))) := by
      intro N28
      induction N28 with
      | zero => intro set i hi hsv hN; exact absurd hN (Nat.not_lt_zero _)
      | succ N28 ih28 =>
        intro set i hi hsv hN28
        have hset : 0 ≤ set ∧ set < p2 (V 309 6) := by rw [hsv]; exact lSet_r h6 i.toNat (by omega)
        have hlr := lCh_r (sm := smf (V 309)) (a := V 309) (i := i) h6.2 (by omega) hset
        have hlo := lCh_ok (sm := smf (V 309)) (a := V 309) (i := i) h6.2 (by omega) hset
        have hdr := mDP_r (sm := smf (V 309)) (a := V 309) (n := V 309 6) (by omega) (V 309 6 - i).toNat (by omega) set hset.1 hset.2
        refine x_il3 dX11_led_28 ?_
        refine x_al0 dX11_led_29 ?_
        refine x_getR fl_X11_7 (sh_308 hS) (lq_308 hS) (rf_308_0 hS) dX11_led_30 ?_
        refine x_bipush dX11_led_33 ?_
        have hb3 := hA 6
        refine x_iald (sh_309 hS) (lq_309 hS) (by omega) (by omega) dX11_led_35 ?_
        refine x_topI (a' := V 309 6) rfl ?_
        refine x_icmp_ge (tgt := 126) dX11_led_36 (inr (by omega)) (inr (by omega)) (fun c36_4 => ?_) (fun c36_4 => ?_)
        · exact absurd c36_4 (by omega)
        · -- 36 ge -> 39
          refine x_iconst dX11_led_39 ?_
          refine x_is4 dX11_led_40 ?_
          have lp42 : ∀ (N42 : Nat) (j : Int), (-1 ≤ j ∧ j ≤ lCh (smf (V 309)) (V 309) (V 309 6) i set) → (lCh (smf (V 309)) (V 309) (V 309 6) i set - j).toNat < N42 → X Γ B RX11 "led" cX11_led 5 (some .int) 5 0 0 42 [some (vR B 308), some (vI one), some (vI set), some (vI i), some (vI j)] [] 0 0 S (up (up (up V 321 (cT (V 321) (V 309) (V 309 6) (-1) 0)) 322 (wT (V 322) (V 309) (V 309 6) (-1) 0)) 323 (smK (V 323) (V 309) (V 309 6) (12 * (V 309 6)))) := by
            intro N42
            induction N42 with
            | zero => intro j hj hN; exact absurd hN (Nat.not_lt_zero _)
            | succ N42 ih42 =>
              intro j hj hN42
              have hnx := mNx_lt (j := j) hset (by omega)
              have hdr2 := mDP_r (sm := smf (V 309)) (a := V 309) (n := V 309 6) (by omega) (V 309 6 - (i + 1)).toNat (by omega) (mNx set j) hnx.1 hnx.2
              have hco := mCo_r (V 309) i j
              have hok := mOpt_smK (s := V 323) (a := V 309) (n := V 309 6) (j := j) (i := i) (set := set) h6.2 (by omega) (by omega)
              refine x_al0 dX11_led_42 ?_
              refine x_il3 dX11_led_43 ?_
              refine x_il4 dX11_led_44 ?_
              refine x_il2 dX11_led_46 ?_
              refine x_cVi mm_X11_mayBe ml_X11_343 dX11_led_47 (c_X11_mayBe i j set hS (show TRb (smK (V 323) (V 309) (V 309 6) (12 * (V 309 6))) from (TRb_smK hz)) (by omega) (by omega) (by omega)) (sh_308 hS) (lq_308 hS) ?_
              refine x_top (v' := vI (if mOpt (smK (V 323) (V 309) (V 309 6) (12 * (V 309 6))) i j set then 1 else 0)) rfl ?_
              refine x_ifb_eq (tgt := 89) dX11_led_50 (fun c50_5 => ?_) (fun c50_5 => ?_)
              · -- 50 eq -> 89
                refine x_inc4 dX11_led_89 ?_
                refine x_goto (tgt := 42) dX11_led_92 ?_
                have hne : j ≠ lCh (smf (V 309)) (V 309) (V 309 6) i set := by
                  intro hje
                  rw [← hje] at hlo
                  first | (exact absurd (hok.mpr hlo.1) (by assumption)) | (exact absurd hlo.2 (by assumption))
                exact x_fg (ih42 (j + 1) (by omega) (by omega)) (And.intro rfl (And.intro rfl (And.intro rfl (And.intro rfl (And.intro rfl trivial)))))
              · -- 50 eq -> 53
                refine x_al0 dX11_led_53 ?_
                refine x_il3 dX11_led_54 ?_
                refine x_il4 dX11_led_55 ?_
                refine x_cVi mm_X11_costOf ml_X11_349 dX11_led_57 (c_X11_costOf i j hS (show AB (V 309) from hA) (by omega) (by omega)) (sh_308 hS) (lq_308 hS) ?_
                refine x_topI (a' := mCo (V 309) i j) rfl ?_
                refine x_al0 dX11_led_60 ?_
                refine x_getR fl_X11_56 (sh_308 hS) (lq_308 hS) (rf_308_30 hS) dX11_led_61 ?_
                refine x_al0 dX11_led_64 ?_
                refine x_il3 dX11_led_65 ?_
                refine x_il4 dX11_led_66 ?_
                refine x_il2 dX11_led_68 ?_
                refine x_cVi mm_X11_behind ml_X11_346 dX11_led_69 (c_X11_behind i j set (by omega) (by omega) (by omega)) (sh_308 hS) (lq_308 hS) ?_
                refine x_iald (sh_321 hS) (lq_321 hS) (by omega) (by omega) dX11_led_72 ?_
                refine x_topI (a' := (mDP (smf (V 309)) (V 309) (V 309 6) (V 309 6 - (i + 1)).toNat (mNx set j)).1) (show (cT (V 321) (V 309) (V 309 6) (-1) 0) (4096 * (i + 1) + mNx set j) = (mDP (smf (V 309)) (V 309) (V 309 6) (V 309 6 - (i + 1)).toNat (mNx set j)).1 from (cT_rd h6.2 (by omega) (by omega) (by first | exact hset | exact hnx))) ?_
                refine x_iadd dX11_led_73 ?_
                refine x_al0 dX11_led_74 ?_
                refine x_getR fl_X11_56 (sh_308 hS) (lq_308 hS) (rf_308_30 hS) dX11_led_75 ?_
                refine x_sipush dX11_led_78 ?_
                refine x_il3 dX11_led_81 ?_
                refine x_imul dX11_led_82 ?_
                refine x_il2 dX11_led_83 ?_
                refine x_iadd dX11_led_84 ?_
                refine x_iald (sh_321 hS) (lq_321 hS) (by omega) (by omega) dX11_led_85 ?_
                refine x_topI (a' := (mDP (smf (V 309)) (V 309) (V 309 6) (V 309 6 - i).toNat set).1) (show (cT (V 321) (V 309) (V 309 6) (-1) 0) ((4096 * i) + set) = (mDP (smf (V 309)) (V 309) (V 309 6) (V 309 6 - i).toNat set).1 from (cT_rd h6.2 (by omega) (by omega) (by first | exact hset | exact hnx))) ?_
                refine x_icmp_eq (tgt := 95) dX11_led_86 (inr (by omega)) (inr (by omega)) (fun c86_6 => ?_) (fun c86_6 => ?_)
                · -- 86 eq -> 95
                  have hje : j = lCh (smf (V 309)) (V 309) (V 309 6) i set := by
                    by_cases q : j < lCh (smf (V 309)) (V 309) (V 309 6) i set
                    · exact absurd ⟨hok.mp (by assumption), by assumption⟩ (lCh_min (by omega) hj.1 q)
                    · omega
                  refine x_il3 dX11_led_95 ?_
                  refine x_il1 dX11_led_96 ?_
                  refine x_icmp_ne (tgt := 103) dX11_led_97 (inr (by omega)) (inr (by omega)) (fun c97_7 => ?_) (fun c97_7 => ?_)
                  · -- 97 ne -> 103
                    refine x_al0 dX11_led_103 ?_
                    refine x_il3 dX11_led_104 ?_
                    refine x_il4 dX11_led_105 ?_
                    refine x_il2 dX11_led_107 ?_
                    refine x_cVi mm_X11_behind ml_X11_346 dX11_led_108 (c_X11_behind i j set (by omega) (by omega) (by omega)) (sh_308 hS) (lq_308 hS) ?_
                    refine x_sipush dX11_led_111 ?_
                    refine x_il3 dX11_led_114 ?_
                    refine x_iconst dX11_led_115 ?_
                    refine x_iadd dX11_led_116 ?_
                    refine x_imul dX11_led_117 ?_
                    refine x_isub dX11_led_118 ?_
                    refine x_is2 dX11_led_119 ?_
                    refine x_inc3 dX11_led_120 ?_
                    refine x_goto (tgt := 28) dX11_led_123 ?_
                    exact x_fg (ih28 ((4096 * (i + 1) + mNx set j) - (4096 * (i + 1))) (i + 1) (by omega) (by rw [show (i + 1).toNat = i.toNat + 1 by omega]; simp only [lSet]; rw [← hsv, show ((i.toNat : Nat) : Int) = i by omega, ← hje]; omega) (by omega)) (And.intro rfl (And.intro rfl (And.intro rfl (And.intro rfl trivial))))
                  · -- 97 ne -> 100
                    refine x_il4 dX11_led_100 ?_
                    exact x_iret hQ (rI.mk (by rw [if_pos (by omega), hje, hsv, show i = one by omega]) (by rw [if_pos (by omega), if_pos (by omega), if_pos (by omega)])) dX11_led_102
                · -- 86 eq -> 89
                  refine x_inc4 dX11_led_89 ?_
                  refine x_goto (tgt := 42) dX11_led_92 ?_
                  have hne : j ≠ lCh (smf (V 309)) (V 309) (V 309 6) i set := by
                    intro hje
                    rw [← hje] at hlo
                    first | (exact absurd (hok.mpr hlo.1) (by assumption)) | (exact absurd hlo.2 (by assumption))
                  exact x_fg (ih42 (j + 1) (by omega) (by omega)) (And.intro rfl (And.intro rfl (And.intro rfl (And.intro rfl (And.intro rfl trivial)))))
          exact x_fg (lp42 _ (-1) (by omega) (Nat.lt_succ_self _)) (And.intro rfl (And.intro rfl (And.intro rfl (And.intro rfl (And.intro rfl trivial)))))
    exact x_fg (lp28 _ 0 0 (by omega) rfl (Nat.lt_succ_self _)) (And.intro rfl (And.intro rfl (And.intro rfl (And.intro rfl trivial))))
  · -- 14 ne -> 17
    refine x_bipush dX11_led_17 ?_
    exact x_iret hQ (rI.mk (by rw [if_neg (by omega)]) (by rw [if_neg (by omega), if_neg (by omega), if_neg (by omega), up_self, up_self, up_self])) dX11_led_19
