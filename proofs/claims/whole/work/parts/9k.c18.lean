set_option maxRecDepth 100000 in
set_option maxHeartbeats 4000000 in
theorem c_X1_choose {B : Bs} {S : Stt} {V : Va} (ah : Int) (hS : Stat S) (hah : 0 ≤ ah ∧ ah < 2048) (hcs : ∀ s, 0 ≤ s → s < 2048 → 0 ≤ (V 301) s ∧ (V 301) s ≤ 1000000000000000000) (hlk : 0 ≤ (V 297 4) ∧ (V 297 4) ≤ 12) (hbt : ∀ k, 0 ≤ k → k < (V 297 4) → 0 ≤ (V 299) k ∧ (V 299) k < 2048) (hpc : ∀ k, 0 ≤ k → k < (V 297 4) → 0 ≤ (V 300) k ∧ (V 300) k ≤ 1000000000000000000) : C B yX1_choose cX1_choose 9 none 1 0 0 [vR B 297, vI ah] S V (rV S (up (up V 301 (ua (V 301) ah (chF (V 301) (V 302) (V 299) (V 300) ah ((V 297 4)).toNat).1)) 302 (ua (V 302) ah (chF (V 301) (V 302) (V 299) (V 300) ah ((V 297 4)).toNat).2))) := by
  refine C.of [some (vR B 297), some (vI ah), none, none, none, none, none, none, none] ?_
  intro Γ hQ
  have e48 : p2 48 = 281474976710656 := by decide
  have e11 : p2 11 = 2048 := by decide
  have hca := hcs ah hah.1 hah.2
  refine x_al0 dX1_choose_0 ?_
  refine x_getR fl_X1_22 (sh_297 hS) (lq_297 hS) (rf_297_5 hS) dX1_choose_1 ?_
  refine x_il1 dX1_choose_4 ?_
  refine x_lald (sh_301 hS) (lq_301 hS) (by omega) (by omega) dX1_choose_5 ?_
  refine x_topL (a' := V 301 ah) rfl ?_
  refine x_ldc2 (a := 4503599627370496) kl_X1_86 (by decide) dX1_choose_6 ?_
  refine x_ladd dX1_choose_9 ?_
  refine x_ls2 dX1_choose_10 ?_
  refine x_al0 dX1_choose_11 ?_
  refine x_getR fl_X1_25 (sh_297 hS) (lq_297 hS) (rf_297_6 hS) dX1_choose_12 ?_
  refine x_il1 dX1_choose_15 ?_
  refine x_lald (sh_302 hS) (lq_302 hS) (by omega) (by omega) dX1_choose_16 ?_
  refine x_topL (a' := V 302 ah) rfl ?_
  refine x_ls4 dX1_choose_17 ?_
  refine x_iconst dX1_choose_19 ?_
  refine x_is6 dX1_choose_20 ?_
  have lp22 : ∀ (N22 : Nat) (k : Int) (b : Int) (w : Int), (0 ≤ k ∧ k ≤ V 297 4) → (0 ≤ b ∧ b ≤ 2000000000000000000) → (chF (V 301) (V 302) (V 299) (V 300) ah k.toNat = (b, w)) → (V 297 4 - k).toNat < N22 → X Γ B RX1 "choose" cX1_choose 9 none 1 0 0 22 [some (vR B 297), some (vI ah), some (vL b), none, some (vL w), none, some (vI k), none, none] [] 0 0 S V := by
    intro N22
    induction N22 with
    | zero => intro k b w hk hb he hN; exact absurd hN (Nat.not_lt_zero _)
    | succ N22 ih22 =>
      intro k b w hk hb he hN22
      refine x_il6 dX1_choose_22 ?_
      refine x_al0 dX1_choose_24 ?_
      refine x_getI fl_X1_76 (sh_297 hS) (lq_297 hS) dX1_choose_25 ?_
      refine x_topI (a' := V 297 4) rfl ?_
      refine x_icmp_ge (tgt := 138) dX1_choose_28 (inr (by omega)) (inr (by omega)) (fun c28_1 => ?_) (fun c28_1 => ?_)
      · -- 28 ge -> 138
        refine x_al0 dX1_choose_138 ?_
        refine x_getR fl_X1_22 (sh_297 hS) (lq_297 hS) (rf_297_5 hS) dX1_choose_139 ?_
        refine x_il1 dX1_choose_142 ?_
        refine x_ll2 dX1_choose_143 ?_
        refine x_last (sh_301 hS) (lq_301 hS) (by omega) (by omega) dX1_choose_144 ?_
        refine x_mem (V' := (up V 301 (ua (V 301) ah b))) rfl ?_
        refine x_al0 dX1_choose_145 ?_
        refine x_getR fl_X1_25 (sh_297 hS) (lq_297 hS) (rf_297_6 hS) dX1_choose_146 ?_
        refine x_il1 dX1_choose_149 ?_
        refine x_ll4 dX1_choose_150 ?_
        refine x_last (sh_302 hS) (lq_302 hS) (by omega) (by omega) dX1_choose_152 ?_
        refine x_mem (V' := (up (up V 301 (ua (V 301) ah b)) 302 (ua (V 302) ah w))) rfl ?_
        exact x_vret hQ (rV.mk (by have q := he; rw [show k = V 297 4 by omega] at q; rw [q])) dX1_choose_153
      · -- 28 ge -> 31
        have hbk := hbt k hk.1 (by omega)
        have hpk := hpc k hk.1 (by omega)
        have hbo := bor_lt (x := ah) (y := V 299 k) (n := 11) (by omega) (by omega)
        have hcb := hcs (bor ah (V 299 k)) hbo.1 (by omega)
        refine x_il1 dX1_choose_31 ?_
        refine x_al0 dX1_choose_32 ?_
        refine x_getR fl_X1_15 (sh_297 hS) (lq_297 hS) (rf_297_2 hS) dX1_choose_33 ?_
        refine x_il6 dX1_choose_36 ?_
        refine x_iald (sh_299 hS) (lq_299 hS) (by omega) (by omega) dX1_choose_38 ?_
        refine x_topI (a' := V 299 k) rfl ?_
        refine x_iand (by omega) (by omega) dX1_choose_39 ?_
        refine x_if_ne (tgt := 132) dX1_choose_40 (inr (by have q := band_r (y := V 299 k) hah.1; omega)) (fun c40_2 => ?_) (fun c40_2 => ?_)
        · -- 40 ne -> 132
          have hc := c40_2
          refine x_inc6 dX1_choose_132 ?_
          refine x_goto (tgt := 22) dX1_choose_135 ?_
          exact x_fg (ih22 (k + 1) b w (by omega) (by first | exact hb | exact chF_r hb (by omega)) (by first | exact (chF_no hk.1 hc).trans he | exact chF_on1 hk.1 hc he hd | exact chF_on2 hk.1 hc he hd hf | exact chF_on3 hk.1 hc he hd (by omega)) (by omega)) (And.intro rfl (And.intro rfl (And.intro rfl (And.intro rfl (And.intro rfl trivial)))))
        · -- 40 ne -> 43
          have hc := c40_2
          refine x_al0 dX1_choose_43 ?_
          refine x_getR fl_X1_22 (sh_297 hS) (lq_297 hS) (rf_297_5 hS) dX1_choose_44 ?_
          refine x_il1 dX1_choose_47 ?_
          refine x_al0 dX1_choose_48 ?_
          refine x_getR fl_X1_15 (sh_297 hS) (lq_297 hS) (rf_297_2 hS) dX1_choose_49 ?_
          refine x_il6 dX1_choose_52 ?_
          refine x_iald (sh_299 hS) (lq_299 hS) (by omega) (by omega) dX1_choose_54 ?_
          refine x_topI (a' := V 299 k) rfl ?_
          refine x_ior (by omega) (by omega) dX1_choose_55 ?_
          refine x_lald (sh_301 hS) (lq_301 hS) (by omega) (by omega) dX1_choose_56 ?_
          refine x_topL (a' := V 301 (bor ah (V 299 k))) rfl ?_
          refine x_al0 dX1_choose_57 ?_
          refine x_getR fl_X1_18 (sh_297 hS) (lq_297 hS) (rf_297_3 hS) dX1_choose_58 ?_
          refine x_il6 dX1_choose_61 ?_
          refine x_lald (sh_300 hS) (lq_300 hS) (by omega) (by omega) dX1_choose_63 ?_
          refine x_topL (a' := V 300 k) rfl ?_
          refine x_ladd dX1_choose_64 ?_
          refine x_ls7 dX1_choose_65 ?_
          refine x_ll7 dX1_choose_67 ?_
          refine x_bipush dX1_choose_69 ?_
          refine x_lshr (inl_ (by omega)) (by rw [e48]; omega) (by decide) (by decide) dX1_choose_71 ?_
          refine x_ll2 dX1_choose_72 ?_
          refine x_bipush dX1_choose_73 ?_
          refine x_lshr (inl_ (by omega)) (by rw [e48]; omega) (by decide) (by decide) dX1_choose_75 ?_
          refine x_lcmp_ne (tgt := 102) dX1_choose_76 dX1_choose_77 (by rw [e48]; omega) (by rw [e48]; omega) (fun c76_3 => ?_) (fun c76_3 => ?_)
          · -- 76 ne -> 102
            have hd := c76_3
            refine x_ll7 dX1_choose_102 ?_
            refine x_ll2 dX1_choose_104 ?_
            refine x_lcmp_ge (tgt := 125) dX1_choose_105 dX1_choose_106 (inl_ (by omega)) (inl_ (by omega)) (fun c105_4 => ?_) (fun c105_4 => ?_)
            · -- 105 ge -> 125
              refine x_ll2 dX1_choose_125 ?_
              refine x_ll7 dX1_choose_126 ?_
              refine x_mminL ml_X1_88 dX1_choose_128 (inl_ (by omega)) (inl_ (by omega)) ?_
              refine x_ls2 dX1_choose_131 ?_
              have hc := c40_2
              refine x_inc6 dX1_choose_132 ?_
              refine x_goto (tgt := 22) dX1_choose_135 ?_
              exact x_fg (ih22 (k + 1) (if (V 301 (bor ah (V 299 k))) + (V 300 k) < b then (V 301 (bor ah (V 299 k))) + (V 300 k) else b) w (by omega) (by first | exact hb | exact chF_r hb (by omega)) (by first | exact (chF_no hk.1 hc).trans he | exact chF_on1 hk.1 hc he hd | exact chF_on2 hk.1 hc he hd hf | exact chF_on3 hk.1 hc he hd (by omega)) (by omega)) (And.intro rfl (And.intro rfl (And.intro rfl (And.intro rfl (And.intro rfl trivial)))))
            · -- 105 ge -> 109
              have hf := c105_4
              refine x_al0 dX1_choose_109 ?_
              refine x_getR fl_X1_25 (sh_297 hS) (lq_297 hS) (rf_297_6 hS) dX1_choose_110 ?_
              refine x_il1 dX1_choose_113 ?_
              refine x_al0 dX1_choose_114 ?_
              refine x_getR fl_X1_15 (sh_297 hS) (lq_297 hS) (rf_297_2 hS) dX1_choose_115 ?_
              refine x_il6 dX1_choose_118 ?_
              refine x_iald (sh_299 hS) (lq_299 hS) (by omega) (by omega) dX1_choose_120 ?_
              refine x_topI (a' := V 299 k) rfl ?_
              refine x_ior (by omega) (by omega) dX1_choose_121 ?_
              refine x_lald (sh_302 hS) (lq_302 hS) (by omega) (by omega) dX1_choose_122 ?_
              refine x_topL (a' := V 302 (bor ah (V 299 k))) rfl ?_
              refine x_ls4 dX1_choose_123 ?_
              refine x_ll2 dX1_choose_125 ?_
              refine x_ll7 dX1_choose_126 ?_
              refine x_mminL ml_X1_88 dX1_choose_128 (inl_ (by omega)) (inl_ (by omega)) ?_
              refine x_ls2 dX1_choose_131 ?_
              have hc := c40_2
              refine x_inc6 dX1_choose_132 ?_
              refine x_goto (tgt := 22) dX1_choose_135 ?_
              exact x_fg (ih22 (k + 1) (if (V 301 (bor ah (V 299 k))) + (V 300 k) < b then (V 301 (bor ah (V 299 k))) + (V 300 k) else b) (V 302 (bor ah (V 299 k))) (by omega) (by first | exact hb | exact chF_r hb (by omega)) (by first | exact (chF_no hk.1 hc).trans he | exact chF_on1 hk.1 hc he hd | exact chF_on2 hk.1 hc he hd hf | exact chF_on3 hk.1 hc he hd (by omega)) (by omega)) (And.intro rfl (And.intro rfl (And.intro rfl (And.intro rfl (And.intro rfl trivial)))))
          · -- 76 ne -> 80
            have hd := c76_3
            refine x_ll4 dX1_choose_80 ?_
            refine x_al0 dX1_choose_82 ?_
            refine x_getR fl_X1_25 (sh_297 hS) (lq_297 hS) (rf_297_6 hS) dX1_choose_83 ?_
            refine x_il1 dX1_choose_86 ?_
            refine x_al0 dX1_choose_87 ?_
            refine x_getR fl_X1_15 (sh_297 hS) (lq_297 hS) (rf_297_2 hS) dX1_choose_88 ?_
            refine x_il6 dX1_choose_91 ?_
            refine x_iald (sh_299 hS) (lq_299 hS) (by omega) (by omega) dX1_choose_93 ?_
            refine x_topI (a' := V 299 k) rfl ?_
            refine x_ior (by omega) (by omega) dX1_choose_94 ?_
            refine x_lald (sh_302 hS) (lq_302 hS) (by omega) (by omega) dX1_choose_95 ?_
            refine x_topL (a' := V 302 (bor ah (V 299 k))) rfl ?_
            refine x_ladd dX1_choose_96 ?_
            refine x_ls4 dX1_choose_97 ?_
            refine x_goto (tgt := 125) dX1_choose_99 ?_
            refine x_ll2 dX1_choose_125 ?_
            refine x_ll7 dX1_choose_126 ?_
            refine x_mminL ml_X1_88 dX1_choose_128 (inl_ (by omega)) (inl_ (by omega)) ?_
            refine x_ls2 dX1_choose_131 ?_
            have hc := c40_2
            refine x_inc6 dX1_choose_132 ?_
            refine x_goto (tgt := 22) dX1_choose_135 ?_
            exact x_fg (ih22 (k + 1) (if (V 301 (bor ah (V 299 k))) + (V 300 k) < b then (V 301 (bor ah (V 299 k))) + (V 300 k) else b) (w + (V 302 (bor ah (V 299 k)))) (by omega) (by first | exact hb | exact chF_r hb (by omega)) (by first | exact (chF_no hk.1 hc).trans he | exact chF_on1 hk.1 hc he hd | exact chF_on2 hk.1 hc he hd hf | exact chF_on3 hk.1 hc he hd (by omega)) (by omega)) (And.intro rfl (And.intro rfl (And.intro rfl (And.intro rfl (And.intro rfl trivial)))))
  exact x_fg (lp22 _ 0 ((V 301 ah) + 4503599627370496) (V 302 ah) (by omega) (by omega) rfl (Nat.lt_succ_self _)) (And.intro rfl (And.intro rfl (And.intro rfl (And.intro rfl (And.intro rfl trivial)))))
