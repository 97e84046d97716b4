set_option maxRecDepth 100000 in
set_option maxHeartbeats 4000000 in
theorem c_X6_place {B : Bs} {S : Stt} (hS : Stat S) (kd my br : Int → Int) (cl : Int → Int → Prop) (n : Int) : ∀ (d : Nat) (V : Va) (i used most : Int), (V 289 9 = n) → (ShB V kd my cl n) → (ClB kd my br cl n) → (∀ i, 0 ≤ i → i < n → -1 ≤ V 295 i ∧ V 295 i < i) → (HasI (V 293) (V 296) i) → (used = usedN (V 296) i.toNat) → (∀ k, 0 ≤ k → k < i → 0 ≤ V 296 k ∧ V 296 k ≤ k) → (0 ≤ i ∧ i ≤ n) → (0 ≤ most ∧ most ≤ 100) → (n - i ≤ d) → C B yX6_place cX6_place 7 (some .boolean) (d + 3) 0 0 [vR B 289, vI i, vI used, vI most] S V (rPl S V (PlP kd br my (V 295) n most i (V 296))) := by
  intro d
  induction d using Nat.strongRecOn
  rename_i d ih
  intro V i used most hn9 hSB hC hT hH hu hpre hi hm hd
  refine C.of [some (vR B 289), some (vI i), some (vI used), some (vI most), none, none, none] ?_
  intro Γ hQ
  have hn := hSB.1
  have e12 : p2 12 = 4096 := by decide
  have hur := usedN_r (h := V 296) i.toNat (fun k k0 k1 => (hpre k k0 (by omega)).2)
  rw [← hu] at hur
  refine x_il1 dX6_place_0 ?_
  refine x_al0 dX6_place_1 ?_
  refine x_getI fl_X6_68 (sh_289 hS) (lq_289 hS) dX6_place_2 ?_
  refine x_topI (a' := V 289 9) rfl ?_
  refine x_icmp_lt (tgt := 10) dX6_place_5 (inr (by omega)) (inr (by omega)) (fun c5_1 => ?_) (fun c5_1 => ?_)
  · -- 5 lt -> 10
    have ht := hT i hi.1 (by omega)
    have k1 := hSB.2.1 i hi.1 (by omega)
    have k2 := k1.1
    have k3 := k1.2.1.1
    have k4 := k1.2.1.2.1
    have k5 := k1.2.2
    refine x_al0 dX6_place_10 ?_
    refine x_getR fl_X6_27 (sh_289 hS) (lq_289 hS) (rf_289_7 hS) dX6_place_11 ?_
    refine x_il1 dX6_place_14 ?_
    refine x_iald (sh_295 hS) (lq_295 hS) (by omega) (by omega) dX6_place_15 ?_
    refine x_topI (a' := V 295 i) rfl ?_
    refine x_if_ge (tgt := 23) dX6_place_16 (inr (by omega)) (fun c16_2 => ?_) (fun c16_2 => ?_)
    · -- 16 ge -> 23
      have hg0 := hpre (V 295 i) (by omega) (by omega)
      refine x_al0 dX6_place_23 ?_
      refine x_getR fl_X6_30 (sh_289 hS) (lq_289 hS) (rf_289_8 hS) dX6_place_24 ?_
      refine x_al0 dX6_place_27 ?_
      refine x_getR fl_X6_27 (sh_289 hS) (lq_289 hS) (rf_289_7 hS) dX6_place_28 ?_
      refine x_il1 dX6_place_31 ?_
      refine x_iald (sh_295 hS) (lq_295 hS) (by omega) (by omega) dX6_place_32 ?_
      refine x_topI (a' := V 295 i) rfl ?_
      refine x_iald (sh_296 hS) (lq_296 hS) (by omega) (by omega) dX6_place_33 ?_
      refine x_topI (a' := V 296 (V 295 i)) rfl ?_
      refine x_is4 dX6_place_34 ?_
      refine x_il4 dX6_place_36 ?_
      refine x_is5 dX6_place_38 ?_
      have lp40 : ∀ (N40 : Nat) (s : Int) (g : Int → Int), (0 ≤ s ∧ s ≤ 13) → (PlL kd br my (V 295) n most i s (V 296) g) → (used + 1 - s).toNat < N40 → X Γ B RX6 "place" cX6_place 7 (some .boolean) (d + 3) 0 0 40 [some (vR B 289), some (vI i), some (vI used), some (vI most), none, some (vI s), none] [] 0 0 S (up (up V 293 (V 293)) 296 g) := by
        intro N40
        induction N40 with
        | zero => intro s g hs hL hN; exact absurd hN (Nat.not_lt_zero _)
        | succ N40 ih40 =>
          intro s g hs hL hN40
          refine x_il5 dX6_place_40 ?_
          refine x_il2 dX6_place_42 ?_
          refine x_icmp_gt (tgt := 170) dX6_place_43 (inr (by omega)) (inr (by omega)) (fun c43_3 => ?_) (fun c43_3 => ?_)
          · -- 43 gt -> 170
            refine x_iconst dX6_place_170 ?_
            exact x_zret hQ ⟨0, V 293, g, rfl, rfl, rfl, fun _ => rfl, Or.inl rfl, PlL_end hi.1 (by omega) hL (by omega)⟩ (by decide) dX6_place_171
          · -- 43 gt -> 46
            refine x_il5 dX6_place_46 ?_
            refine x_il3 dX6_place_48 ?_
            refine x_icmp_ge (tgt := 170) dX6_place_49 (inr (by omega)) (inr (by omega)) (fun c49_4 => ?_) (fun c49_4 => ?_)
            · -- 49 ge -> 170
              refine x_iconst dX6_place_170 ?_
              exact x_zret hQ ⟨0, V 293, g, rfl, rfl, rfl, fun _ => rfl, Or.inl rfl, PlL_end hi.1 (by omega) hL (by omega)⟩ (by decide) dX6_place_171
            · -- 49 ge -> 52
              have hsv := hH.2 s (by omega) (by omega)
              have b1 := band_r (x := V 293 s) (y := V 291 i) hsv.1
              have b2 := band_r (x := V 293 s) (y := V 292 i) hsv.1
              have b3 := bN_r (band (V 293 s) (V 292 i)) 16 (by omega)
              have hfc := fits_c (s := s) hSB hC hH hi.1 (by omega) (by omega) (by omega)
              refine x_al0 dX6_place_52 ?_
              refine x_getR fl_X6_21 (sh_289 hS) (lq_289 hS) (rf_289_5 hS) dX6_place_53 ?_
              refine x_il5 dX6_place_56 ?_
              refine x_iald (sh_293 hS) (lq_293 hS) (by omega) (by omega) dX6_place_58 ?_
              refine x_topI (a' := V 293 s) rfl ?_
              refine x_al0 dX6_place_59 ?_
              refine x_getR fl_X6_15 (sh_289 hS) (lq_289 hS) (rf_289_3 hS) dX6_place_60 ?_
              refine x_il1 dX6_place_63 ?_
              refine x_iald (sh_291 hS) (lq_291 hS) (by omega) (by omega) dX6_place_64 ?_
              refine x_topI (a' := V 291 i) rfl ?_
              refine x_iand hsv.1 (by omega) dX6_place_65 ?_
              refine x_if_ne (tgt := 99) dX6_place_66 (inr (by omega)) (fun c66_5 => ?_) (fun c66_5 => ?_)
              · -- 66 ne -> 99
                refine x_iconst dX6_place_99 ?_
                refine x_is6 dX6_place_100 ?_
                refine x_il6 dX6_place_102 ?_
                refine x_if_eq (tgt := 164) dX6_place_104 (inr (by decide)) (fun c104_6 => ?_) (fun c104_6 => ?_)
                · -- 104 eq -> 164
                  refine x_inc5 dX6_place_164 ?_
                  refine x_goto (tgt := 40) dX6_place_167 ?_
                  exact x_fg (ih40 (s + 1) g (by omega) (PlL_no hi.1 (by omega) hL (fun z => by have y := hfc.mpr z; omega)) (by omega)) (And.intro rfl (And.intro rfl (And.intro rfl (And.intro rfl (And.intro rfl trivial)))))
                · exact absurd c104_6 (by decide)
              · -- 66 ne -> 69
                refine x_al0 dX6_place_69 ?_
                refine x_getR fl_X6_21 (sh_289 hS) (lq_289 hS) (rf_289_5 hS) dX6_place_70 ?_
                refine x_il5 dX6_place_73 ?_
                refine x_iald (sh_293 hS) (lq_293 hS) (by omega) (by omega) dX6_place_75 ?_
                refine x_topI (a' := V 293 s) rfl ?_
                refine x_al0 dX6_place_76 ?_
                refine x_getR fl_X6_18 (sh_289 hS) (lq_289 hS) (rf_289_4 hS) dX6_place_77 ?_
                refine x_il1 dX6_place_80 ?_
                refine x_iald (sh_292 hS) (lq_292 hS) (by omega) (by omega) dX6_place_81 ?_
                refine x_topI (a' := V 292 i) rfl ?_
                refine x_iand hsv.1 (by omega) dX6_place_82 ?_
                refine x_cSi mm_J6_bitCount_0f7a4 ml_X6_120 dX6_place_83 (c_J6_bitCount_0f7a4 (band (V 293 s) (V 292 i)) (by omega)) ?_ (hlev := by omega)
                refine x_al0 dX6_place_86 ?_
                refine x_getR fl_X6_24 (sh_289 hS) (lq_289 hS) (rf_289_6 hS) dX6_place_87 ?_
                refine x_il1 dX6_place_90 ?_
                refine x_iald (sh_294 hS) (lq_294 hS) (by omega) (by omega) dX6_place_91 ?_
                refine x_topI (a' := V 294 i) rfl ?_
                refine x_icmp_ge (tgt := 99) dX6_place_92 (inr (by omega)) (inr (by omega)) (fun c92_7 => ?_) (fun c92_7 => ?_)
                · -- 92 ge -> 99
                  refine x_iconst dX6_place_99 ?_
                  refine x_is6 dX6_place_100 ?_
                  refine x_il6 dX6_place_102 ?_
                  refine x_if_eq (tgt := 164) dX6_place_104 (inr (by decide)) (fun c104_8 => ?_) (fun c104_8 => ?_)
                  · -- 104 eq -> 164
                    refine x_inc5 dX6_place_164 ?_
                    refine x_goto (tgt := 40) dX6_place_167 ?_
                    exact x_fg (ih40 (s + 1) g (by omega) (PlL_no hi.1 (by omega) hL (fun z => by have y := hfc.mpr z; omega)) (by omega)) (And.intro rfl (And.intro rfl (And.intro rfl (And.intro rfl (And.intro rfl trivial)))))
                  · exact absurd c104_8 (by decide)
                · -- 92 ge -> 95
                  refine x_iconst dX6_place_95 ?_
                  refine x_goto (tgt := 100) dX6_place_96 ?_
                  refine x_is6 dX6_place_100 ?_
                  refine x_il6 dX6_place_102 ?_
                  refine x_if_eq (tgt := 164) dX6_place_104 (inr (by decide)) (fun c104_9 => ?_) (fun c104_9 => ?_)
                  · exact absurd c104_9 (by decide)
                  · -- 104 eq -> 107
                    have hcan : canP kd br my (V 296) i s := hfc.mp ⟨by omega, by omega⟩
                    have bo := bor_nn (V 293 s) (p2 i)
                    have p_i := p2_pos i
                    refine x_al0 dX6_place_107 ?_
                    refine x_getR fl_X6_21 (sh_289 hS) (lq_289 hS) (rf_289_5 hS) dX6_place_108 ?_
                    refine x_il5 dX6_place_111 ?_
                    refine x_dup2 dX6_place_113 ?_
                    refine x_iald (sh_293 hS) (lq_293 hS) (by omega) (by omega) dX6_place_114 ?_
                    refine x_topI (a' := V 293 s) rfl ?_
                    refine x_iconst dX6_place_115 ?_
                    refine x_il1 dX6_place_116 ?_
                    refine x_shl1 (by omega) (by omega) dX6_place_117 ?_
                    refine x_ior hsv.1 (Int.le_of_lt (p2_pos _)) dX6_place_118 ?_
                    refine x_iast (sh_293 hS) (lq_293 hS) (by omega) (by omega) dX6_place_119 ?_
                    refine x_mem (V' := (up (up V 293 (ua (V 293) s (bor (V 293 s) (p2 i)))) 296 g)) (st2_c (by decide) (st2_up _ _ _ _ _)) ?_
                    refine x_al0 dX6_place_120 ?_
                    refine x_getR fl_X6_30 (sh_289 hS) (lq_289 hS) (rf_289_8 hS) dX6_place_121 ?_
                    refine x_il1 dX6_place_124 ?_
                    refine x_il5 dX6_place_125 ?_
                    refine x_iast (sh_296 hS) (lq_296 hS) (by omega) (by omega) dX6_place_127 ?_
                    refine x_mem (V' := (up (up V 293 (ua (V 293) s (bor (V 293 s) (p2 i)))) 296 (ua g i s))) (st2_up _ _ _ _ _) ?_
                    refine x_al0 dX6_place_128 ?_
                    refine x_il1 dX6_place_129 ?_
                    refine x_iconst dX6_place_130 ?_
                    refine x_iadd dX6_place_131 ?_
                    refine x_il2 dX6_place_132 ?_
                    refine x_il5 dX6_place_133 ?_
                    refine x_iconst dX6_place_135 ?_
                    refine x_iadd dX6_place_136 ?_
                    refine x_mmax ml_X6_125 dX6_place_137 (inr (by omega)) (inr (by omega)) ?_ (hlev := by omega)
                    refine x_il3 dX6_place_140 ?_
                    have hs12 : s < 12 := by omega
                    have hH2 : HasI (ua (V 293) s (bor (V 293 s) (p2 i))) (ua g i s) (i + 1) := HasI_g (HasI_on hH hi.1 (by omega) (by omega) hs12) (fun k k0 k1 => by by_cases e : k = i; (rw [e, ua_same, ua_same]); (rw [ua_ne e, ua_ne e]; exact hL.1 k (by omega)))
                    refine x_cVPl mm_X6_place ml_X6_116 dX6_place_141 (ih (d - 1) (by omega) (up (up V 293 (ua (V 293) s (bor (V 293 s) (p2 i)))) 296 (ua g i s)) (i + 1) (if used < s + 1 then s + 1 else used) most hn9 hSB hC hT hH2 (used_on hi.1 hL.1 hu) (pre_on hL.1 hpre (by omega) (by omega)) (by omega) hm (by omega)) (sh_289 hS) (lq_289 hS) (fun r h' g' hr0 hr01 hP => ?_) (hlev := by omega)
                    have hP : PlP kd br my (V 295) n most (i + 1) (ua g i s) r g' := hP
                    have hr0 : r = 0 → h' = (ua (V 293) s (bor (V 293 s) (p2 i))) := hr0
                    refine x_mem (V' := (up (up V 293 h') 296 g')) (Eq.trans (congrArg (fun z => up z 296 _) (up_k (by decide) (up_up _ _ _ _))) (up_up _ _ _ _)) ?_
                    refine x_if_eq (tgt := 149) dX6_place_144 (inr (by omega)) (fun c144_10 => ?_) (fun c144_10 => ?_)
                    · -- 144 eq -> 149
                      have hP0 : PlP kd br my (V 295) n most (i + 1) (ua g i s) 0 g' := by have q := hP; rw [c144_10] at q; exact q
                      obtain rfl := hr0 c144_10
                      refine x_al0 dX6_place_149 ?_
                      refine x_getR fl_X6_21 (sh_289 hS) (lq_289 hS) (rf_289_5 hS) dX6_place_150 ?_
                      refine x_il5 dX6_place_153 ?_
                      refine x_dup2 dX6_place_155 ?_
                      refine x_iald (sh_293 hS) (lq_293 hS) (by omega) (by omega) dX6_place_156 ?_
                      refine x_topI (a' := bor (V 293 s) (p2 i)) (show (ua (V 293) s (bor (V 293 s) (p2 i))) s = bor (V 293 s) (p2 i) from (ua_same _ _ _)) ?_
                      refine x_iconst dX6_place_157 ?_
                      refine x_il1 dX6_place_158 ?_
                      refine x_shl1 (by omega) (by omega) dX6_place_159 ?_
                      refine x_iconst dX6_place_160 ?_
                      refine x_not dX6_place_161 ?_
                      refine x_andn bo (Int.le_of_lt (p2_pos _)) dX6_place_162 ?_
                      refine x_iast (sh_293 hS) (lq_293 hS) (by omega) (by omega) dX6_place_163 ?_
                      refine x_mem (V' := (up (up V 293 (ua (ua (V 293) s (bor (V 293 s) (p2 i))) s ((bor (V 293 s) (p2 i)) - band (bor (V 293 s) (p2 i)) (p2 i)))) 296 g')) (st2_c (by decide) (st2_up _ _ _ _ _)) ?_
                      refine x_inc5 dX6_place_164 ?_
                      refine x_goto (tgt := 40) dX6_place_167 ?_
                      refine x_mem (V' := (up (up V 293 (V 293)) 296 g')) (upE (upE rfl (HasI_off hH hi.1 (by omega) (by omega) (by omega))) rfl) ?_
                      exact x_fg (ih40 (s + 1) g' (by omega) (PlL_fail hi.1 (by omega) hL hP0) (by omega)) (And.intro rfl (And.intro rfl (And.intro rfl (And.intro rfl (And.intro rfl trivial)))))
                    · -- 144 eq -> 147
                      refine x_iconst dX6_place_147 ?_
                      exact x_zret hQ (by
            have hr1 : r = 1 := (by omega)
            rw [hr1] at hP
            exact ⟨1, h', g', rfl, rfl, rfl, fun z => absurd z (by decide), Or.inr rfl, PlL_done hi.1 (by omega) ht.2 hL (by omega) (by omega) (by omega) hcan hP⟩) (by decide) dX6_place_148
      refine x_mem (V' := (up (up V 293 (V 293)) 296 (V 296))) (Eq.trans (show _ = (up V 293 (V 293)) from (Eq.symm (up_self _ 293))) (show _ = (up (up V 293 (V 293)) 296 (V 296)) from (Eq.symm (up_self _ 296)))) ?_
      exact x_fg (lp40 _ (V 296 (V 295 i)) (V 296) (by omega) (by have q := PlL_0 (kd := kd) (br := br) (my := my) (tw := V 295) (g := V 296) (n := n) (most := most) hi.1 (by omega) ht.2; first | (rw [if_pos (by omega)] at q; exact q) | (rw [if_neg (by omega)] at q; exact q)) (Nat.lt_succ_self _)) (And.intro rfl (And.intro rfl (And.intro rfl (And.intro rfl (And.intro rfl trivial)))))
    · -- 16 ge -> 19
      refine x_iconst dX6_place_19 ?_
      refine x_goto (tgt := 34) dX6_place_20 ?_
      refine x_is4 dX6_place_34 ?_
      refine x_il4 dX6_place_36 ?_
      refine x_is5 dX6_place_38 ?_
      have lp40 : ∀ (N40 : Nat) (s : Int) (g : Int → Int), (0 ≤ s ∧ s ≤ 13) → (PlL kd br my (V 295) n most i s (V 296) g) → (used + 1 - s).toNat < N40 → X Γ B RX6 "place" cX6_place 7 (some .boolean) (d + 3) 0 0 40 [some (vR B 289), some (vI i), some (vI used), some (vI most), none, some (vI s), none] [] 0 0 S (up (up V 293 (V 293)) 296 g) := by
        intro N40
        induction N40 with
        | zero => intro s g hs hL hN; exact absurd hN (Nat.not_lt_zero _)
        | succ N40 ih40 =>
          intro s g hs hL hN40
          refine x_il5 dX6_place_40 ?_
          refine x_il2 dX6_place_42 ?_
          refine x_icmp_gt (tgt := 170) dX6_place_43 (inr (by omega)) (inr (by omega)) (fun c43_11 => ?_) (fun c43_11 => ?_)
          · -- 43 gt -> 170
            refine x_iconst dX6_place_170 ?_
            exact x_zret hQ ⟨0, V 293, g, rfl, rfl, rfl, fun _ => rfl, Or.inl rfl, PlL_end hi.1 (by omega) hL (by omega)⟩ (by decide) dX6_place_171
          · -- 43 gt -> 46
            refine x_il5 dX6_place_46 ?_
            refine x_il3 dX6_place_48 ?_
            refine x_icmp_ge (tgt := 170) dX6_place_49 (inr (by omega)) (inr (by omega)) (fun c49_12 => ?_) (fun c49_12 => ?_)
            · -- 49 ge -> 170
              refine x_iconst dX6_place_170 ?_
              exact x_zret hQ ⟨0, V 293, g, rfl, rfl, rfl, fun _ => rfl, Or.inl rfl, PlL_end hi.1 (by omega) hL (by omega)⟩ (by decide) dX6_place_171
            · -- 49 ge -> 52
              have hsv := hH.2 s (by omega) (by omega)
              have b1 := band_r (x := V 293 s) (y := V 291 i) hsv.1
              have b2 := band_r (x := V 293 s) (y := V 292 i) hsv.1
              have b3 := bN_r (band (V 293 s) (V 292 i)) 16 (by omega)
              have hfc := fits_c (s := s) hSB hC hH hi.1 (by omega) (by omega) (by omega)
              refine x_al0 dX6_place_52 ?_
              refine x_getR fl_X6_21 (sh_289 hS) (lq_289 hS) (rf_289_5 hS) dX6_place_53 ?_
              refine x_il5 dX6_place_56 ?_
              refine x_iald (sh_293 hS) (lq_293 hS) (by omega) (by omega) dX6_place_58 ?_
              refine x_topI (a' := V 293 s) rfl ?_
              refine x_al0 dX6_place_59 ?_
              refine x_getR fl_X6_15 (sh_289 hS) (lq_289 hS) (rf_289_3 hS) dX6_place_60 ?_
              refine x_il1 dX6_place_63 ?_
              refine x_iald (sh_291 hS) (lq_291 hS) (by omega) (by omega) dX6_place_64 ?_
              refine x_topI (a' := V 291 i) rfl ?_
              refine x_iand hsv.1 (by omega) dX6_place_65 ?_
              refine x_if_ne (tgt := 99) dX6_place_66 (inr (by omega)) (fun c66_13 => ?_) (fun c66_13 => ?_)
              · -- 66 ne -> 99
                refine x_iconst dX6_place_99 ?_
                refine x_is6 dX6_place_100 ?_
                refine x_il6 dX6_place_102 ?_
                refine x_if_eq (tgt := 164) dX6_place_104 (inr (by decide)) (fun c104_14 => ?_) (fun c104_14 => ?_)
                · -- 104 eq -> 164
                  refine x_inc5 dX6_place_164 ?_
                  refine x_goto (tgt := 40) dX6_place_167 ?_
                  exact x_fg (ih40 (s + 1) g (by omega) (PlL_no hi.1 (by omega) hL (fun z => by have y := hfc.mpr z; omega)) (by omega)) (And.intro rfl (And.intro rfl (And.intro rfl (And.intro rfl (And.intro rfl trivial)))))
                · exact absurd c104_14 (by decide)
              · -- 66 ne -> 69
                refine x_al0 dX6_place_69 ?_
                refine x_getR fl_X6_21 (sh_289 hS) (lq_289 hS) (rf_289_5 hS) dX6_place_70 ?_
                refine x_il5 dX6_place_73 ?_
                refine x_iald (sh_293 hS) (lq_293 hS) (by omega) (by omega) dX6_place_75 ?_
                refine x_topI (a' := V 293 s) rfl ?_
                refine x_al0 dX6_place_76 ?_
                refine x_getR fl_X6_18 (sh_289 hS) (lq_289 hS) (rf_289_4 hS) dX6_place_77 ?_
                refine x_il1 dX6_place_80 ?_
                refine x_iald (sh_292 hS) (lq_292 hS) (by omega) (by omega) dX6_place_81 ?_
                refine x_topI (a' := V 292 i) rfl ?_
                refine x_iand hsv.1 (by omega) dX6_place_82 ?_
                refine x_cSi mm_J6_bitCount_0f7a4 ml_X6_120 dX6_place_83 (c_J6_bitCount_0f7a4 (band (V 293 s) (V 292 i)) (by omega)) ?_ (hlev := by omega)
                refine x_al0 dX6_place_86 ?_
                refine x_getR fl_X6_24 (sh_289 hS) (lq_289 hS) (rf_289_6 hS) dX6_place_87 ?_
                refine x_il1 dX6_place_90 ?_
                refine x_iald (sh_294 hS) (lq_294 hS) (by omega) (by omega) dX6_place_91 ?_
                refine x_topI (a' := V 294 i) rfl ?_
                refine x_icmp_ge (tgt := 99) dX6_place_92 (inr (by omega)) (inr (by omega)) (fun c92_15 => ?_) (fun c92_15 => ?_)
                · -- 92 ge -> 99
                  refine x_iconst dX6_place_99 ?_
                  refine x_is6 dX6_place_100 ?_
                  refine x_il6 dX6_place_102 ?_
                  refine x_if_eq (tgt := 164) dX6_place_104 (inr (by decide)) (fun c104_16 => ?_) (fun c104_16 => ?_)
                  · -- 104 eq -> 164
                    refine x_inc5 dX6_place_164 ?_
                    refine x_goto (tgt := 40) dX6_place_167 ?_
                    exact x_fg (ih40 (s + 1) g (by omega) (PlL_no hi.1 (by omega) hL (fun z => by have y := hfc.mpr z; omega)) (by omega)) (And.intro rfl (And.intro rfl (And.intro rfl (And.intro rfl (And.intro rfl trivial)))))
                  · exact absurd c104_16 (by decide)
                · -- 92 ge -> 95
                  refine x_iconst dX6_place_95 ?_
                  refine x_goto (tgt := 100) dX6_place_96 ?_
                  refine x_is6 dX6_place_100 ?_
                  refine x_il6 dX6_place_102 ?_
                  refine x_if_eq (tgt := 164) dX6_place_104 (inr (by decide)) (fun c104_17 => ?_) (fun c104_17 => ?_)
                  · exact absurd c104_17 (by decide)
                  · -- 104 eq -> 107
                    have hcan : canP kd br my (V 296) i s := hfc.mp ⟨by omega, by omega⟩
                    have bo := bor_nn (V 293 s) (p2 i)
                    have p_i := p2_pos i
                    refine x_al0 dX6_place_107 ?_
                    refine x_getR fl_X6_21 (sh_289 hS) (lq_289 hS) (rf_289_5 hS) dX6_place_108 ?_
                    refine x_il5 dX6_place_111 ?_
                    refine x_dup2 dX6_place_113 ?_
                    refine x_iald (sh_293 hS) (lq_293 hS) (by omega) (by omega) dX6_place_114 ?_
                    refine x_topI (a' := V 293 s) rfl ?_
                    refine x_iconst dX6_place_115 ?_
                    refine x_il1 dX6_place_116 ?_
                    refine x_shl1 (by omega) (by omega) dX6_place_117 ?_
                    refine x_ior hsv.1 (Int.le_of_lt (p2_pos _)) dX6_place_118 ?_
                    refine x_iast (sh_293 hS) (lq_293 hS) (by omega) (by omega) dX6_place_119 ?_
                    refine x_mem (V' := (up (up V 293 (ua (V 293) s (bor (V 293 s) (p2 i)))) 296 g)) (st2_c (by decide) (st2_up _ _ _ _ _)) ?_
                    refine x_al0 dX6_place_120 ?_
                    refine x_getR fl_X6_30 (sh_289 hS) (lq_289 hS) (rf_289_8 hS) dX6_place_121 ?_
                    refine x_il1 dX6_place_124 ?_
                    refine x_il5 dX6_place_125 ?_
                    refine x_iast (sh_296 hS) (lq_296 hS) (by omega) (by omega) dX6_place_127 ?_
                    refine x_mem (V' := (up (up V 293 (ua (V 293) s (bor (V 293 s) (p2 i)))) 296 (ua g i s))) (st2_up _ _ _ _ _) ?_
                    refine x_al0 dX6_place_128 ?_
                    refine x_il1 dX6_place_129 ?_
                    refine x_iconst dX6_place_130 ?_
                    refine x_iadd dX6_place_131 ?_
                    refine x_il2 dX6_place_132 ?_
                    refine x_il5 dX6_place_133 ?_
                    refine x_iconst dX6_place_135 ?_
                    refine x_iadd dX6_place_136 ?_
                    refine x_mmax ml_X6_125 dX6_place_137 (inr (by omega)) (inr (by omega)) ?_ (hlev := by omega)
                    refine x_il3 dX6_place_140 ?_
                    have hs12 : s < 12 := by omega
                    have hH2 : HasI (ua (V 293) s (bor (V 293 s) (p2 i))) (ua g i s) (i + 1) := HasI_g (HasI_on hH hi.1 (by omega) (by omega) hs12) (fun k k0 k1 => by by_cases e : k = i; (rw [e, ua_same, ua_same]); (rw [ua_ne e, ua_ne e]; exact hL.1 k (by omega)))
                    refine x_cVPl mm_X6_place ml_X6_116 dX6_place_141 (ih (d - 1) (by omega) (up (up V 293 (ua (V 293) s (bor (V 293 s) (p2 i)))) 296 (ua g i s)) (i + 1) (if used < s + 1 then s + 1 else used) most hn9 hSB hC hT hH2 (used_on hi.1 hL.1 hu) (pre_on hL.1 hpre (by omega) (by omega)) (by omega) hm (by omega)) (sh_289 hS) (lq_289 hS) (fun r h' g' hr0 hr01 hP => ?_) (hlev := by omega)
                    have hP : PlP kd br my (V 295) n most (i + 1) (ua g i s) r g' := hP
                    have hr0 : r = 0 → h' = (ua (V 293) s (bor (V 293 s) (p2 i))) := hr0
                    refine x_mem (V' := (up (up V 293 h') 296 g')) (Eq.trans (congrArg (fun z => up z 296 _) (up_k (by decide) (up_up _ _ _ _))) (up_up _ _ _ _)) ?_
                    refine x_if_eq (tgt := 149) dX6_place_144 (inr (by omega)) (fun c144_18 => ?_) (fun c144_18 => ?_)
                    · -- 144 eq -> 149
                      have hP0 : PlP kd br my (V 295) n most (i + 1) (ua g i s) 0 g' := by have q := hP; rw [c144_18] at q; exact q
                      obtain rfl := hr0 c144_18
                      refine x_al0 dX6_place_149 ?_
                      refine x_getR fl_X6_21 (sh_289 hS) (lq_289 hS) (rf_289_5 hS) dX6_place_150 ?_
                      refine x_il5 dX6_place_153 ?_
                      refine x_dup2 dX6_place_155 ?_
                      refine x_iald (sh_293 hS) (lq_293 hS) (by omega) (by omega) dX6_place_156 ?_
                      refine x_topI (a' := bor (V 293 s) (p2 i)) (show (ua (V 293) s (bor (V 293 s) (p2 i))) s = bor (V 293 s) (p2 i) from (ua_same _ _ _)) ?_
                      refine x_iconst dX6_place_157 ?_
                      refine x_il1 dX6_place_158 ?_
                      refine x_shl1 (by omega) (by omega) dX6_place_159 ?_
                      refine x_iconst dX6_place_160 ?_
                      refine x_not dX6_place_161 ?_
                      refine x_andn bo (Int.le_of_lt (p2_pos _)) dX6_place_162 ?_
                      refine x_iast (sh_293 hS) (lq_293 hS) (by omega) (by omega) dX6_place_163 ?_
                      refine x_mem (V' := (up (up V 293 (ua (ua (V 293) s (bor (V 293 s) (p2 i))) s ((bor (V 293 s) (p2 i)) - band (bor (V 293 s) (p2 i)) (p2 i)))) 296 g')) (st2_c (by decide) (st2_up _ _ _ _ _)) ?_
                      refine x_inc5 dX6_place_164 ?_
                      refine x_goto (tgt := 40) dX6_place_167 ?_
                      refine x_mem (V' := (up (up V 293 (V 293)) 296 g')) (upE (upE rfl (HasI_off hH hi.1 (by omega) (by omega) (by omega))) rfl) ?_
                      exact x_fg (ih40 (s + 1) g' (by omega) (PlL_fail hi.1 (by omega) hL hP0) (by omega)) (And.intro rfl (And.intro rfl (And.intro rfl (And.intro rfl (And.intro rfl trivial)))))
                    · -- 144 eq -> 147
                      refine x_iconst dX6_place_147 ?_
                      exact x_zret hQ (by
            have hr1 : r = 1 := (by omega)
            rw [hr1] at hP
            exact ⟨1, h', g', rfl, rfl, rfl, fun z => absurd z (by decide), Or.inr rfl, PlL_done hi.1 (by omega) ht.2 hL (by omega) (by omega) (by omega) hcan hP⟩) (by decide) dX6_place_148
      refine x_mem (V' := (up (up V 293 (V 293)) 296 (V 296))) (Eq.trans (show _ = (up V 293 (V 293)) from (Eq.symm (up_self _ 293))) (show _ = (up (up V 293 (V 293)) 296 (V 296)) from (Eq.symm (up_self _ 296)))) ?_
      exact x_fg (lp40 _ 0 (V 296) (by omega) (by have q := PlL_0 (kd := kd) (br := br) (my := my) (tw := V 295) (g := V 296) (n := n) (most := most) hi.1 (by omega) ht.2; first | (rw [if_pos (by omega)] at q; exact q) | (rw [if_neg (by omega)] at q; exact q)) (Nat.lt_succ_self _)) (And.intro rfl (And.intro rfl (And.intro rfl (And.intro rfl (And.intro rfl trivial)))))
  · -- 5 lt -> 8
    refine x_iconst dX6_place_8 ?_
    exact x_zret hQ ⟨1, V 293, V 296, rfl, rfl, (by rw [up_self, up_self]), fun z => absurd z (by decide), Or.inr rfl, PlP_end (by omega)⟩ (by decide) dX6_place_9
