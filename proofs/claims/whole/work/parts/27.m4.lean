set_option maxRecDepth 100000 in
set_option maxHeartbeats 4000000 in
theorem c_X11_clip {B : Bs} {S : Stt} {V : Va} (v : Int) (hv : InL v) : C B yX11_clip cX11_clip 2 (some .long) 1 0 0 [vL v] S V (rL S V (clip v)) := by
  refine C.of [some (vL v), none] ?_
  intro Γ hQ
  refine x_ll0 dX11_clip_0 ?_
  refine x_ldc2 (a := 1000000) kl_X11_287 (by decide) dX11_clip_1 ?_
  refine x_lcmp_le (tgt := 14) dX11_clip_4 dX11_clip_5 (inl_ (by omega)) (inl_ (by decide)) (fun c4_1 => ?_) (fun c4_1 => ?_)
  · -- 4 le -> 14
    refine x_ll0 dX11_clip_14 ?_
    refine x_ldc2 (a := (-1000000)) kl_X11_289 (by decide) dX11_clip_15 ?_
    refine x_lcmp_ge (tgt := 28) dX11_clip_18 dX11_clip_19 (inl_ (by omega)) (inl_ (by decide)) (fun c18_2 => ?_) (fun c18_2 => ?_)
    · -- 18 ge -> 28
      refine x_ll0 dX11_clip_28 ?_
      exact x_lret hQ (rL.mk (by simp only [clip]; first | (rw [if_pos (by omega)]) | (rw [if_neg (by omega), if_pos (by omega)]) | (rw [if_neg (by omega), if_neg (by omega)])) rfl) dX11_clip_29
    · -- 18 ge -> 22
      refine x_ldc2 (a := (-1000000)) kl_X11_289 (by decide) dX11_clip_22 ?_
      refine x_goto (tgt := 29) dX11_clip_25 ?_
      exact x_lret hQ (rL.mk (by simp only [clip]; first | (rw [if_pos (by omega)]) | (rw [if_neg (by omega), if_pos (by omega)]) | (rw [if_neg (by omega), if_neg (by omega)])) rfl) dX11_clip_29
  · -- 4 le -> 8
    refine x_ldc2 (a := 1000000) kl_X11_287 (by decide) dX11_clip_8 ?_
    refine x_goto (tgt := 29) dX11_clip_11 ?_
    exact x_lret hQ (rL.mk (by simp only [clip]; first | (rw [if_pos (by omega)]) | (rw [if_neg (by omega), if_pos (by omega)]) | (rw [if_neg (by omega), if_neg (by omega)])) rfl) dX11_clip_29
set_option maxRecDepth 100000 in
set_option maxHeartbeats 4000000 in
theorem c_X11_two {B : Bs} {S : Stt} {V : Va} (o : Int) (x : Int) (y : Int) (ho : InR o) (hx : -1000000 ≤ x ∧ x ≤ 1000000) (hy : -1000000 ≤ y ∧ y ≤ 1000000) : C B yX11_two cX11_two 5 (some .long) 2 0 0 [vI o, vL x, vL y] S V (rL S V (mTwo o x y)) := by
  refine C.of [some (vI o), some (vL x), none, some (vL y), none] ?_
  intro Γ hQ
  have hm := mul_r hx hy
  have hd := tdiv_r (y := y) hx
  refine x_il0 dX11_two_0 ?_
  by_cases hs1 : o = 3
  · refine x_tswIn (tgt := 28) (off := 27) dX11_two_1 3 hs1 ?_
    refine x_ll1 dX11_two_28 ?_
    refine x_ll3 dX11_two_29 ?_
    refine x_ladd dX11_two_30 ?_
    refine x_cSl mm_X11_clip ml_X11_291 dX11_two_31 (c_X11_clip (x + y) (by omega)) ?_
    exact x_lret hQ (rL.mk (by simp only [mTwo]; rw [if_pos (by omega)]) rfl) dX11_two_34
  by_cases hs2 : o = 4
  · refine x_tswIn (tgt := 35) (off := 34) dX11_two_1 4 hs2 ?_
    refine x_ll1 dX11_two_35 ?_
    refine x_ll3 dX11_two_36 ?_
    refine x_lsub dX11_two_37 ?_
    refine x_cSl mm_X11_clip ml_X11_291 dX11_two_38 (c_X11_clip (x - y) (by omega)) ?_
    exact x_lret hQ (rL.mk (by simp only [mTwo]; rw [if_neg (by omega), if_pos (by omega)]) rfl) dX11_two_41
  by_cases hs3 : o = 5
  · refine x_tswIn (tgt := 42) (off := 41) dX11_two_1 5 hs3 ?_
    refine x_ll1 dX11_two_42 ?_
    refine x_ll3 dX11_two_43 ?_
    refine x_lmul dX11_two_44 ?_
    refine x_cSl mm_X11_clip ml_X11_291 dX11_two_45 (c_X11_clip (x * y) (by omega)) ?_
    exact x_lret hQ (rL.mk (by simp only [mTwo]; rw [if_neg (by omega), if_neg (by omega), if_pos (by omega)]) rfl) dX11_two_48
  refine x_tswOut (tgt := 49) dX11_two_1 (inr (by omega)) (by omega) ?_
  refine x_ll3 dX11_two_49 ?_
  refine x_lconst0 dX11_two_50 ?_
  refine x_lcmp_ne (tgt := 59) dX11_two_51 dX11_two_52 (inl_ (by omega)) (inl_ (by decide)) (fun c51_4 => ?_) (fun c51_4 => ?_)
  · -- 51 ne -> 59
    refine x_ll1 dX11_two_59 ?_
    refine x_ll3 dX11_two_60 ?_
    refine x_ldiv (inl_ (by omega)) (inl_ (by omega)) (by omega) dX11_two_61 ?_
    refine x_cSl mm_X11_clip ml_X11_291 dX11_two_62 (c_X11_clip (Int.tdiv x y) (by omega)) ?_
    exact x_lret hQ (rL.mk (by simp only [mTwo]; rw [if_neg (by omega), if_neg (by omega), if_neg (by omega)]; first | (rw [if_pos (by omega)]) | (rw [if_neg (by omega)])) rfl) dX11_two_65
  · -- 51 ne -> 55
    refine x_lconst0 dX11_two_55 ?_
    refine x_goto (tgt := 65) dX11_two_56 ?_
    exact x_lret hQ (rL.mk (by simp only [mTwo]; rw [if_neg (by omega), if_neg (by omega), if_neg (by omega)]; first | (rw [if_pos (by omega)]) | (rw [if_neg (by omega)])) rfl) dX11_two_65
set_option maxRecDepth 100000 in
set_option maxHeartbeats 4000000 in
theorem c_X11_isAsked {B : Bs} {S : Stt} {V : Va} (o : Int) (x : Int) (y : Int) (ho : InR o) (hx : -1000000 ≤ x ∧ x ≤ 1000000) (hy : -1000000 ≤ y ∧ y ≤ 1000000) : C B yX11_isAsked cX11_isAsked 5 (some .boolean) 1 0 0 [vI o, vL x, vL y] S V (rI S V (if mAsk o x y then 1 else 0)) := by
  refine C.of [some (vI o), some (vL x), none, some (vL y), none] ?_
  intro Γ hQ
  refine x_il0 dX11_isAsked_0 ?_
  refine x_bipush dX11_isAsked_1 ?_
  refine x_icmp_ne (tgt := 20) dX11_isAsked_3 (inr (by omega)) (inr (by decide)) (fun c3_1 => ?_) (fun c3_1 => ?_)
  · -- 3 ne -> 20
    refine x_il0 dX11_isAsked_20 ?_
    refine x_bipush dX11_isAsked_21 ?_
    refine x_icmp_ne (tgt := 40) dX11_isAsked_23 (inr (by omega)) (inr (by decide)) (fun c23_2 => ?_) (fun c23_2 => ?_)
    · -- 23 ne -> 40
      refine x_il0 dX11_isAsked_40 ?_
      refine x_bipush dX11_isAsked_41 ?_
      refine x_icmp_ne (tgt := 60) dX11_isAsked_43 (inr (by omega)) (inr (by decide)) (fun c43_3 => ?_) (fun c43_3 => ?_)
      · -- 43 ne -> 60
        refine x_il0 dX11_isAsked_60 ?_
        refine x_bipush dX11_isAsked_61 ?_
        refine x_icmp_ne (tgt := 80) dX11_isAsked_63 (inr (by omega)) (inr (by decide)) (fun c63_4 => ?_) (fun c63_4 => ?_)
        · -- 63 ne -> 80
          refine x_il0 dX11_isAsked_80 ?_
          refine x_bipush dX11_isAsked_81 ?_
          refine x_icmp_ne (tgt := 100) dX11_isAsked_83 (inr (by omega)) (inr (by decide)) (fun c83_5 => ?_) (fun c83_5 => ?_)
          · -- 83 ne -> 100
            refine x_ll1 dX11_isAsked_100 ?_
            refine x_ll3 dX11_isAsked_101 ?_
            refine x_lcmp_eq (tgt := 110) dX11_isAsked_102 dX11_isAsked_103 (inl_ (by omega)) (inl_ (by omega)) (fun c102_6 => ?_) (fun c102_6 => ?_)
            · -- 102 eq -> 110
              refine x_iconst dX11_isAsked_110 ?_
              exact x_zret hQ (rI.mk (by first | (rw [if_pos (by simp only [mAsk]; omega)]) | (rw [if_neg (by simp only [mAsk]; omega)])) rfl) (by decide) dX11_isAsked_111
            · -- 102 eq -> 106
              refine x_iconst dX11_isAsked_106 ?_
              refine x_goto (tgt := 111) dX11_isAsked_107 ?_
              exact x_zret hQ (rI.mk (by first | (rw [if_pos (by simp only [mAsk]; omega)]) | (rw [if_neg (by simp only [mAsk]; omega)])) rfl) (by decide) dX11_isAsked_111
          · -- 83 ne -> 86
            refine x_ll1 dX11_isAsked_86 ?_
            refine x_ll3 dX11_isAsked_87 ?_
            refine x_lcmp_ne (tgt := 96) dX11_isAsked_88 dX11_isAsked_89 (inl_ (by omega)) (inl_ (by omega)) (fun c88_7 => ?_) (fun c88_7 => ?_)
            · -- 88 ne -> 96
              refine x_iconst dX11_isAsked_96 ?_
              refine x_goto (tgt := 111) dX11_isAsked_97 ?_
              exact x_zret hQ (rI.mk (by first | (rw [if_pos (by simp only [mAsk]; omega)]) | (rw [if_neg (by simp only [mAsk]; omega)])) rfl) (by decide) dX11_isAsked_111
            · -- 88 ne -> 92
              refine x_iconst dX11_isAsked_92 ?_
              refine x_goto (tgt := 111) dX11_isAsked_93 ?_
              exact x_zret hQ (rI.mk (by first | (rw [if_pos (by simp only [mAsk]; omega)]) | (rw [if_neg (by simp only [mAsk]; omega)])) rfl) (by decide) dX11_isAsked_111
        · -- 63 ne -> 66
          refine x_ll1 dX11_isAsked_66 ?_
          refine x_ll3 dX11_isAsked_67 ?_
          refine x_lcmp_lt (tgt := 76) dX11_isAsked_68 dX11_isAsked_69 (inl_ (by omega)) (inl_ (by omega)) (fun c68_8 => ?_) (fun c68_8 => ?_)
          · -- 68 lt -> 76
            refine x_iconst dX11_isAsked_76 ?_
            refine x_goto (tgt := 111) dX11_isAsked_77 ?_
            exact x_zret hQ (rI.mk (by first | (rw [if_pos (by simp only [mAsk]; omega)]) | (rw [if_neg (by simp only [mAsk]; omega)])) rfl) (by decide) dX11_isAsked_111
          · -- 68 lt -> 72
            refine x_iconst dX11_isAsked_72 ?_
            refine x_goto (tgt := 111) dX11_isAsked_73 ?_
            exact x_zret hQ (rI.mk (by first | (rw [if_pos (by simp only [mAsk]; omega)]) | (rw [if_neg (by simp only [mAsk]; omega)])) rfl) (by decide) dX11_isAsked_111
      · -- 43 ne -> 46
        refine x_ll1 dX11_isAsked_46 ?_
        refine x_ll3 dX11_isAsked_47 ?_
        refine x_lcmp_le (tgt := 56) dX11_isAsked_48 dX11_isAsked_49 (inl_ (by omega)) (inl_ (by omega)) (fun c48_9 => ?_) (fun c48_9 => ?_)
        · -- 48 le -> 56
          refine x_iconst dX11_isAsked_56 ?_
          refine x_goto (tgt := 111) dX11_isAsked_57 ?_
          exact x_zret hQ (rI.mk (by first | (rw [if_pos (by simp only [mAsk]; omega)]) | (rw [if_neg (by simp only [mAsk]; omega)])) rfl) (by decide) dX11_isAsked_111
        · -- 48 le -> 52
          refine x_iconst dX11_isAsked_52 ?_
          refine x_goto (tgt := 111) dX11_isAsked_53 ?_
          exact x_zret hQ (rI.mk (by first | (rw [if_pos (by simp only [mAsk]; omega)]) | (rw [if_neg (by simp only [mAsk]; omega)])) rfl) (by decide) dX11_isAsked_111
    · -- 23 ne -> 26
      refine x_ll1 dX11_isAsked_26 ?_
      refine x_ll3 dX11_isAsked_27 ?_
      refine x_lcmp_gt (tgt := 36) dX11_isAsked_28 dX11_isAsked_29 (inl_ (by omega)) (inl_ (by omega)) (fun c28_10 => ?_) (fun c28_10 => ?_)
      · -- 28 gt -> 36
        refine x_iconst dX11_isAsked_36 ?_
        refine x_goto (tgt := 111) dX11_isAsked_37 ?_
        exact x_zret hQ (rI.mk (by first | (rw [if_pos (by simp only [mAsk]; omega)]) | (rw [if_neg (by simp only [mAsk]; omega)])) rfl) (by decide) dX11_isAsked_111
      · -- 28 gt -> 32
        refine x_iconst dX11_isAsked_32 ?_
        refine x_goto (tgt := 111) dX11_isAsked_33 ?_
        exact x_zret hQ (rI.mk (by first | (rw [if_pos (by simp only [mAsk]; omega)]) | (rw [if_neg (by simp only [mAsk]; omega)])) rfl) (by decide) dX11_isAsked_111
  · -- 3 ne -> 6
    refine x_ll1 dX11_isAsked_6 ?_
    refine x_ll3 dX11_isAsked_7 ?_
    refine x_lcmp_ge (tgt := 16) dX11_isAsked_8 dX11_isAsked_9 (inl_ (by omega)) (inl_ (by omega)) (fun c8_11 => ?_) (fun c8_11 => ?_)
    · -- 8 ge -> 16
      refine x_iconst dX11_isAsked_16 ?_
      refine x_goto (tgt := 111) dX11_isAsked_17 ?_
      exact x_zret hQ (rI.mk (by first | (rw [if_pos (by simp only [mAsk]; omega)]) | (rw [if_neg (by simp only [mAsk]; omega)])) rfl) (by decide) dX11_isAsked_111
    · -- 8 ge -> 12
      refine x_iconst dX11_isAsked_12 ?_
      refine x_goto (tgt := 111) dX11_isAsked_13 ?_
      exact x_zret hQ (rI.mk (by first | (rw [if_pos (by simp only [mAsk]; omega)]) | (rw [if_neg (by simp only [mAsk]; omega)])) rfl) (by decide) dX11_isAsked_111
set_option maxRecDepth 100000 in
set_option maxHeartbeats 4000000 in
theorem c_X11_name {B : Bs} {S : Stt} {V : Va} (bone : Int) (other : Int) (hS : Stat S) (hA : AB (V 309)) (hbone : 0 ≤ bone ∧ bone < 16) (hother : 0 ≤ other ∧ other < 16) : C B yX11_name cX11_name 5 none 2 0 0 [vR B 308, vI bone, vI other] S V (rV S (up V 314 (mNm (V 309) (V 314) bone other))) := by
  refine C.of [some (vR B 308), some (vI bone), some (vI other), none, none] ?_
  intro Γ hQ
  refine x_il1 dX11_name_0 ?_
  refine x_cSi mm_X11_boneAt ml_X11_87 dX11_name_1 (c_X11_boneAt bone) ?_
  refine x_is3 dX11_name_4 ?_
  refine x_il2 dX11_name_5 ?_
  refine x_cSi mm_X11_boneAt ml_X11_87 dX11_name_6 (c_X11_boneAt other) ?_
  refine x_is4 dX11_name_9 ?_
  refine x_al0 dX11_name_11 ?_
  refine x_getR fl_X11_32 (sh_308 hS) (lq_308 hS) (rf_308_22 hS) dX11_name_12 ?_
  refine x_iconst dX11_name_15 ?_
  refine x_al0 dX11_name_16 ?_
  refine x_getR fl_X11_7 (sh_308 hS) (lq_308 hS) (rf_308_0 hS) dX11_name_17 ?_
  refine x_il3 dX11_name_20 ?_
  have hb1 := hA (30 + 6 * bone)
  refine x_iald (sh_309 hS) (lq_309 hS) (by omega) (by omega) dX11_name_21 ?_
  refine x_topI (a' := V 309 (30 + 6 * bone)) rfl ?_
  refine x_iast (sh_314 hS) (lq_314 hS) (by omega) (by omega) dX11_name_22 ?_
  refine x_mem (V' := (up V 314 (ua (V 314) 0 (V 309 (30 + 6 * bone))))) rfl ?_
  refine x_al0 dX11_name_23 ?_
  refine x_getR fl_X11_32 (sh_308 hS) (lq_308 hS) (rf_308_22 hS) dX11_name_24 ?_
  refine x_iconst dX11_name_27 ?_
  refine x_al0 dX11_name_28 ?_
  refine x_getR fl_X11_7 (sh_308 hS) (lq_308 hS) (rf_308_0 hS) dX11_name_29 ?_
  refine x_il3 dX11_name_32 ?_
  refine x_iconst dX11_name_33 ?_
  refine x_iadd dX11_name_34 ?_
  have hb2 := hA ((30 + 6 * bone) + 1)
  refine x_iald (sh_309 hS) (lq_309 hS) (by omega) (by omega) dX11_name_35 ?_
  refine x_topI (a' := V 309 ((30 + 6 * bone) + 1)) rfl ?_
  refine x_iast (sh_314 hS) (lq_314 hS) (by omega) (by omega) dX11_name_36 ?_
  refine x_mem (V' := (up V 314 (ua (ua (V 314) 0 (V 309 (30 + 6 * bone))) 1 (V 309 ((30 + 6 * bone) + 1))))) (st2_up _ _ _ _ _) ?_
  refine x_al0 dX11_name_37 ?_
  refine x_getR fl_X11_32 (sh_308 hS) (lq_308 hS) (rf_308_22 hS) dX11_name_38 ?_
  refine x_iconst dX11_name_41 ?_
  refine x_al0 dX11_name_42 ?_
  refine x_getR fl_X11_7 (sh_308 hS) (lq_308 hS) (rf_308_0 hS) dX11_name_43 ?_
  refine x_il3 dX11_name_46 ?_
  refine x_iconst dX11_name_47 ?_
  refine x_iadd dX11_name_48 ?_
  have hb3 := hA ((30 + 6 * bone) + 3)
  refine x_iald (sh_309 hS) (lq_309 hS) (by omega) (by omega) dX11_name_49 ?_
  refine x_topI (a' := V 309 ((30 + 6 * bone) + 3)) rfl ?_
  refine x_iast (sh_314 hS) (lq_314 hS) (by omega) (by omega) dX11_name_50 ?_
  refine x_mem (V' := (up V 314 (ua (ua (ua (V 314) 0 (V 309 (30 + 6 * bone))) 1 (V 309 ((30 + 6 * bone) + 1))) 2 (V 309 ((30 + 6 * bone) + 3))))) (st2_up _ _ _ _ _) ?_
  refine x_al0 dX11_name_51 ?_
  refine x_getR fl_X11_32 (sh_308 hS) (lq_308 hS) (rf_308_22 hS) dX11_name_52 ?_
  refine x_iconst dX11_name_55 ?_
  refine x_al0 dX11_name_56 ?_
  refine x_getR fl_X11_7 (sh_308 hS) (lq_308 hS) (rf_308_0 hS) dX11_name_57 ?_
  refine x_il3 dX11_name_60 ?_
  refine x_iconst dX11_name_61 ?_
  refine x_iadd dX11_name_62 ?_
  have hb4 := hA ((30 + 6 * bone) + 5)
  refine x_iald (sh_309 hS) (lq_309 hS) (by omega) (by omega) dX11_name_63 ?_
  refine x_topI (a' := V 309 ((30 + 6 * bone) + 5)) rfl ?_
  refine x_cSi mm_X11_bits ml_X11_303 dX11_name_64 (c_X11_bits (V 309 ((30 + 6 * bone) + 5)) (inr (by omega))) ?_
  refine x_iast (sh_314 hS) (lq_314 hS) (by omega) (by omega) dX11_name_67 ?_
  refine x_mem (V' := (up V 314 (ua (ua (ua (ua (V 314) 0 (V 309 (30 + 6 * bone))) 1 (V 309 ((30 + 6 * bone) + 1))) 2 (V 309 ((30 + 6 * bone) + 3))) 3 (sumT (fun k => (V 309 ((30 + 6 * bone) + 5)) / p2 k % 2) 16)))) (st2_up _ _ _ _ _) ?_
  refine x_al0 dX11_name_68 ?_
  refine x_getR fl_X11_32 (sh_308 hS) (lq_308 hS) (rf_308_22 hS) dX11_name_69 ?_
  refine x_iconst dX11_name_72 ?_
  refine x_al0 dX11_name_73 ?_
  refine x_getR fl_X11_7 (sh_308 hS) (lq_308 hS) (rf_308_0 hS) dX11_name_74 ?_
  refine x_iconst dX11_name_77 ?_
  have hb5 := hA 2
  refine x_iald (sh_309 hS) (lq_309 hS) (by omega) (by omega) dX11_name_78 ?_
  refine x_topI (a' := V 309 2) rfl ?_
  refine x_iast (sh_314 hS) (lq_314 hS) (by omega) (by omega) dX11_name_79 ?_
  refine x_mem (V' := (up V 314 (ua (ua (ua (ua (ua (V 314) 0 (V 309 (30 + 6 * bone))) 1 (V 309 ((30 + 6 * bone) + 1))) 2 (V 309 ((30 + 6 * bone) + 3))) 3 (sumT (fun k => (V 309 ((30 + 6 * bone) + 5)) / p2 k % 2) 16)) 4 (V 309 2)))) (st2_up _ _ _ _ _) ?_
  refine x_al0 dX11_name_80 ?_
  refine x_getR fl_X11_32 (sh_308 hS) (lq_308 hS) (rf_308_22 hS) dX11_name_81 ?_
  refine x_iconst dX11_name_84 ?_
  refine x_al0 dX11_name_85 ?_
  refine x_getR fl_X11_7 (sh_308 hS) (lq_308 hS) (rf_308_0 hS) dX11_name_86 ?_
  refine x_il4 dX11_name_89 ?_
  have hb6 := hA (30 + 6 * other)
  refine x_iald (sh_309 hS) (lq_309 hS) (by omega) (by omega) dX11_name_91 ?_
  refine x_topI (a' := V 309 (30 + 6 * other)) rfl ?_
  refine x_iast (sh_314 hS) (lq_314 hS) (by omega) (by omega) dX11_name_92 ?_
  refine x_mem (V' := (up V 314 (ua (ua (ua (ua (ua (ua (V 314) 0 (V 309 (30 + 6 * bone))) 1 (V 309 ((30 + 6 * bone) + 1))) 2 (V 309 ((30 + 6 * bone) + 3))) 3 (sumT (fun k => (V 309 ((30 + 6 * bone) + 5)) / p2 k % 2) 16)) 4 (V 309 2)) 5 (V 309 (30 + 6 * other))))) (st2_up _ _ _ _ _) ?_
  refine x_al0 dX11_name_93 ?_
  refine x_getR fl_X11_32 (sh_308 hS) (lq_308 hS) (rf_308_22 hS) dX11_name_94 ?_
  refine x_bipush dX11_name_97 ?_
  refine x_al0 dX11_name_99 ?_
  refine x_getR fl_X11_7 (sh_308 hS) (lq_308 hS) (rf_308_0 hS) dX11_name_100 ?_
  refine x_il4 dX11_name_103 ?_
  refine x_iconst dX11_name_105 ?_
  refine x_iadd dX11_name_106 ?_
  have hb7 := hA ((30 + 6 * other) + 1)
  refine x_iald (sh_309 hS) (lq_309 hS) (by omega) (by omega) dX11_name_107 ?_
  refine x_topI (a' := V 309 ((30 + 6 * other) + 1)) rfl ?_
  refine x_iast (sh_314 hS) (lq_314 hS) (by omega) (by omega) dX11_name_108 ?_
  refine x_mem (V' := (up V 314 (ua (ua (ua (ua (ua (ua (ua (V 314) 0 (V 309 (30 + 6 * bone))) 1 (V 309 ((30 + 6 * bone) + 1))) 2 (V 309 ((30 + 6 * bone) + 3))) 3 (sumT (fun k => (V 309 ((30 + 6 * bone) + 5)) / p2 k % 2) 16)) 4 (V 309 2)) 5 (V 309 (30 + 6 * other))) 6 (V 309 ((30 + 6 * other) + 1))))) (st2_up _ _ _ _ _) ?_
  refine x_al0 dX11_name_109 ?_
  refine x_getR fl_X11_32 (sh_308 hS) (lq_308 hS) (rf_308_22 hS) dX11_name_110 ?_
  refine x_bipush dX11_name_113 ?_
  refine x_al0 dX11_name_115 ?_
  refine x_getR fl_X11_7 (sh_308 hS) (lq_308 hS) (rf_308_0 hS) dX11_name_116 ?_
  refine x_il4 dX11_name_119 ?_
  refine x_iconst dX11_name_121 ?_
  refine x_iadd dX11_name_122 ?_
  have hb8 := hA ((30 + 6 * other) + 3)
  refine x_iald (sh_309 hS) (lq_309 hS) (by omega) (by omega) dX11_name_123 ?_
  refine x_topI (a' := V 309 ((30 + 6 * other) + 3)) rfl ?_
  refine x_iast (sh_314 hS) (lq_314 hS) (by omega) (by omega) dX11_name_124 ?_
  refine x_mem (V' := (up V 314 (ua (ua (ua (ua (ua (ua (ua (ua (V 314) 0 (V 309 (30 + 6 * bone))) 1 (V 309 ((30 + 6 * bone) + 1))) 2 (V 309 ((30 + 6 * bone) + 3))) 3 (sumT (fun k => (V 309 ((30 + 6 * bone) + 5)) / p2 k % 2) 16)) 4 (V 309 2)) 5 (V 309 (30 + 6 * other))) 6 (V 309 ((30 + 6 * other) + 1))) 7 (V 309 ((30 + 6 * other) + 3))))) (st2_up _ _ _ _ _) ?_
  exact x_vret hQ (rV.mk rfl) dX11_name_125
set_option maxRecDepth 100000 in
set_option maxHeartbeats 4000000 in
theorem c_X11_clauseOf {B : Bs} {S : Stt} {V : Va} (sort : Int) (hS : Stat S) (hA : AB (V 309)) (hX : AB (V 311)) (h44 : -1 ≤ (V 309 4) ∧ (V 309 4) ≤ 3) (hW : 0 ≤ (V 309 4) → TW (V 311) (V 309 4)) (hsort : InR sort) : C B yX11_clauseOf cX11_clauseOf 3 (some .int) 1 0 0 [vR B 308, vI sort] S V (rI S V (mClause (V 309) (V 311) sort)) := by
  refine C.of [some (vR B 308), some (vI sort), none] ?_
  intro Γ hQ
  refine x_iconst dX11_clauseOf_0 ?_
  refine x_is2 dX11_clauseOf_1 ?_
  have lp2 : ∀ (N2 : Nat) (k : Int), (0 ≤ k ∧ (0 ≤ V 309 4 → k ≤ V 311 (700 * V 309 4))) → (∀ j, 0 ≤ j → j < k → V 311 (700 * V 309 4 + 1 + 4 * j) ≠ sort) → (24 - k).toNat < N2 → X Γ B RX11 "clauseOf" cX11_clauseOf 3 (some .int) 1 0 0 2 [some (vR B 308), some (vI sort), some (vI k)] [] 0 0 S V := by
    intro N2
    induction N2 with
    | zero => intro k hk hb hN; exact absurd hN (Nat.not_lt_zero _)
    | succ N2 ih2 =>
      intro k hk hb hN2
      refine x_al0 dX11_clauseOf_2 ?_
      refine x_getR fl_X11_7 (sh_308 hS) (lq_308 hS) (rf_308_0 hS) dX11_clauseOf_3 ?_
      refine x_iconst dX11_clauseOf_6 ?_
      have hb1 := hA 4
      refine x_iald (sh_309 hS) (lq_309 hS) (by omega) (by omega) dX11_clauseOf_7 ?_
      refine x_topI (a' := V 309 4) rfl ?_
      refine x_if_lt (tgt := 63) dX11_clauseOf_8 (inr (by omega)) (fun c8_2 => ?_) (fun c8_2 => ?_)
      · -- 8 lt -> 63
        refine x_iconst dX11_clauseOf_63 ?_
        exact x_iret hQ (rI.mk (by simp only [mClause]; by_cases q : V 309 4 < 0; (rw [if_pos q]); rw [if_neg q]; exact findT_no (fun j h1 h2 => decide_eq_false (hb j h1 (by have := hk.2 (by omega); omega)))) rfl) dX11_clauseOf_64
      · -- 8 lt -> 11
        have hw := hW (by omega)
        have hw1 := hw.1
        have hw2 := hw.2.1
        refine x_il2 dX11_clauseOf_11 ?_
        refine x_al0 dX11_clauseOf_12 ?_
        refine x_getR fl_X11_16 (sh_308 hS) (lq_308 hS) (rf_308_2 hS) dX11_clauseOf_13 ?_
        refine x_sipush dX11_clauseOf_16 ?_
        refine x_al0 dX11_clauseOf_19 ?_
        refine x_getR fl_X11_7 (sh_308 hS) (lq_308 hS) (rf_308_0 hS) dX11_clauseOf_20 ?_
        refine x_iconst dX11_clauseOf_23 ?_
        have hb3 := hA 4
        refine x_iald (sh_309 hS) (lq_309 hS) (by omega) (by omega) dX11_clauseOf_24 ?_
        refine x_topI (a' := V 309 4) rfl ?_
        refine x_imul dX11_clauseOf_25 ?_
        have hb4 := hX (700 * (V 309 4))
        refine x_iald (sh_311 hS) (lq_311 hS) (by omega) (by omega) dX11_clauseOf_26 ?_
        refine x_topI (a' := V 311 (700 * (V 309 4))) rfl ?_
        refine x_icmp_ge (tgt := 63) dX11_clauseOf_27 (inr (by omega)) (inr (by omega)) (fun c27_5 => ?_) (fun c27_5 => ?_)
        · -- 27 ge -> 63
          refine x_iconst dX11_clauseOf_63 ?_
          exact x_iret hQ (rI.mk (by simp only [mClause]; by_cases q : V 309 4 < 0; (rw [if_pos q]); rw [if_neg q]; exact findT_no (fun j h1 h2 => decide_eq_false (hb j h1 (by have := hk.2 (by omega); omega)))) rfl) dX11_clauseOf_64
        · -- 27 ge -> 30
          refine x_al0 dX11_clauseOf_30 ?_
          refine x_getR fl_X11_16 (sh_308 hS) (lq_308 hS) (rf_308_2 hS) dX11_clauseOf_31 ?_
          refine x_sipush dX11_clauseOf_34 ?_
          refine x_al0 dX11_clauseOf_37 ?_
          refine x_getR fl_X11_7 (sh_308 hS) (lq_308 hS) (rf_308_0 hS) dX11_clauseOf_38 ?_
          refine x_iconst dX11_clauseOf_41 ?_
          have hb6 := hA 4
          refine x_iald (sh_309 hS) (lq_309 hS) (by omega) (by omega) dX11_clauseOf_42 ?_
          refine x_topI (a' := V 309 4) rfl ?_
          refine x_imul dX11_clauseOf_43 ?_
          refine x_iconst dX11_clauseOf_44 ?_
          refine x_iadd dX11_clauseOf_45 ?_
          refine x_iconst dX11_clauseOf_46 ?_
          refine x_il2 dX11_clauseOf_47 ?_
          refine x_imul dX11_clauseOf_48 ?_
          refine x_iadd dX11_clauseOf_49 ?_
          have hb7 := hX (((700 * (V 309 4)) + 1) + (4 * k))
          refine x_iald (sh_311 hS) (lq_311 hS) (by omega) (by omega) dX11_clauseOf_50 ?_
          refine x_topI (a' := V 311 (((700 * (V 309 4)) + 1) + (4 * k))) rfl ?_
          refine x_il1 dX11_clauseOf_51 ?_
          refine x_icmp_ne (tgt := 57) dX11_clauseOf_52 (inr (by omega)) (inr (by omega)) (fun c52_8 => ?_) (fun c52_8 => ?_)
          · -- 52 ne -> 57
            refine x_inc2 dX11_clauseOf_57 ?_
            refine x_goto (tgt := 2) dX11_clauseOf_60 ?_
            exact x_fg (ih2 (k + 1) ⟨by omega, fun _ => by omega⟩ (fun j h1 h2 => by rcases (show j < k ∨ j = k by omega) with q | rfl; (exact hb j h1 q); omega) (by omega)) (And.intro rfl (And.intro rfl (And.intro rfl trivial)))
          · -- 52 ne -> 55
            refine x_il2 dX11_clauseOf_55 ?_
            exact x_iret hQ (rI.mk (by simp only [mClause]; rw [if_neg (by omega)]; exact findT_at (by omega) (by omega) (decide_eq_true (by omega)) (fun j h1 h2 => decide_eq_false (hb j h1 h2))) rfl) dX11_clauseOf_56
  exact x_fg (lp2 _ 0 ⟨by omega, fun h => (hW h).1⟩ (fun j h1 h2 => by omega) (Nat.lt_succ_self _)) (And.intro rfl (And.intro rfl (And.intro rfl trivial)))
set_option maxRecDepth 100000 in
set_option maxHeartbeats 4000000 in
theorem c_X11_work {B : Bs} {S : Stt} {V : Va} (clause : Int) (hS : Stat S) (hA : AB (V 309)) (hX : AB (V 311)) (h44 : -1 ≤ (V 309 4) ∧ (V 309 4) ≤ 3) (h04 : 0 ≤ (V 309 4)) (hN : AB (V 314)) (hTr : TRb (V 316)) (hc : 0 ≤ clause ∧ clause < 24) (hok : okCl (V 311) (V 309 4) clause) : C B yX11_work cX11_work 9 none 3 0 0 [vR B 308, vI clause] S V (rV S (up (up V 315 ((mCl (V 314) (V 311) (V 309 4) clause (V 315) (V 316)).1)) 316 ((mCl (V 314) (V 311) (V 309 4) clause (V 315) (V 316)).2.1))) := by
  refine C.of [some (vR B 308), some (vI clause), none, none, none, none, none, none, none] ?_
  intro Γ hQ
  obtain ⟨ho1, ho2, ho3, ho4⟩ := hok
  refine x_sipush dX11_work_0 ?_
  refine x_al0 dX11_work_3 ?_
  refine x_getR fl_X11_7 (sh_308 hS) (lq_308 hS) (rf_308_0 hS) dX11_work_4 ?_
  refine x_iconst dX11_work_7 ?_
  have hb1 := hA 4
  refine x_iald (sh_309 hS) (lq_309 hS) (by omega) (by omega) dX11_work_8 ?_
  refine x_topI (a' := V 309 4) rfl ?_
  refine x_imul dX11_work_9 ?_
  refine x_iconst dX11_work_10 ?_
  refine x_iadd dX11_work_11 ?_
  refine x_iconst dX11_work_12 ?_
  refine x_il1 dX11_work_13 ?_
  refine x_imul dX11_work_14 ?_
  refine x_iadd dX11_work_15 ?_
  refine x_is2 dX11_work_16 ?_
  refine x_sipush dX11_work_17 ?_
  refine x_al0 dX11_work_20 ?_
  refine x_getR fl_X11_7 (sh_308 hS) (lq_308 hS) (rf_308_0 hS) dX11_work_21 ?_
  refine x_iconst dX11_work_24 ?_
  have hb2 := hA 4
  refine x_iald (sh_309 hS) (lq_309 hS) (by omega) (by omega) dX11_work_25 ?_
  refine x_topI (a' := V 309 4) rfl ?_
  refine x_imul dX11_work_26 ?_
  refine x_bipush dX11_work_27 ?_
  refine x_iadd dX11_work_29 ?_
  refine x_is3 dX11_work_30 ?_
  refine x_iconst dX11_work_31 ?_
  refine x_is4 dX11_work_32 ?_
  refine x_iconst dX11_work_34 ?_
  refine x_is5 dX11_work_35 ?_
  refine x_al0 dX11_work_37 ?_
  refine x_getR fl_X11_16 (sh_308 hS) (lq_308 hS) (rf_308_2 hS) dX11_work_38 ?_
  refine x_il2 dX11_work_41 ?_
  refine x_iconst dX11_work_42 ?_
  refine x_iadd dX11_work_43 ?_
  have hb3 := hX ((((700 * (V 309 4)) + 1) + (4 * clause)) + 1)
  refine x_iald (sh_311 hS) (lq_311 hS) (by omega) (by omega) dX11_work_44 ?_
  refine x_topI (a' := V 311 ((((700 * (V 309 4)) + 1) + (4 * clause)) + 1)) rfl ?_
  refine x_is6 dX11_work_45 ?_
  have lp47 : ∀ (N47 : Nat) (i : Int) (n : Int) (t : Int) (v : Int → Int) (r : Int → Int), (V 311 (700 * V 309 4 + 1 + 4 * clause + 1) ≤ i ∧ i ≤ V 311 (700 * V 309 4 + 1 + 4 * clause + 2)) → (0 ≤ n ∧ n ≤ 330 ∧ 0 ≤ t ∧ t ≤ 330) → (dOK (tOp (V 311) (V 309 4)) (tArg (V 311) (V 309 4)) (if V 311 (700 * V 309 4 + 1 + 4 * clause) = 0 then 1 else 0) (if V 311 (700 * V 309 4 + 1 + 4 * clause) = 0 then 0 else 1) (V 311 (700 * V 309 4 + 1 + 4 * clause + 2) - i).toNat i n t) → (∀ k, 0 ≤ k → k < n → -1000000 ≤ v k ∧ v k ≤ 1000000) → (TRb r) → (mRun (V 314) (tOp (V 311) (V 309 4)) (tArg (V 311) (V 309 4)) (V 311 (700 * V 309 4 + 1 + 4 * clause + 2) - i).toNat i (v, r, n, t) = mCl (V 314) (V 311) (V 309 4) clause (V 315) (V 316)) → (V 311 (700 * V 309 4 + 1 + 4 * clause + 2) - i).toNat < N47 → X Γ B RX11 "work" cX11_work 9 none 3 0 0 47 [some (vR B 308), some (vI clause), some (vI (((700 * (V 309 4)) + 1) + (4 * clause))), some (vI ((700 * (V 309 4)) + 100)), some (vI n), some (vI t), some (vI i), none, none] [] 0 0 S (up (up V 315 v) 316 r) := by
    intro N47
    induction N47 with
    | zero => intro i n t v r hi hn hd hv ht hr hN; exact absurd hN (Nat.not_lt_zero _)
    | succ N47 ih47 =>
      intro i n t v r hi hn hd hv ht hr hN47
      refine x_il6 dX11_work_47 ?_
      refine x_al0 dX11_work_49 ?_
      refine x_getR fl_X11_16 (sh_308 hS) (lq_308 hS) (rf_308_2 hS) dX11_work_50 ?_
      refine x_il2 dX11_work_53 ?_
      refine x_iconst dX11_work_54 ?_
      refine x_iadd dX11_work_55 ?_
      have hb4 := hX ((((700 * (V 309 4)) + 1) + (4 * clause)) + 2)
      refine x_iald (sh_311 hS) (lq_311 hS) (by omega) (by omega) dX11_work_56 ?_
      refine x_topI (a' := V 311 ((((700 * (V 309 4)) + 1) + (4 * clause)) + 2)) rfl ?_
      refine x_icmp_ge (tgt := 359) dX11_work_57 (inr (by omega)) (inr (by omega)) (fun c57_5 => ?_) (fun c57_5 => ?_)
      · -- 57 ge -> 359
        exact x_vret hQ (rV.mk (by rw [← hr, show (V 311 (700 * V 309 4 + 1 + 4 * clause + 2) - i).toNat = 0 by omega]; rfl)) dX11_work_359
      · -- 57 ge -> 60
        obtain ⟨m, hm⟩ : ∃ m : Nat, (V 311 (700 * V 309 4 + 1 + 4 * clause + 2) - i).toNat = m + 1 := ⟨(V 311 (700 * V 309 4 + 1 + 4 * clause + 2) - i).toNat - 1, by omega⟩
        rw [hm] at hd hr
        have hm2 : (V 311 (700 * V 309 4 + 1 + 4 * clause + 2) - (i + 1)).toNat = m := by omega
        obtain ⟨d0, d1, d2, d3, d4, d5, d6⟩ := hd
        refine x_al0 dX11_work_60 ?_
        refine x_getR fl_X11_16 (sh_308 hS) (lq_308 hS) (rf_308_2 hS) dX11_work_61 ?_
        refine x_il3 dX11_work_64 ?_
        refine x_iconst dX11_work_65 ?_
        refine x_il6 dX11_work_66 ?_
        refine x_imul dX11_work_68 ?_
        refine x_iadd dX11_work_69 ?_
        have hb6 := hX (((700 * (V 309 4)) + 100) + (2 * i))
        refine x_iald (sh_311 hS) (lq_311 hS) (by omega) (by omega) dX11_work_70 ?_
        refine x_topI (a' := V 311 (((700 * (V 309 4)) + 100) + (2 * i))) rfl ?_
        refine x_topI (a' := tOp (V 311) (V 309 4) i) rfl ?_
        refine x_is7 dX11_work_71 ?_
        have hbo : -1 ≤ tOp (V 311) (V 309 4) i ∧ tOp (V 311) (V 309 4) i < 65536 := hX _
        refine x_al0 dX11_work_73 ?_
        refine x_getR fl_X11_16 (sh_308 hS) (lq_308 hS) (rf_308_2 hS) dX11_work_74 ?_
        refine x_il3 dX11_work_77 ?_
        refine x_iconst dX11_work_78 ?_
        refine x_il6 dX11_work_79 ?_
        refine x_imul dX11_work_81 ?_
        refine x_iadd dX11_work_82 ?_
        refine x_iconst dX11_work_83 ?_
        refine x_iadd dX11_work_84 ?_
        have hb7 := hX ((((700 * (V 309 4)) + 100) + (2 * i)) + 1)
        refine x_iald (sh_311 hS) (lq_311 hS) (by omega) (by omega) dX11_work_85 ?_
        refine x_topI (a' := V 311 ((((700 * (V 309 4)) + 100) + (2 * i)) + 1)) rfl ?_
        refine x_topI (a' := tArg (V 311) (V 309 4) i) rfl ?_
        refine x_is8 dX11_work_86 ?_
        have hba : -1 ≤ tArg (V 311) (V 309 4) i ∧ tArg (V 311) (V 309 4) i < 65536 := hX _
        refine x_il7 dX11_work_88 ?_
        refine x_iconst dX11_work_90 ?_
        refine x_icmp_gt (tgt := 126) dX11_work_91 (inr (by omega)) (inr (by decide)) (fun c91_8 => ?_) (fun c91_8 => ?_)
        · -- 91 gt -> 126
          refine x_il7 dX11_work_126 ?_
          refine x_iconst dX11_work_128 ?_
          refine x_icmp_ne (tgt := 154) dX11_work_129 (inr (by omega)) (inr (by decide)) (fun c129_9 => ?_) (fun c129_9 => ?_)
          · -- 129 ne -> 154
            refine x_il7 dX11_work_154 ?_
            refine x_bipush dX11_work_156 ?_
            refine x_icmp_ge (tgt := 197) dX11_work_158 (inr (by omega)) (inr (by decide)) (fun c158_10 => ?_) (fun c158_10 => ?_)
            · -- 158 ge -> 197
              refine x_il7 dX11_work_197 ?_
              refine x_bipush dX11_work_199 ?_
              refine x_icmp_ge (tgt := 241) dX11_work_201 (inr (by omega)) (inr (by decide)) (fun c201_11 => ?_) (fun c201_11 => ?_)
              · -- 201 ge -> 241
                refine x_il7 dX11_work_241 ?_
                refine x_bipush dX11_work_243 ?_
                refine x_icmp_ne (tgt := 277) dX11_work_245 (inr (by omega)) (inr (by decide)) (fun c245_12 => ?_) (fun c245_12 => ?_)
                · -- 245 ne -> 277
                  have d6 := d6 (by omega)
                  have ht1 := ht (t - 1)
                  have ht2 := ht (t - 1 - 1)
                  refine x_dec5 dX11_work_277 ?_
                  refine x_al0 dX11_work_280 ?_
                  refine x_getR fl_X11_39 (sh_308 hS) (lq_308 hS) (rf_308_24 hS) dX11_work_281 ?_
                  refine x_il5 dX11_work_284 ?_
                  refine x_iconst dX11_work_286 ?_
                  refine x_isub dX11_work_287 ?_
                  refine x_il7 dX11_work_288 ?_
                  refine x_bipush dX11_work_290 ?_
                  refine x_icmp_ne (tgt := 325) dX11_work_292 (inr (by omega)) (inr (by decide)) (fun c292_13 => ?_) (fun c292_13 => ?_)
                  · -- 292 ne -> 325
                    refine x_al0 dX11_work_325 ?_
                    refine x_getR fl_X11_39 (sh_308 hS) (lq_308 hS) (rf_308_24 hS) dX11_work_326 ?_
                    refine x_il5 dX11_work_329 ?_
                    refine x_iconst dX11_work_331 ?_
                    refine x_isub dX11_work_332 ?_
                    refine x_zald (sh_316 hS) (lq_316 hS) (by omega) (by omega) dX11_work_333 ?_
                    refine x_topI (a' := r ((t - 1) - 1)) rfl ?_
                    refine x_if_ne (tgt := 347) dX11_work_334 (inr (by omega)) (fun c334_14 => ?_) (fun c334_14 => ?_)
                    · -- 334 ne -> 347
                      refine x_iconst dX11_work_347 ?_
                      refine x_goto (tgt := 352) dX11_work_348 ?_
                      refine x_zast (sh_316 hS) (lq_316 hS) (by omega) (by omega) (by decide) dX11_work_352 ?_
                      refine x_mem (V' := (up (up V 315 v) 316 (ua r ((t - 1) - 1) 1))) (st2_up _ _ _ _ _) ?_
                      refine x_inc6 dX11_work_353 ?_
                      refine x_goto (tgt := 47) dX11_work_356 ?_
                      exact x_fg (ih47 (i + 1) n (t - 1) v (ua r ((t - 1) - 1) 1) (by omega) (by omega) (by rw [hm2]; first | (exact d1.2.2.2.2) | (exact d2.2) | (exact d3.2) | (exact d4.2.2) | (exact d5.2.2) | (exact d6.2.2)) (fun k h1 h2 => by first | exact hv k h1 (by omega) | (simp only [ua]; split; (first | (have := d1.2.2.1 (by omega); omega) | omega | exact mTwo_r _ _ _); exact hv k h1 (by omega))) (by first | exact ht | (exact mEv_tr (nm := V 314) (o := tOp (V 311) (V 309 4) i) (v := tArg (V 311) (V 309 4) i) (s := (v, r, n, t)) ht) | (intro k; simp only [ua]; split; (first | omega | exact ite_01 _); exact ht k)) (by rw [hm2, ← hr]; simp only [mRun]; congr 1; first | (exact (mEv_4 (nm := V 314) (s := (v, r, n, t)) (by omega) (by omega)).symm) | (simp only [mEv]; first | (rw [if_pos (by omega)]; first | (rw [if_pos (by omega)]) | (rw [if_neg (by omega)])) | (rw [if_neg (by omega), if_pos (by omega)]) | (rw [if_neg (by omega), if_neg (by omega), if_pos (by omega)]) | (rw [if_neg (by omega), if_neg (by omega), if_neg (by omega), if_pos (by omega)]) | (rw [if_neg (by omega), if_neg (by omega), if_neg (by omega), if_neg (by omega), if_pos (by omega)]; first | (rw [if_pos (by omega)]) | (rw [if_neg (by omega)])) | (rw [if_neg (by omega), if_neg (by omega), if_neg (by omega), if_neg (by omega), if_neg (by omega)]; first | (rw [if_pos (by omega), if_pos (by omega)]) | (rw [if_pos (by omega), if_neg (by omega)]) | (rw [if_neg (by omega), if_pos (by omega)]) | (rw [if_neg (by omega), if_neg (by omega)])))) (by omega)) (And.intro rfl (And.intro rfl (And.intro rfl (And.intro rfl (And.intro rfl (And.intro rfl (And.intro rfl trivial)))))))
                    · -- 334 ne -> 337
                      refine x_al0 dX11_work_337 ?_
                      refine x_getR fl_X11_39 (sh_308 hS) (lq_308 hS) (rf_308_24 hS) dX11_work_338 ?_
                      refine x_il5 dX11_work_341 ?_
                      refine x_zald (sh_316 hS) (lq_316 hS) (by omega) (by omega) dX11_work_343 ?_
                      refine x_topI (a' := r (t - 1)) rfl ?_
                      refine x_if_eq (tgt := 351) dX11_work_344 (inr (by omega)) (fun c344_15 => ?_) (fun c344_15 => ?_)
                      · -- 344 eq -> 351
                        refine x_iconst dX11_work_351 ?_
                        refine x_zast (sh_316 hS) (lq_316 hS) (by omega) (by omega) (by decide) dX11_work_352 ?_
                        refine x_mem (V' := (up (up V 315 v) 316 (ua r ((t - 1) - 1) 0))) (st2_up _ _ _ _ _) ?_
                        refine x_inc6 dX11_work_353 ?_
                        refine x_goto (tgt := 47) dX11_work_356 ?_
                        exact x_fg (ih47 (i + 1) n (t - 1) v (ua r ((t - 1) - 1) 0) (by omega) (by omega) (by rw [hm2]; first | (exact d1.2.2.2.2) | (exact d2.2) | (exact d3.2) | (exact d4.2.2) | (exact d5.2.2) | (exact d6.2.2)) (fun k h1 h2 => by first | exact hv k h1 (by omega) | (simp only [ua]; split; (first | (have := d1.2.2.1 (by omega); omega) | omega | exact mTwo_r _ _ _); exact hv k h1 (by omega))) (by first | exact ht | (exact mEv_tr (nm := V 314) (o := tOp (V 311) (V 309 4) i) (v := tArg (V 311) (V 309 4) i) (s := (v, r, n, t)) ht) | (intro k; simp only [ua]; split; (first | omega | exact ite_01 _); exact ht k)) (by rw [hm2, ← hr]; simp only [mRun]; congr 1; first | (exact (mEv_4 (nm := V 314) (s := (v, r, n, t)) (by omega) (by omega)).symm) | (simp only [mEv]; first | (rw [if_pos (by omega)]; first | (rw [if_pos (by omega)]) | (rw [if_neg (by omega)])) | (rw [if_neg (by omega), if_pos (by omega)]) | (rw [if_neg (by omega), if_neg (by omega), if_pos (by omega)]) | (rw [if_neg (by omega), if_neg (by omega), if_neg (by omega), if_pos (by omega)]) | (rw [if_neg (by omega), if_neg (by omega), if_neg (by omega), if_neg (by omega), if_pos (by omega)]; first | (rw [if_pos (by omega)]) | (rw [if_neg (by omega)])) | (rw [if_neg (by omega), if_neg (by omega), if_neg (by omega), if_neg (by omega), if_neg (by omega)]; first | (rw [if_pos (by omega), if_pos (by omega)]) | (rw [if_pos (by omega), if_neg (by omega)]) | (rw [if_neg (by omega), if_pos (by omega)]) | (rw [if_neg (by omega), if_neg (by omega)])))) (by omega)) (And.intro rfl (And.intro rfl (And.intro rfl (And.intro rfl (And.intro rfl (And.intro rfl (And.intro rfl trivial)))))))
                      · -- 344 eq -> 347
                        refine x_iconst dX11_work_347 ?_
                        refine x_goto (tgt := 352) dX11_work_348 ?_
                        refine x_zast (sh_316 hS) (lq_316 hS) (by omega) (by omega) (by decide) dX11_work_352 ?_
                        refine x_mem (V' := (up (up V 315 v) 316 (ua r ((t - 1) - 1) 1))) (st2_up _ _ _ _ _) ?_
                        refine x_inc6 dX11_work_353 ?_
                        refine x_goto (tgt := 47) dX11_work_356 ?_
                        exact x_fg (ih47 (i + 1) n (t - 1) v (ua r ((t - 1) - 1) 1) (by omega) (by omega) (by rw [hm2]; first | (exact d1.2.2.2.2) | (exact d2.2) | (exact d3.2) | (exact d4.2.2) | (exact d5.2.2) | (exact d6.2.2)) (fun k h1 h2 => by first | exact hv k h1 (by omega) | (simp only [ua]; split; (first | (have := d1.2.2.1 (by omega); omega) | omega | exact mTwo_r _ _ _); exact hv k h1 (by omega))) (by first | exact ht | (exact mEv_tr (nm := V 314) (o := tOp (V 311) (V 309 4) i) (v := tArg (V 311) (V 309 4) i) (s := (v, r, n, t)) ht) | (intro k; simp only [ua]; split; (first | omega | exact ite_01 _); exact ht k)) (by rw [hm2, ← hr]; simp only [mRun]; congr 1; first | (exact (mEv_4 (nm := V 314) (s := (v, r, n, t)) (by omega) (by omega)).symm) | (simp only [mEv]; first | (rw [if_pos (by omega)]; first | (rw [if_pos (by omega)]) | (rw [if_neg (by omega)])) | (rw [if_neg (by omega), if_pos (by omega)]) | (rw [if_neg (by omega), if_neg (by omega), if_pos (by omega)]) | (rw [if_neg (by omega), if_neg (by omega), if_neg (by omega), if_pos (by omega)]) | (rw [if_neg (by omega), if_neg (by omega), if_neg (by omega), if_neg (by omega), if_pos (by omega)]; first | (rw [if_pos (by omega)]) | (rw [if_neg (by omega)])) | (rw [if_neg (by omega), if_neg (by omega), if_neg (by omega), if_neg (by omega), if_neg (by omega)]; first | (rw [if_pos (by omega), if_pos (by omega)]) | (rw [if_pos (by omega), if_neg (by omega)]) | (rw [if_neg (by omega), if_pos (by omega)]) | (rw [if_neg (by omega), if_neg (by omega)])))) (by omega)) (And.intro rfl (And.intro rfl (And.intro rfl (And.intro rfl (And.intro rfl (And.intro rfl (And.intro rfl trivial)))))))
                  · -- 292 ne -> 295
                    refine x_al0 dX11_work_295 ?_
                    refine x_getR fl_X11_39 (sh_308 hS) (lq_308 hS) (rf_308_24 hS) dX11_work_296 ?_
                    refine x_il5 dX11_work_299 ?_
                    refine x_iconst dX11_work_301 ?_
                    refine x_isub dX11_work_302 ?_
                    refine x_zald (sh_316 hS) (lq_316 hS) (by omega) (by omega) dX11_work_303 ?_
                    refine x_topI (a' := r ((t - 1) - 1)) rfl ?_
                    refine x_if_eq (tgt := 321) dX11_work_304 (inr (by omega)) (fun c304_16 => ?_) (fun c304_16 => ?_)
                    · -- 304 eq -> 321
                      refine x_iconst dX11_work_321 ?_
                      refine x_goto (tgt := 352) dX11_work_322 ?_
                      refine x_zast (sh_316 hS) (lq_316 hS) (by omega) (by omega) (by decide) dX11_work_352 ?_
                      refine x_mem (V' := (up (up V 315 v) 316 (ua r ((t - 1) - 1) 0))) (st2_up _ _ _ _ _) ?_
                      refine x_inc6 dX11_work_353 ?_
                      refine x_goto (tgt := 47) dX11_work_356 ?_
                      exact x_fg (ih47 (i + 1) n (t - 1) v (ua r ((t - 1) - 1) 0) (by omega) (by omega) (by rw [hm2]; first | (exact d1.2.2.2.2) | (exact d2.2) | (exact d3.2) | (exact d4.2.2) | (exact d5.2.2) | (exact d6.2.2)) (fun k h1 h2 => by first | exact hv k h1 (by omega) | (simp only [ua]; split; (first | (have := d1.2.2.1 (by omega); omega) | omega | exact mTwo_r _ _ _); exact hv k h1 (by omega))) (by first | exact ht | (exact mEv_tr (nm := V 314) (o := tOp (V 311) (V 309 4) i) (v := tArg (V 311) (V 309 4) i) (s := (v, r, n, t)) ht) | (intro k; simp only [ua]; split; (first | omega | exact ite_01 _); exact ht k)) (by rw [hm2, ← hr]; simp only [mRun]; congr 1; first | (exact (mEv_4 (nm := V 314) (s := (v, r, n, t)) (by omega) (by omega)).symm) | (simp only [mEv]; first | (rw [if_pos (by omega)]; first | (rw [if_pos (by omega)]) | (rw [if_neg (by omega)])) | (rw [if_neg (by omega), if_pos (by omega)]) | (rw [if_neg (by omega), if_neg (by omega), if_pos (by omega)]) | (rw [if_neg (by omega), if_neg (by omega), if_neg (by omega), if_pos (by omega)]) | (rw [if_neg (by omega), if_neg (by omega), if_neg (by omega), if_neg (by omega), if_pos (by omega)]; first | (rw [if_pos (by omega)]) | (rw [if_neg (by omega)])) | (rw [if_neg (by omega), if_neg (by omega), if_neg (by omega), if_neg (by omega), if_neg (by omega)]; first | (rw [if_pos (by omega), if_pos (by omega)]) | (rw [if_pos (by omega), if_neg (by omega)]) | (rw [if_neg (by omega), if_pos (by omega)]) | (rw [if_neg (by omega), if_neg (by omega)])))) (by omega)) (And.intro rfl (And.intro rfl (And.intro rfl (And.intro rfl (And.intro rfl (And.intro rfl (And.intro rfl trivial)))))))
                    · -- 304 eq -> 307
                      refine x_al0 dX11_work_307 ?_
                      refine x_getR fl_X11_39 (sh_308 hS) (lq_308 hS) (rf_308_24 hS) dX11_work_308 ?_
                      refine x_il5 dX11_work_311 ?_
                      refine x_zald (sh_316 hS) (lq_316 hS) (by omega) (by omega) dX11_work_313 ?_
                      refine x_topI (a' := r (t - 1)) rfl ?_
                      refine x_if_eq (tgt := 321) dX11_work_314 (inr (by omega)) (fun c314_17 => ?_) (fun c314_17 => ?_)
                      · -- 314 eq -> 321
                        refine x_iconst dX11_work_321 ?_
                        refine x_goto (tgt := 352) dX11_work_322 ?_
                        refine x_zast (sh_316 hS) (lq_316 hS) (by omega) (by omega) (by decide) dX11_work_352 ?_
                        refine x_mem (V' := (up (up V 315 v) 316 (ua r ((t - 1) - 1) 0))) (st2_up _ _ _ _ _) ?_
                        refine x_inc6 dX11_work_353 ?_
                        refine x_goto (tgt := 47) dX11_work_356 ?_
                        exact x_fg (ih47 (i + 1) n (t - 1) v (ua r ((t - 1) - 1) 0) (by omega) (by omega) (by rw [hm2]; first | (exact d1.2.2.2.2) | (exact d2.2) | (exact d3.2) | (exact d4.2.2) | (exact d5.2.2) | (exact d6.2.2)) (fun k h1 h2 => by first | exact hv k h1 (by omega) | (simp only [ua]; split; (first | (have := d1.2.2.1 (by omega); omega) | omega | exact mTwo_r _ _ _); exact hv k h1 (by omega))) (by first | exact ht | (exact mEv_tr (nm := V 314) (o := tOp (V 311) (V 309 4) i) (v := tArg (V 311) (V 309 4) i) (s := (v, r, n, t)) ht) | (intro k; simp only [ua]; split; (first | omega | exact ite_01 _); exact ht k)) (by rw [hm2, ← hr]; simp only [mRun]; congr 1; first | (exact (mEv_4 (nm := V 314) (s := (v, r, n, t)) (by omega) (by omega)).symm) | (simp only [mEv]; first | (rw [if_pos (by omega)]; first | (rw [if_pos (by omega)]) | (rw [if_neg (by omega)])) | (rw [if_neg (by omega), if_pos (by omega)]) | (rw [if_neg (by omega), if_neg (by omega), if_pos (by omega)]) | (rw [if_neg (by omega), if_neg (by omega), if_neg (by omega), if_pos (by omega)]) | (rw [if_neg (by omega), if_neg (by omega), if_neg (by omega), if_neg (by omega), if_pos (by omega)]; first | (rw [if_pos (by omega)]) | (rw [if_neg (by omega)])) | (rw [if_neg (by omega), if_neg (by omega), if_neg (by omega), if_neg (by omega), if_neg (by omega)]; first | (rw [if_pos (by omega), if_pos (by omega)]) | (rw [if_pos (by omega), if_neg (by omega)]) | (rw [if_neg (by omega), if_pos (by omega)]) | (rw [if_neg (by omega), if_neg (by omega)])))) (by omega)) (And.intro rfl (And.intro rfl (And.intro rfl (And.intro rfl (And.intro rfl (And.intro rfl (And.intro rfl trivial)))))))
                      · -- 314 eq -> 317
                        refine x_iconst dX11_work_317 ?_
                        refine x_goto (tgt := 352) dX11_work_318 ?_
                        refine x_zast (sh_316 hS) (lq_316 hS) (by omega) (by omega) (by decide) dX11_work_352 ?_
                        refine x_mem (V' := (up (up V 315 v) 316 (ua r ((t - 1) - 1) 1))) (st2_up _ _ _ _ _) ?_
                        refine x_inc6 dX11_work_353 ?_
                        refine x_goto (tgt := 47) dX11_work_356 ?_
                        exact x_fg (ih47 (i + 1) n (t - 1) v (ua r ((t - 1) - 1) 1) (by omega) (by omega) (by rw [hm2]; first | (exact d1.2.2.2.2) | (exact d2.2) | (exact d3.2) | (exact d4.2.2) | (exact d5.2.2) | (exact d6.2.2)) (fun k h1 h2 => by first | exact hv k h1 (by omega) | (simp only [ua]; split; (first | (have := d1.2.2.1 (by omega); omega) | omega | exact mTwo_r _ _ _); exact hv k h1 (by omega))) (by first | exact ht | (exact mEv_tr (nm := V 314) (o := tOp (V 311) (V 309 4) i) (v := tArg (V 311) (V 309 4) i) (s := (v, r, n, t)) ht) | (intro k; simp only [ua]; split; (first | omega | exact ite_01 _); exact ht k)) (by rw [hm2, ← hr]; simp only [mRun]; congr 1; first | (exact (mEv_4 (nm := V 314) (s := (v, r, n, t)) (by omega) (by omega)).symm) | (simp only [mEv]; first | (rw [if_pos (by omega)]; first | (rw [if_pos (by omega)]) | (rw [if_neg (by omega)])) | (rw [if_neg (by omega), if_pos (by omega)]) | (rw [if_neg (by omega), if_neg (by omega), if_pos (by omega)]) | (rw [if_neg (by omega), if_neg (by omega), if_neg (by omega), if_pos (by omega)]) | (rw [if_neg (by omega), if_neg (by omega), if_neg (by omega), if_neg (by omega), if_pos (by omega)]; first | (rw [if_pos (by omega)]) | (rw [if_neg (by omega)])) | (rw [if_neg (by omega), if_neg (by omega), if_neg (by omega), if_neg (by omega), if_neg (by omega)]; first | (rw [if_pos (by omega), if_pos (by omega)]) | (rw [if_pos (by omega), if_neg (by omega)]) | (rw [if_neg (by omega), if_pos (by omega)]) | (rw [if_neg (by omega), if_neg (by omega)])))) (by omega)) (And.intro rfl (And.intro rfl (And.intro rfl (And.intro rfl (And.intro rfl (And.intro rfl (And.intro rfl trivial)))))))
                · -- 245 ne -> 248
                  have d5 := d5 (by omega)
                  have ht1 := ht (t - 1)
                  refine x_al0 dX11_work_248 ?_
                  refine x_getR fl_X11_39 (sh_308 hS) (lq_308 hS) (rf_308_24 hS) dX11_work_249 ?_
                  refine x_il5 dX11_work_252 ?_
                  refine x_iconst dX11_work_254 ?_
                  refine x_isub dX11_work_255 ?_
                  refine x_al0 dX11_work_256 ?_
                  refine x_getR fl_X11_39 (sh_308 hS) (lq_308 hS) (rf_308_24 hS) dX11_work_257 ?_
                  refine x_il5 dX11_work_260 ?_
                  refine x_iconst dX11_work_262 ?_
                  refine x_isub dX11_work_263 ?_
                  refine x_zald (sh_316 hS) (lq_316 hS) (by omega) (by omega) dX11_work_264 ?_
                  refine x_topI (a' := r (t - 1)) rfl ?_
                  refine x_if_ne (tgt := 272) dX11_work_265 (inr (by omega)) (fun c265_18 => ?_) (fun c265_18 => ?_)
                  · -- 265 ne -> 272
                    refine x_iconst dX11_work_272 ?_
                    refine x_zast (sh_316 hS) (lq_316 hS) (by omega) (by omega) (by decide) dX11_work_273 ?_
                    refine x_mem (V' := (up (up V 315 v) 316 (ua r (t - 1) 0))) (st2_up _ _ _ _ _) ?_
                    refine x_goto (tgt := 353) dX11_work_274 ?_
                    refine x_inc6 dX11_work_353 ?_
                    refine x_goto (tgt := 47) dX11_work_356 ?_
                    exact x_fg (ih47 (i + 1) n t v (ua r (t - 1) 0) (by omega) (by omega) (by rw [hm2]; first | (exact d1.2.2.2.2) | (exact d2.2) | (exact d3.2) | (exact d4.2.2) | (exact d5.2.2) | (exact d6.2.2)) (fun k h1 h2 => by first | exact hv k h1 (by omega) | (simp only [ua]; split; (first | (have := d1.2.2.1 (by omega); omega) | omega | exact mTwo_r _ _ _); exact hv k h1 (by omega))) (by first | exact ht | (exact mEv_tr (nm := V 314) (o := tOp (V 311) (V 309 4) i) (v := tArg (V 311) (V 309 4) i) (s := (v, r, n, t)) ht) | (intro k; simp only [ua]; split; (first | omega | exact ite_01 _); exact ht k)) (by rw [hm2, ← hr]; simp only [mRun]; congr 1; first | (exact (mEv_4 (nm := V 314) (s := (v, r, n, t)) (by omega) (by omega)).symm) | (simp only [mEv]; first | (rw [if_pos (by omega)]; first | (rw [if_pos (by omega)]) | (rw [if_neg (by omega)])) | (rw [if_neg (by omega), if_pos (by omega)]) | (rw [if_neg (by omega), if_neg (by omega), if_pos (by omega)]) | (rw [if_neg (by omega), if_neg (by omega), if_neg (by omega), if_pos (by omega)]) | (rw [if_neg (by omega), if_neg (by omega), if_neg (by omega), if_neg (by omega), if_pos (by omega)]; first | (rw [if_pos (by omega)]) | (rw [if_neg (by omega)])) | (rw [if_neg (by omega), if_neg (by omega), if_neg (by omega), if_neg (by omega), if_neg (by omega)]; first | (rw [if_pos (by omega), if_pos (by omega)]) | (rw [if_pos (by omega), if_neg (by omega)]) | (rw [if_neg (by omega), if_pos (by omega)]) | (rw [if_neg (by omega), if_neg (by omega)])))) (by omega)) (And.intro rfl (And.intro rfl (And.intro rfl (And.intro rfl (And.intro rfl (And.intro rfl (And.intro rfl trivial)))))))
                  · -- 265 ne -> 268
                    refine x_iconst dX11_work_268 ?_
                    refine x_goto (tgt := 273) dX11_work_269 ?_
                    refine x_zast (sh_316 hS) (lq_316 hS) (by omega) (by omega) (by decide) dX11_work_273 ?_
                    refine x_mem (V' := (up (up V 315 v) 316 (ua r (t - 1) 1))) (st2_up _ _ _ _ _) ?_
                    refine x_goto (tgt := 353) dX11_work_274 ?_
                    refine x_inc6 dX11_work_353 ?_
                    refine x_goto (tgt := 47) dX11_work_356 ?_
                    exact x_fg (ih47 (i + 1) n t v (ua r (t - 1) 1) (by omega) (by omega) (by rw [hm2]; first | (exact d1.2.2.2.2) | (exact d2.2) | (exact d3.2) | (exact d4.2.2) | (exact d5.2.2) | (exact d6.2.2)) (fun k h1 h2 => by first | exact hv k h1 (by omega) | (simp only [ua]; split; (first | (have := d1.2.2.1 (by omega); omega) | omega | exact mTwo_r _ _ _); exact hv k h1 (by omega))) (by first | exact ht | (exact mEv_tr (nm := V 314) (o := tOp (V 311) (V 309 4) i) (v := tArg (V 311) (V 309 4) i) (s := (v, r, n, t)) ht) | (intro k; simp only [ua]; split; (first | omega | exact ite_01 _); exact ht k)) (by rw [hm2, ← hr]; simp only [mRun]; congr 1; first | (exact (mEv_4 (nm := V 314) (s := (v, r, n, t)) (by omega) (by omega)).symm) | (simp only [mEv]; first | (rw [if_pos (by omega)]; first | (rw [if_pos (by omega)]) | (rw [if_neg (by omega)])) | (rw [if_neg (by omega), if_pos (by omega)]) | (rw [if_neg (by omega), if_neg (by omega), if_pos (by omega)]) | (rw [if_neg (by omega), if_neg (by omega), if_neg (by omega), if_pos (by omega)]) | (rw [if_neg (by omega), if_neg (by omega), if_neg (by omega), if_neg (by omega), if_pos (by omega)]; first | (rw [if_pos (by omega)]) | (rw [if_neg (by omega)])) | (rw [if_neg (by omega), if_neg (by omega), if_neg (by omega), if_neg (by omega), if_neg (by omega)]; first | (rw [if_pos (by omega), if_pos (by omega)]) | (rw [if_pos (by omega), if_neg (by omega)]) | (rw [if_neg (by omega), if_pos (by omega)]) | (rw [if_neg (by omega), if_neg (by omega)])))) (by omega)) (And.intro rfl (And.intro rfl (And.intro rfl (And.intro rfl (And.intro rfl (And.intro rfl (And.intro rfl trivial)))))))
              · -- 201 ge -> 204
                have d4 := d4 (by omega) (by omega)
                have hv1 := hv (n - 2) (by omega) (by omega)
                have hv2 := hv (n - 2 + 1) (by omega) (by omega)
                refine x_dec4 dX11_work_204 ?_
                refine x_al0 dX11_work_207 ?_
                refine x_getR fl_X11_39 (sh_308 hS) (lq_308 hS) (rf_308_24 hS) dX11_work_208 ?_
                refine x_il5 dX11_work_211 ?_
                refine x_il7 dX11_work_213 ?_
                refine x_al0 dX11_work_215 ?_
                refine x_getR fl_X11_35 (sh_308 hS) (lq_308 hS) (rf_308_23 hS) dX11_work_216 ?_
                refine x_il4 dX11_work_219 ?_
                refine x_lald (sh_315 hS) (lq_315 hS) (by omega) (by omega) dX11_work_221 ?_
                refine x_topL (a' := v (n - 2)) rfl ?_
                refine x_al0 dX11_work_222 ?_
                refine x_getR fl_X11_35 (sh_308 hS) (lq_308 hS) (rf_308_23 hS) dX11_work_223 ?_
                refine x_il4 dX11_work_226 ?_
                refine x_iconst dX11_work_228 ?_
                refine x_iadd dX11_work_229 ?_
                refine x_lald (sh_315 hS) (lq_315 hS) (by omega) (by omega) dX11_work_230 ?_
                refine x_topL (a' := v ((n - 2) + 1)) rfl ?_
                refine x_cSi mm_X11_isAsked ml_X11_299 dX11_work_231 (c_X11_isAsked (tOp (V 311) (V 309 4) i) (v (n - 2)) (v ((n - 2) + 1)) (inr (by omega)) (by omega) (by omega)) ?_
                refine x_zast (sh_316 hS) (lq_316 hS) (by omega) (by omega) (ite_01 _) dX11_work_234 ?_
                refine x_mem (V' := (up (up V 315 v) 316 (ua r t (if mAsk (tOp (V 311) (V 309 4) i) (v (n - 2)) (v ((n - 2) + 1)) then 1 else 0)))) (st2_up _ _ _ _ _) ?_
                refine x_inc5 dX11_work_235 ?_
                refine x_goto (tgt := 353) dX11_work_238 ?_
                refine x_inc6 dX11_work_353 ?_
                refine x_goto (tgt := 47) dX11_work_356 ?_
                exact x_fg (ih47 (i + 1) (n - 2) (t + 1) v (ua r t (if mAsk (tOp (V 311) (V 309 4) i) (v (n - 2)) (v ((n - 2) + 1)) then 1 else 0)) (by omega) (by omega) (by rw [hm2]; first | (exact d1.2.2.2.2) | (exact d2.2) | (exact d3.2) | (exact d4.2.2) | (exact d5.2.2) | (exact d6.2.2)) (fun k h1 h2 => by first | exact hv k h1 (by omega) | (simp only [ua]; split; (first | (have := d1.2.2.1 (by omega); omega) | omega | exact mTwo_r _ _ _); exact hv k h1 (by omega))) (by first | exact ht | (exact mEv_tr (nm := V 314) (o := tOp (V 311) (V 309 4) i) (v := tArg (V 311) (V 309 4) i) (s := (v, r, n, t)) ht) | (intro k; simp only [ua]; split; (first | omega | exact ite_01 _); exact ht k)) (by rw [hm2, ← hr]; simp only [mRun]; congr 1; first | (exact (mEv_4 (nm := V 314) (s := (v, r, n, t)) (by omega) (by omega)).symm) | (simp only [mEv]; first | (rw [if_pos (by omega)]; first | (rw [if_pos (by omega)]) | (rw [if_neg (by omega)])) | (rw [if_neg (by omega), if_pos (by omega)]) | (rw [if_neg (by omega), if_neg (by omega), if_pos (by omega)]) | (rw [if_neg (by omega), if_neg (by omega), if_neg (by omega), if_pos (by omega)]) | (rw [if_neg (by omega), if_neg (by omega), if_neg (by omega), if_neg (by omega), if_pos (by omega)]; first | (rw [if_pos (by omega)]) | (rw [if_neg (by omega)])) | (rw [if_neg (by omega), if_neg (by omega), if_neg (by omega), if_neg (by omega), if_neg (by omega)]; first | (rw [if_pos (by omega), if_pos (by omega)]) | (rw [if_pos (by omega), if_neg (by omega)]) | (rw [if_neg (by omega), if_pos (by omega)]) | (rw [if_neg (by omega), if_neg (by omega)])))) (by omega)) (And.intro rfl (And.intro rfl (And.intro rfl (And.intro rfl (And.intro rfl (And.intro rfl (And.intro rfl trivial)))))))
            · -- 158 ge -> 161
              have d3 := d3 (by omega) (by omega)
              have hv1 := hv (n - 1) (by omega) (by omega)
              have hv2 := hv (n - 1 - 1) (by omega) (by omega)
              refine x_dec4 dX11_work_161 ?_
              refine x_al0 dX11_work_164 ?_
              refine x_getR fl_X11_35 (sh_308 hS) (lq_308 hS) (rf_308_23 hS) dX11_work_165 ?_
              refine x_il4 dX11_work_168 ?_
              refine x_iconst dX11_work_170 ?_
              refine x_isub dX11_work_171 ?_
              refine x_il7 dX11_work_172 ?_
              refine x_al0 dX11_work_174 ?_
              refine x_getR fl_X11_35 (sh_308 hS) (lq_308 hS) (rf_308_23 hS) dX11_work_175 ?_
              refine x_il4 dX11_work_178 ?_
              refine x_iconst dX11_work_180 ?_
              refine x_isub dX11_work_181 ?_
              refine x_lald (sh_315 hS) (lq_315 hS) (by omega) (by omega) dX11_work_182 ?_
              refine x_topL (a' := v ((n - 1) - 1)) rfl ?_
              refine x_al0 dX11_work_183 ?_
              refine x_getR fl_X11_35 (sh_308 hS) (lq_308 hS) (rf_308_23 hS) dX11_work_184 ?_
              refine x_il4 dX11_work_187 ?_
              refine x_lald (sh_315 hS) (lq_315 hS) (by omega) (by omega) dX11_work_189 ?_
              refine x_topL (a' := v (n - 1)) rfl ?_
              refine x_cSl mm_X11_two ml_X11_295 dX11_work_190 (c_X11_two (tOp (V 311) (V 309 4) i) (v ((n - 1) - 1)) (v (n - 1)) (inr (by omega)) (by omega) (by omega)) ?_
              refine x_last (sh_315 hS) (lq_315 hS) (by omega) (by omega) dX11_work_193 ?_
              refine x_mem (V' := (up (up V 315 (ua v ((n - 1) - 1) (mTwo (tOp (V 311) (V 309 4) i) (v ((n - 1) - 1)) (v (n - 1))))) 316 r)) (st2_c (by decide) (st2_up _ _ _ _ _)) ?_
              refine x_goto (tgt := 353) dX11_work_194 ?_
              refine x_inc6 dX11_work_353 ?_
              refine x_goto (tgt := 47) dX11_work_356 ?_
              exact x_fg (ih47 (i + 1) (n - 1) t (ua v ((n - 1) - 1) (mTwo (tOp (V 311) (V 309 4) i) (v ((n - 1) - 1)) (v (n - 1)))) r (by omega) (by omega) (by rw [hm2]; first | (exact d1.2.2.2.2) | (exact d2.2) | (exact d3.2) | (exact d4.2.2) | (exact d5.2.2) | (exact d6.2.2)) (fun k h1 h2 => by first | exact hv k h1 (by omega) | (simp only [ua]; split; (first | (have := d1.2.2.1 (by omega); omega) | omega | exact mTwo_r _ _ _); exact hv k h1 (by omega))) (by first | exact ht | (exact mEv_tr (nm := V 314) (o := tOp (V 311) (V 309 4) i) (v := tArg (V 311) (V 309 4) i) (s := (v, r, n, t)) ht) | (intro k; simp only [ua]; split; (first | omega | exact ite_01 _); exact ht k)) (by rw [hm2, ← hr]; simp only [mRun]; congr 1; first | (exact (mEv_4 (nm := V 314) (s := (v, r, n, t)) (by omega) (by omega)).symm) | (simp only [mEv]; first | (rw [if_pos (by omega)]; first | (rw [if_pos (by omega)]) | (rw [if_neg (by omega)])) | (rw [if_neg (by omega), if_pos (by omega)]) | (rw [if_neg (by omega), if_neg (by omega), if_pos (by omega)]) | (rw [if_neg (by omega), if_neg (by omega), if_neg (by omega), if_pos (by omega)]) | (rw [if_neg (by omega), if_neg (by omega), if_neg (by omega), if_neg (by omega), if_pos (by omega)]; first | (rw [if_pos (by omega)]) | (rw [if_neg (by omega)])) | (rw [if_neg (by omega), if_neg (by omega), if_neg (by omega), if_neg (by omega), if_neg (by omega)]; first | (rw [if_pos (by omega), if_pos (by omega)]) | (rw [if_pos (by omega), if_neg (by omega)]) | (rw [if_neg (by omega), if_pos (by omega)]) | (rw [if_neg (by omega), if_neg (by omega)])))) (by omega)) (And.intro rfl (And.intro rfl (And.intro rfl (And.intro rfl (And.intro rfl (And.intro rfl (And.intro rfl trivial)))))))
          · -- 129 ne -> 132
            have d2 := d2 (by omega)
            have hv1 := hv (n - 1) (by omega) (by omega)
            refine x_al0 dX11_work_132 ?_
            refine x_getR fl_X11_35 (sh_308 hS) (lq_308 hS) (rf_308_23 hS) dX11_work_133 ?_
            refine x_il4 dX11_work_136 ?_
            refine x_iconst dX11_work_138 ?_
            refine x_isub dX11_work_139 ?_
            refine x_al0 dX11_work_140 ?_
            refine x_getR fl_X11_35 (sh_308 hS) (lq_308 hS) (rf_308_23 hS) dX11_work_141 ?_
            refine x_il4 dX11_work_144 ?_
            refine x_iconst dX11_work_146 ?_
            refine x_isub dX11_work_147 ?_
            refine x_lald (sh_315 hS) (lq_315 hS) (by omega) (by omega) dX11_work_148 ?_
            refine x_topL (a' := v (n - 1)) rfl ?_
            refine x_lneg dX11_work_149 ?_
            refine x_last (sh_315 hS) (lq_315 hS) (by omega) (by omega) dX11_work_150 ?_
            refine x_mem (V' := (up (up V 315 (ua v (n - 1) (-(v (n - 1))))) 316 r)) (st2_c (by decide) (st2_up _ _ _ _ _)) ?_
            refine x_goto (tgt := 353) dX11_work_151 ?_
            refine x_inc6 dX11_work_353 ?_
            refine x_goto (tgt := 47) dX11_work_356 ?_
            exact x_fg (ih47 (i + 1) n t (ua v (n - 1) (-(v (n - 1)))) r (by omega) (by omega) (by rw [hm2]; first | (exact d1.2.2.2.2) | (exact d2.2) | (exact d3.2) | (exact d4.2.2) | (exact d5.2.2) | (exact d6.2.2)) (fun k h1 h2 => by first | exact hv k h1 (by omega) | (simp only [ua]; split; (first | (have := d1.2.2.1 (by omega); omega) | omega | exact mTwo_r _ _ _); exact hv k h1 (by omega))) (by first | exact ht | (exact mEv_tr (nm := V 314) (o := tOp (V 311) (V 309 4) i) (v := tArg (V 311) (V 309 4) i) (s := (v, r, n, t)) ht) | (intro k; simp only [ua]; split; (first | omega | exact ite_01 _); exact ht k)) (by rw [hm2, ← hr]; simp only [mRun]; congr 1; first | (exact (mEv_4 (nm := V 314) (s := (v, r, n, t)) (by omega) (by omega)).symm) | (simp only [mEv]; first | (rw [if_pos (by omega)]; first | (rw [if_pos (by omega)]) | (rw [if_neg (by omega)])) | (rw [if_neg (by omega), if_pos (by omega)]) | (rw [if_neg (by omega), if_neg (by omega), if_pos (by omega)]) | (rw [if_neg (by omega), if_neg (by omega), if_neg (by omega), if_pos (by omega)]) | (rw [if_neg (by omega), if_neg (by omega), if_neg (by omega), if_neg (by omega), if_pos (by omega)]; first | (rw [if_pos (by omega)]) | (rw [if_neg (by omega)])) | (rw [if_neg (by omega), if_neg (by omega), if_neg (by omega), if_neg (by omega), if_neg (by omega)]; first | (rw [if_pos (by omega), if_pos (by omega)]) | (rw [if_pos (by omega), if_neg (by omega)]) | (rw [if_neg (by omega), if_pos (by omega)]) | (rw [if_neg (by omega), if_neg (by omega)])))) (by omega)) (And.intro rfl (And.intro rfl (And.intro rfl (And.intro rfl (And.intro rfl (And.intro rfl (And.intro rfl trivial)))))))
        · -- 91 gt -> 94
          have d1 := d1 (by omega)
          refine x_al0 dX11_work_94 ?_
          refine x_getR fl_X11_35 (sh_308 hS) (lq_308 hS) (rf_308_23 hS) dX11_work_95 ?_
          refine x_il4 dX11_work_98 ?_
          refine x_il7 dX11_work_100 ?_
          refine x_if_ne (tgt := 111) dX11_work_102 (inr (by omega)) (fun c102_19 => ?_) (fun c102_19 => ?_)
          · -- 102 ne -> 111
            have d1b := d1.2.2.2.1 (by omega)
            refine x_al0 dX11_work_111 ?_
            refine x_getR fl_X11_32 (sh_308 hS) (lq_308 hS) (rf_308_22 hS) dX11_work_112 ?_
            refine x_il8 dX11_work_115 ?_
            have hb20 := hN (tArg (V 311) (V 309 4) i)
            refine x_iald (sh_314 hS) (lq_314 hS) (by omega) (by omega) dX11_work_117 ?_
            refine x_topI (a' := V 314 (tArg (V 311) (V 309 4) i)) rfl ?_
            refine x_i2l (inr (by omega)) dX11_work_118 ?_
            refine x_last (sh_315 hS) (lq_315 hS) (by omega) (by omega) dX11_work_119 ?_
            refine x_mem (V' := (up (up V 315 (ua v n (V 314 (tArg (V 311) (V 309 4) i)))) 316 r)) (st2_c (by decide) (st2_up _ _ _ _ _)) ?_
            refine x_inc4 dX11_work_120 ?_
            refine x_goto (tgt := 353) dX11_work_123 ?_
            refine x_inc6 dX11_work_353 ?_
            refine x_goto (tgt := 47) dX11_work_356 ?_
            exact x_fg (ih47 (i + 1) (n + 1) t (ua v n (V 314 (tArg (V 311) (V 309 4) i))) r (by omega) (by omega) (by rw [hm2]; first | (exact d1.2.2.2.2) | (exact d2.2) | (exact d3.2) | (exact d4.2.2) | (exact d5.2.2) | (exact d6.2.2)) (fun k h1 h2 => by first | exact hv k h1 (by omega) | (simp only [ua]; split; (first | (have := d1.2.2.1 (by omega); omega) | omega | exact mTwo_r _ _ _); exact hv k h1 (by omega))) (by first | exact ht | (exact mEv_tr (nm := V 314) (o := tOp (V 311) (V 309 4) i) (v := tArg (V 311) (V 309 4) i) (s := (v, r, n, t)) ht) | (intro k; simp only [ua]; split; (first | omega | exact ite_01 _); exact ht k)) (by rw [hm2, ← hr]; simp only [mRun]; congr 1; first | (exact (mEv_4 (nm := V 314) (s := (v, r, n, t)) (by omega) (by omega)).symm) | (simp only [mEv]; first | (rw [if_pos (by omega)]; first | (rw [if_pos (by omega)]) | (rw [if_neg (by omega)])) | (rw [if_neg (by omega), if_pos (by omega)]) | (rw [if_neg (by omega), if_neg (by omega), if_pos (by omega)]) | (rw [if_neg (by omega), if_neg (by omega), if_neg (by omega), if_pos (by omega)]) | (rw [if_neg (by omega), if_neg (by omega), if_neg (by omega), if_neg (by omega), if_pos (by omega)]; first | (rw [if_pos (by omega)]) | (rw [if_neg (by omega)])) | (rw [if_neg (by omega), if_neg (by omega), if_neg (by omega), if_neg (by omega), if_neg (by omega)]; first | (rw [if_pos (by omega), if_pos (by omega)]) | (rw [if_pos (by omega), if_neg (by omega)]) | (rw [if_neg (by omega), if_pos (by omega)]) | (rw [if_neg (by omega), if_neg (by omega)])))) (by omega)) (And.intro rfl (And.intro rfl (And.intro rfl (And.intro rfl (And.intro rfl (And.intro rfl (And.intro rfl trivial)))))))
          · -- 102 ne -> 105
            refine x_il8 dX11_work_105 ?_
            refine x_i2l (inr (by omega)) dX11_work_107 ?_
            refine x_goto (tgt := 119) dX11_work_108 ?_
            refine x_last (sh_315 hS) (lq_315 hS) (by omega) (by omega) dX11_work_119 ?_
            refine x_mem (V' := (up (up V 315 (ua v n (tArg (V 311) (V 309 4) i))) 316 r)) (st2_c (by decide) (st2_up _ _ _ _ _)) ?_
            refine x_inc4 dX11_work_120 ?_
            refine x_goto (tgt := 353) dX11_work_123 ?_
            refine x_inc6 dX11_work_353 ?_
            refine x_goto (tgt := 47) dX11_work_356 ?_
            exact x_fg (ih47 (i + 1) (n + 1) t (ua v n (tArg (V 311) (V 309 4) i)) r (by omega) (by omega) (by rw [hm2]; first | (exact d1.2.2.2.2) | (exact d2.2) | (exact d3.2) | (exact d4.2.2) | (exact d5.2.2) | (exact d6.2.2)) (fun k h1 h2 => by first | exact hv k h1 (by omega) | (simp only [ua]; split; (first | (have := d1.2.2.1 (by omega); omega) | omega | exact mTwo_r _ _ _); exact hv k h1 (by omega))) (by first | exact ht | (exact mEv_tr (nm := V 314) (o := tOp (V 311) (V 309 4) i) (v := tArg (V 311) (V 309 4) i) (s := (v, r, n, t)) ht) | (intro k; simp only [ua]; split; (first | omega | exact ite_01 _); exact ht k)) (by rw [hm2, ← hr]; simp only [mRun]; congr 1; first | (exact (mEv_4 (nm := V 314) (s := (v, r, n, t)) (by omega) (by omega)).symm) | (simp only [mEv]; first | (rw [if_pos (by omega)]; first | (rw [if_pos (by omega)]) | (rw [if_neg (by omega)])) | (rw [if_neg (by omega), if_pos (by omega)]) | (rw [if_neg (by omega), if_neg (by omega), if_pos (by omega)]) | (rw [if_neg (by omega), if_neg (by omega), if_neg (by omega), if_pos (by omega)]) | (rw [if_neg (by omega), if_neg (by omega), if_neg (by omega), if_neg (by omega), if_pos (by omega)]; first | (rw [if_pos (by omega)]) | (rw [if_neg (by omega)])) | (rw [if_neg (by omega), if_neg (by omega), if_neg (by omega), if_neg (by omega), if_neg (by omega)]; first | (rw [if_pos (by omega), if_pos (by omega)]) | (rw [if_pos (by omega), if_neg (by omega)]) | (rw [if_neg (by omega), if_pos (by omega)]) | (rw [if_neg (by omega), if_neg (by omega)])))) (by omega)) (And.intro rfl (And.intro rfl (And.intro rfl (And.intro rfl (And.intro rfl (And.intro rfl (And.intro rfl trivial)))))))
  refine x_mem (V' := (up (up V 315 (V 315)) 316 (V 316))) (Eq.trans (show _ = (up V 315 (V 315)) from (Eq.symm (up_self _ 315))) (show _ = (up (up V 315 (V 315)) 316 (V 316)) from (Eq.symm (up_self _ 316)))) ?_
  exact x_fg (lp47 _ (V 311 ((((700 * (V 309 4)) + 1) + (4 * clause)) + 1)) 0 0 (V 315) (V 316) (by omega) (by omega) ho4 (fun k h1 h2 => by omega) hTr rfl (Nat.lt_succ_self _)) (And.intro rfl (And.intro rfl (And.intro rfl (And.intro rfl (And.intro rfl (And.intro rfl (And.intro rfl trivial)))))))
