set_option maxRecDepth 100000 in
set_option maxHeartbeats 4000000 in
theorem c_X11_town {B : Bs} {S : Stt} {V : Va} (x : Int) (y : Int) (hS : Stat S) (hA : AB (V 309)) (h0 : 0 ≤ (V 309 0) ∧ (V 309 0) ≤ 10) (hx : InR x) (hy : InR y) : C B yX11_town cX11_town 3 (some .int) 2 0 0 [vR B 308, vI x, vI y] S V (rI S (up V 309 (mTownF (V 309) x y)) (if 0 ≤ x ∧ x ≤ 99 ∧ 0 ≤ y ∧ y ≤ 99 ∧ (V 309 0) ≠ 10 then (V 309 0) else -1)) := by
  refine C.of [some (vR B 308), some (vI x), some (vI y)] ?_
  intro Γ hQ
  refine x_il1 dX11_town_0 ?_
  refine x_iconst dX11_town_1 ?_
  refine x_bipush dX11_town_2 ?_
  refine x_cSi mm_X11_isIn ml_X11_75 dX11_town_4 (c_X11_isIn x 0 99 (inr (by omega)) (inr (by decide)) (inr (by decide))) ?_
  refine x_ifb_eq (tgt := 31) dX11_town_7 (fun c7_1 => ?_) (fun c7_1 => ?_)
  · -- 7 eq -> 31
    refine x_iconst dX11_town_31 ?_
    exact x_iret hQ (rI.mk (by first | (rw [if_pos (by omega)]; omega) | (rw [if_neg (by omega)])) (by simp only [mTownF]; first | (rw [if_pos (by omega)]) | (rw [if_neg (by omega), up_self]))) dX11_town_32
  · -- 7 eq -> 10
    refine x_il2 dX11_town_10 ?_
    refine x_iconst dX11_town_11 ?_
    refine x_bipush dX11_town_12 ?_
    refine x_cSi mm_X11_isIn ml_X11_75 dX11_town_14 (c_X11_isIn y 0 99 (inr (by omega)) (inr (by decide)) (inr (by decide))) ?_
    refine x_ifb_eq (tgt := 31) dX11_town_17 (fun c17_2 => ?_) (fun c17_2 => ?_)
    · -- 17 eq -> 31
      refine x_iconst dX11_town_31 ?_
      exact x_iret hQ (rI.mk (by first | (rw [if_pos (by omega)]; omega) | (rw [if_neg (by omega)])) (by simp only [mTownF]; first | (rw [if_pos (by omega)]) | (rw [if_neg (by omega), up_self]))) dX11_town_32
    · -- 17 eq -> 20
      refine x_al0 dX11_town_20 ?_
      refine x_getR fl_X11_7 (sh_308 hS) (lq_308 hS) (rf_308_0 hS) dX11_town_21 ?_
      refine x_iconst dX11_town_24 ?_
      have hb3 := hA 0
      refine x_iald (sh_309 hS) (lq_309 hS) (by omega) (by omega) dX11_town_25 ?_
      refine x_topI (a' := V 309 0) rfl ?_
      refine x_bipush dX11_town_26 ?_
      refine x_icmp_ne (tgt := 33) dX11_town_28 (inr (by omega)) (inr (by decide)) (fun c28_4 => ?_) (fun c28_4 => ?_)
      · -- 28 ne -> 33
        refine x_al0 dX11_town_33 ?_
        refine x_getR fl_X11_7 (sh_308 hS) (lq_308 hS) (rf_308_0 hS) dX11_town_34 ?_
        refine x_bipush dX11_town_37 ?_
        refine x_iconst dX11_town_39 ?_
        refine x_al0 dX11_town_40 ?_
        refine x_getR fl_X11_7 (sh_308 hS) (lq_308 hS) (rf_308_0 hS) dX11_town_41 ?_
        refine x_iconst dX11_town_44 ?_
        have hb5 := hA 0
        refine x_iald (sh_309 hS) (lq_309 hS) (by omega) (by omega) dX11_town_45 ?_
        refine x_topI (a' := V 309 0) rfl ?_
        refine x_imul dX11_town_46 ?_
        refine x_iadd dX11_town_47 ?_
        refine x_il1 dX11_town_48 ?_
        refine x_iast (sh_309 hS) (lq_309 hS) (by omega) (by omega) dX11_town_49 ?_
        refine x_mem (V' := (up V 309 (ua (V 309) (10 + (2 * (V 309 0))) x))) rfl ?_
        refine x_al0 dX11_town_50 ?_
        refine x_getR fl_X11_7 (sh_308 hS) (lq_308 hS) (rf_308_0 hS) dX11_town_51 ?_
        refine x_bipush dX11_town_54 ?_
        refine x_iconst dX11_town_56 ?_
        refine x_al0 dX11_town_57 ?_
        refine x_getR fl_X11_7 (sh_308 hS) (lq_308 hS) (rf_308_0 hS) dX11_town_58 ?_
        refine x_iconst dX11_town_61 ?_
        have hb6 := hA 0
        refine x_iald (sh_309 hS) (lq_309 hS) (by omega) (by omega) dX11_town_62 ?_
        refine x_topI (a' := V 309 0) (show (ua (V 309) (10 + (2 * (V 309 0))) x) 0 = V 309 0 from (ua_ne (by omega))) ?_
        refine x_imul dX11_town_63 ?_
        refine x_iadd dX11_town_64 ?_
        refine x_iconst dX11_town_65 ?_
        refine x_iadd dX11_town_66 ?_
        refine x_il2 dX11_town_67 ?_
        refine x_iast (sh_309 hS) (lq_309 hS) (by omega) (by omega) dX11_town_68 ?_
        refine x_mem (V' := (up V 309 (ua (ua (V 309) (10 + (2 * (V 309 0))) x) ((10 + (2 * (V 309 0))) + 1) y))) (st2_up _ _ _ _ _) ?_
        refine x_al0 dX11_town_69 ?_
        refine x_getR fl_X11_7 (sh_308 hS) (lq_308 hS) (rf_308_0 hS) dX11_town_70 ?_
        refine x_iconst dX11_town_73 ?_
        refine x_dup2 dX11_town_74 ?_
        have hb7 := hA 0
        refine x_iald (sh_309 hS) (lq_309 hS) (by omega) (by omega) dX11_town_75 ?_
        refine x_topI (a' := V 309 0) (show (ua (ua (V 309) (10 + (2 * (V 309 0))) x) ((10 + (2 * (V 309 0))) + 1) y) 0 = V 309 0 from ((ua_ne (by omega)).trans (ua_ne (by omega)))) ?_
        refine x_iconst dX11_town_76 ?_
        refine x_iadd dX11_town_77 ?_
        refine x_iast (sh_309 hS) (lq_309 hS) (by omega) (by omega) dX11_town_78 ?_
        refine x_mem (V' := (up V 309 (ua (ua (ua (V 309) (10 + (2 * (V 309 0))) x) ((10 + (2 * (V 309 0))) + 1) y) 0 ((V 309 0) + 1)))) (st2_up _ _ _ _ _) ?_
        refine x_al0 dX11_town_79 ?_
        refine x_getR fl_X11_7 (sh_308 hS) (lq_308 hS) (rf_308_0 hS) dX11_town_80 ?_
        refine x_iconst dX11_town_83 ?_
        refine x_iald (sh_309 hS) (lq_309 hS) (by omega) (by omega) dX11_town_84 ?_
        refine x_topI (a' := (V 309 0) + 1) (show (ua (ua (ua (V 309) (10 + (2 * (V 309 0))) x) ((10 + (2 * (V 309 0))) + 1) y) 0 ((V 309 0) + 1)) 0 = (V 309 0) + 1 from (ua_same _ _ _)) ?_
        refine x_iconst dX11_town_85 ?_
        refine x_isub dX11_town_86 ?_
        exact x_iret hQ (rI.mk (by first | (rw [if_pos (by omega)]; omega) | (rw [if_neg (by omega)])) (by simp only [mTownF]; first | (rw [if_pos (by omega)]) | (rw [if_neg (by omega), up_self]))) dX11_town_87
      · -- 28 ne -> 31
        refine x_iconst dX11_town_31 ?_
        exact x_iret hQ (rI.mk (by first | (rw [if_pos (by omega)]; omega) | (rw [if_neg (by omega)])) (by simp only [mTownF]; first | (rw [if_pos (by omega)]) | (rw [if_neg (by omega), up_self]))) dX11_town_32
set_option maxRecDepth 100000 in
set_option maxHeartbeats 4000000 in
theorem c_X11_bone {B : Bs} {S : Stt} {V : Va} (kind : Int) (weight : Int) (owner : Int) (hS : Stat S) (hA : AB (V 309)) (h0 : 0 ≤ (V 309 0) ∧ (V 309 0) ≤ 10) (h1 : 0 ≤ (V 309 1) ∧ (V 309 1) ≤ 16) (hkind : InR kind) (hweight : InR weight) (howner : InR owner) : C B yX11_bone cX11_bone 5 (some .int) 3 0 0 [vR B 308, vI kind, vI weight, vI owner] S V (rI S (up V 309 (mBoneF (V 309) kind weight owner)) (if mBoneC (V 309) kind weight owner then (V 309 1) else -1)) := by
  refine C.of [some (vR B 308), some (vI kind), some (vI weight), some (vI owner), none] ?_
  intro Γ hQ
  refine x_il1 dX11_bone_0 ?_
  refine x_iconst dX11_bone_1 ?_
  refine x_bipush dX11_bone_2 ?_
  refine x_cSi mm_X11_isIn ml_X11_75 dX11_bone_4 (c_X11_isIn kind 0 19 (inr (by omega)) (inr (by decide)) (inr (by decide))) ?_
  refine x_ifb_eq (tgt := 40) dX11_bone_7 (fun c7_1 => ?_) (fun c7_1 => ?_)
  · -- 7 eq -> 40
    refine x_iconst dX11_bone_40 ?_
    exact x_iret hQ (rI.mk (by first | (rw [if_pos (by simp only [mBoneC]; omega)]; omega) | (rw [if_neg (by simp only [mBoneC]; omega)])) (by simp only [mBoneF]; first | (rw [if_pos (by simp only [mBoneC]; omega)]; rfl) | (rw [if_neg (by simp only [mBoneC]; omega), up_self]))) dX11_bone_41
  · -- 7 eq -> 10
    refine x_il2 dX11_bone_10 ?_
    refine x_iconst dX11_bone_11 ?_
    refine x_sipush dX11_bone_12 ?_
    refine x_cSi mm_X11_isIn ml_X11_75 dX11_bone_15 (c_X11_isIn weight 1 999 (inr (by omega)) (inr (by decide)) (inr (by decide))) ?_
    refine x_ifb_eq (tgt := 40) dX11_bone_18 (fun c18_2 => ?_) (fun c18_2 => ?_)
    · -- 18 eq -> 40
      refine x_iconst dX11_bone_40 ?_
      exact x_iret hQ (rI.mk (by first | (rw [if_pos (by simp only [mBoneC]; omega)]; omega) | (rw [if_neg (by simp only [mBoneC]; omega)])) (by simp only [mBoneF]; first | (rw [if_pos (by simp only [mBoneC]; omega)]; rfl) | (rw [if_neg (by simp only [mBoneC]; omega), up_self]))) dX11_bone_41
    · -- 18 eq -> 21
      refine x_al0 dX11_bone_21 ?_
      refine x_il3 dX11_bone_22 ?_
      refine x_cVi mm_X11_isTown ml_X11_83 dX11_bone_23 (c_X11_isTown owner hS hA (inr (by omega))) (sh_308 hS) (lq_308 hS) ?_
      refine x_ifb_eq (tgt := 40) dX11_bone_26 (fun c26_3 => ?_) (fun c26_3 => ?_)
      · -- 26 eq -> 40
        refine x_iconst dX11_bone_40 ?_
        exact x_iret hQ (rI.mk (by first | (rw [if_pos (by simp only [mBoneC]; omega)]; omega) | (rw [if_neg (by simp only [mBoneC]; omega)])) (by simp only [mBoneF]; first | (rw [if_pos (by simp only [mBoneC]; omega)]; rfl) | (rw [if_neg (by simp only [mBoneC]; omega), up_self]))) dX11_bone_41
      · -- 26 eq -> 29
        refine x_al0 dX11_bone_29 ?_
        refine x_getR fl_X11_7 (sh_308 hS) (lq_308 hS) (rf_308_0 hS) dX11_bone_30 ?_
        refine x_iconst dX11_bone_33 ?_
        have hb4 := hA 1
        refine x_iald (sh_309 hS) (lq_309 hS) (by omega) (by omega) dX11_bone_34 ?_
        refine x_topI (a' := V 309 1) rfl ?_
        refine x_bipush dX11_bone_35 ?_
        refine x_icmp_ne (tgt := 42) dX11_bone_37 (inr (by omega)) (inr (by decide)) (fun c37_5 => ?_) (fun c37_5 => ?_)
        · -- 37 ne -> 42
          refine x_al0 dX11_bone_42 ?_
          refine x_getR fl_X11_7 (sh_308 hS) (lq_308 hS) (rf_308_0 hS) dX11_bone_43 ?_
          refine x_iconst dX11_bone_46 ?_
          have hb6 := hA 1
          refine x_iald (sh_309 hS) (lq_309 hS) (by omega) (by omega) dX11_bone_47 ?_
          refine x_topI (a' := V 309 1) rfl ?_
          refine x_cSi mm_X11_boneAt ml_X11_87 dX11_bone_48 (c_X11_boneAt (V 309 1)) ?_
          refine x_is4 dX11_bone_51 ?_
          refine x_al0 dX11_bone_53 ?_
          refine x_getR fl_X11_7 (sh_308 hS) (lq_308 hS) (rf_308_0 hS) dX11_bone_54 ?_
          refine x_il4 dX11_bone_57 ?_
          refine x_il1 dX11_bone_59 ?_
          refine x_iast (sh_309 hS) (lq_309 hS) (by omega) (by omega) dX11_bone_60 ?_
          refine x_mem (V' := (up V 309 (ua (V 309) (30 + 6 * (V 309 1)) kind))) rfl ?_
          refine x_al0 dX11_bone_61 ?_
          refine x_getR fl_X11_7 (sh_308 hS) (lq_308 hS) (rf_308_0 hS) dX11_bone_62 ?_
          refine x_il4 dX11_bone_65 ?_
          refine x_iconst dX11_bone_67 ?_
          refine x_iadd dX11_bone_68 ?_
          refine x_il2 dX11_bone_69 ?_
          refine x_iast (sh_309 hS) (lq_309 hS) (by omega) (by omega) dX11_bone_70 ?_
          refine x_mem (V' := (up V 309 (ua (ua (V 309) (30 + 6 * (V 309 1)) kind) ((30 + 6 * (V 309 1)) + 1) weight))) (st2_up _ _ _ _ _) ?_
          refine x_al0 dX11_bone_71 ?_
          refine x_getR fl_X11_7 (sh_308 hS) (lq_308 hS) (rf_308_0 hS) dX11_bone_72 ?_
          refine x_il4 dX11_bone_75 ?_
          refine x_iconst dX11_bone_77 ?_
          refine x_iadd dX11_bone_78 ?_
          refine x_il3 dX11_bone_79 ?_
          refine x_iast (sh_309 hS) (lq_309 hS) (by omega) (by omega) dX11_bone_80 ?_
          refine x_mem (V' := (up V 309 (ua (ua (ua (V 309) (30 + 6 * (V 309 1)) kind) ((30 + 6 * (V 309 1)) + 1) weight) ((30 + 6 * (V 309 1)) + 2) owner))) (st2_up _ _ _ _ _) ?_
          refine x_al0 dX11_bone_81 ?_
          refine x_getR fl_X11_7 (sh_308 hS) (lq_308 hS) (rf_308_0 hS) dX11_bone_82 ?_
          refine x_il4 dX11_bone_85 ?_
          refine x_iconst dX11_bone_87 ?_
          refine x_iadd dX11_bone_88 ?_
          refine x_il3 dX11_bone_89 ?_
          refine x_iast (sh_309 hS) (lq_309 hS) (by omega) (by omega) dX11_bone_90 ?_
          refine x_mem (V' := (up V 309 (ua (ua (ua (ua (V 309) (30 + 6 * (V 309 1)) kind) ((30 + 6 * (V 309 1)) + 1) weight) ((30 + 6 * (V 309 1)) + 2) owner) ((30 + 6 * (V 309 1)) + 3) owner))) (st2_up _ _ _ _ _) ?_
          refine x_al0 dX11_bone_91 ?_
          refine x_getR fl_X11_7 (sh_308 hS) (lq_308 hS) (rf_308_0 hS) dX11_bone_92 ?_
          refine x_il4 dX11_bone_95 ?_
          refine x_iconst dX11_bone_97 ?_
          refine x_iadd dX11_bone_98 ?_
          refine x_iconst dX11_bone_99 ?_
          refine x_iast (sh_309 hS) (lq_309 hS) (by omega) (by omega) dX11_bone_100 ?_
          refine x_mem (V' := (up V 309 (ua (ua (ua (ua (ua (V 309) (30 + 6 * (V 309 1)) kind) ((30 + 6 * (V 309 1)) + 1) weight) ((30 + 6 * (V 309 1)) + 2) owner) ((30 + 6 * (V 309 1)) + 3) owner) ((30 + 6 * (V 309 1)) + 4) (-1)))) (st2_up _ _ _ _ _) ?_
          refine x_al0 dX11_bone_101 ?_
          refine x_getR fl_X11_7 (sh_308 hS) (lq_308 hS) (rf_308_0 hS) dX11_bone_102 ?_
          refine x_il4 dX11_bone_105 ?_
          refine x_iconst dX11_bone_107 ?_
          refine x_iadd dX11_bone_108 ?_
          refine x_iconst dX11_bone_109 ?_
          refine x_iast (sh_309 hS) (lq_309 hS) (by omega) (by omega) dX11_bone_110 ?_
          refine x_mem (V' := (up V 309 (ua (ua (ua (ua (ua (ua (V 309) (30 + 6 * (V 309 1)) kind) ((30 + 6 * (V 309 1)) + 1) weight) ((30 + 6 * (V 309 1)) + 2) owner) ((30 + 6 * (V 309 1)) + 3) owner) ((30 + 6 * (V 309 1)) + 4) (-1)) ((30 + 6 * (V 309 1)) + 5) 0))) (st2_up _ _ _ _ _) ?_
          refine x_al0 dX11_bone_111 ?_
          refine x_getR fl_X11_7 (sh_308 hS) (lq_308 hS) (rf_308_0 hS) dX11_bone_112 ?_
          refine x_iconst dX11_bone_115 ?_
          refine x_dup2 dX11_bone_116 ?_
          have hb7 := hA 1
          refine x_iald (sh_309 hS) (lq_309 hS) (by omega) (by omega) dX11_bone_117 ?_
          refine x_topI (a' := V 309 1) (show (ua (ua (ua (ua (ua (ua (V 309) (30 + 6 * (V 309 1)) kind) ((30 + 6 * (V 309 1)) + 1) weight) ((30 + 6 * (V 309 1)) + 2) owner) ((30 + 6 * (V 309 1)) + 3) owner) ((30 + 6 * (V 309 1)) + 4) (-1)) ((30 + 6 * (V 309 1)) + 5) 0) 1 = V 309 1 from ((ua_ne (by omega)).trans ((ua_ne (by omega)).trans ((ua_ne (by omega)).trans ((ua_ne (by omega)).trans ((ua_ne (by omega)).trans (ua_ne (by omega)))))))) ?_
          refine x_iconst dX11_bone_118 ?_
          refine x_iadd dX11_bone_119 ?_
          refine x_iast (sh_309 hS) (lq_309 hS) (by omega) (by omega) dX11_bone_120 ?_
          refine x_mem (V' := (up V 309 (ua (ua (ua (ua (ua (ua (ua (V 309) (30 + 6 * (V 309 1)) kind) ((30 + 6 * (V 309 1)) + 1) weight) ((30 + 6 * (V 309 1)) + 2) owner) ((30 + 6 * (V 309 1)) + 3) owner) ((30 + 6 * (V 309 1)) + 4) (-1)) ((30 + 6 * (V 309 1)) + 5) 0) 1 ((V 309 1) + 1)))) (st2_up _ _ _ _ _) ?_
          refine x_al0 dX11_bone_121 ?_
          refine x_getR fl_X11_7 (sh_308 hS) (lq_308 hS) (rf_308_0 hS) dX11_bone_122 ?_
          refine x_iconst dX11_bone_125 ?_
          refine x_iald (sh_309 hS) (lq_309 hS) (by omega) (by omega) dX11_bone_126 ?_
          refine x_topI (a' := (V 309 1) + 1) (show (ua (ua (ua (ua (ua (ua (ua (V 309) (30 + 6 * (V 309 1)) kind) ((30 + 6 * (V 309 1)) + 1) weight) ((30 + 6 * (V 309 1)) + 2) owner) ((30 + 6 * (V 309 1)) + 3) owner) ((30 + 6 * (V 309 1)) + 4) (-1)) ((30 + 6 * (V 309 1)) + 5) 0) 1 ((V 309 1) + 1)) 1 = (V 309 1) + 1 from (ua_same _ _ _)) ?_
          refine x_iconst dX11_bone_127 ?_
          refine x_isub dX11_bone_128 ?_
          exact x_iret hQ (rI.mk (by first | (rw [if_pos (by simp only [mBoneC]; omega)]; omega) | (rw [if_neg (by simp only [mBoneC]; omega)])) (by simp only [mBoneF]; first | (rw [if_pos (by simp only [mBoneC]; omega)]; rfl) | (rw [if_neg (by simp only [mBoneC]; omega), up_self]))) dX11_bone_129
        · -- 37 ne -> 40
          refine x_iconst dX11_bone_40 ?_
          exact x_iret hQ (rI.mk (by first | (rw [if_pos (by simp only [mBoneC]; omega)]; omega) | (rw [if_neg (by simp only [mBoneC]; omega)])) (by simp only [mBoneF]; first | (rw [if_pos (by simp only [mBoneC]; omega)]; rfl) | (rw [if_neg (by simp only [mBoneC]; omega), up_self]))) dX11_bone_41
set_option maxRecDepth 100000 in
set_option maxHeartbeats 4000000 in
theorem c_X11_undo {B : Bs} {S : Stt} {V : Va} (hS : Stat S) (hA : AB (V 309)) (h5 : 0 ≤ (V 309 5) ∧ (V 309 5) ≤ 20) (hT : (V 309 5) ≠ 0 → 0 ≤ (V 309) (174 + 82 * ((V 309 5) - 1) + 1) ∧ (V 309) (174 + 82 * ((V 309 5) - 1) + 1) ≤ 16) : C B yX11_undo cX11_undo 4 (some .int) 2 0 0 [vR B 308] S V (rI S (up V 309 (mUndoF (V 309))) (if (V 309 5) = 0 then -1 else (V 309 5) - 1)) := by
  refine C.of [some (vR B 308), none, none, none] ?_
  intro Γ hQ
  refine x_al0 dX11_undo_0 ?_
  refine x_getR fl_X11_7 (sh_308 hS) (lq_308 hS) (rf_308_0 hS) dX11_undo_1 ?_
  refine x_iconst dX11_undo_4 ?_
  have hb1 := hA 5
  refine x_iald (sh_309 hS) (lq_309 hS) (by omega) (by omega) dX11_undo_5 ?_
  refine x_topI (a' := V 309 5) rfl ?_
  refine x_if_ne (tgt := 11) dX11_undo_6 (inr (by omega)) (fun c6_2 => ?_) (fun c6_2 => ?_)
  · -- 6 ne -> 11
    have hT := hT (by omega)
    refine x_al0 dX11_undo_11 ?_
    refine x_getR fl_X11_7 (sh_308 hS) (lq_308 hS) (rf_308_0 hS) dX11_undo_12 ?_
    refine x_iconst dX11_undo_15 ?_
    refine x_dup2 dX11_undo_16 ?_
    have hb3 := hA 5
    refine x_iald (sh_309 hS) (lq_309 hS) (by omega) (by omega) dX11_undo_17 ?_
    refine x_topI (a' := V 309 5) rfl ?_
    refine x_iconst dX11_undo_18 ?_
    refine x_isub dX11_undo_19 ?_
    refine x_iast (sh_309 hS) (lq_309 hS) (by omega) (by omega) dX11_undo_20 ?_
    refine x_mem (V' := (up V 309 (ua (V 309) 5 ((V 309 5) - 1)))) rfl ?_
    refine x_sipush dX11_undo_21 ?_
    refine x_bipush dX11_undo_24 ?_
    refine x_al0 dX11_undo_26 ?_
    refine x_getR fl_X11_7 (sh_308 hS) (lq_308 hS) (rf_308_0 hS) dX11_undo_27 ?_
    refine x_iconst dX11_undo_30 ?_
    refine x_iald (sh_309 hS) (lq_309 hS) (by omega) (by omega) dX11_undo_31 ?_
    refine x_topI (a' := (V 309 5) - 1) (show (ua (V 309) 5 ((V 309 5) - 1)) 5 = (V 309 5) - 1 from (ua_same _ _ _)) ?_
    refine x_imul dX11_undo_32 ?_
    refine x_iadd dX11_undo_33 ?_
    refine x_is1 dX11_undo_34 ?_
    refine x_al0 dX11_undo_35 ?_
    refine x_getR fl_X11_7 (sh_308 hS) (lq_308 hS) (rf_308_0 hS) dX11_undo_36 ?_
    refine x_iconst dX11_undo_39 ?_
    refine x_al0 dX11_undo_40 ?_
    refine x_getR fl_X11_7 (sh_308 hS) (lq_308 hS) (rf_308_0 hS) dX11_undo_41 ?_
    refine x_il1 dX11_undo_44 ?_
    have hb4 := hA (174 + (82 * ((V 309 5) - 1)))
    refine x_iald (sh_309 hS) (lq_309 hS) (by omega) (by omega) dX11_undo_45 ?_
    refine x_topI (a' := V 309 (174 + (82 * ((V 309 5) - 1)))) (show (ua (V 309) 5 ((V 309 5) - 1)) (174 + (82 * ((V 309 5) - 1))) = V 309 (174 + (82 * ((V 309 5) - 1))) from (ua_ne (by omega))) ?_
    refine x_iast (sh_309 hS) (lq_309 hS) (by omega) (by omega) dX11_undo_46 ?_
    refine x_mem (V' := (up V 309 (ua (ua (V 309) 5 ((V 309 5) - 1)) 2 (V 309 (174 + (82 * ((V 309 5) - 1))))))) (st2_up _ _ _ _ _) ?_
    refine x_iconst dX11_undo_47 ?_
    refine x_is2 dX11_undo_48 ?_
    have lp49 : ∀ (N49 : Nat) (b : Int), (0 ≤ b ∧ b ≤ V 309 (174 + 82 * (V 309 5 - 1) + 1)) → (V 309 (174 + 82 * (V 309 5 - 1) + 1) - b).toNat < N49 → X Γ B RX11 "undo" cX11_undo 4 (some .int) 2 0 0 49 [some (vR B 308), some (vI (174 + (82 * ((V 309 5) - 1)))), some (vI b), none] [] 0 0 S (up V 309 (undoK (ua (ua (V 309) 5 (V 309 5 - 1)) 2 (V 309 (174 + 82 * (V 309 5 - 1)))) (174 + 82 * (V 309 5 - 1)) (5 * b + 0))) := by
      intro N49
      induction N49 with
      | zero => intro b hb hN; exact absurd hN (Nat.not_lt_zero _)
      | succ N49 ih49 =>
        intro b hb hN49
        refine x_il2 dX11_undo_49 ?_
        refine x_al0 dX11_undo_50 ?_
        refine x_getR fl_X11_7 (sh_308 hS) (lq_308 hS) (rf_308_0 hS) dX11_undo_51 ?_
        refine x_il1 dX11_undo_54 ?_
        refine x_iconst dX11_undo_55 ?_
        refine x_iadd dX11_undo_56 ?_
        have hb5 := hA ((174 + (82 * ((V 309 5) - 1))) + 1)
        refine x_iald (sh_309 hS) (lq_309 hS) (by omega) (by omega) dX11_undo_57 ?_
        refine x_topI (a' := V 309 ((174 + (82 * ((V 309 5) - 1))) + 1)) (show (undoK (ua (ua (V 309) 5 (V 309 5 - 1)) 2 (V 309 (174 + 82 * (V 309 5 - 1)))) (174 + 82 * (V 309 5 - 1)) (5 * b + 0)) ((174 + (82 * ((V 309 5) - 1))) + 1) = V 309 ((174 + (82 * ((V 309 5) - 1))) + 1) from (by rw [undoK_hi (by omega), ua_ne (by omega), ua_ne (by omega)])) ?_
        refine x_icmp_ge (tgt := 107) dX11_undo_58 (inr (by omega)) (inr (by omega)) (fun c58_6 => ?_) (fun c58_6 => ?_)
        · -- 58 ge -> 107
          refine x_al0 dX11_undo_107 ?_
          refine x_getR fl_X11_7 (sh_308 hS) (lq_308 hS) (rf_308_0 hS) dX11_undo_108 ?_
          refine x_iconst dX11_undo_111 ?_
          refine x_iald (sh_309 hS) (lq_309 hS) (by omega) (by omega) dX11_undo_112 ?_
          refine x_topI (a' := V 309 5 - 1) (show (undoK (ua (ua (V 309) 5 (V 309 5 - 1)) 2 (V 309 (174 + 82 * (V 309 5 - 1)))) (174 + 82 * (V 309 5 - 1)) (5 * b + 0)) 5 = V 309 5 - 1 from (by rw [undoK_hi (by omega), ua_ne (by omega), ua_same])) ?_
          exact x_iret hQ (rI.mk (by rw [if_neg (by omega)]) (by simp only [mUndoF]; rw [if_neg (by omega)]; simp only [mUndo]; rw [show 5 * b + 0 = 5 * V 309 (174 + 82 * (V 309 5 - 1) + 1) by omega])) dX11_undo_113
        · -- 58 ge -> 61
          refine x_iconst dX11_undo_61 ?_
          refine x_is3 dX11_undo_62 ?_
          have lp63 : ∀ (N63 : Nat) (e : Int), (0 ≤ e ∧ e ≤ 5) → (5 - e).toNat < N63 → X Γ B RX11 "undo" cX11_undo 4 (some .int) 2 0 0 63 [some (vR B 308), some (vI (174 + (82 * ((V 309 5) - 1)))), some (vI b), some (vI e)] [] 0 0 S (up V 309 (undoK (ua (ua (V 309) 5 (V 309 5 - 1)) 2 (V 309 (174 + 82 * (V 309 5 - 1)))) (174 + 82 * (V 309 5 - 1)) (5 * b + e))) := by
            intro N63
            induction N63 with
            | zero => intro e he hN; exact absurd hN (Nat.not_lt_zero _)
            | succ N63 ih63 =>
              intro e he hN63
              refine x_il3 dX11_undo_63 ?_
              refine x_iconst dX11_undo_64 ?_
              refine x_icmp_ge (tgt := 101) dX11_undo_65 (inr (by omega)) (inr (by decide)) (fun c65_7 => ?_) (fun c65_7 => ?_)
              · -- 65 ge -> 101
                refine x_inc2 dX11_undo_101 ?_
                refine x_goto (tgt := 49) dX11_undo_104 ?_
                refine x_mem (V' := (up V 309 (undoK (ua (ua (V 309) 5 (V 309 5 - 1)) 2 (V 309 (174 + 82 * (V 309 5 - 1)))) (174 + 82 * (V 309 5 - 1)) (5 * (b + 1) + 0)))) (upE rfl (by rw [show e = 5 by omega, show 5 * (b + 1) + 0 = 5 * b + 5 by omega])) ?_
                exact x_fg (ih49 (b + 1) (by omega) (by omega)) (And.intro rfl (And.intro rfl (And.intro rfl trivial)))
              · -- 65 ge -> 68
                refine x_al0 dX11_undo_68 ?_
                refine x_getR fl_X11_7 (sh_308 hS) (lq_308 hS) (rf_308_0 hS) dX11_undo_69 ?_
                refine x_il2 dX11_undo_72 ?_
                refine x_cSi mm_X11_boneAt ml_X11_87 dX11_undo_73 (c_X11_boneAt b) ?_
                refine x_iconst dX11_undo_76 ?_
                refine x_iadd dX11_undo_77 ?_
                refine x_il3 dX11_undo_78 ?_
                refine x_iadd dX11_undo_79 ?_
                refine x_al0 dX11_undo_80 ?_
                refine x_getR fl_X11_7 (sh_308 hS) (lq_308 hS) (rf_308_0 hS) dX11_undo_81 ?_
                refine x_il1 dX11_undo_84 ?_
                refine x_iconst dX11_undo_85 ?_
                refine x_iadd dX11_undo_86 ?_
                refine x_iconst dX11_undo_87 ?_
                refine x_il2 dX11_undo_88 ?_
                refine x_imul dX11_undo_89 ?_
                refine x_iadd dX11_undo_90 ?_
                refine x_il3 dX11_undo_91 ?_
                refine x_iadd dX11_undo_92 ?_
                have hb8 := hA ((((174 + (82 * ((V 309 5) - 1))) + 2) + (5 * b)) + e)
                refine x_iald (sh_309 hS) (lq_309 hS) (by omega) (by omega) dX11_undo_93 ?_
                refine x_topI (a' := V 309 ((((174 + (82 * ((V 309 5) - 1))) + 2) + (5 * b)) + e)) (show (undoK (ua (ua (V 309) 5 (V 309 5 - 1)) 2 (V 309 (174 + 82 * (V 309 5 - 1)))) (174 + 82 * (V 309 5 - 1)) (5 * b + e)) ((((174 + (82 * ((V 309 5) - 1))) + 2) + (5 * b)) + e) = V 309 ((((174 + (82 * ((V 309 5) - 1))) + 2) + (5 * b)) + e) from (by rw [undoK_hi (by omega), ua_ne (by omega), ua_ne (by omega)])) ?_
                refine x_iast (sh_309 hS) (lq_309 hS) (by omega) (by omega) dX11_undo_94 ?_
                refine x_mem (V' := (up V 309 (ua (undoK (ua (ua (V 309) 5 (V 309 5 - 1)) 2 (V 309 (174 + 82 * (V 309 5 - 1)))) (174 + 82 * (V 309 5 - 1)) (5 * b + e)) (((30 + 6 * b) + 1) + e) (V 309 ((((174 + (82 * ((V 309 5) - 1))) + 2) + (5 * b)) + e))))) (st2_up _ _ _ _ _) ?_
                refine x_inc3 dX11_undo_95 ?_
                refine x_goto (tgt := 63) dX11_undo_98 ?_
                refine x_mem (V' := (up V 309 (undoK (ua (ua (V 309) 5 (V 309 5 - 1)) 2 (V 309 (174 + 82 * (V 309 5 - 1)))) (174 + 82 * (V 309 5 - 1)) (5 * b + (e + 1))))) (upE rfl (by have := undoK_s (ua (ua (V 309) 5 (V 309 5 - 1)) 2 (V 309 (174 + 82 * (V 309 5 - 1)))) (x := 174 + 82 * (V 309 5 - 1)) (b := b) (e := e) (by omega) hb.1 (by omega) he.1 (by omega); rw [← this]; congr 1; rw [ua_ne (by omega), ua_ne (by omega)])) ?_
                exact x_fg (ih63 (e + 1) (by omega) (by omega)) (And.intro rfl (And.intro rfl (And.intro rfl (And.intro rfl trivial))))
          exact x_fg (lp63 _ 0 (by omega) (Nat.lt_succ_self _)) (And.intro rfl (And.intro rfl (And.intro rfl (And.intro rfl trivial))))
    refine x_mem (V' := (up V 309 (undoK (ua (ua (V 309) 5 (V 309 5 - 1)) 2 (V 309 (174 + 82 * (V 309 5 - 1)))) (174 + 82 * (V 309 5 - 1)) (5 * 0 + 0)))) (upE rfl (undoK_0 _ _)) ?_
    exact x_fg (lp49 _ 0 (by omega) (Nat.lt_succ_self _)) (And.intro rfl (And.intro rfl (And.intro rfl trivial)))
  · -- 6 ne -> 9
    refine x_iconst dX11_undo_9 ?_
    exact x_iret hQ (rI.mk (by rw [if_pos (by omega)]) (by simp only [mUndoF]; rw [if_pos (by omega), up_self])) dX11_undo_10
set_option maxRecDepth 100000 in
set_option maxHeartbeats 4000000 in
theorem c_X11_prove {B : Bs} {S : Stt} {V : Va} (town : Int) (bone : Int) (hS : Stat S) (hA : AB (V 309)) (h0 : 0 ≤ (V 309 0) ∧ (V 309 0) ≤ 10) (h1 : 0 ≤ (V 309 1) ∧ (V 309 1) ≤ 16) (h5 : 0 ≤ (V 309 5) ∧ (V 309 5) ≤ 20) (hP : ∀ b, 0 ≤ b → b < 16 → 0 ≤ (V 309) (30 + 6 * b + 5)) (htown : InR town) (hbone : InR bone) : C B yX11_prove cX11_prove 3 (some .boolean) 3 0 0 [vR B 308, vI town, vI bone] S V (rI S (up V 309 (mProveF (V 309) town bone)) (if mProveC (V 309) town bone then 1 else 0)) := by
  refine C.of [some (vR B 308), some (vI town), some (vI bone)] ?_
  intro Γ hQ
  refine x_al0 dX11_prove_0 ?_
  refine x_il1 dX11_prove_1 ?_
  refine x_cVi mm_X11_isTown ml_X11_83 dX11_prove_2 (c_X11_isTown town hS hA (inr (by omega))) (sh_308 hS) (lq_308 hS) ?_
  refine x_ifb_eq (tgt := 35) dX11_prove_5 (fun c5_1 => ?_) (fun c5_1 => ?_)
  · -- 5 eq -> 35
    refine x_iconst dX11_prove_35 ?_
    exact x_zret hQ (rI.mk (by first | (rw [if_pos (by simp only [mProveC, mTownOk, mBoneOk]; omega)]) | (rw [if_neg (by simp only [mProveC, mTownOk, mBoneOk]; omega)])) (by simp only [mProveF]; first | (rw [if_pos (by simp only [mProveC, mTownOk, mBoneOk]; omega)]) | (rw [if_neg (by simp only [mProveC, mTownOk, mBoneOk]; omega), up_self]))) (by decide) dX11_prove_36
  · -- 5 eq -> 8
    refine x_al0 dX11_prove_8 ?_
    refine x_il2 dX11_prove_9 ?_
    refine x_cVi mm_X11_isBone ml_X11_91 dX11_prove_10 (c_X11_isBone bone hS hA (inr (by omega))) (sh_308 hS) (lq_308 hS) ?_
    refine x_ifb_eq (tgt := 35) dX11_prove_13 (fun c13_2 => ?_) (fun c13_2 => ?_)
    · -- 13 eq -> 35
      refine x_iconst dX11_prove_35 ?_
      exact x_zret hQ (rI.mk (by first | (rw [if_pos (by simp only [mProveC, mTownOk, mBoneOk]; omega)]) | (rw [if_neg (by simp only [mProveC, mTownOk, mBoneOk]; omega)])) (by simp only [mProveF]; first | (rw [if_pos (by simp only [mProveC, mTownOk, mBoneOk]; omega)]) | (rw [if_neg (by simp only [mProveC, mTownOk, mBoneOk]; omega), up_self]))) (by decide) dX11_prove_36
    · -- 13 eq -> 16
      refine x_al0 dX11_prove_16 ?_
      refine x_getR fl_X11_7 (sh_308 hS) (lq_308 hS) (rf_308_0 hS) dX11_prove_17 ?_
      refine x_il2 dX11_prove_20 ?_
      refine x_cSi mm_X11_boneAt ml_X11_87 dX11_prove_21 (c_X11_boneAt bone) ?_
      refine x_iconst dX11_prove_24 ?_
      refine x_iadd dX11_prove_25 ?_
      have hb3 := hA ((30 + 6 * bone) + 5)
      refine x_iald (sh_309 hS) (lq_309 hS) (by omega) (by omega) dX11_prove_26 ?_
      refine x_topI (a' := V 309 ((30 + 6 * bone) + 5)) rfl ?_
      refine x_il1 dX11_prove_27 ?_
      refine x_ishr (inr (by omega)) (by omega) (by omega) dX11_prove_28 ?_
      refine x_iconst dX11_prove_29 ?_
      refine x_and1 dX11_prove_30 ?_
      refine x_iconst dX11_prove_31 ?_
      refine x_icmp_ne (tgt := 37) dX11_prove_32 (inr (by omega)) (inr (by decide)) (fun c32_4 => ?_) (fun c32_4 => ?_)
      · -- 32 ne -> 37
        refine x_al0 dX11_prove_37 ?_
        refine x_cVv mm_X11_keep ml_X11_94 dX11_prove_38 (c_X11_keep hS hA h5) (sh_308 hS) (lq_308 hS) ?_
        refine x_al0 dX11_prove_41 ?_
        refine x_getR fl_X11_7 (sh_308 hS) (lq_308 hS) (rf_308_0 hS) dX11_prove_42 ?_
        refine x_il2 dX11_prove_45 ?_
        refine x_cSi mm_X11_boneAt ml_X11_87 dX11_prove_46 (c_X11_boneAt bone) ?_
        refine x_iconst dX11_prove_49 ?_
        refine x_iadd dX11_prove_50 ?_
        refine x_dup2 dX11_prove_51 ?_
        have hb5 := hA ((30 + 6 * bone) + 5)
        refine x_iald (sh_309 hS) (lq_309 hS) (by omega) (by omega) dX11_prove_52 ?_
        refine x_topI (a' := V 309 ((30 + 6 * bone) + 5)) (show (mKeep (V 309)) ((30 + 6 * bone) + 5) = V 309 ((30 + 6 * bone) + 5) from (mKeep_lo (by omega) (by omega) h5)) ?_
        refine x_iconst dX11_prove_53 ?_
        refine x_il1 dX11_prove_54 ?_
        refine x_shl1 (by omega) (by omega) dX11_prove_55 ?_
        refine x_ior (hP _ (by omega) (by omega)) (Int.le_of_lt (p2_pos _)) dX11_prove_56 ?_
        refine x_iast (sh_309 hS) (lq_309 hS) (by omega) (by omega) dX11_prove_57 ?_
        refine x_mem (V' := (up V 309 (ua (mKeep (V 309)) ((30 + 6 * bone) + 5) (bor (V 309 ((30 + 6 * bone) + 5)) (p2 town))))) (st2_up _ _ _ _ _) ?_
        refine x_iconst dX11_prove_58 ?_
        exact x_zret hQ (rI.mk (by first | (rw [if_pos (by simp only [mProveC, mTownOk, mBoneOk]; omega)]) | (rw [if_neg (by simp only [mProveC, mTownOk, mBoneOk]; omega)])) (by simp only [mProveF]; first | (rw [if_pos (by simp only [mProveC, mTownOk, mBoneOk]; omega)]) | (rw [if_neg (by simp only [mProveC, mTownOk, mBoneOk]; omega), up_self]))) (by decide) dX11_prove_59
      · -- 32 ne -> 35
        refine x_iconst dX11_prove_35 ?_
        exact x_zret hQ (rI.mk (by first | (rw [if_pos (by simp only [mProveC, mTownOk, mBoneOk]; omega)]) | (rw [if_neg (by simp only [mProveC, mTownOk, mBoneOk]; omega)])) (by simp only [mProveF]; first | (rw [if_pos (by simp only [mProveC, mTownOk, mBoneOk]; omega)]) | (rw [if_neg (by simp only [mProveC, mTownOk, mBoneOk]; omega), up_self]))) (by decide) dX11_prove_36
set_option maxRecDepth 100000 in
set_option maxHeartbeats 4000000 in
theorem c_X11_lend {B : Bs} {S : Stt} {V : Va} (bone : Int) (town : Int) (years : Int) (hS : Stat S) (hA : AB (V 309)) (h0 : 0 ≤ (V 309 0) ∧ (V 309 0) ≤ 10) (h1 : 0 ≤ (V 309 1) ∧ (V 309 1) ≤ 16) (h2 : 0 ≤ (V 309 2) ∧ (V 309 2) ≤ 999) (h5 : 0 ≤ (V 309 5) ∧ (V 309 5) ≤ 20) (htown : InR town) (hbone : InR bone) (hyears : InR years) : C B yX11_lend cX11_lend 5 (some .int) 3 0 0 [vR B 308, vI bone, vI town, vI years] S V (rI S (up V 309 (mLendF (V 309) bone town years)) (if mLendC (V 309) bone town years then (V 309 2) + years else -1)) := by
  refine C.of [some (vR B 308), some (vI bone), some (vI town), some (vI years), none] ?_
  intro Γ hQ
  refine x_al0 dX11_lend_0 ?_
  refine x_il1 dX11_lend_1 ?_
  refine x_cVi mm_X11_isBone ml_X11_91 dX11_lend_2 (c_X11_isBone bone hS hA (inr (by omega))) (sh_308 hS) (lq_308 hS) ?_
  refine x_ifb_eq (tgt := 40) dX11_lend_5 (fun c5_1 => ?_) (fun c5_1 => ?_)
  · -- 5 eq -> 40
    refine x_iconst dX11_lend_40 ?_
    exact x_iret hQ (rI.mk (by first | (rw [if_pos (by simp only [mLendC, mTownOk, mBoneOk]; omega)]) | (rw [if_neg (by simp only [mLendC, mTownOk, mBoneOk]; omega)])) (by simp only [mLendF]; first | (rw [if_pos (by simp only [mLendC, mTownOk, mBoneOk]; omega)]) | (rw [if_neg (by simp only [mLendC, mTownOk, mBoneOk]; omega), up_self]))) dX11_lend_41
  · -- 5 eq -> 8
    refine x_al0 dX11_lend_8 ?_
    refine x_il2 dX11_lend_9 ?_
    refine x_cVi mm_X11_isTown ml_X11_83 dX11_lend_10 (c_X11_isTown town hS hA (inr (by omega))) (sh_308 hS) (lq_308 hS) ?_
    refine x_ifb_eq (tgt := 40) dX11_lend_13 (fun c13_2 => ?_) (fun c13_2 => ?_)
    · -- 13 eq -> 40
      refine x_iconst dX11_lend_40 ?_
      exact x_iret hQ (rI.mk (by first | (rw [if_pos (by simp only [mLendC, mTownOk, mBoneOk]; omega)]) | (rw [if_neg (by simp only [mLendC, mTownOk, mBoneOk]; omega)])) (by simp only [mLendF]; first | (rw [if_pos (by simp only [mLendC, mTownOk, mBoneOk]; omega)]) | (rw [if_neg (by simp only [mLendC, mTownOk, mBoneOk]; omega), up_self]))) dX11_lend_41
    · -- 13 eq -> 16
      refine x_il3 dX11_lend_16 ?_
      refine x_iconst dX11_lend_17 ?_
      refine x_bipush dX11_lend_18 ?_
      refine x_cSi mm_X11_isIn ml_X11_75 dX11_lend_20 (c_X11_isIn years 1 99 (inr (by omega)) (inr (by decide)) (inr (by decide))) ?_
      refine x_ifb_eq (tgt := 40) dX11_lend_23 (fun c23_3 => ?_) (fun c23_3 => ?_)
      · -- 23 eq -> 40
        refine x_iconst dX11_lend_40 ?_
        exact x_iret hQ (rI.mk (by first | (rw [if_pos (by simp only [mLendC, mTownOk, mBoneOk]; omega)]) | (rw [if_neg (by simp only [mLendC, mTownOk, mBoneOk]; omega)])) (by simp only [mLendF]; first | (rw [if_pos (by simp only [mLendC, mTownOk, mBoneOk]; omega)]) | (rw [if_neg (by simp only [mLendC, mTownOk, mBoneOk]; omega), up_self]))) dX11_lend_41
      · -- 23 eq -> 26
        refine x_al0 dX11_lend_26 ?_
        refine x_getR fl_X11_7 (sh_308 hS) (lq_308 hS) (rf_308_0 hS) dX11_lend_27 ?_
        refine x_iconst dX11_lend_30 ?_
        have hb4 := hA 2
        refine x_iald (sh_309 hS) (lq_309 hS) (by omega) (by omega) dX11_lend_31 ?_
        refine x_topI (a' := V 309 2) rfl ?_
        refine x_il3 dX11_lend_32 ?_
        refine x_iadd dX11_lend_33 ?_
        refine x_sipush dX11_lend_34 ?_
        refine x_icmp_le (tgt := 42) dX11_lend_37 (inr (by omega)) (inr (by decide)) (fun c37_5 => ?_) (fun c37_5 => ?_)
        · -- 37 le -> 42
          refine x_il1 dX11_lend_42 ?_
          refine x_cSi mm_X11_boneAt ml_X11_87 dX11_lend_43 (c_X11_boneAt bone) ?_
          refine x_is4 dX11_lend_46 ?_
          refine x_al0 dX11_lend_48 ?_
          refine x_getR fl_X11_7 (sh_308 hS) (lq_308 hS) (rf_308_0 hS) dX11_lend_49 ?_
          refine x_il4 dX11_lend_52 ?_
          refine x_iconst dX11_lend_54 ?_
          refine x_iadd dX11_lend_55 ?_
          have hb6 := hA ((30 + 6 * bone) + 3)
          refine x_iald (sh_309 hS) (lq_309 hS) (by omega) (by omega) dX11_lend_56 ?_
          refine x_topI (a' := V 309 ((30 + 6 * bone) + 3)) rfl ?_
          refine x_al0 dX11_lend_57 ?_
          refine x_getR fl_X11_7 (sh_308 hS) (lq_308 hS) (rf_308_0 hS) dX11_lend_58 ?_
          refine x_il4 dX11_lend_61 ?_
          refine x_iconst dX11_lend_63 ?_
          refine x_iadd dX11_lend_64 ?_
          have hb7 := hA ((30 + 6 * bone) + 2)
          refine x_iald (sh_309 hS) (lq_309 hS) (by omega) (by omega) dX11_lend_65 ?_
          refine x_topI (a' := V 309 ((30 + 6 * bone) + 2)) rfl ?_
          refine x_icmp_ne (tgt := 94) dX11_lend_66 (inr (by omega)) (inr (by omega)) (fun c66_8 => ?_) (fun c66_8 => ?_)
          · -- 66 ne -> 94
            refine x_iconst dX11_lend_94 ?_
            exact x_iret hQ (rI.mk (by first | (rw [if_pos (by simp only [mLendC, mTownOk, mBoneOk]; omega)]) | (rw [if_neg (by simp only [mLendC, mTownOk, mBoneOk]; omega)])) (by simp only [mLendF]; first | (rw [if_pos (by simp only [mLendC, mTownOk, mBoneOk]; omega)]) | (rw [if_neg (by simp only [mLendC, mTownOk, mBoneOk]; omega), up_self]))) dX11_lend_95
          · -- 66 ne -> 69
            refine x_al0 dX11_lend_69 ?_
            refine x_getR fl_X11_7 (sh_308 hS) (lq_308 hS) (rf_308_0 hS) dX11_lend_70 ?_
            refine x_il4 dX11_lend_73 ?_
            refine x_iconst dX11_lend_75 ?_
            refine x_iadd dX11_lend_76 ?_
            have hb9 := hA ((30 + 6 * bone) + 4)
            refine x_iald (sh_309 hS) (lq_309 hS) (by omega) (by omega) dX11_lend_77 ?_
            refine x_topI (a' := V 309 ((30 + 6 * bone) + 4)) rfl ?_
            refine x_if_ge (tgt := 94) dX11_lend_78 (inr (by omega)) (fun c78_10 => ?_) (fun c78_10 => ?_)
            · -- 78 ge -> 94
              refine x_iconst dX11_lend_94 ?_
              exact x_iret hQ (rI.mk (by first | (rw [if_pos (by simp only [mLendC, mTownOk, mBoneOk]; omega)]) | (rw [if_neg (by simp only [mLendC, mTownOk, mBoneOk]; omega)])) (by simp only [mLendF]; first | (rw [if_pos (by simp only [mLendC, mTownOk, mBoneOk]; omega)]) | (rw [if_neg (by simp only [mLendC, mTownOk, mBoneOk]; omega), up_self]))) dX11_lend_95
            · -- 78 ge -> 81
              refine x_al0 dX11_lend_81 ?_
              refine x_getR fl_X11_7 (sh_308 hS) (lq_308 hS) (rf_308_0 hS) dX11_lend_82 ?_
              refine x_il4 dX11_lend_85 ?_
              refine x_iconst dX11_lend_87 ?_
              refine x_iadd dX11_lend_88 ?_
              have hb11 := hA ((30 + 6 * bone) + 3)
              refine x_iald (sh_309 hS) (lq_309 hS) (by omega) (by omega) dX11_lend_89 ?_
              refine x_topI (a' := V 309 ((30 + 6 * bone) + 3)) rfl ?_
              refine x_il2 dX11_lend_90 ?_
              refine x_icmp_ne (tgt := 96) dX11_lend_91 (inr (by omega)) (inr (by omega)) (fun c91_12 => ?_) (fun c91_12 => ?_)
              · -- 91 ne -> 96
                refine x_al0 dX11_lend_96 ?_
                refine x_cVv mm_X11_keep ml_X11_94 dX11_lend_97 (c_X11_keep hS hA h5) (sh_308 hS) (lq_308 hS) ?_
                refine x_al0 dX11_lend_100 ?_
                refine x_getR fl_X11_7 (sh_308 hS) (lq_308 hS) (rf_308_0 hS) dX11_lend_101 ?_
                refine x_il4 dX11_lend_104 ?_
                refine x_iconst dX11_lend_106 ?_
                refine x_iadd dX11_lend_107 ?_
                refine x_il2 dX11_lend_108 ?_
                refine x_iast (sh_309 hS) (lq_309 hS) (by omega) (by omega) dX11_lend_109 ?_
                refine x_mem (V' := (up V 309 (ua (mKeep (V 309)) ((30 + 6 * bone) + 3) town))) (st2_up _ _ _ _ _) ?_
                refine x_al0 dX11_lend_110 ?_
                refine x_getR fl_X11_7 (sh_308 hS) (lq_308 hS) (rf_308_0 hS) dX11_lend_111 ?_
                refine x_il4 dX11_lend_114 ?_
                refine x_iconst dX11_lend_116 ?_
                refine x_iadd dX11_lend_117 ?_
                refine x_al0 dX11_lend_118 ?_
                refine x_getR fl_X11_7 (sh_308 hS) (lq_308 hS) (rf_308_0 hS) dX11_lend_119 ?_
                refine x_iconst dX11_lend_122 ?_
                have hb13 := hA 2
                refine x_iald (sh_309 hS) (lq_309 hS) (by omega) (by omega) dX11_lend_123 ?_
                refine x_topI (a' := V 309 2) (show (ua (mKeep (V 309)) ((30 + 6 * bone) + 3) town) 2 = V 309 2 from ((ua_ne (by omega)).trans (mKeep_lo (by omega) (by omega) h5))) ?_
                refine x_il3 dX11_lend_124 ?_
                refine x_iadd dX11_lend_125 ?_
                refine x_iast (sh_309 hS) (lq_309 hS) (by omega) (by omega) dX11_lend_126 ?_
                refine x_mem (V' := (up V 309 (ua (ua (mKeep (V 309)) ((30 + 6 * bone) + 3) town) ((30 + 6 * bone) + 4) ((V 309 2) + years)))) (st2_up _ _ _ _ _) ?_
                refine x_al0 dX11_lend_127 ?_
                refine x_getR fl_X11_7 (sh_308 hS) (lq_308 hS) (rf_308_0 hS) dX11_lend_128 ?_
                refine x_il4 dX11_lend_131 ?_
                refine x_iconst dX11_lend_133 ?_
                refine x_iadd dX11_lend_134 ?_
                refine x_iald (sh_309 hS) (lq_309 hS) (by omega) (by omega) dX11_lend_135 ?_
                refine x_topI (a' := (V 309 2) + years) (show (ua (ua (mKeep (V 309)) ((30 + 6 * bone) + 3) town) ((30 + 6 * bone) + 4) ((V 309 2) + years)) ((30 + 6 * bone) + 4) = (V 309 2) + years from (ua_same _ _ _)) ?_
                exact x_iret hQ (rI.mk (by first | (rw [if_pos (by simp only [mLendC, mTownOk, mBoneOk]; omega)]) | (rw [if_neg (by simp only [mLendC, mTownOk, mBoneOk]; omega)])) (by simp only [mLendF]; first | (rw [if_pos (by simp only [mLendC, mTownOk, mBoneOk]; omega)]) | (rw [if_neg (by simp only [mLendC, mTownOk, mBoneOk]; omega), up_self]))) dX11_lend_136
              · -- 91 ne -> 94
                refine x_iconst dX11_lend_94 ?_
                exact x_iret hQ (rI.mk (by first | (rw [if_pos (by simp only [mLendC, mTownOk, mBoneOk]; omega)]) | (rw [if_neg (by simp only [mLendC, mTownOk, mBoneOk]; omega)])) (by simp only [mLendF]; first | (rw [if_pos (by simp only [mLendC, mTownOk, mBoneOk]; omega)]) | (rw [if_neg (by simp only [mLendC, mTownOk, mBoneOk]; omega), up_self]))) dX11_lend_95
        · -- 37 le -> 40
          refine x_iconst dX11_lend_40 ?_
          exact x_iret hQ (rI.mk (by first | (rw [if_pos (by simp only [mLendC, mTownOk, mBoneOk]; omega)]) | (rw [if_neg (by simp only [mLendC, mTownOk, mBoneOk]; omega)])) (by simp only [mLendF]; first | (rw [if_pos (by simp only [mLendC, mTownOk, mBoneOk]; omega)]) | (rw [if_neg (by simp only [mLendC, mTownOk, mBoneOk]; omega), up_self]))) dX11_lend_41
set_option maxRecDepth 100000 in
set_option maxHeartbeats 4000000 in
theorem c_X11_swap {B : Bs} {S : Stt} {V : Va} (one : Int) (other : Int) (hS : Stat S) (hA : AB (V 309)) (h1 : 0 ≤ (V 309 1) ∧ (V 309 1) ≤ 16) (h5 : 0 ≤ (V 309 5) ∧ (V 309 5) ≤ 20) (hone : InR one) (hother : InR other) : C B yX11_swap cX11_swap 4 (some .boolean) 3 0 0 [vR B 308, vI one, vI other] S V (rI S (up V 309 (mSwapF (V 309) one other)) (if mSwapC (V 309) one other then 1 else 0)) := by
  refine C.of [some (vR B 308), some (vI one), some (vI other), none] ?_
  intro Γ hQ
  refine x_al0 dX11_swap_0 ?_
  refine x_il1 dX11_swap_1 ?_
  refine x_cVi mm_X11_isBone ml_X11_91 dX11_swap_2 (c_X11_isBone one hS hA (inr (by omega))) (sh_308 hS) (lq_308 hS) ?_
  refine x_ifb_eq (tgt := 41) dX11_swap_5 (fun c5_1 => ?_) (fun c5_1 => ?_)
  · -- 5 eq -> 41
    refine x_iconst dX11_swap_41 ?_
    exact x_zret hQ (rI.mk (by first | (rw [if_pos (by simp only [mSwapC, mTownOk, mBoneOk]; omega)]) | (rw [if_neg (by simp only [mSwapC, mTownOk, mBoneOk]; omega)])) (by simp only [mSwapF]; first | (rw [if_pos (by simp only [mSwapC, mTownOk, mBoneOk]; omega)]) | (rw [if_neg (by simp only [mSwapC, mTownOk, mBoneOk]; omega), up_self]))) (by decide) dX11_swap_42
  · -- 5 eq -> 8
    refine x_al0 dX11_swap_8 ?_
    refine x_il2 dX11_swap_9 ?_
    refine x_cVi mm_X11_isBone ml_X11_91 dX11_swap_10 (c_X11_isBone other hS hA (inr (by omega))) (sh_308 hS) (lq_308 hS) ?_
    refine x_ifb_eq (tgt := 41) dX11_swap_13 (fun c13_2 => ?_) (fun c13_2 => ?_)
    · -- 13 eq -> 41
      refine x_iconst dX11_swap_41 ?_
      exact x_zret hQ (rI.mk (by first | (rw [if_pos (by simp only [mSwapC, mTownOk, mBoneOk]; omega)]) | (rw [if_neg (by simp only [mSwapC, mTownOk, mBoneOk]; omega)])) (by simp only [mSwapF]; first | (rw [if_pos (by simp only [mSwapC, mTownOk, mBoneOk]; omega)]) | (rw [if_neg (by simp only [mSwapC, mTownOk, mBoneOk]; omega), up_self]))) (by decide) dX11_swap_42
    · -- 13 eq -> 16
      refine x_al0 dX11_swap_16 ?_
      refine x_getR fl_X11_7 (sh_308 hS) (lq_308 hS) (rf_308_0 hS) dX11_swap_17 ?_
      refine x_il1 dX11_swap_20 ?_
      refine x_cSi mm_X11_boneAt ml_X11_87 dX11_swap_21 (c_X11_boneAt one) ?_
      refine x_iconst dX11_swap_24 ?_
      refine x_iadd dX11_swap_25 ?_
      have hb3 := hA ((30 + 6 * one) + 3)
      refine x_iald (sh_309 hS) (lq_309 hS) (by omega) (by omega) dX11_swap_26 ?_
      refine x_topI (a' := V 309 ((30 + 6 * one) + 3)) rfl ?_
      refine x_al0 dX11_swap_27 ?_
      refine x_getR fl_X11_7 (sh_308 hS) (lq_308 hS) (rf_308_0 hS) dX11_swap_28 ?_
      refine x_il2 dX11_swap_31 ?_
      refine x_cSi mm_X11_boneAt ml_X11_87 dX11_swap_32 (c_X11_boneAt other) ?_
      refine x_iconst dX11_swap_35 ?_
      refine x_iadd dX11_swap_36 ?_
      have hb4 := hA ((30 + 6 * other) + 3)
      refine x_iald (sh_309 hS) (lq_309 hS) (by omega) (by omega) dX11_swap_37 ?_
      refine x_topI (a' := V 309 ((30 + 6 * other) + 3)) rfl ?_
      refine x_icmp_ne (tgt := 43) dX11_swap_38 (inr (by omega)) (inr (by omega)) (fun c38_5 => ?_) (fun c38_5 => ?_)
      · -- 38 ne -> 43
        refine x_al0 dX11_swap_43 ?_
        refine x_cVv mm_X11_keep ml_X11_94 dX11_swap_44 (c_X11_keep hS hA h5) (sh_308 hS) (lq_308 hS) ?_
        refine x_al0 dX11_swap_47 ?_
        refine x_getR fl_X11_7 (sh_308 hS) (lq_308 hS) (rf_308_0 hS) dX11_swap_48 ?_
        refine x_il1 dX11_swap_51 ?_
        refine x_cSi mm_X11_boneAt ml_X11_87 dX11_swap_52 (c_X11_boneAt one) ?_
        refine x_iconst dX11_swap_55 ?_
        refine x_iadd dX11_swap_56 ?_
        have hb6 := hA ((30 + 6 * one) + 3)
        refine x_iald (sh_309 hS) (lq_309 hS) (by omega) (by omega) dX11_swap_57 ?_
        refine x_topI (a' := V 309 ((30 + 6 * one) + 3)) (show (mKeep (V 309)) ((30 + 6 * one) + 3) = V 309 ((30 + 6 * one) + 3) from (mKeep_lo (by omega) (by omega) h5)) ?_
        refine x_is3 dX11_swap_58 ?_
        refine x_al0 dX11_swap_59 ?_
        refine x_getR fl_X11_7 (sh_308 hS) (lq_308 hS) (rf_308_0 hS) dX11_swap_60 ?_
        refine x_il1 dX11_swap_63 ?_
        refine x_cSi mm_X11_boneAt ml_X11_87 dX11_swap_64 (c_X11_boneAt one) ?_
        refine x_iconst dX11_swap_67 ?_
        refine x_iadd dX11_swap_68 ?_
        refine x_al0 dX11_swap_69 ?_
        refine x_getR fl_X11_7 (sh_308 hS) (lq_308 hS) (rf_308_0 hS) dX11_swap_70 ?_
        refine x_il2 dX11_swap_73 ?_
        refine x_cSi mm_X11_boneAt ml_X11_87 dX11_swap_74 (c_X11_boneAt other) ?_
        refine x_iconst dX11_swap_77 ?_
        refine x_iadd dX11_swap_78 ?_
        have hb7 := hA ((30 + 6 * other) + 3)
        refine x_iald (sh_309 hS) (lq_309 hS) (by omega) (by omega) dX11_swap_79 ?_
        refine x_topI (a' := V 309 ((30 + 6 * other) + 3)) (show (mKeep (V 309)) ((30 + 6 * other) + 3) = V 309 ((30 + 6 * other) + 3) from (mKeep_lo (by omega) (by omega) h5)) ?_
        refine x_iast (sh_309 hS) (lq_309 hS) (by omega) (by omega) dX11_swap_80 ?_
        refine x_mem (V' := (up V 309 (ua (mKeep (V 309)) ((30 + 6 * one) + 3) (V 309 ((30 + 6 * other) + 3))))) (st2_up _ _ _ _ _) ?_
        refine x_al0 dX11_swap_81 ?_
        refine x_getR fl_X11_7 (sh_308 hS) (lq_308 hS) (rf_308_0 hS) dX11_swap_82 ?_
        refine x_il2 dX11_swap_85 ?_
        refine x_cSi mm_X11_boneAt ml_X11_87 dX11_swap_86 (c_X11_boneAt other) ?_
        refine x_iconst dX11_swap_89 ?_
        refine x_iadd dX11_swap_90 ?_
        refine x_il3 dX11_swap_91 ?_
        refine x_iast (sh_309 hS) (lq_309 hS) (by omega) (by omega) dX11_swap_92 ?_
        refine x_mem (V' := (up V 309 (ua (ua (mKeep (V 309)) ((30 + 6 * one) + 3) (V 309 ((30 + 6 * other) + 3))) ((30 + 6 * other) + 3) (V 309 ((30 + 6 * one) + 3))))) (st2_up _ _ _ _ _) ?_
        refine x_iconst dX11_swap_93 ?_
        exact x_zret hQ (rI.mk (by first | (rw [if_pos (by simp only [mSwapC, mTownOk, mBoneOk]; omega)]) | (rw [if_neg (by simp only [mSwapC, mTownOk, mBoneOk]; omega)])) (by simp only [mSwapF]; first | (rw [if_pos (by simp only [mSwapC, mTownOk, mBoneOk]; omega)]) | (rw [if_neg (by simp only [mSwapC, mTownOk, mBoneOk]; omega), up_self]))) (by decide) dX11_swap_94
      · -- 38 ne -> 41
        refine x_iconst dX11_swap_41 ?_
        exact x_zret hQ (rI.mk (by first | (rw [if_pos (by simp only [mSwapC, mTownOk, mBoneOk]; omega)]) | (rw [if_neg (by simp only [mSwapC, mTownOk, mBoneOk]; omega)])) (by simp only [mSwapF]; first | (rw [if_pos (by simp only [mSwapC, mTownOk, mBoneOk]; omega)]) | (rw [if_neg (by simp only [mSwapC, mTownOk, mBoneOk]; omega), up_self]))) (by decide) dX11_swap_42
set_option maxRecDepth 100000 in
set_option maxHeartbeats 4000000 in
theorem c_X11_steal {B : Bs} {S : Stt} {V : Va} (bone : Int) (town : Int) (hS : Stat S) (hA : AB (V 309)) (h0 : 0 ≤ (V 309 0) ∧ (V 309 0) ≤ 10) (h1 : 0 ≤ (V 309 1) ∧ (V 309 1) ≤ 16) (h5 : 0 ≤ (V 309 5) ∧ (V 309 5) ≤ 20) (htown : InR town) (hbone : InR bone) : C B yX11_steal cX11_steal 4 (some .boolean) 3 0 0 [vR B 308, vI bone, vI town] S V (rI S (up V 309 (mStealF (V 309) bone town)) (if mStealC (V 309) bone town then 1 else 0)) := by
  refine C.of [some (vR B 308), some (vI bone), some (vI town), none] ?_
  intro Γ hQ
  refine x_al0 dX11_steal_0 ?_
  refine x_il1 dX11_steal_1 ?_
  refine x_cVi mm_X11_isBone ml_X11_91 dX11_steal_2 (c_X11_isBone bone hS hA (inr (by omega))) (sh_308 hS) (lq_308 hS) ?_
  refine x_ifb_eq (tgt := 31) dX11_steal_5 (fun c5_1 => ?_) (fun c5_1 => ?_)
  · -- 5 eq -> 31
    refine x_iconst dX11_steal_31 ?_
    exact x_zret hQ (rI.mk (by first | (rw [if_pos (by simp only [mStealC, mTownOk, mBoneOk]; omega)]) | (rw [if_neg (by simp only [mStealC, mTownOk, mBoneOk]; omega)])) (by simp only [mStealF]; first | (rw [if_pos (by simp only [mStealC, mTownOk, mBoneOk]; omega)]) | (rw [if_neg (by simp only [mStealC, mTownOk, mBoneOk]; omega), up_self]))) (by decide) dX11_steal_32
  · -- 5 eq -> 8
    refine x_al0 dX11_steal_8 ?_
    refine x_il2 dX11_steal_9 ?_
    refine x_cVi mm_X11_isTown ml_X11_83 dX11_steal_10 (c_X11_isTown town hS hA (inr (by omega))) (sh_308 hS) (lq_308 hS) ?_
    refine x_ifb_eq (tgt := 31) dX11_steal_13 (fun c13_2 => ?_) (fun c13_2 => ?_)
    · -- 13 eq -> 31
      refine x_iconst dX11_steal_31 ?_
      exact x_zret hQ (rI.mk (by first | (rw [if_pos (by simp only [mStealC, mTownOk, mBoneOk]; omega)]) | (rw [if_neg (by simp only [mStealC, mTownOk, mBoneOk]; omega)])) (by simp only [mStealF]; first | (rw [if_pos (by simp only [mStealC, mTownOk, mBoneOk]; omega)]) | (rw [if_neg (by simp only [mStealC, mTownOk, mBoneOk]; omega), up_self]))) (by decide) dX11_steal_32
    · -- 13 eq -> 16
      refine x_al0 dX11_steal_16 ?_
      refine x_getR fl_X11_7 (sh_308 hS) (lq_308 hS) (rf_308_0 hS) dX11_steal_17 ?_
      refine x_il1 dX11_steal_20 ?_
      refine x_cSi mm_X11_boneAt ml_X11_87 dX11_steal_21 (c_X11_boneAt bone) ?_
      refine x_iconst dX11_steal_24 ?_
      refine x_iadd dX11_steal_25 ?_
      have hb3 := hA ((30 + 6 * bone) + 3)
      refine x_iald (sh_309 hS) (lq_309 hS) (by omega) (by omega) dX11_steal_26 ?_
      refine x_topI (a' := V 309 ((30 + 6 * bone) + 3)) rfl ?_
      refine x_il2 dX11_steal_27 ?_
      refine x_icmp_ne (tgt := 33) dX11_steal_28 (inr (by omega)) (inr (by omega)) (fun c28_4 => ?_) (fun c28_4 => ?_)
      · -- 28 ne -> 33
        refine x_al0 dX11_steal_33 ?_
        refine x_cVv mm_X11_keep ml_X11_94 dX11_steal_34 (c_X11_keep hS hA h5) (sh_308 hS) (lq_308 hS) ?_
        refine x_il1 dX11_steal_37 ?_
        refine x_cSi mm_X11_boneAt ml_X11_87 dX11_steal_38 (c_X11_boneAt bone) ?_
        refine x_is3 dX11_steal_41 ?_
        refine x_al0 dX11_steal_42 ?_
        refine x_getR fl_X11_7 (sh_308 hS) (lq_308 hS) (rf_308_0 hS) dX11_steal_43 ?_
        refine x_il3 dX11_steal_46 ?_
        refine x_iconst dX11_steal_47 ?_
        refine x_iadd dX11_steal_48 ?_
        refine x_il2 dX11_steal_49 ?_
        refine x_iast (sh_309 hS) (lq_309 hS) (by omega) (by omega) dX11_steal_50 ?_
        refine x_mem (V' := (up V 309 (ua (mKeep (V 309)) ((30 + 6 * bone) + 2) town))) (st2_up _ _ _ _ _) ?_
        refine x_al0 dX11_steal_51 ?_
        refine x_getR fl_X11_7 (sh_308 hS) (lq_308 hS) (rf_308_0 hS) dX11_steal_52 ?_
        refine x_il3 dX11_steal_55 ?_
        refine x_iconst dX11_steal_56 ?_
        refine x_iadd dX11_steal_57 ?_
        refine x_il2 dX11_steal_58 ?_
        refine x_iast (sh_309 hS) (lq_309 hS) (by omega) (by omega) dX11_steal_59 ?_
        refine x_mem (V' := (up V 309 (ua (ua (mKeep (V 309)) ((30 + 6 * bone) + 2) town) ((30 + 6 * bone) + 3) town))) (st2_up _ _ _ _ _) ?_
        refine x_al0 dX11_steal_60 ?_
        refine x_getR fl_X11_7 (sh_308 hS) (lq_308 hS) (rf_308_0 hS) dX11_steal_61 ?_
        refine x_il3 dX11_steal_64 ?_
        refine x_iconst dX11_steal_65 ?_
        refine x_iadd dX11_steal_66 ?_
        refine x_iconst dX11_steal_67 ?_
        refine x_iast (sh_309 hS) (lq_309 hS) (by omega) (by omega) dX11_steal_68 ?_
        refine x_mem (V' := (up V 309 (ua (ua (ua (mKeep (V 309)) ((30 + 6 * bone) + 2) town) ((30 + 6 * bone) + 3) town) ((30 + 6 * bone) + 4) (-1)))) (st2_up _ _ _ _ _) ?_
        refine x_iconst dX11_steal_69 ?_
        exact x_zret hQ (rI.mk (by first | (rw [if_pos (by simp only [mStealC, mTownOk, mBoneOk]; omega)]) | (rw [if_neg (by simp only [mStealC, mTownOk, mBoneOk]; omega)])) (by simp only [mStealF]; first | (rw [if_pos (by simp only [mStealC, mTownOk, mBoneOk]; omega)]) | (rw [if_neg (by simp only [mStealC, mTownOk, mBoneOk]; omega), up_self]))) (by decide) dX11_steal_70
      · -- 28 ne -> 31
        refine x_iconst dX11_steal_31 ?_
        exact x_zret hQ (rI.mk (by first | (rw [if_pos (by simp only [mStealC, mTownOk, mBoneOk]; omega)]) | (rw [if_neg (by simp only [mStealC, mTownOk, mBoneOk]; omega)])) (by simp only [mStealF]; first | (rw [if_pos (by simp only [mStealC, mTownOk, mBoneOk]; omega)]) | (rw [if_neg (by simp only [mStealC, mTownOk, mBoneOk]; omega), up_self]))) (by decide) dX11_steal_32
set_option maxRecDepth 100000 in
set_option maxHeartbeats 4000000 in
theorem c_X11_proofsOf {B : Bs} {S : Stt} {V : Va} (town : Int) (hS : Stat S) (hA : AB (V 309)) (h1 : 0 ≤ (V 309 1) ∧ (V 309 1) ≤ 16) (ht : 0 ≤ town ∧ town < 32) : C B yX11_proofsOf cX11_proofsOf 4 (some .int) 2 0 0 [vR B 308, vI town] S V (rI S V (mProofs (V 309) town (V 309 1))) := by
  refine C.of [some (vR B 308), some (vI town), none, none] ?_
  intro Γ hQ
  refine x_iconst dX11_proofsOf_0 ?_
  refine x_is2 dX11_proofsOf_1 ?_
  refine x_iconst dX11_proofsOf_2 ?_
  refine x_is3 dX11_proofsOf_3 ?_
  have lp4 : ∀ (N4 : Nat) (n : Int) (b : Int), (0 ≤ b ∧ b ≤ V 309 1) → (n = mProofs (V 309) town b) → (V 309 1 - b).toNat < N4 → X Γ B RX11 "proofsOf" cX11_proofsOf 4 (some .int) 2 0 0 4 [some (vR B 308), some (vI town), some (vI n), some (vI b)] [] 0 0 S V := by
    intro N4
    induction N4 with
    | zero => intro n b hb hn hN; exact absurd hN (Nat.not_lt_zero _)
    | succ N4 ih4 =>
      intro n b hb hn hN4
      refine x_il3 dX11_proofsOf_4 ?_
      refine x_al0 dX11_proofsOf_5 ?_
      refine x_getR fl_X11_7 (sh_308 hS) (lq_308 hS) (rf_308_0 hS) dX11_proofsOf_6 ?_
      refine x_iconst dX11_proofsOf_9 ?_
      have hb1 := hA 1
      refine x_iald (sh_309 hS) (lq_309 hS) (by omega) (by omega) dX11_proofsOf_10 ?_
      refine x_topI (a' := V 309 1) rfl ?_
      refine x_icmp_ge (tgt := 38) dX11_proofsOf_11 (inr (by omega)) (inr (by omega)) (fun c11_2 => ?_) (fun c11_2 => ?_)
      · -- 11 ge -> 38
        refine x_il2 dX11_proofsOf_38 ?_
        exact x_iret hQ (rI.mk (by rw [hn, show b = V 309 1 by omega]) rfl) dX11_proofsOf_39
      · -- 11 ge -> 14
        refine x_il2 dX11_proofsOf_14 ?_
        refine x_al0 dX11_proofsOf_15 ?_
        refine x_getR fl_X11_7 (sh_308 hS) (lq_308 hS) (rf_308_0 hS) dX11_proofsOf_16 ?_
        refine x_il3 dX11_proofsOf_19 ?_
        refine x_cSi mm_X11_boneAt ml_X11_87 dX11_proofsOf_20 (c_X11_boneAt b) ?_
        refine x_iconst dX11_proofsOf_23 ?_
        refine x_iadd dX11_proofsOf_24 ?_
        have hb3 := hA ((30 + 6 * b) + 5)
        refine x_iald (sh_309 hS) (lq_309 hS) (by omega) (by omega) dX11_proofsOf_25 ?_
        refine x_topI (a' := V 309 ((30 + 6 * b) + 5)) rfl ?_
        refine x_il1 dX11_proofsOf_26 ?_
        refine x_ishr (inr (by omega)) (by omega) (by omega) dX11_proofsOf_27 ?_
        refine x_iconst dX11_proofsOf_28 ?_
        refine x_and1 dX11_proofsOf_29 ?_
        refine x_iadd dX11_proofsOf_30 ?_
        refine x_is2 dX11_proofsOf_31 ?_
        refine x_inc3 dX11_proofsOf_32 ?_
        refine x_goto (tgt := 4) dX11_proofsOf_35 ?_
        exact x_fg (ih4 (n + (((V 309 ((30 + 6 * b) + 5)) / p2 town) % 2)) (b + 1) (by omega) (by simp only [mProofs]; rw [sumT_s _ hb.1, hn]; rfl) (by omega)) (And.intro rfl (And.intro rfl (And.intro rfl (And.intro rfl trivial))))
  exact x_fg (lp4 _ 0 0 (by omega) rfl (Nat.lt_succ_self _)) (And.intro rfl (And.intro rfl (And.intro rfl (And.intro rfl trivial))))
set_option maxRecDepth 100000 in
set_option maxHeartbeats 4000000 in
theorem c_X11_bonesAt {B : Bs} {S : Stt} {V : Va} (town : Int) (hS : Stat S) (hA : AB (V 309)) (h1 : 0 ≤ (V 309 1) ∧ (V 309 1) ≤ 16) (htown : InR town) : C B yX11_bonesAt cX11_bonesAt 4 (some .int) 2 0 0 [vR B 308, vI town] S V (rI S V (mBonesAt (V 309) town (V 309 1))) := by
  refine C.of [some (vR B 308), some (vI town), none, none] ?_
  intro Γ hQ
  refine x_iconst dX11_bonesAt_0 ?_
  refine x_is2 dX11_bonesAt_1 ?_
  refine x_iconst dX11_bonesAt_2 ?_
  refine x_is3 dX11_bonesAt_3 ?_
  have lp4 : ∀ (N4 : Nat) (n : Int) (b : Int), (0 ≤ b ∧ b ≤ V 309 1) → (n = mBonesAt (V 309) town b) → (V 309 1 - b).toNat < N4 → X Γ B RX11 "bonesAt" cX11_bonesAt 4 (some .int) 2 0 0 4 [some (vR B 308), some (vI town), some (vI n), some (vI b)] [] 0 0 S V := by
    intro N4
    induction N4 with
    | zero => intro n b hb hn hN; exact absurd hN (Nat.not_lt_zero _)
    | succ N4 ih4 =>
      intro n b hb hn hN4
      refine x_il3 dX11_bonesAt_4 ?_
      refine x_al0 dX11_bonesAt_5 ?_
      refine x_getR fl_X11_7 (sh_308 hS) (lq_308 hS) (rf_308_0 hS) dX11_bonesAt_6 ?_
      refine x_iconst dX11_bonesAt_9 ?_
      have hb1 := hA 1
      refine x_iald (sh_309 hS) (lq_309 hS) (by omega) (by omega) dX11_bonesAt_10 ?_
      refine x_topI (a' := V 309 1) rfl ?_
      refine x_icmp_ge (tgt := 43) dX11_bonesAt_11 (inr (by omega)) (inr (by omega)) (fun c11_2 => ?_) (fun c11_2 => ?_)
      · -- 11 ge -> 43
        refine x_il2 dX11_bonesAt_43 ?_
        exact x_iret hQ (rI.mk (by rw [hn, show b = V 309 1 by omega]) rfl) dX11_bonesAt_44
      · -- 11 ge -> 14
        refine x_il2 dX11_bonesAt_14 ?_
        refine x_al0 dX11_bonesAt_15 ?_
        refine x_getR fl_X11_7 (sh_308 hS) (lq_308 hS) (rf_308_0 hS) dX11_bonesAt_16 ?_
        refine x_il3 dX11_bonesAt_19 ?_
        refine x_cSi mm_X11_boneAt ml_X11_87 dX11_bonesAt_20 (c_X11_boneAt b) ?_
        refine x_iconst dX11_bonesAt_23 ?_
        refine x_iadd dX11_bonesAt_24 ?_
        have hb3 := hA ((30 + 6 * b) + 3)
        refine x_iald (sh_309 hS) (lq_309 hS) (by omega) (by omega) dX11_bonesAt_25 ?_
        refine x_topI (a' := V 309 ((30 + 6 * b) + 3)) rfl ?_
        refine x_il1 dX11_bonesAt_26 ?_
        refine x_icmp_ne (tgt := 34) dX11_bonesAt_27 (inr (by omega)) (inr (by omega)) (fun c27_4 => ?_) (fun c27_4 => ?_)
        · -- 27 ne -> 34
          refine x_iconst dX11_bonesAt_34 ?_
          refine x_iadd dX11_bonesAt_35 ?_
          refine x_is2 dX11_bonesAt_36 ?_
          refine x_inc3 dX11_bonesAt_37 ?_
          refine x_goto (tgt := 4) dX11_bonesAt_40 ?_
          exact x_fg (ih4 (n + 0) (b + 1) (by omega) (by simp only [mBonesAt]; rw [sumT_s _ hb.1]; first | (rw [if_pos (by omega), hn]; rfl) | (rw [if_neg (by omega), hn]; rfl)) (by omega)) (And.intro rfl (And.intro rfl (And.intro rfl (And.intro rfl trivial))))
        · -- 27 ne -> 30
          refine x_iconst dX11_bonesAt_30 ?_
          refine x_goto (tgt := 35) dX11_bonesAt_31 ?_
          refine x_iadd dX11_bonesAt_35 ?_
          refine x_is2 dX11_bonesAt_36 ?_
          refine x_inc3 dX11_bonesAt_37 ?_
          refine x_goto (tgt := 4) dX11_bonesAt_40 ?_
          exact x_fg (ih4 (n + 1) (b + 1) (by omega) (by simp only [mBonesAt]; rw [sumT_s _ hb.1]; first | (rw [if_pos (by omega), hn]; rfl) | (rw [if_neg (by omega), hn]; rfl)) (by omega)) (And.intro rfl (And.intro rfl (And.intro rfl (And.intro rfl trivial))))
  exact x_fg (lp4 _ 0 0 (by omega) rfl (Nat.lt_succ_self _)) (And.intro rfl (And.intro rfl (And.intro rfl (And.intro rfl trivial))))
