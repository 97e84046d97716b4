theorem bN_r (x n : Int) (h : 0 ≤ n) : 0 ≤ bN x n ∧ bN x n ≤ n := sumT_01 _ (fun k => by
  have := Int.emod_nonneg (x / p2 k) (show (2 : Int) ≠ 0 by omega)
  have := Int.emod_lt_of_pos (x / p2 k) (show (0 : Int) < 2 by omega)
  constructor <;> omega) n h
theorem town_k {V : Va} {a : Int → Int} (hW : WSim V 1 a) (t : Int) : cTownOk V t ↔ mTownOk a t := by
  have w7 : V 1 7 = a 0 := hW.1.1
  simp only [cTownOk, mTownOk]
  omega

set_option maxRecDepth 100000 in
set_option maxHeartbeats 4000000 in
theorem c_X9_perform {B : Bs} {S : Stt} {V : Va} (id : Nat) (clause : Int) (a : Int → Int) (tx : Int → Int) (t : Int) (cl : Nat) (cd : Nat) (hS : Stat S) (hW : WSim V 1 a) (hB : WB V 1) (hM : MIv a) (hTx : TSim S V 133 a tx) (hch : 0 ≤ (V 1 10) ∧ (V 1 10) ≤ 1000000) (e2 : TxS S id cl cd) (e3 : TxV V id cl cd tx t) (hcl : 0 ≤ clause ∧ clause < tx (700 * t)) : C B yX9_perform cX9_perform 7 (some .boolean) 7 0 0 [vR B 1, vR B id, vI clause, vR B 287] S V (rIR S (if mPlayC a tx (700 * t + 1 + 4 * clause) then 1 else 0) (fun VN => PlR 1 a (mPlayF a tx (700 * t + 1 + 4 * clause)) V VN)) := by
  refine C.of [some (vR B 1), some (vR B id), some (vI clause), some (vR B 287), none, none, none] ?_
  intro Γ hQ
  have w7 : V 1 7 = a 0 := hW.1.1
  have w8 : V 1 8 = a 3 := hW.1.2.1
  have w9 : V 1 9 = a 4 := hW.1.2.2
  have w55 : V 5 5 = a 1 := hW.2.2.2.1.1
  have i0 := hM.1.2.1
  have i1 := hM.1.2.2.1
  have i2 := hM.1.2.2.2.1
  have i4 := hM.1.2.2.2.2.1
  have i3 := hM.2.1
  have bb := WB_BB hB
  have r2 : V 11 2 = a 5 := hW.2.2.2.2.1.1
  have r0 : 0 ≤ V 11 1 := hW.2.2.2.2.1.2.1
  have r1 : V 11 1 < 20 := hW.2.2.2.2.1.2.2.1
  have w56 : V 5 6 = a 2 := hW.2.2.2.1.2.1
  have h5 := hM.1.2.2.2.2.2.1
  have hid := e2.1
  have hir := e3.2.2.2.2.2
  have hcc := e3.1
  have hk := e3.2.1 clause hcl.1 hcl.2
  have hk0 : V (id + 1) (clause * 4) = 16 + tx (700 * t + 1 + 4 * clause) := (congrArg (V (id + 1)) (by omega)).trans hk.1.1
  have hk1 := hk.1.2
  have ka : 4 ≤ tx (700 * t + 1 + 4 * clause) → V (id + 1) (clause * 4 + 1) = tx (700 * t + 1 + 4 * clause + 1) := fun z => (congrArg (V (id + 1)) (by omega)).trans (hk.2 z).1
  have kb : 4 ≤ tx (700 * t + 1 + 4 * clause) → tx (700 * t + 1 + 4 * clause) ≤ 6 → V (id + 1) (clause * 4 + 2) = tx (700 * t + 1 + 4 * clause + 2) := fun z y => (congrArg (V (id + 1)) (by omega)).trans ((hk.2 z).2.1 y)
  have kc : tx (700 * t + 1 + 4 * clause) = 4 → V (id + 1) (clause * 4 + 3) = tx (700 * t + 1 + 4 * clause + 3) := fun z => (congrArg (V (id + 1)) (by omega)).trans ((hk.2 (by omega)).2.2 z)
  refine x_il2 dX9_perform_0 ?_
  refine x_iconst dX9_perform_1 ?_
  refine x_imul dX9_perform_2 ?_
  refine x_is4 dX9_perform_3 ?_
  refine x_il4 dX9_perform_5 ?_
  refine x_if_lt (tgt := 22) dX9_perform_7 (inr (by omega)) (fun c7_1 => ?_) (fun c7_1 => ?_)
  · -- 7 lt -> 22
    refine x_iconst dX9_perform_22 ?_
    exact x_zret hQ ⟨congrArg some (congrArg vI (if_pos (by first | exact (pl_0 (by omega)).1 | (exfalso; omega)))), rfl, (by first | (exfalso; omega) | (rw [(pl_0 (by omega)).2]; exact PlR_0 hW hB hM))⟩ (by decide) dX9_perform_23
  · -- 7 lt -> 10
    refine x_il4 dX9_perform_10 ?_
    refine x_iconst dX9_perform_12 ?_
    refine x_iadd dX9_perform_13 ?_
    refine x_al1 dX9_perform_14 ?_
    refine x_getR fl_X9_137 (e2.2.1) ((by have := e2.1.2.1; omega)) (e2.2.2.1.1) dX9_perform_15 ?_
    refine x_alen (by decide) (e2.2.2.2.1) ((by have := e2.1.2.1; omega)) dX9_perform_18 ?_
    refine x_icmp_lt (tgt := 24) dX9_perform_19 (inr (by omega)) (inr (by omega)) (fun c19_2 => ?_) (fun c19_2 => ?_)
    · -- 19 lt -> 24
      refine x_al1 dX9_perform_24 ?_
      refine x_getR fl_X9_137 (e2.2.1) ((by have := e2.1.2.1; omega)) (e2.2.2.1.1) dX9_perform_25 ?_
      refine x_il4 dX9_perform_28 ?_
      refine x_iconst dX9_perform_30 ?_
      refine x_iadd dX9_perform_31 ?_
      refine x_iald (e2.2.2.2.1) ((by have := e2.1.2.1; omega)) (by omega) (by omega) dX9_perform_32 ?_ (by omega)
      refine x_topI (a' := (V (id + 1)) ((clause * 4) + 1)) rfl ?_
      refine x_is5 dX9_perform_33 ?_
      refine x_al1 dX9_perform_35 ?_
      refine x_getR fl_X9_137 (e2.2.1) ((by have := e2.1.2.1; omega)) (e2.2.2.1.1) dX9_perform_36 ?_
      refine x_il4 dX9_perform_39 ?_
      refine x_iconst dX9_perform_41 ?_
      refine x_iadd dX9_perform_42 ?_
      refine x_iald (e2.2.2.2.1) ((by have := e2.1.2.1; omega)) (by omega) (by omega) dX9_perform_43 ?_ (by omega)
      refine x_topI (a' := (V (id + 1)) ((clause * 4) + 2)) rfl ?_
      refine x_is6 dX9_perform_44 ?_
      refine x_al1 dX9_perform_46 ?_
      refine x_getR fl_X9_137 (e2.2.1) ((by have := e2.1.2.1; omega)) (e2.2.2.1.1) dX9_perform_47 ?_
      refine x_il4 dX9_perform_50 ?_
      refine x_iald (e2.2.2.2.1) ((by have := e2.1.2.1; omega)) (by omega) (by omega) dX9_perform_52 ?_ (by omega)
      refine x_topI (a' := (V (id + 1)) (clause * 4)) rfl ?_
      by_cases hs3 : (V (id + 1)) (clause * 4) = 20
      · refine x_tswIn (tgt := 88) (off := 35) dX9_perform_53 20 hs3 ?_
        refine x_al0 dX9_perform_88 ?_
        refine x_il5 dX9_perform_89 ?_
        refine x_il6 dX9_perform_91 ?_
        refine x_al1 dX9_perform_93 ?_
        refine x_getR fl_X9_137 (e2.2.1) ((by have := e2.1.2.1; omega)) (e2.2.2.1.1) dX9_perform_94 ?_
        refine x_il4 dX9_perform_97 ?_
        refine x_iconst dX9_perform_99 ?_
        refine x_iadd dX9_perform_100 ?_
        refine x_iald (e2.2.2.2.1) ((by have := e2.1.2.1; omega)) (by omega) (by omega) dX9_perform_101 ?_ (by omega)
        refine x_topI (a' := (V (id + 1)) ((clause * 4) + 3)) rfl ?_
        refine x_cVi mm_X9_lendTo ml_X9_140 dX9_perform_102 (c_X9_lendTo ((V (id + 1)) ((clause * 4) + 1)) ((V (id + 1)) ((clause * 4) + 2)) ((V (id + 1)) ((clause * 4) + 3)) hS (by omega) (by omega) (by omega) (by omega) hch bb.2.2.1 bb.2.2.2.1 bb.2.2.2.2 (hir _) (hir _) (hir _)) (sh_1 hS) (lq_1 hS) ?_
        by_cases hC : cLendC V (V (id + 1) (clause * 4 + 1)) (V (id + 1) (clause * 4 + 2)) (V (id + 1) (clause * 4 + 3))
        · refine x_topI (a' := V 5 6 + V (id + 1) (clause * 4 + 3)) (if_pos hC) ?_
          refine x_iconst dX9_perform_105 ?_
          refine x_icmp_eq (tgt := 113) dX9_perform_106 (inr (by have := hC.2.2.1; have := hC.2.2.2.1; omega)) (inr (by decide)) (fun c106_4 => ?_) (fun c106_4 => ?_)
          · -- 106 eq -> 113
            refine x_iconst dX9_perform_113 ?_
            exact x_zret hQ (by have hs4 : tx (700 * t + 1 + 4 * clause) = 4 := (by omega); have p := pl_4 (a := a) hs4; rw [← ka (by omega), ← kb (by omega) (by omega), ← kc hs4] at p; exact ⟨congrArg some (congrArg vI ((by first | (exfalso; have q1 := hC.2.2.1; omega) | exact if_pos (p.1.mpr ((lend_c hW hM _ _ _).mp hC)) | exact if_neg (fun q => hC ((lend_c hW hM _ _ _).mpr (p.1.mp q)))))), rfl, (by rw [p.2]; exact StpR_Pl (lend_s hW hB hM _ _ _).1 (lend_s hW hB hM _ _ _).2 (fun q => if_neg q) hW hB)⟩) (by decide) dX9_perform_114
          · -- 106 eq -> 109
            refine x_iconst dX9_perform_109 ?_
            refine x_goto (tgt := 114) dX9_perform_110 ?_
            exact x_zret hQ (by have hs4 : tx (700 * t + 1 + 4 * clause) = 4 := (by omega); have p := pl_4 (a := a) hs4; rw [← ka (by omega), ← kb (by omega) (by omega), ← kc hs4] at p; exact ⟨congrArg some (congrArg vI ((by first | (exfalso; have q1 := hC.2.2.1; omega) | exact if_pos (p.1.mpr ((lend_c hW hM _ _ _).mp hC)) | exact if_neg (fun q => hC ((lend_c hW hM _ _ _).mpr (p.1.mp q)))))), rfl, (by rw [p.2]; exact StpR_Pl (lend_s hW hB hM _ _ _).1 (lend_s hW hB hM _ _ _).2 (fun q => if_neg q) hW hB)⟩) (by decide) dX9_perform_114
        refine x_topI (a' := (-1)) (if_neg hC) ?_
        refine x_iconst dX9_perform_105 ?_
        refine x_icmp_eq (tgt := 113) dX9_perform_106 (inr (by decide)) (inr (by decide)) (fun c106_5 => ?_) (fun c106_5 => ?_)
        · -- 106 eq -> 113
          refine x_iconst dX9_perform_113 ?_
          exact x_zret hQ (by have hs4 : tx (700 * t + 1 + 4 * clause) = 4 := (by omega); have p := pl_4 (a := a) hs4; rw [← ka (by omega), ← kb (by omega) (by omega), ← kc hs4] at p; exact ⟨congrArg some (congrArg vI ((by first | (exfalso; have q1 := hC.2.2.1; omega) | exact if_pos (p.1.mpr ((lend_c hW hM _ _ _).mp hC)) | exact if_neg (fun q => hC ((lend_c hW hM _ _ _).mpr (p.1.mp q)))))), rfl, (by rw [p.2]; exact StpR_Pl (lend_s hW hB hM _ _ _).1 (lend_s hW hB hM _ _ _).2 (fun q => if_neg q) hW hB)⟩) (by decide) dX9_perform_114
        · exact absurd c106_5 (by decide)
      by_cases hs6 : (V (id + 1)) (clause * 4) = 21
      · refine x_tswIn (tgt := 115) (off := 62) dX9_perform_53 21 hs6 ?_
        refine x_al0 dX9_perform_115 ?_
        refine x_il5 dX9_perform_116 ?_
        refine x_il6 dX9_perform_118 ?_
        refine x_cVi mm_X9_swapPlaces ml_X9_144 dX9_perform_120 (c_X9_swapPlaces ((V (id + 1)) ((clause * 4) + 1)) ((V (id + 1)) ((clause * 4) + 2)) hS (by omega) (by omega) hch bb.2.2.2.1 (hir _) (hir _)) (sh_1 hS) (lq_1 hS) ?_
        exact x_zret hQ (by have hs4 : tx (700 * t + 1 + 4 * clause) = 5 := (by omega); have p := pl_5 (a := a) hs4; rw [← ka (by omega), ← kb (by omega) (by omega)] at p; exact ⟨congrArg some (congrArg vI ((ite_c (p.1.trans (swap_c hW hM _ _).symm)))), rfl, (by rw [p.2]; exact StpR_Pl (swap_s hW hB hM _ _).1 (swap_s hW hB hM _ _).2 (fun q => if_neg q) hW hB)⟩) (ite_01 _) dX9_perform_123
      by_cases hs7 : (V (id + 1)) (clause * 4) = 22
      · refine x_tswIn (tgt := 124) (off := 71) dX9_perform_53 22 hs7 ?_
        refine x_al0 dX9_perform_124 ?_
        refine x_il5 dX9_perform_125 ?_
        refine x_il6 dX9_perform_127 ?_
        refine x_cVi mm_X9_stealTo ml_X9_148 dX9_perform_129 (c_X9_stealTo ((V (id + 1)) ((clause * 4) + 1)) ((V (id + 1)) ((clause * 4) + 2)) hS (by omega) (by omega) (by omega) hch bb.2.2.2.1 (hir _) (hir _)) (sh_1 hS) (lq_1 hS) ?_
        exact x_zret hQ (by have hs4 : tx (700 * t + 1 + 4 * clause) = 6 := (by omega); have p := pl_6 (a := a) hs4; rw [← ka (by omega), ← kb (by omega) (by omega)] at p; exact ⟨congrArg some (congrArg vI ((ite_c (p.1.trans (steal_c hW hM _ _).symm)))), rfl, (by rw [p.2]; exact StpR_Pl (steal_s hW hB hM _ _).1 (steal_s hW hB hM _ _).2 (fun q => if_neg q) hW hB)⟩) (ite_01 _) dX9_perform_132
      by_cases hs8 : (V (id + 1)) (clause * 4) = 23
      · refine x_tswIn (tgt := 133) (off := 80) dX9_perform_53 23 hs8 ?_
        refine x_al0 dX9_perform_133 ?_
        refine x_il5 dX9_perform_134 ?_
        refine x_cVi mm_X9_burnProofs ml_X9_151 dX9_perform_136 (c_X9_burnProofs ((V (id + 1)) ((clause * 4) + 1)) hS (by omega) (by omega) (by omega) hch bb.1 (hir _)) (sh_1 hS) (lq_1 hS) ?_
        by_cases hC : cTownOk V (V (id + 1) (clause * 4 + 1))
        · refine x_topI (a' := bN (V 10 (V (id + 1) (clause * 4 + 1))) 16) (if_pos hC) ?_
          refine x_iconst dX9_perform_139 ?_
          have hbn := bN_r (V 10 (V (id + 1) (clause * 4 + 1))) 16 (by omega)
          refine x_icmp_eq (tgt := 147) dX9_perform_140 (inr (by omega)) (inr (by decide)) (fun c140_9 => ?_) (fun c140_9 => ?_)
          · -- 140 eq -> 147
            refine x_iconst dX9_perform_147 ?_
            exact x_zret hQ (by have hs4 : tx (700 * t + 1 + 4 * clause) = 7 := (by omega); have p := pl_7 (a := a) hs4; rw [← ka (by omega)] at p; exact ⟨congrArg some (congrArg vI ((by first | exact if_pos (p.1.mpr ((town_k hW _).mp hC)) | (exfalso; omega) | exact if_neg (fun q => hC ((town_k hW _).mpr (p.1.mp q)))))), rfl, (by rw [p.2]; exact StpR_Pl (burn_s hW hB hM _).1 (burn_s hW hB hM _).2 (fun q => if_neg q) hW hB)⟩) (by decide) dX9_perform_148
          · -- 140 eq -> 143
            refine x_iconst dX9_perform_143 ?_
            refine x_goto (tgt := 148) dX9_perform_144 ?_
            exact x_zret hQ (by have hs4 : tx (700 * t + 1 + 4 * clause) = 7 := (by omega); have p := pl_7 (a := a) hs4; rw [← ka (by omega)] at p; exact ⟨congrArg some (congrArg vI ((by first | exact if_pos (p.1.mpr ((town_k hW _).mp hC)) | (exfalso; omega) | exact if_neg (fun q => hC ((town_k hW _).mpr (p.1.mp q)))))), rfl, (by rw [p.2]; exact StpR_Pl (burn_s hW hB hM _).1 (burn_s hW hB hM _).2 (fun q => if_neg q) hW hB)⟩) (by decide) dX9_perform_148
        refine x_topI (a' := (-1)) (if_neg hC) ?_
        refine x_iconst dX9_perform_139 ?_
        have hbn := bN_r (V 10 (V (id + 1) (clause * 4 + 1))) 16 (by omega)
        refine x_icmp_eq (tgt := 147) dX9_perform_140 (inr (by decide)) (inr (by decide)) (fun c140_10 => ?_) (fun c140_10 => ?_)
        · -- 140 eq -> 147
          refine x_iconst dX9_perform_147 ?_
          exact x_zret hQ (by have hs4 : tx (700 * t + 1 + 4 * clause) = 7 := (by omega); have p := pl_7 (a := a) hs4; rw [← ka (by omega)] at p; exact ⟨congrArg some (congrArg vI ((by first | exact if_pos (p.1.mpr ((town_k hW _).mp hC)) | (exfalso; omega) | exact if_neg (fun q => hC ((town_k hW _).mpr (p.1.mp q)))))), rfl, (by rw [p.2]; exact StpR_Pl (burn_s hW hB hM _).1 (burn_s hW hB hM _).2 (fun q => if_neg q) hW hB)⟩) (by decide) dX9_perform_148
        · exact absurd c140_10 (by decide)
      by_cases hs11 : (V (id + 1)) (clause * 4) = 24
      · refine x_tswIn (tgt := 149) (off := 96) dX9_perform_53 24 hs11 ?_
        refine x_al0 dX9_perform_149 ?_
        refine x_il5 dX9_perform_150 ?_
        refine x_al3 dX9_perform_152 ?_
        refine x_cViR mm_X9_passYears ml_X9_154 dX9_perform_153 (c_X9_passYears (V (id + 1) (clause * 4 + 1)) a tx hS hW hB hM hTx hch (hir _)) (sh_1 hS) (lq_1 hS) (fun W hw => ?_)
        by_cases hC : 0 ≤ V (id + 1) (clause * 4 + 1) ∧ V (id + 1) (clause * 4 + 1) ≤ 99 ∧ a 2 + V (id + 1) (clause * 4 + 1) ≤ 999
        · refine x_topI (a' := a 2 + V (id + 1) (clause * 4 + 1)) (if_pos hC) ?_
          refine x_iconst dX9_perform_156 ?_
          refine x_icmp_eq (tgt := 164) dX9_perform_157 (inr (by omega)) (inr (by decide)) (fun c157_12 => ?_) (fun c157_12 => ?_)
          · -- 157 eq -> 164
            refine x_iconst dX9_perform_164 ?_
            exact x_zret hQ (by have hs4 : tx (700 * t + 1 + 4 * clause) = 8 := (by omega); have p := pl_8 (a := a) hs4; rw [← ka (by omega)] at p; exact ⟨congrArg some (congrArg vI ((by first | exact if_pos (p.1.mpr hC) | (exfalso; omega) | exact if_neg (fun q => hC (p.1.mp q))))), rfl, (by rw [p.2]; exact StpR_Pl hw (MIv_passF hM _) (fun q => if_neg q) hW hB)⟩) (by decide) dX9_perform_165
          · -- 157 eq -> 160
            refine x_iconst dX9_perform_160 ?_
            refine x_goto (tgt := 165) dX9_perform_161 ?_
            exact x_zret hQ (by have hs4 : tx (700 * t + 1 + 4 * clause) = 8 := (by omega); have p := pl_8 (a := a) hs4; rw [← ka (by omega)] at p; exact ⟨congrArg some (congrArg vI ((by first | exact if_pos (p.1.mpr hC) | (exfalso; omega) | exact if_neg (fun q => hC (p.1.mp q))))), rfl, (by rw [p.2]; exact StpR_Pl hw (MIv_passF hM _) (fun q => if_neg q) hW hB)⟩) (by decide) dX9_perform_165
        refine x_topI (a' := (-1)) (if_neg hC) ?_
        refine x_iconst dX9_perform_156 ?_
        refine x_icmp_eq (tgt := 164) dX9_perform_157 (inr (by decide)) (inr (by decide)) (fun c157_13 => ?_) (fun c157_13 => ?_)
        · -- 157 eq -> 164
          refine x_iconst dX9_perform_164 ?_
          exact x_zret hQ (by have hs4 : tx (700 * t + 1 + 4 * clause) = 8 := (by omega); have p := pl_8 (a := a) hs4; rw [← ka (by omega)] at p; exact ⟨congrArg some (congrArg vI ((by first | exact if_pos (p.1.mpr hC) | (exfalso; omega) | exact if_neg (fun q => hC (p.1.mp q))))), rfl, (by rw [p.2]; exact StpR_Pl hw (MIv_passF hM _) (fun q => if_neg q) hW hB)⟩) (by decide) dX9_perform_165
        · exact absurd c157_13 (by decide)
      refine x_tswOut (tgt := 166) dX9_perform_53 (inr (by omega)) (by omega) ?_
      refine x_iconst dX9_perform_166 ?_
      exact x_zret hQ ⟨congrArg some (congrArg vI (if_pos (by first | exact (pl_0 (by omega)).1 | (exfalso; omega)))), rfl, (by first | (exfalso; omega) | (rw [(pl_0 (by omega)).2]; exact PlR_0 hW hB hM))⟩ (by decide) dX9_perform_167
    · -- 19 lt -> 22
      refine x_iconst dX9_perform_22 ?_
      exact x_zret hQ ⟨congrArg some (congrArg vI (if_pos (by first | exact (pl_0 (by omega)).1 | (exfalso; omega)))), rfl, (by first | (exfalso; omega) | (rw [(pl_0 (by omega)).2]; exact PlR_0 hW hB hM))⟩ (by decide) dX9_perform_23
