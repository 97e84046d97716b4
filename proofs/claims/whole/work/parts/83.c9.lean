set_option maxRecDepth 100000 in
set_option maxHeartbeats 4000000 in
theorem c_X2_holyTowns {B : Bs} {S : Stt} {V : Va} (a : Int → Int) (tx : Int → Int) (hS : Stat S) (hW : WSim V 1 a) (hB : WB V 1) (hM : MIv a) (hTx : TSim S V 133 a tx) : C B yX2_holyTowns cX2_holyTowns 3 (some .int) 6 0 0 [vR B 287] S V (rIc S V (hSet a tx (a 1).toNat)) := by
  refine C.of [some (vR B 287), none, none] ?_
  intro Γ hQ
  have w7 : V 1 7 = a 0 := hW.1.1
  have w8 : V 1 8 = a 3 := hW.1.2.1
  have w9 : V 1 9 = a 4 := hW.1.2.2
  have w55 : V 5 5 = a 1 := hW.2.2.2.1.1
  have i0 := hM.1.2.1
  have i1 := hM.1.2.2.1
  have i2 := hM.1.2.2.2.1
  have i4 := hM.1.2.2.2.2.1
  have i3 := hM.2.1
  refine x_iconst dX2_holyTowns_0 ?_
  refine x_is1 dX2_holyTowns_1 ?_
  refine x_iconst dX2_holyTowns_2 ?_
  refine x_is2 dX2_holyTowns_3 ?_
  have lp4 : ∀ (N4 : Nat) (s : Int) (i : Int) (f : Int → Int) (g : Int → Int), (0 ≤ i ∧ i ≤ a 1) → (s = hSet a tx i.toNat) → (a 1 - i).toNat < N4 → X Γ B RX2 "holyTowns" cX2_holyTowns 3 (some .int) 6 0 0 4 [some (vR B 287), some (vI s), some (vI i)] [] 0 0 S (up (up V 287 f) 288 g) := by
    intro N4
    induction N4 with
    | zero => intro s i f g hi hs hN; exact absurd hN (Nat.not_lt_zero _)
    | succ N4 ih4 =>
      intro s i f g hi hs hN4
      have hWl : WSim (up (up V 287 f) 288 g) 1 a := WSim_c (fun q q0 q1 => (up_ne (by omega)).trans (up_ne (by omega))) hW
      have hBl : WB (up (up V 287 f) 288 g) 1 := WB_c (fun q q0 q1 => (up_ne (by omega)).trans (up_ne (by omega))) hB
      have hTl : TSim S (up (up V 287 f) 288 g) 133 a tx := TSim_c (fun q hq => (up_ne (by omega)).trans (up_ne (by omega))) rfl hTx
      have hsr := hSet_r (tx := tx) hM i.toNat (by omega)
      rw [← hs] at hsr
      refine x_il2 dX2_holyTowns_4 ?_
      refine x_al0 dX2_holyTowns_5 ?_
      refine x_getR fl_X2_15 (sh_287 hS) (lq_287 hS) (rf_287_0 hS) dX2_holyTowns_6 ?_
      refine x_getR fl_X2_34 (sh_1 hS) (lq_1 hS) (rf_1_3 hS) dX2_holyTowns_9 ?_
      refine x_getI fl_X2_38 (sh_5 hS) (lq_5 hS) dX2_holyTowns_12 ?_
      refine x_topI (a' := V 5 5) rfl ?_
      refine x_icmp_ge (tgt := 49) dX2_holyTowns_15 (inr (by omega)) (inr (by omega)) (fun c15_1 => ?_) (fun c15_1 => ?_)
      · -- 15 ge -> 49
        refine x_il1 dX2_holyTowns_49 ?_
        exact x_iret hQ ⟨f, g, congrArg some (congrArg vI (by rw [hs, show i.toNat = (a 1).toNat by omega])), rfl, rfl⟩ dX2_holyTowns_50
      · -- 15 ge -> 18
        refine x_al0 dX2_holyTowns_18 ?_
        refine x_il2 dX2_holyTowns_19 ?_
        refine x_cVic mm_X2_isHoly ml_X2_44 dX2_holyTowns_20 (c_X2_isHoly i a tx hS hWl hBl hM hTl (by omega)) (sh_287 hS) (lq_287 hS) (fun f2 g2 => ?_)
        refine x_mem (V' := (up (up V 287 f2) 288 g2)) (Eq.trans (congrArg (fun z => up z 288 _) (up_k (by decide) (up_up _ _ _ _))) (up_up _ _ _ _)) ?_
        refine x_ifb_eq (tgt := 43) dX2_holyTowns_23 (fun c23_3 => ?_) (fun c23_3 => ?_)
        · -- 23 eq -> 43
          refine x_inc2 dX2_holyTowns_43 ?_
          refine x_goto (tgt := 4) dX2_holyTowns_46 ?_
          exact x_fg (ih4 s (i + 1) f2 g2 (by omega) (by rw [show (i + 1).toNat = i.toNat + 1 by omega]; simp only [hSet]; rw [show ((i.toNat : Nat) : Int) = i by omega]; first | (rw [if_pos (by assumption), ← hs, ← hat]) | (rw [if_neg (by assumption), ← hs])) (by omega)) (And.intro rfl (And.intro rfl (And.intro rfl trivial)))
        · -- 23 eq -> 26
          have kb := W_bone hW hM (b := i) (by omega) (by omega)
          have hat : V 8 i = a (30 + 6 * i + 3) := kb.1.2.2.1
          refine x_il1 dX2_holyTowns_26 ?_
          refine x_iconst dX2_holyTowns_27 ?_
          refine x_al0 dX2_holyTowns_28 ?_
          refine x_getR fl_X2_15 (sh_287 hS) (lq_287 hS) (rf_287_0 hS) dX2_holyTowns_29 ?_
          refine x_getR fl_X2_34 (sh_1 hS) (lq_1 hS) (rf_1_3 hS) dX2_holyTowns_32 ?_
          refine x_getR fl_X2_48 (sh_5 hS) (lq_5 hS) (rf_5_2 hS) dX2_holyTowns_35 ?_
          refine x_il2 dX2_holyTowns_38 ?_
          refine x_iald (sh_8 hS) (lq_8 hS) (by omega) (by omega) dX2_holyTowns_39 ?_
          refine x_topI (a' := V 8 i) rfl ?_
          refine x_shl1 (by omega) (by omega) dX2_holyTowns_40 ?_
          refine x_ior (by omega) (Int.le_of_lt (p2_pos _)) dX2_holyTowns_41 ?_
          refine x_is1 dX2_holyTowns_42 ?_
          refine x_inc2 dX2_holyTowns_43 ?_
          refine x_goto (tgt := 4) dX2_holyTowns_46 ?_
          exact x_fg (ih4 (bor s (p2 (V 8 i))) (i + 1) f2 g2 (by omega) (by rw [show (i + 1).toNat = i.toNat + 1 by omega]; simp only [hSet]; rw [show ((i.toNat : Nat) : Int) = i by omega]; first | (rw [if_pos (by assumption), ← hs, ← hat]) | (rw [if_neg (by assumption), ← hs])) (by omega)) (And.intro rfl (And.intro rfl (And.intro rfl trivial)))
  refine x_mem (V' := (up (up V 287 (V 287)) 288 (V 288))) (Eq.trans (show _ = (up V 287 (V 287)) from (Eq.symm (up_self _ 287))) (show _ = (up (up V 287 (V 287)) 288 (V 288)) from (Eq.symm (up_self _ 288)))) ?_
  exact x_fg (lp4 _ 0 0 (V 287) (V 288) (by omega) rfl (Nat.lt_succ_self _)) (And.intro rfl (And.intro rfl (And.intro rfl trivial)))
set_option maxRecDepth 100000 in
set_option maxHeartbeats 4000000 in
theorem c_X10_pilgrims {B : Bs} {S : Stt} {V : Va} (seed : Int) (n : Int) (c : Int) (town : Int) (a : Int → Int) (tx : Int → Int) (hS : Stat S) (hW : WSim V 1 a) (hB : WB V 1) (hM : MIv a) (hTx : TSim S V 133 a tx) (hseed : InR seed) (hn : InR n) (hc : InR c) (htown : InR town) : C B yX10_pilgrims cX10_pilgrims 10 (some .int) 7 0 0 [vR B 0, vI seed, vI n, vI c, vI town] S V (rIc S V (if 0 ≤ seed ∧ seed ≤ 9999 ∧ 1 ≤ n ∧ n ≤ 99 ∧ 0 ≤ c ∧ c ≤ 6 ∧ mTownOk a town then (mPil a tx c town (seed * 7 + 15) n.toNat).2 else -1)) := by
  refine C.of [some (vR B 0), some (vI seed), some (vI n), some (vI c), some (vI town), none, none, none, none, none] ?_
  intro Γ hQ
  have w7 : V 1 7 = a 0 := hW.1.1
  have w8 : V 1 8 = a 3 := hW.1.2.1
  have w9 : V 1 9 = a 4 := hW.1.2.2
  have w55 : V 5 5 = a 1 := hW.2.2.2.1.1
  have i0 := hM.1.2.1
  have i1 := hM.1.2.2.1
  have i2 := hM.1.2.2.2.1
  have i4 := hM.1.2.2.2.2.1
  have i3 := hM.2.1
  have hsr := hSet_r (tx := tx) hM (a 1).toNat (by omega)
  have hp10 : p2 10 = 1024 := by decide
  refine x_il1 dX10_pilgrims_0 ?_
  refine x_iconst dX10_pilgrims_1 ?_
  refine x_sipush dX10_pilgrims_2 ?_
  refine x_cSi mm_X10_within ml_X10_207 dX10_pilgrims_5 (c_X10_within seed 0 9999 (inr (by omega)) (inr (by decide)) (inr (by decide))) ?_
  refine x_ifb_eq (tgt := 43) dX10_pilgrims_8 (fun c8_1 => ?_) (fun c8_1 => ?_)
  · -- 8 eq -> 43
    refine x_iconst dX10_pilgrims_43 ?_
    exact x_iret hQ ⟨V 287, V 288, congrArg some (congrArg vI (by rw [if_neg (by simp only [mTownOk, cTownOk] at *; omega)])), rfl, lw_self V⟩ dX10_pilgrims_44
  · -- 8 eq -> 11
    refine x_il2 dX10_pilgrims_11 ?_
    refine x_iconst dX10_pilgrims_12 ?_
    refine x_bipush dX10_pilgrims_13 ?_
    refine x_cSi mm_X10_within ml_X10_207 dX10_pilgrims_15 (c_X10_within n 1 99 (inr (by omega)) (inr (by decide)) (inr (by decide))) ?_
    refine x_ifb_eq (tgt := 43) dX10_pilgrims_18 (fun c18_2 => ?_) (fun c18_2 => ?_)
    · -- 18 eq -> 43
      refine x_iconst dX10_pilgrims_43 ?_
      exact x_iret hQ ⟨V 287, V 288, congrArg some (congrArg vI (by rw [if_neg (by simp only [mTownOk, cTownOk] at *; omega)])), rfl, lw_self V⟩ dX10_pilgrims_44
    · -- 18 eq -> 21
      refine x_il3 dX10_pilgrims_21 ?_
      refine x_iconst dX10_pilgrims_22 ?_
      refine x_bipush dX10_pilgrims_23 ?_
      refine x_cSi mm_X10_within ml_X10_207 dX10_pilgrims_25 (c_X10_within c 0 6 (inr (by omega)) (inr (by decide)) (inr (by decide))) ?_
      refine x_ifb_eq (tgt := 43) dX10_pilgrims_28 (fun c28_3 => ?_) (fun c28_3 => ?_)
      · -- 28 eq -> 43
        refine x_iconst dX10_pilgrims_43 ?_
        exact x_iret hQ ⟨V 287, V 288, congrArg some (congrArg vI (by rw [if_neg (by simp only [mTownOk, cTownOk] at *; omega)])), rfl, lw_self V⟩ dX10_pilgrims_44
      · -- 28 eq -> 31
        refine x_al0 dX10_pilgrims_31 ?_
        refine x_getR fl_X10_12 (sh_0 hS) (lq_0 hS) (rf_0_0 hS) dX10_pilgrims_32 ?_
        refine x_il4 dX10_pilgrims_35 ?_
        refine x_cVi mm_X9_hasTown ml_X10_230 dX10_pilgrims_37 (c_X9_hasTown town hS (by omega) (inr (by omega))) (sh_1 hS) (lq_1 hS) ?_
        refine x_ifb_ne (tgt := 45) dX10_pilgrims_40 (fun c40_4 => ?_) (fun c40_4 => ?_)
        · -- 40 ne -> 45
          simp only [cTownOk] at *
          refine x_al0 dX10_pilgrims_45 ?_
          refine x_getR fl_X10_31 (sh_0 hS) (lq_0 hS) (rf_0_3 hS) dX10_pilgrims_46 ?_
          refine x_cVic mm_X2_holyTowns ml_X10_233 dX10_pilgrims_49 (c_X2_holyTowns a tx hS hW hB hM hTx) (sh_287 hS) (lq_287 hS) (fun f5 g5 => ?_)
          refine x_is5 dX10_pilgrims_52 ?_
          refine x_il1 dX10_pilgrims_54 ?_
          refine x_bipush dX10_pilgrims_55 ?_
          refine x_imul dX10_pilgrims_57 ?_
          refine x_bipush dX10_pilgrims_58 ?_
          refine x_iadd dX10_pilgrims_60 ?_
          refine x_is6 dX10_pilgrims_61 ?_
          refine x_iconst dX10_pilgrims_63 ?_
          refine x_is7 dX10_pilgrims_64 ?_
          refine x_iconst dX10_pilgrims_66 ?_
          refine x_is8 dX10_pilgrims_67 ?_
          have lp69 : ∀ (N69 : Nat) (x : Int) (he : Int) (k : Int), (0 ≤ k ∧ k ≤ n) → (x = (mPil a tx c town (seed * 7 + 15) k.toNat).1) → (he = (mPil a tx c town (seed * 7 + 15) k.toNat).2) → (n - k).toNat < N69 → X Γ B RX10 "pilgrims" cX10_pilgrims 10 (some .int) 7 0 0 69 [some (vR B 0), some (vI seed), some (vI n), some (vI c), some (vI town), some (vI (hSet a tx (a 1).toNat)), some (vI x), some (vI he), some (vI k), none] [] 0 0 S (up (up V 287 f5) 288 g5) := by
            intro N69
            induction N69 with
            | zero => intro x he k hk hx hhe hN; exact absurd hN (Nat.not_lt_zero _)
            | succ N69 ih69 =>
              intro x he k hk hx hhe hN69
              have hxr := mPil_r (a := a) (tx := tx) (c := c) (town := town) (x0 := seed * 7 + 15) (by omega) k.toNat
              rw [← hx] at hxr
              have hd1 : 0 ≤ drawN x ∧ drawN x < 30103 := by simp only [drawN]; omega
              have hd2 : 0 ≤ drawN (drawN x) ∧ drawN (drawN x) < 30103 := by simp only [drawN]; omega
              refine x_il8 dX10_pilgrims_69 ?_
              refine x_il2 dX10_pilgrims_71 ?_
              refine x_icmp_ge (tgt := 136) dX10_pilgrims_72 (inr (by omega)) (inr (by omega)) (fun c72_6 => ?_) (fun c72_6 => ?_)
              · -- 72 ge -> 136
                refine x_il7 dX10_pilgrims_136 ?_
                exact x_iret hQ ⟨f5, g5, congrArg some (congrArg vI (by rw [if_pos (by simp only [mTownOk]; omega), hhe, show k = n by omega])), rfl, rfl⟩ dX10_pilgrims_138
              · -- 72 ge -> 75
                have hmz := Int.emod_nonneg x (show V 1 7 ≠ 0 by omega)
                have hmz2 := Int.emod_lt_of_pos x (show 0 < V 1 7 by omega)
                have hbt := hSet_town (tx := tx) hM (t := x % V 1 7) hmz
                refine x_il6 dX10_pilgrims_75 ?_
                refine x_al0 dX10_pilgrims_77 ?_
                refine x_getR fl_X10_12 (sh_0 hS) (lq_0 hS) (rf_0_0 hS) dX10_pilgrims_78 ?_
                refine x_getI fl_X10_236 (sh_1 hS) (lq_1 hS) dX10_pilgrims_81 ?_
                refine x_topI (a' := V 1 7) rfl ?_
                refine x_irem (inr (by omega)) (inr (by omega)) (by omega) dX10_pilgrims_84 ?_
                refine x_topI (a' := x % (V 1 7)) (Int.tmod_eq_emod_of_nonneg (by omega)) ?_
                refine x_is9 dX10_pilgrims_85 ?_
                refine x_il6 dX10_pilgrims_87 ?_
                refine x_cSi mm_X10_nextDraw ml_X10_239 dX10_pilgrims_89 (c_X10_nextDraw x (by omega)) ?_
                refine x_is6 dX10_pilgrims_92 ?_
                refine x_il5 dX10_pilgrims_94 ?_
                refine x_il9 dX10_pilgrims_96 ?_
                refine x_ishr (inr (by omega)) (by omega) (by omega) dX10_pilgrims_98 ?_
                refine x_iconst dX10_pilgrims_99 ?_
                refine x_and1 dX10_pilgrims_100 ?_
                refine x_if_eq (tgt := 130) dX10_pilgrims_101 (inr (by omega)) (fun c101_7 => ?_) (fun c101_7 => ?_)
                · -- 101 eq -> 130
                  refine x_inc8 dX10_pilgrims_130 ?_
                  refine x_goto (tgt := 69) dX10_pilgrims_133 ?_
                  exact x_fg (ih69 (drawN x) he (k + 1) (by omega) (by rw [show (k + 1).toNat = k.toNat + 1 by omega]; simp only [mPil]; rw [← hx, ← w7]; first | (rw [if_pos (hbt.mp (by omega))]) | (rw [if_neg (fun z => by have := hbt.mpr z; omega)])) (by rw [show (k + 1).toNat = k.toNat + 1 by omega]; simp only [mPil]; rw [← hx, ← w7]; first | (rw [if_pos (hbt.mp (by omega)), ← hhe]; first | (rw [if_pos (by omega)]) | (rw [if_neg (by omega)]; omega)) | (rw [if_neg (fun z => by have := hbt.mpr z; omega), ← hhe])) (by omega)) (And.intro rfl (And.intro rfl (And.intro rfl (And.intro rfl (And.intro rfl (And.intro rfl (And.intro rfl (And.intro rfl (And.intro rfl trivial)))))))))
                · -- 101 eq -> 104
                  refine x_il9 dX10_pilgrims_104 ?_
                  refine x_il4 dX10_pilgrims_106 ?_
                  refine x_icmp_ne (tgt := 123) dX10_pilgrims_108 (inr (by omega)) (inr (by omega)) (fun c108_8 => ?_) (fun c108_8 => ?_)
                  · -- 108 ne -> 123
                    refine x_il6 dX10_pilgrims_123 ?_
                    refine x_cSi mm_X10_nextDraw ml_X10_239 dX10_pilgrims_125 (c_X10_nextDraw (drawN x) (by omega)) ?_
                    refine x_is6 dX10_pilgrims_128 ?_
                    refine x_inc8 dX10_pilgrims_130 ?_
                    refine x_goto (tgt := 69) dX10_pilgrims_133 ?_
                    exact x_fg (ih69 (drawN (drawN x)) he (k + 1) (by omega) (by rw [show (k + 1).toNat = k.toNat + 1 by omega]; simp only [mPil]; rw [← hx, ← w7]; first | (rw [if_pos (hbt.mp (by omega))]) | (rw [if_neg (fun z => by have := hbt.mpr z; omega)])) (by rw [show (k + 1).toNat = k.toNat + 1 by omega]; simp only [mPil]; rw [← hx, ← w7]; first | (rw [if_pos (hbt.mp (by omega)), ← hhe]; first | (rw [if_pos (by omega)]) | (rw [if_neg (by omega)]; omega)) | (rw [if_neg (fun z => by have := hbt.mpr z; omega), ← hhe])) (by omega)) (And.intro rfl (And.intro rfl (And.intro rfl (And.intro rfl (And.intro rfl (And.intro rfl (And.intro rfl (And.intro rfl (And.intro rfl trivial)))))))))
                  · -- 108 ne -> 111
                    refine x_il6 dX10_pilgrims_111 ?_
                    refine x_bipush dX10_pilgrims_113 ?_
                    refine x_irem (inr (by omega)) (inr (by decide)) (by decide) dX10_pilgrims_115 ?_
                    refine x_topI (a' := (drawN x) % 6) (Int.tmod_eq_emod_of_nonneg (by omega)) ?_
                    refine x_il3 dX10_pilgrims_116 ?_
                    refine x_icmp_ge (tgt := 123) dX10_pilgrims_117 (inr (by omega)) (inr (by omega)) (fun c117_9 => ?_) (fun c117_9 => ?_)
                    · -- 117 ge -> 123
                      refine x_il6 dX10_pilgrims_123 ?_
                      refine x_cSi mm_X10_nextDraw ml_X10_239 dX10_pilgrims_125 (c_X10_nextDraw (drawN x) (by omega)) ?_
                      refine x_is6 dX10_pilgrims_128 ?_
                      refine x_inc8 dX10_pilgrims_130 ?_
                      refine x_goto (tgt := 69) dX10_pilgrims_133 ?_
                      exact x_fg (ih69 (drawN (drawN x)) he (k + 1) (by omega) (by rw [show (k + 1).toNat = k.toNat + 1 by omega]; simp only [mPil]; rw [← hx, ← w7]; first | (rw [if_pos (hbt.mp (by omega))]) | (rw [if_neg (fun z => by have := hbt.mpr z; omega)])) (by rw [show (k + 1).toNat = k.toNat + 1 by omega]; simp only [mPil]; rw [← hx, ← w7]; first | (rw [if_pos (hbt.mp (by omega)), ← hhe]; first | (rw [if_pos (by omega)]) | (rw [if_neg (by omega)]; omega)) | (rw [if_neg (fun z => by have := hbt.mpr z; omega), ← hhe])) (by omega)) (And.intro rfl (And.intro rfl (And.intro rfl (And.intro rfl (And.intro rfl (And.intro rfl (And.intro rfl (And.intro rfl (And.intro rfl trivial)))))))))
                    · -- 117 ge -> 120
                      refine x_inc7 dX10_pilgrims_120 ?_
                      refine x_il6 dX10_pilgrims_123 ?_
                      refine x_cSi mm_X10_nextDraw ml_X10_239 dX10_pilgrims_125 (c_X10_nextDraw (drawN x) (by omega)) ?_
                      refine x_is6 dX10_pilgrims_128 ?_
                      refine x_inc8 dX10_pilgrims_130 ?_
                      refine x_goto (tgt := 69) dX10_pilgrims_133 ?_
                      exact x_fg (ih69 (drawN (drawN x)) (he + 1) (k + 1) (by omega) (by rw [show (k + 1).toNat = k.toNat + 1 by omega]; simp only [mPil]; rw [← hx, ← w7]; first | (rw [if_pos (hbt.mp (by omega))]) | (rw [if_neg (fun z => by have := hbt.mpr z; omega)])) (by rw [show (k + 1).toNat = k.toNat + 1 by omega]; simp only [mPil]; rw [← hx, ← w7]; first | (rw [if_pos (hbt.mp (by omega)), ← hhe]; first | (rw [if_pos (by omega)]) | (rw [if_neg (by omega)]; omega)) | (rw [if_neg (fun z => by have := hbt.mpr z; omega), ← hhe])) (by omega)) (And.intro rfl (And.intro rfl (And.intro rfl (And.intro rfl (And.intro rfl (And.intro rfl (And.intro rfl (And.intro rfl (And.intro rfl trivial)))))))))
          exact x_fg (lp69 _ ((seed * 7) + 15) 0 0 (by omega) rfl rfl (Nat.lt_succ_self _)) (And.intro rfl (And.intro rfl (And.intro rfl (And.intro rfl (And.intro rfl (And.intro rfl (And.intro rfl (And.intro rfl (And.intro rfl trivial)))))))))
        · -- 40 ne -> 43
          refine x_iconst dX10_pilgrims_43 ?_
          exact x_iret hQ ⟨V 287, V 288, congrArg some (congrArg vI (by rw [if_neg (by simp only [mTownOk, cTownOk] at *; omega)])), rfl, lw_self V⟩ dX10_pilgrims_44
