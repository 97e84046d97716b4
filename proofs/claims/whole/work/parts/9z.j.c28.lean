set_option maxRecDepth 100000 in
set_option maxHeartbeats 4000000 in
theorem c_X6_fewest {B : Bs} {S : Stt} {V : Va} (kd : Int → Int) (my : Int → Int) (cl : Int → Int → Prop) (hS : Stat S) (hSB : ShB V kd my cl (V 289 9)) (hmk : ∀ x y, 0 ≤ x → x < (V 289 9) → 0 ≤ y → y < (V 289 9) → kd x = kd y → my x = my y) (hsy : ∀ x y, 0 ≤ x → x < (V 289 9) → 0 ≤ y → y < (V 289 9) → cl x y → cl y x) : C B yX6_fewest cX6_fewest 7 (some .int) 2 0 0 [vR B 289] S V (rIX S (fun r VN => VN = V ∧ 0 ≤ r ∧ r ≤ 100 ∧ Lb kd my cl (V 289 9) r)) := by
  refine C.of [some (vR B 289), none, none, none, none, none, none] ?_
  intro Γ hQ
  have hn9 := hSB.1
  have e12 : p2 12 = 4096 := by decide
  refine x_iconst dX6_fewest_0 ?_
  refine x_is1 dX6_fewest_1 ?_
  refine x_iconst dX6_fewest_2 ?_
  refine x_is2 dX6_fewest_3 ?_
  have lp4 : ∀ (N4 : Nat) (l : Int) (i : Int), (0 ≤ i ∧ i ≤ V 289 9) → (0 ≤ l ∧ l ≤ 100) → (Lb kd my cl (V 289 9) l) → (V 289 9 - i).toNat < N4 → X Γ B RX6 "fewest" cX6_fewest 7 (some .int) 2 0 0 4 [some (vR B 289), some (vI l), some (vI i), none, none, none, none] [] 0 0 S V := by
    intro N4
    induction N4 with
    | zero => intro l i hi hl hL hN; exact absurd hN (Nat.not_lt_zero _)
    | succ N4 ih4 =>
      intro l i hi hl hL hN4
      refine x_il2 dX6_fewest_4 ?_
      refine x_al0 dX6_fewest_5 ?_
      refine x_getI fl_X6_68 (sh_289 hS) (lq_289 hS) dX6_fewest_6 ?_
      refine x_topI (a' := V 289 9) rfl ?_
      refine x_icmp_ge (tgt := 120) dX6_fewest_9 (inr (by omega)) (inr (by omega)) (fun c9_1 => ?_) (fun c9_1 => ?_)
      · -- 9 ge -> 120
        refine x_il1 dX6_fewest_120 ?_
        exact x_iret hQ ⟨_, rfl, rfl, rfl, hl.1, hl.2, hL⟩ dX6_fewest_121
      · -- 9 ge -> 12
        have k1 := hSB.2.1 i hi.1 (by omega)
        have k2 := k1.2.1.2.1
        have k3 := k1.2.1.1
        have k4 := k1.1
        have k5 := k1.2.2
        have hb := bN_r (V 292 i) 16 (by omega)
        refine x_al0 dX6_fewest_12 ?_
        refine x_getR fl_X6_18 (sh_289 hS) (lq_289 hS) (rf_289_4 hS) dX6_fewest_13 ?_
        refine x_il2 dX6_fewest_16 ?_
        refine x_iald (sh_292 hS) (lq_292 hS) (by omega) (by omega) dX6_fewest_17 ?_
        refine x_topI (a' := V 292 i) rfl ?_
        refine x_cSi mm_J6_bitCount_0f7a4 ml_X6_120 dX6_fewest_18 (c_J6_bitCount_0f7a4 (V 292 i) (by omega)) ?_
        refine x_is3 dX6_fewest_21 ?_
        refine x_al0 dX6_fewest_22 ?_
        refine x_getR fl_X6_24 (sh_289 hS) (lq_289 hS) (rf_289_6 hS) dX6_fewest_23 ?_
        refine x_il2 dX6_fewest_26 ?_
        refine x_iald (sh_294 hS) (lq_294 hS) (by omega) (by omega) dX6_fewest_27 ?_
        refine x_topI (a' := V 294 i) rfl ?_
        refine x_if_le (tgt := 53) dX6_fewest_28 (inr (by omega)) (fun c28_2 => ?_) (fun c28_2 => ?_)
        · exact absurd c28_2 (by omega)
        · -- 28 le -> 31
          refine x_il1 dX6_fewest_31 ?_
          refine x_il3 dX6_fewest_32 ?_
          refine x_al0 dX6_fewest_33 ?_
          refine x_getR fl_X6_24 (sh_289 hS) (lq_289 hS) (rf_289_6 hS) dX6_fewest_34 ?_
          refine x_il2 dX6_fewest_37 ?_
          refine x_iald (sh_294 hS) (lq_294 hS) (by omega) (by omega) dX6_fewest_38 ?_
          refine x_topI (a' := V 294 i) rfl ?_
          refine x_iadd dX6_fewest_39 ?_
          refine x_iconst dX6_fewest_40 ?_
          refine x_isub dX6_fewest_41 ?_
          refine x_al0 dX6_fewest_42 ?_
          refine x_getR fl_X6_24 (sh_289 hS) (lq_289 hS) (rf_289_6 hS) dX6_fewest_43 ?_
          refine x_il2 dX6_fewest_46 ?_
          refine x_iald (sh_294 hS) (lq_294 hS) (by omega) (by omega) dX6_fewest_47 ?_
          refine x_topI (a' := V 294 i) rfl ?_
          refine x_idiv (inr (by omega)) (inr (by omega)) (by omega) dX6_fewest_48 ?_
          refine x_topI (a' := (((bN (V 292 i) 16) + (V 294 i)) - 1) / (V 294 i)) (Int.tdiv_eq_ediv_of_nonneg (by omega)) ?_
          have q0 : 0 ≤ (((bN (V 292 i) 16) + (V 294 i)) - 1) / (V 294 i) := Int.ediv_nonneg (by omega) (by omega)
          have q1 : (((bN (V 292 i) 16) + (V 294 i)) - 1) / (V 294 i) ≤ 30 := Int.le_trans (Int.ediv_le_self _ (by omega)) (by omega)
          refine x_mmax ml_X6_125 dX6_fewest_49 (inr (by omega)) (inr (by omega)) ?_
          refine x_is1 dX6_fewest_52 ?_
          have hL2 : Lb kd my cl (V 289 9) (if l < (((bN (V 292 i) 16) + (V 294 i)) - 1) / (V 294 i) then (((bN (V 292 i) 16) + (V 294 i)) - 1) / (V 294 i) else l) := Lb_max hL (Lb_kind hSB hmk hi.1 (by omega))
          have hl2 : 0 ≤ (if l < (((bN (V 292 i) 16) + (V 294 i)) - 1) / (V 294 i) then (((bN (V 292 i) 16) + (V 294 i)) - 1) / (V 294 i) else l) ∧ (if l < (((bN (V 292 i) 16) + (V 294 i)) - 1) / (V 294 i) then (((bN (V 292 i) 16) + (V 294 i)) - 1) / (V 294 i) else l) ≤ 100 := by split <;> omega
          refine x_al0 dX6_fewest_53 ?_
          refine x_getR fl_X6_15 (sh_289 hS) (lq_289 hS) (rf_289_3 hS) dX6_fewest_54 ?_
          refine x_il2 dX6_fewest_57 ?_
          refine x_iald (sh_291 hS) (lq_291 hS) (by omega) (by omega) dX6_fewest_58 ?_
          refine x_topI (a' := V 291 i) rfl ?_
          refine x_is4 dX6_fewest_59 ?_
          refine x_iconst dX6_fewest_61 ?_
          refine x_is5 dX6_fewest_62 ?_
          refine x_iconst dX6_fewest_64 ?_
          refine x_is6 dX6_fewest_65 ?_
          have lp67 : ∀ (N67 : Nat) (c : Int) (z : Int) (j : Int), (0 ≤ j ∧ j ≤ V 289 9) → (0 ≤ c ∧ c < 4096) → (1 ≤ z ∧ z ≤ j + 1) → (ClqI V (V 289 9) i j c z) → (V 289 9 - j).toNat < N67 → X Γ B RX6 "fewest" cX6_fewest 7 (some .int) 2 0 0 67 [some (vR B 289), some (vI (if l < (((bN (V 292 i) 16) + (V 294 i)) - 1) / (V 294 i) then (((bN (V 292 i) 16) + (V 294 i)) - 1) / (V 294 i) else l)), some (vI i), some (vI (bN (V 292 i) 16)), some (vI c), some (vI z), some (vI j)] [] 0 0 S V := by
            intro N67
            induction N67 with
            | zero => intro c z j hj hc hz hq hN; exact absurd hN (Nat.not_lt_zero _)
            | succ N67 ih67 =>
              intro c z j hj hc hz hq hN67
              refine x_il6 dX6_fewest_67 ?_
              refine x_al0 dX6_fewest_69 ?_
              refine x_getI fl_X6_68 (sh_289 hS) (lq_289 hS) dX6_fewest_70 ?_
              refine x_topI (a' := V 289 9) rfl ?_
              refine x_icmp_ge (tgt := 107) dX6_fewest_73 (inr (by omega)) (inr (by omega)) (fun c73_3 => ?_) (fun c73_3 => ?_)
              · -- 73 ge -> 107
                refine x_il1 dX6_fewest_107 ?_
                refine x_il5 dX6_fewest_108 ?_
                refine x_mmax ml_X6_125 dX6_fewest_110 (inr (by omega)) (inr (by omega)) ?_
                refine x_is1 dX6_fewest_113 ?_
                refine x_inc2 dX6_fewest_114 ?_
                refine x_goto (tgt := 4) dX6_fewest_117 ?_
                exact x_fg (ih4 (if (if l < (((bN (V 292 i) 16) + (V 294 i)) - 1) / (V 294 i) then (((bN (V 292 i) 16) + (V 294 i)) - 1) / (V 294 i) else l) < z then z else (if l < (((bN (V 292 i) 16) + (V 294 i)) - 1) / (V 294 i) then (((bN (V 292 i) 16) + (V 294 i)) - 1) / (V 294 i) else l)) (i + 1) (by omega) (by split <;> omega) (Lb_max hL2 (ClqI_Lb hSB hq)) (by omega)) (And.intro rfl (And.intro rfl (And.intro rfl trivial)))
              · -- 73 ge -> 76
                have kj := (hSB.2.1 j hj.1 (by omega)).1
                have dv := Int.ediv_nonneg hc.1 (Int.le_of_lt (p2_pos j))
                have dl := Int.ediv_le_self (p2 j) hc.1
                refine x_il4 dX6_fewest_76 ?_
                refine x_il6 dX6_fewest_78 ?_
                refine x_ishr (inr (by omega)) (by omega) (by omega) dX6_fewest_80 ?_
                refine x_iconst dX6_fewest_81 ?_
                refine x_and1 dX6_fewest_82 ?_
                refine x_if_eq (tgt := 101) dX6_fewest_83 (inr (by omega)) (fun c83_4 => ?_) (fun c83_4 => ?_)
                · -- 83 eq -> 101
                  refine x_inc6 dX6_fewest_101 ?_
                  refine x_goto (tgt := 67) dX6_fewest_104 ?_
                  exact x_fg (ih67 c z (j + 1) (by omega) (by first | exact hc | (have y := band_r (x := c) (y := V 291 j) hc.1; omega)) (by omega) (by first | exact ClqI_on hSB hsy hj.1 (by omega) hc.1 hq (by omega) | exact ClqI_no hq) (by omega)) (And.intro rfl (And.intro rfl (And.intro rfl (And.intro rfl (And.intro rfl (And.intro rfl (And.intro rfl trivial)))))))
                · -- 83 eq -> 86
                  refine x_il4 dX6_fewest_86 ?_
                  refine x_al0 dX6_fewest_88 ?_
                  refine x_getR fl_X6_15 (sh_289 hS) (lq_289 hS) (rf_289_3 hS) dX6_fewest_89 ?_
                  refine x_il6 dX6_fewest_92 ?_
                  refine x_iald (sh_291 hS) (lq_291 hS) (by omega) (by omega) dX6_fewest_94 ?_
                  refine x_topI (a' := V 291 j) rfl ?_
                  refine x_iand (by omega) (by omega) dX6_fewest_95 ?_
                  refine x_is4 dX6_fewest_96 ?_
                  refine x_inc5 dX6_fewest_98 ?_
                  refine x_inc6 dX6_fewest_101 ?_
                  refine x_goto (tgt := 67) dX6_fewest_104 ?_
                  exact x_fg (ih67 (band c (V 291 j)) (z + 1) (j + 1) (by omega) (by first | exact hc | (have y := band_r (x := c) (y := V 291 j) hc.1; omega)) (by omega) (by first | exact ClqI_on hSB hsy hj.1 (by omega) hc.1 hq (by omega) | exact ClqI_no hq) (by omega)) (And.intro rfl (And.intro rfl (And.intro rfl (And.intro rfl (And.intro rfl (And.intro rfl (And.intro rfl trivial)))))))
          exact x_fg (lp67 _ (V 291 i) 1 0 (by omega) (by omega) (by omega) (ClqI_0 hSB hsy hi.1 (by omega)) (Nat.lt_succ_self _)) (And.intro rfl (And.intro rfl (And.intro rfl (And.intro rfl (And.intro rfl (And.intro rfl (And.intro rfl trivial)))))))
  exact x_fg (lp4 _ 0 0 (by omega) (by omega) Lb_0 (Nat.lt_succ_self _)) (And.intro rfl (And.intro rfl (And.intro rfl trivial)))
