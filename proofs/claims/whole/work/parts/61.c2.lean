set_option maxRecDepth 100000 in
set_option maxHeartbeats 4000000 in
theorem c_X9_hasTown {B : Bs} {S : Stt} {V : Va} (town : Int) (hS : Stat S) (h17 : 0 ≤ (V 1 7) ∧ (V 1 7) ≤ 10) (htown : InR town) : C B yX9_hasTown cX9_hasTown 2 (some .boolean) 1 0 0 [vR B 1, vI town] S V (rI S V (if cTownOk V town then 1 else 0)) := by
  refine C.of [some (vR B 1), some (vI town)] ?_
  intro Γ hQ
  refine x_il1 dX9_hasTown_0 ?_
  refine x_if_lt (tgt := 16) dX9_hasTown_1 (inr (by omega)) (fun c1_1 => ?_) (fun c1_1 => ?_)
  · -- 1 lt -> 16
    refine x_iconst dX9_hasTown_16 ?_
    exact x_zret hQ (rI.mk (by first | rfl | (rw [if_pos (by simp only [cTownOk]; omega)]) | (rw [if_neg (by simp only [cTownOk]; omega)])) rfl) (by decide) dX9_hasTown_17
  · -- 1 lt -> 4
    refine x_il1 dX9_hasTown_4 ?_
    refine x_al0 dX9_hasTown_5 ?_
    refine x_getI fl_X9_68 (sh_1 hS) (lq_1 hS) dX9_hasTown_6 ?_
    refine x_topI (a' := V 1 7) rfl ?_
    refine x_icmp_ge (tgt := 16) dX9_hasTown_9 (inr (by omega)) (inr (by omega)) (fun c9_2 => ?_) (fun c9_2 => ?_)
    · -- 9 ge -> 16
      refine x_iconst dX9_hasTown_16 ?_
      exact x_zret hQ (rI.mk (by first | rfl | (rw [if_pos (by simp only [cTownOk]; omega)]) | (rw [if_neg (by simp only [cTownOk]; omega)])) rfl) (by decide) dX9_hasTown_17
    · -- 9 ge -> 12
      refine x_iconst dX9_hasTown_12 ?_
      refine x_goto (tgt := 17) dX9_hasTown_13 ?_
      exact x_zret hQ (rI.mk (by first | rfl | (rw [if_pos (by simp only [cTownOk]; omega)]) | (rw [if_neg (by simp only [cTownOk]; omega)])) rfl) (by decide) dX9_hasTown_17
set_option maxRecDepth 100000 in
set_option maxHeartbeats 4000000 in
theorem c_X9_hasTowns {B : Bs} {S : Stt} {V : Va} (set : Int) (hS : Stat S) (h17 : 0 ≤ (V 1 7) ∧ (V 1 7) ≤ 10) (hset : InR set) : C B yX9_hasTowns cX9_hasTowns 2 (some .boolean) 1 0 0 [vR B 1, vI set] S V (rI S V (if 0 ≤ set ∧ set < p2 (V 1 7) then 1 else 0)) := by
  refine C.of [some (vR B 1), some (vI set)] ?_
  intro Γ hQ
  have hp := p2_le (t := V 1 7) (u := 10) (by omega)
  have hp1 : p2 10 = 1024 := by decide
  have hp0 := p2_pos (V 1 7)
  refine x_il1 dX9_hasTowns_0 ?_
  refine x_if_lt (tgt := 18) dX9_hasTowns_1 (inr (by omega)) (fun c1_1 => ?_) (fun c1_1 => ?_)
  · -- 1 lt -> 18
    refine x_iconst dX9_hasTowns_18 ?_
    exact x_zret hQ (rI.mk (by first | rfl | omega | (rw [if_pos (by omega)]) | (rw [if_neg (by omega)])) rfl) (by decide) dX9_hasTowns_19
  · -- 1 lt -> 4
    refine x_il1 dX9_hasTowns_4 ?_
    refine x_iconst dX9_hasTowns_5 ?_
    refine x_al0 dX9_hasTowns_6 ?_
    refine x_getI fl_X9_68 (sh_1 hS) (lq_1 hS) dX9_hasTowns_7 ?_
    refine x_topI (a' := V 1 7) rfl ?_
    refine x_shl1 (by omega) (by omega) dX9_hasTowns_10 ?_
    refine x_icmp_ge (tgt := 18) dX9_hasTowns_11 (inr (by omega)) (inr (by omega)) (fun c11_2 => ?_) (fun c11_2 => ?_)
    · -- 11 ge -> 18
      refine x_iconst dX9_hasTowns_18 ?_
      exact x_zret hQ (rI.mk (by first | rfl | omega | (rw [if_pos (by omega)]) | (rw [if_neg (by omega)])) rfl) (by decide) dX9_hasTowns_19
    · -- 11 ge -> 14
      refine x_iconst dX9_hasTowns_14 ?_
      refine x_goto (tgt := 19) dX9_hasTowns_15 ?_
      exact x_zret hQ (rI.mk (by first | rfl | omega | (rw [if_pos (by omega)]) | (rw [if_neg (by omega)])) rfl) (by decide) dX9_hasTowns_19
set_option maxRecDepth 100000 in
set_option maxHeartbeats 4000000 in
theorem c_X9_hasBone {B : Bs} {S : Stt} {V : Va} (bone : Int) (hS : Stat S) (h55 : 0 ≤ (V 5 5) ∧ (V 5 5) ≤ 16) (hbone : InR bone) : C B yX9_hasBone cX9_hasBone 2 (some .boolean) 1 0 0 [vR B 1, vI bone] S V (rI S V (if cBoneOk V bone then 1 else 0)) := by
  refine C.of [some (vR B 1), some (vI bone)] ?_
  intro Γ hQ
  refine x_il1 dX9_hasBone_0 ?_
  refine x_if_lt (tgt := 19) dX9_hasBone_1 (inr (by omega)) (fun c1_1 => ?_) (fun c1_1 => ?_)
  · -- 1 lt -> 19
    refine x_iconst dX9_hasBone_19 ?_
    exact x_zret hQ (rI.mk (by first | rfl | (rw [if_pos (by simp only [cBoneOk]; omega)]) | (rw [if_neg (by simp only [cBoneOk]; omega)])) rfl) (by decide) dX9_hasBone_20
  · -- 1 lt -> 4
    refine x_il1 dX9_hasBone_4 ?_
    refine x_al0 dX9_hasBone_5 ?_
    refine x_getR fl_X9_24 (sh_1 hS) (lq_1 hS) (rf_1_3 hS) dX9_hasBone_6 ?_
    refine x_getI fl_X9_77 (sh_5 hS) (lq_5 hS) dX9_hasBone_9 ?_
    refine x_topI (a' := V 5 5) rfl ?_
    refine x_icmp_ge (tgt := 19) dX9_hasBone_12 (inr (by omega)) (inr (by omega)) (fun c12_2 => ?_) (fun c12_2 => ?_)
    · -- 12 ge -> 19
      refine x_iconst dX9_hasBone_19 ?_
      exact x_zret hQ (rI.mk (by first | rfl | (rw [if_pos (by simp only [cBoneOk]; omega)]) | (rw [if_neg (by simp only [cBoneOk]; omega)])) rfl) (by decide) dX9_hasBone_20
    · -- 12 ge -> 15
      refine x_iconst dX9_hasBone_15 ?_
      refine x_goto (tgt := 20) dX9_hasBone_16 ?_
      exact x_zret hQ (rI.mk (by first | rfl | (rw [if_pos (by simp only [cBoneOk]; omega)]) | (rw [if_neg (by simp only [cBoneOk]; omega)])) rfl) (by decide) dX9_hasBone_20
set_option maxRecDepth 100000 in
set_option maxHeartbeats 4000000 in
theorem c_X9_milesBetween {B : Bs} {S : Stt} {V : Va} (one : Int) (other : Int) (hS : Stat S) (hA2 : AB (V 2)) (hA3 : AB (V 3)) (h1 : 0 ≤ one ∧ one < 10) (h2 : 0 ≤ other ∧ other < 10) : C B yX9_milesBetween cX9_milesBetween 3 (some .int) 1 0 0 [vR B 1, vI one, vI other] S V (rI S V (cMiles V one other)) := by
  refine C.of [some (vR B 1), some (vI one), some (vI other)] ?_
  intro Γ hQ
  refine x_al0 dX9_milesBetween_0 ?_
  refine x_getR fl_X9_9 (sh_1 hS) (lq_1 hS) (rf_1_0 hS) dX9_milesBetween_1 ?_
  refine x_il1 dX9_milesBetween_4 ?_
  have hb1 := hA2 one
  refine x_iald (sh_2 hS) (lq_2 hS) (by omega) (by omega) dX9_milesBetween_5 ?_
  refine x_topI (a' := V 2 one) rfl ?_
  refine x_al0 dX9_milesBetween_6 ?_
  refine x_getR fl_X9_9 (sh_1 hS) (lq_1 hS) (rf_1_0 hS) dX9_milesBetween_7 ?_
  refine x_il2 dX9_milesBetween_10 ?_
  have hb2 := hA2 other
  refine x_iald (sh_2 hS) (lq_2 hS) (by omega) (by omega) dX9_milesBetween_11 ?_
  refine x_topI (a' := V 2 other) rfl ?_
  refine x_isub dX9_milesBetween_12 ?_
  refine x_mabs ml_X9_80 dX9_milesBetween_13 (inr (by omega)) ?_
  refine x_al0 dX9_milesBetween_16 ?_
  refine x_getR fl_X9_15 (sh_1 hS) (lq_1 hS) (rf_1_1 hS) dX9_milesBetween_17 ?_
  refine x_il1 dX9_milesBetween_20 ?_
  have hb3 := hA3 one
  refine x_iald (sh_3 hS) (lq_3 hS) (by omega) (by omega) dX9_milesBetween_21 ?_
  refine x_topI (a' := V 3 one) rfl ?_
  refine x_al0 dX9_milesBetween_22 ?_
  refine x_getR fl_X9_15 (sh_1 hS) (lq_1 hS) (rf_1_1 hS) dX9_milesBetween_23 ?_
  refine x_il2 dX9_milesBetween_26 ?_
  have hb4 := hA3 other
  refine x_iald (sh_3 hS) (lq_3 hS) (by omega) (by omega) dX9_milesBetween_27 ?_
  refine x_topI (a' := V 3 other) rfl ?_
  refine x_isub dX9_milesBetween_28 ?_
  refine x_mabs ml_X9_80 dX9_milesBetween_29 (inr (by omega)) ?_
  refine x_iadd dX9_milesBetween_32 ?_
  exact x_iret hQ (rI.mk (by first | rfl | omega | (rw [if_pos (by omega)]) | (rw [if_neg (by omega)])) rfl) dX9_milesBetween_33
set_option maxRecDepth 100000 in
set_option maxHeartbeats 4000000 in
theorem c_X9_proofsOf {B : Bs} {S : Stt} {V : Va} (bone : Int) (hS : Stat S) (h17 : 0 ≤ (V 1 7) ∧ (V 1 7) ≤ 10) (h10 : ∀ t, 0 ≤ (V 10) t ∧ (V 10) t < 65536) (hb : 0 ≤ bone ∧ bone < 16) : C B yX9_proofsOf cX9_proofsOf 4 (some .int) 1 0 0 [vR B 1, vI bone] S V (rI S V (cProofsOf V bone (V 1 7))) := by
  refine C.of [some (vR B 1), some (vI bone), none, none] ?_
  intro Γ hQ
  refine x_iconst dX9_proofsOf_0 ?_
  refine x_is2 dX9_proofsOf_1 ?_
  refine x_iconst dX9_proofsOf_2 ?_
  refine x_is3 dX9_proofsOf_3 ?_
  have lp4 : ∀ (N4 : Nat) (n : Int) (t : Int), (0 ≤ t ∧ t ≤ V 1 7) → (n = cProofsOf V bone t) → (V 1 7 - t).toNat < N4 → X Γ B RX9 "proofsOf" cX9_proofsOf 4 (some .int) 1 0 0 4 [some (vR B 1), some (vI bone), some (vI n), some (vI t)] [] 0 0 S V := by
    intro N4
    induction N4 with
    | zero => intro n t ht hn hN; exact absurd hN (Nat.not_lt_zero _)
    | succ N4 ih4 =>
      intro n t ht hn hN4
      have hh := h10 t
      refine x_il3 dX9_proofsOf_4 ?_
      refine x_al0 dX9_proofsOf_5 ?_
      refine x_getI fl_X9_68 (sh_1 hS) (lq_1 hS) dX9_proofsOf_6 ?_
      refine x_topI (a' := V 1 7) rfl ?_
      refine x_icmp_ge (tgt := 34) dX9_proofsOf_9 (inr (by omega)) (inr (by omega)) (fun c9_1 => ?_) (fun c9_1 => ?_)
      · -- 9 ge -> 34
        refine x_il2 dX9_proofsOf_34 ?_
        exact x_iret hQ (rI.mk (by rw [hn, show t = V 1 7 by omega]) rfl) dX9_proofsOf_35
      · -- 9 ge -> 12
        refine x_il2 dX9_proofsOf_12 ?_
        refine x_al0 dX9_proofsOf_13 ?_
        refine x_getR fl_X9_24 (sh_1 hS) (lq_1 hS) (rf_1_3 hS) dX9_proofsOf_14 ?_
        refine x_getR fl_X9_86 (sh_5 hS) (lq_5 hS) (rf_5_4 hS) dX9_proofsOf_17 ?_
        refine x_il3 dX9_proofsOf_20 ?_
        refine x_iald (sh_10 hS) (lq_10 hS) (by omega) (by omega) dX9_proofsOf_21 ?_
        refine x_topI (a' := V 10 t) rfl ?_
        refine x_il1 dX9_proofsOf_22 ?_
        refine x_ishr (inr (by omega)) (by omega) (by omega) dX9_proofsOf_23 ?_
        refine x_iconst dX9_proofsOf_24 ?_
        refine x_and1 dX9_proofsOf_25 ?_
        refine x_iadd dX9_proofsOf_26 ?_
        refine x_is2 dX9_proofsOf_27 ?_
        refine x_inc3 dX9_proofsOf_28 ?_
        refine x_goto (tgt := 4) dX9_proofsOf_31 ?_
        exact x_fg (ih4 (n + (((V 10 t) / p2 bone) % 2)) (t + 1) (by omega) (by simp only [cProofsOf]; rw [sumT_s _ ht.1, hn]; rfl) (by omega)) (And.intro rfl (And.intro rfl (And.intro rfl (And.intro rfl trivial))))
  exact x_fg (lp4 _ 0 0 (by omega) rfl (Nat.lt_succ_self _)) (And.intro rfl (And.intro rfl (And.intro rfl (And.intro rfl trivial))))
set_option maxRecDepth 100000 in
set_option maxHeartbeats 4000000 in
theorem c_X9_aboutTown {B : Bs} {S : Stt} {V : Va} (what : Int) (hS : Stat S) (h17 : 0 ≤ (V 1 7) ∧ (V 1 7) ≤ 10) (h55 : 0 ≤ (V 5 5) ∧ (V 5 5) ≤ 16) (h10 : ∀ t, 0 ≤ (V 10) t ∧ (V 10) t < 65536) (hA8 : AB (V 8)) (hw : 10 ≤ what ∧ what < 2147483648) : C B yX9_aboutTown cX9_aboutTown 4 (some .int) 2 0 0 [vR B 1, vI what] S V (rI S V (cAboutT V what)) := by
  refine C.of [some (vR B 1), some (vI what), none, none] ?_
  intro Γ hQ
  refine x_al0 dX9_aboutTown_0 ?_
  refine x_il1 dX9_aboutTown_1 ?_
  refine x_bipush dX9_aboutTown_2 ?_
  refine x_isub dX9_aboutTown_4 ?_
  refine x_cVi mm_X9_hasTown ml_X9_89 dX9_aboutTown_5 (c_X9_hasTown (what - 10) hS h17 (inr (by omega))) (sh_1 hS) (lq_1 hS) ?_
  refine x_ifb_eq (tgt := 27) dX9_aboutTown_8 (fun c8_1 => ?_) (fun c8_1 => ?_)
  · -- 8 eq -> 27
    refine x_il1 dX9_aboutTown_27 ?_
    refine x_bipush dX9_aboutTown_28 ?_
    refine x_icmp_lt (tgt := 44) dX9_aboutTown_30 (inr (by omega)) (inr (by decide)) (fun c30_2 => ?_) (fun c30_2 => ?_)
    · -- 30 lt -> 44
      refine x_bipush dX9_aboutTown_44 ?_
      exact x_iret hQ (rI.mk (by simp only [cAboutT]; rw [if_neg (by simp only [cTownOk] at *; omega), if_pos (by simp only [cTownOk] at *; omega)]) rfl) dX9_aboutTown_46
    · -- 30 lt -> 33
      refine x_al0 dX9_aboutTown_33 ?_
      refine x_il1 dX9_aboutTown_34 ?_
      refine x_bipush dX9_aboutTown_35 ?_
      refine x_isub dX9_aboutTown_37 ?_
      refine x_cVi mm_X9_hasTown ml_X9_89 dX9_aboutTown_38 (c_X9_hasTown (what - 20) hS h17 (inr (by omega))) (sh_1 hS) (lq_1 hS) ?_
      refine x_ifb_ne (tgt := 47) dX9_aboutTown_41 (fun c41_3 => ?_) (fun c41_3 => ?_)
      · -- 41 ne -> 47
        refine x_iconst dX9_aboutTown_47 ?_
        refine x_is2 dX9_aboutTown_48 ?_
        refine x_iconst dX9_aboutTown_49 ?_
        refine x_is3 dX9_aboutTown_50 ?_
        have lp51 : ∀ (N51 : Nat) (n : Int) (b : Int), (0 ≤ b ∧ b ≤ V 5 5) → (n = cBonesAt V (what - 20) b) → (V 5 5 - b).toNat < N51 → X Γ B RX9 "aboutTown" cX9_aboutTown 4 (some .int) 2 0 0 51 [some (vR B 1), some (vI what), some (vI n), some (vI b)] [] 0 0 S V := by
          intro N51
          induction N51 with
          | zero => intro n b hb hn hN; exact absurd hN (Nat.not_lt_zero _)
          | succ N51 ih51 =>
            intro n b hb hn hN51
            refine x_il3 dX9_aboutTown_51 ?_
            refine x_al0 dX9_aboutTown_52 ?_
            refine x_getR fl_X9_24 (sh_1 hS) (lq_1 hS) (rf_1_3 hS) dX9_aboutTown_53 ?_
            refine x_getI fl_X9_77 (sh_5 hS) (lq_5 hS) dX9_aboutTown_56 ?_
            refine x_topI (a' := V 5 5) rfl ?_
            refine x_icmp_ge (tgt := 87) dX9_aboutTown_59 (inr (by omega)) (inr (by omega)) (fun c59_4 => ?_) (fun c59_4 => ?_)
            · -- 59 ge -> 87
              refine x_il2 dX9_aboutTown_87 ?_
              exact x_iret hQ (rI.mk (by simp only [cAboutT]; rw [if_neg (by simp only [cTownOk] at *; omega), if_neg (by simp only [cTownOk] at *; omega), hn, show b = V 5 5 by omega]) rfl) dX9_aboutTown_88
            · -- 59 ge -> 62
              refine x_al0 dX9_aboutTown_62 ?_
              refine x_getR fl_X9_24 (sh_1 hS) (lq_1 hS) (rf_1_3 hS) dX9_aboutTown_63 ?_
              refine x_getR fl_X9_98 (sh_5 hS) (lq_5 hS) (rf_5_2 hS) dX9_aboutTown_66 ?_
              refine x_il3 dX9_aboutTown_69 ?_
              have hb5 := hA8 b
              refine x_iald (sh_8 hS) (lq_8 hS) (by omega) (by omega) dX9_aboutTown_70 ?_
              refine x_topI (a' := V 8 b) rfl ?_
              refine x_il1 dX9_aboutTown_71 ?_
              refine x_bipush dX9_aboutTown_72 ?_
              refine x_isub dX9_aboutTown_74 ?_
              refine x_icmp_ne (tgt := 81) dX9_aboutTown_75 (inr (by omega)) (inr (by omega)) (fun c75_6 => ?_) (fun c75_6 => ?_)
              · -- 75 ne -> 81
                refine x_inc3 dX9_aboutTown_81 ?_
                refine x_goto (tgt := 51) dX9_aboutTown_84 ?_
                exact x_fg (ih51 n (b + 1) (by omega) (by simp only [cBonesAt]; rw [sumT_s _ hb.1]; first | (rw [if_pos (by omega), hn]; rfl) | (rw [if_neg (by omega), hn, Int.add_zero]; rfl)) (by omega)) (And.intro rfl (And.intro rfl (And.intro rfl (And.intro rfl trivial))))
              · -- 75 ne -> 78
                refine x_inc2 dX9_aboutTown_78 ?_
                refine x_inc3 dX9_aboutTown_81 ?_
                refine x_goto (tgt := 51) dX9_aboutTown_84 ?_
                exact x_fg (ih51 (n + 1) (b + 1) (by omega) (by simp only [cBonesAt]; rw [sumT_s _ hb.1]; first | (rw [if_pos (by omega), hn]; rfl) | (rw [if_neg (by omega), hn, Int.add_zero]; rfl)) (by omega)) (And.intro rfl (And.intro rfl (And.intro rfl (And.intro rfl trivial))))
        exact x_fg (lp51 _ 0 0 (by omega) rfl (Nat.lt_succ_self _)) (And.intro rfl (And.intro rfl (And.intro rfl (And.intro rfl trivial))))
      · -- 41 ne -> 44
        refine x_bipush dX9_aboutTown_44 ?_
        exact x_iret hQ (rI.mk (by simp only [cAboutT]; rw [if_neg (by simp only [cTownOk] at *; omega), if_pos (by simp only [cTownOk] at *; omega)]) rfl) dX9_aboutTown_46
  · -- 8 eq -> 11
    refine x_al0 dX9_aboutTown_11 ?_
    refine x_getR fl_X9_24 (sh_1 hS) (lq_1 hS) (rf_1_3 hS) dX9_aboutTown_12 ?_
    refine x_getR fl_X9_86 (sh_5 hS) (lq_5 hS) (rf_5_4 hS) dX9_aboutTown_15 ?_
    refine x_il1 dX9_aboutTown_18 ?_
    refine x_bipush dX9_aboutTown_19 ?_
    refine x_isub dX9_aboutTown_21 ?_
    refine x_iald (sh_10 hS) (lq_10 hS) (by omega) (by omega) dX9_aboutTown_22 ?_
    refine x_topI (a' := V 10 (what - 10)) rfl ?_
    refine x_cSi mm_J6_bitCount_0f7a4 ml_X9_93 dX9_aboutTown_23 (c_J6_bitCount_0f7a4 (V 10 (what - 10)) (h10 _)) ?_
    exact x_iret hQ (rI.mk (by simp only [cAboutT]; rw [if_pos (by simp only [cTownOk] at *; omega)]) rfl) dX9_aboutTown_26
set_option maxRecDepth 100000 in
set_option maxHeartbeats 4000000 in
theorem c_X9_tellTown {B : Bs} {S : Stt} {V : Va} (x : Int) (y : Int) (hS : Stat S) (h17 : 0 ≤ (V 1 7) ∧ (V 1 7) ≤ 10) (hch : 0 ≤ (V 1 10) ∧ (V 1 10) ≤ 1000000) (hx : InR x) (hy : InR y) : C B yX9_tellTown cX9_tellTown 3 (some .int) 2 0 0 [vR B 1, vI x, vI y] S V (rI S (cTownF V x y) (if cTownC V x y then (V 1 7) else -1)) := by
  refine C.of [some (vR B 1), some (vI x), some (vI y)] ?_
  intro Γ hQ
  refine x_al0 dX9_tellTown_0 ?_
  refine x_getI fl_X9_68 (sh_1 hS) (lq_1 hS) dX9_tellTown_1 ?_
  refine x_topI (a' := V 1 7) rfl ?_
  refine x_bipush dX9_tellTown_4 ?_
  refine x_icmp_ge (tgt := 29) dX9_tellTown_6 (inr (by omega)) (inr (by decide)) (fun c6_1 => ?_) (fun c6_1 => ?_)
  · -- 6 ge -> 29
    refine x_iconst dX9_tellTown_29 ?_
    exact x_iret hQ (rI.mk (by first | (rw [if_pos (by simp only [cTownC, cTownOk, cBoneOk] at *; omega)]) | (rw [if_neg (by simp only [cTownC, cTownOk, cBoneOk] at *; omega)])) (by simp only [cTownF]; first | (rw [if_pos (by simp only [cTownC, cTownOk, cBoneOk] at *; omega)]) | (rw [if_neg (by simp only [cTownC, cTownOk, cBoneOk] at *; omega)]))) dX9_tellTown_30
  · -- 6 ge -> 9
    refine x_il1 dX9_tellTown_9 ?_
    refine x_iconst dX9_tellTown_10 ?_
    refine x_bipush dX9_tellTown_11 ?_
    refine x_cSNi mm_X10_within (nw_X9_101) dX9_tellTown_13 (c_X10_within x 0 99 (inr (by omega)) (inr (by decide)) (inr (by decide))) ?_
    refine x_ifb_eq (tgt := 29) dX9_tellTown_16 (fun c16_2 => ?_) (fun c16_2 => ?_)
    · -- 16 eq -> 29
      refine x_iconst dX9_tellTown_29 ?_
      exact x_iret hQ (rI.mk (by first | (rw [if_pos (by simp only [cTownC, cTownOk, cBoneOk] at *; omega)]) | (rw [if_neg (by simp only [cTownC, cTownOk, cBoneOk] at *; omega)])) (by simp only [cTownF]; first | (rw [if_pos (by simp only [cTownC, cTownOk, cBoneOk] at *; omega)]) | (rw [if_neg (by simp only [cTownC, cTownOk, cBoneOk] at *; omega)]))) dX9_tellTown_30
    · -- 16 eq -> 19
      refine x_il2 dX9_tellTown_19 ?_
      refine x_iconst dX9_tellTown_20 ?_
      refine x_bipush dX9_tellTown_21 ?_
      refine x_cSNi mm_X10_within (nw_X9_101) dX9_tellTown_23 (c_X10_within y 0 99 (inr (by omega)) (inr (by decide)) (inr (by decide))) ?_
      refine x_ifb_ne (tgt := 31) dX9_tellTown_26 (fun c26_3 => ?_) (fun c26_3 => ?_)
      · -- 26 ne -> 31
        refine x_al0 dX9_tellTown_31 ?_
        refine x_getR fl_X9_9 (sh_1 hS) (lq_1 hS) (rf_1_0 hS) dX9_tellTown_32 ?_
        refine x_al0 dX9_tellTown_35 ?_
        refine x_getI fl_X9_68 (sh_1 hS) (lq_1 hS) dX9_tellTown_36 ?_
        refine x_topI (a' := V 1 7) rfl ?_
        refine x_il1 dX9_tellTown_39 ?_
        refine x_iast (sh_2 hS) (lq_2 hS) (by omega) (by omega) dX9_tellTown_40 ?_
        refine x_mem (V' := (up V 2 (ua (V 2) (V 1 7) x))) rfl ?_
        refine x_al0 dX9_tellTown_41 ?_
        refine x_getR fl_X9_15 (sh_1 hS) (lq_1 hS) (rf_1_1 hS) dX9_tellTown_42 ?_
        refine x_al0 dX9_tellTown_45 ?_
        refine x_getI fl_X9_68 (sh_1 hS) (lq_1 hS) dX9_tellTown_46 ?_
        refine x_topI (a' := V 1 7) rfl ?_
        refine x_il2 dX9_tellTown_49 ?_
        refine x_iast (sh_3 hS) (lq_3 hS) (by omega) (by omega) dX9_tellTown_50 ?_
        refine x_mem (V' := (up (up V 2 (ua (V 2) (V 1 7) x)) 3 (ua (V 3) (V 1 7) y))) rfl ?_
        refine x_al0 dX9_tellTown_51 ?_
        refine x_dup dX9_tellTown_52 ?_
        refine x_getI fl_X9_74 (sh_1 hS) (lq_1 hS) dX9_tellTown_53 ?_
        refine x_topI (a' := V 1 10) rfl ?_
        refine x_iconst dX9_tellTown_56 ?_
        refine x_iadd dX9_tellTown_57 ?_
        refine x_putI fl_X9_74 (sh_1 hS) (lq_1 hS) dX9_tellTown_58 ?_
        refine x_mem (V' := (up (up (up V 1 (ua (V 1) 10 ((V 1 10) + 1))) 2 (ua (V 2) (V 1 7) x)) 3 (ua (V 3) (V 1 7) y))) (st2_c (by decide) (st2_c (by decide) rfl)) ?_
        refine x_al0 dX9_tellTown_61 ?_
        refine x_dup dX9_tellTown_62 ?_
        refine x_getI fl_X9_68 (sh_1 hS) (lq_1 hS) dX9_tellTown_63 ?_
        refine x_topI (a' := V 1 7) (show (ua (V 1) 10 ((V 1 10) + 1)) 7 = V 1 7 from (ua_ne (by decide))) ?_
        refine x_dup_x1 dX9_tellTown_66 ?_
        refine x_iconst dX9_tellTown_67 ?_
        refine x_iadd dX9_tellTown_68 ?_
        refine x_putI fl_X9_68 (sh_1 hS) (lq_1 hS) dX9_tellTown_69 ?_
        refine x_mem (V' := (up (up (up V 1 (ua (ua (V 1) 10 ((V 1 10) + 1)) 7 ((V 1 7) + 1))) 2 (ua (V 2) (V 1 7) x)) 3 (ua (V 3) (V 1 7) y))) (st2_c (by decide) (st2_c (by decide) (st2_up _ _ _ _ _))) ?_
        exact x_iret hQ (rI.mk (by first | (rw [if_pos (by simp only [cTownC, cTownOk, cBoneOk] at *; omega)]) | (rw [if_neg (by simp only [cTownC, cTownOk, cBoneOk] at *; omega)])) (by simp only [cTownF]; first | (rw [if_pos (by simp only [cTownC, cTownOk, cBoneOk] at *; omega)]) | (rw [if_neg (by simp only [cTownC, cTownOk, cBoneOk] at *; omega)]))) dX9_tellTown_72
      · -- 26 ne -> 29
        refine x_iconst dX9_tellTown_29 ?_
        exact x_iret hQ (rI.mk (by first | (rw [if_pos (by simp only [cTownC, cTownOk, cBoneOk] at *; omega)]) | (rw [if_neg (by simp only [cTownC, cTownOk, cBoneOk] at *; omega)])) (by simp only [cTownF]; first | (rw [if_pos (by simp only [cTownC, cTownOk, cBoneOk] at *; omega)]) | (rw [if_neg (by simp only [cTownC, cTownOk, cBoneOk] at *; omega)]))) dX9_tellTown_30
set_option maxRecDepth 100000 in
set_option maxHeartbeats 4000000 in
theorem c_X9_tellBone {B : Bs} {S : Stt} {V : Va} (sort : Int) (weight : Int) (owner : Int) (hS : Stat S) (h17 : 0 ≤ (V 1 7) ∧ (V 1 7) ≤ 10) (h55 : 0 ≤ (V 5 5) ∧ (V 5 5) ≤ 16) (hch : 0 ≤ (V 1 10) ∧ (V 1 10) ≤ 1000000) (hsort : InR sort) (hweight : InR weight) (howner : InR owner) : C B yX9_tellBone cX9_tellBone 5 (some .int) 2 0 0 [vR B 1, vI sort, vI weight, vI owner] S V (rI S (cBoneF V sort weight owner) (if cBoneC V sort weight owner then (V 5 5) else -1)) := by
  refine C.of [some (vR B 1), some (vI sort), some (vI weight), some (vI owner), none] ?_
  intro Γ hQ
  refine x_al0 dX9_tellBone_0 ?_
  refine x_getR fl_X9_24 (sh_1 hS) (lq_1 hS) (rf_1_3 hS) dX9_tellBone_1 ?_
  refine x_getI fl_X9_77 (sh_5 hS) (lq_5 hS) dX9_tellBone_4 ?_
  refine x_topI (a' := V 5 5) rfl ?_
  refine x_is4 dX9_tellBone_7 ?_
  refine x_il4 dX9_tellBone_9 ?_
  refine x_bipush dX9_tellBone_11 ?_
  refine x_icmp_ge (tgt := 45) dX9_tellBone_13 (inr (by omega)) (inr (by decide)) (fun c13_1 => ?_) (fun c13_1 => ?_)
  · -- 13 ge -> 45
    refine x_iconst dX9_tellBone_45 ?_
    exact x_iret hQ (rI.mk (by first | (rw [if_pos (by simp only [cBoneC, cTownOk, cBoneOk] at *; omega)]) | (rw [if_neg (by simp only [cBoneC, cTownOk, cBoneOk] at *; omega)])) (by simp only [cBoneF]; first | (rw [if_pos (by simp only [cBoneC, cTownOk, cBoneOk] at *; omega)]) | (rw [if_neg (by simp only [cBoneC, cTownOk, cBoneOk] at *; omega)]))) dX9_tellBone_46
  · -- 13 ge -> 16
    refine x_il1 dX9_tellBone_16 ?_
    refine x_iconst dX9_tellBone_17 ?_
    refine x_bipush dX9_tellBone_18 ?_
    refine x_cSNi mm_X10_within (nw_X9_101) dX9_tellBone_20 (c_X10_within sort 0 19 (inr (by omega)) (inr (by decide)) (inr (by decide))) ?_
    refine x_ifb_eq (tgt := 45) dX9_tellBone_23 (fun c23_2 => ?_) (fun c23_2 => ?_)
    · -- 23 eq -> 45
      refine x_iconst dX9_tellBone_45 ?_
      exact x_iret hQ (rI.mk (by first | (rw [if_pos (by simp only [cBoneC, cTownOk, cBoneOk] at *; omega)]) | (rw [if_neg (by simp only [cBoneC, cTownOk, cBoneOk] at *; omega)])) (by simp only [cBoneF]; first | (rw [if_pos (by simp only [cBoneC, cTownOk, cBoneOk] at *; omega)]) | (rw [if_neg (by simp only [cBoneC, cTownOk, cBoneOk] at *; omega)]))) dX9_tellBone_46
    · -- 23 eq -> 26
      refine x_il2 dX9_tellBone_26 ?_
      refine x_iconst dX9_tellBone_27 ?_
      refine x_sipush dX9_tellBone_28 ?_
      refine x_cSNi mm_X10_within (nw_X9_101) dX9_tellBone_31 (c_X10_within weight 1 999 (inr (by omega)) (inr (by decide)) (inr (by decide))) ?_
      refine x_ifb_eq (tgt := 45) dX9_tellBone_34 (fun c34_3 => ?_) (fun c34_3 => ?_)
      · -- 34 eq -> 45
        refine x_iconst dX9_tellBone_45 ?_
        exact x_iret hQ (rI.mk (by first | (rw [if_pos (by simp only [cBoneC, cTownOk, cBoneOk] at *; omega)]) | (rw [if_neg (by simp only [cBoneC, cTownOk, cBoneOk] at *; omega)])) (by simp only [cBoneF]; first | (rw [if_pos (by simp only [cBoneC, cTownOk, cBoneOk] at *; omega)]) | (rw [if_neg (by simp only [cBoneC, cTownOk, cBoneOk] at *; omega)]))) dX9_tellBone_46
      · -- 34 eq -> 37
        refine x_al0 dX9_tellBone_37 ?_
        refine x_il3 dX9_tellBone_38 ?_
        refine x_cVi mm_X9_hasTown ml_X9_89 dX9_tellBone_39 (c_X9_hasTown owner hS h17 (inr (by omega))) (sh_1 hS) (lq_1 hS) ?_
        refine x_ifb_ne (tgt := 47) dX9_tellBone_42 (fun c42_4 => ?_) (fun c42_4 => ?_)
        · -- 42 ne -> 47
          refine x_al0 dX9_tellBone_47 ?_
          refine x_getR fl_X9_18 (sh_1 hS) (lq_1 hS) (rf_1_2 hS) dX9_tellBone_48 ?_
          refine x_il4 dX9_tellBone_51 ?_
          refine x_il1 dX9_tellBone_53 ?_
          refine x_iast (sh_4 hS) (lq_4 hS) (by omega) (by omega) dX9_tellBone_54 ?_
          refine x_mem (V' := (up V 4 (ua (V 4) (V 5 5) sort))) rfl ?_
          refine x_al0 dX9_tellBone_55 ?_
          refine x_getR fl_X9_24 (sh_1 hS) (lq_1 hS) (rf_1_3 hS) dX9_tellBone_56 ?_
          refine x_getR fl_X9_105 (sh_5 hS) (lq_5 hS) (rf_5_0 hS) dX9_tellBone_59 ?_
          refine x_il4 dX9_tellBone_62 ?_
          refine x_il2 dX9_tellBone_64 ?_
          refine x_iast (sh_6 hS) (lq_6 hS) (by omega) (by omega) dX9_tellBone_65 ?_
          refine x_mem (V' := (up (up V 4 (ua (V 4) (V 5 5) sort)) 6 (ua (V 6) (V 5 5) weight))) rfl ?_
          refine x_al0 dX9_tellBone_66 ?_
          refine x_getR fl_X9_24 (sh_1 hS) (lq_1 hS) (rf_1_3 hS) dX9_tellBone_67 ?_
          refine x_getR fl_X9_108 (sh_5 hS) (lq_5 hS) (rf_5_1 hS) dX9_tellBone_70 ?_
          refine x_il4 dX9_tellBone_73 ?_
          refine x_il3 dX9_tellBone_75 ?_
          refine x_iast (sh_7 hS) (lq_7 hS) (by omega) (by omega) dX9_tellBone_76 ?_
          refine x_mem (V' := (up (up (up V 4 (ua (V 4) (V 5 5) sort)) 6 (ua (V 6) (V 5 5) weight)) 7 (ua (V 7) (V 5 5) owner))) rfl ?_
          refine x_al0 dX9_tellBone_77 ?_
          refine x_getR fl_X9_24 (sh_1 hS) (lq_1 hS) (rf_1_3 hS) dX9_tellBone_78 ?_
          refine x_getR fl_X9_98 (sh_5 hS) (lq_5 hS) (rf_5_2 hS) dX9_tellBone_81 ?_
          refine x_il4 dX9_tellBone_84 ?_
          refine x_il3 dX9_tellBone_86 ?_
          refine x_iast (sh_8 hS) (lq_8 hS) (by omega) (by omega) dX9_tellBone_87 ?_
          refine x_mem (V' := (up (up (up (up V 4 (ua (V 4) (V 5 5) sort)) 6 (ua (V 6) (V 5 5) weight)) 7 (ua (V 7) (V 5 5) owner)) 8 (ua (V 8) (V 5 5) owner))) rfl ?_
          refine x_al0 dX9_tellBone_88 ?_
          refine x_getR fl_X9_24 (sh_1 hS) (lq_1 hS) (rf_1_3 hS) dX9_tellBone_89 ?_
          refine x_getR fl_X9_111 (sh_5 hS) (lq_5 hS) (rf_5_3 hS) dX9_tellBone_92 ?_
          refine x_il4 dX9_tellBone_95 ?_
          refine x_iconst dX9_tellBone_97 ?_
          refine x_iast (sh_9 hS) (lq_9 hS) (by omega) (by omega) dX9_tellBone_98 ?_
          refine x_mem (V' := (up (up (up (up (up V 4 (ua (V 4) (V 5 5) sort)) 6 (ua (V 6) (V 5 5) weight)) 7 (ua (V 7) (V 5 5) owner)) 8 (ua (V 8) (V 5 5) owner)) 9 (ua (V 9) (V 5 5) (-1)))) rfl ?_
          refine x_al0 dX9_tellBone_99 ?_
          refine x_getR fl_X9_24 (sh_1 hS) (lq_1 hS) (rf_1_3 hS) dX9_tellBone_100 ?_
          refine x_dup dX9_tellBone_103 ?_
          refine x_getI fl_X9_77 (sh_5 hS) (lq_5 hS) dX9_tellBone_104 ?_
          refine x_topI (a' := V 5 5) rfl ?_
          refine x_iconst dX9_tellBone_107 ?_
          refine x_iadd dX9_tellBone_108 ?_
          refine x_putI fl_X9_77 (sh_5 hS) (lq_5 hS) dX9_tellBone_109 ?_
          refine x_mem (V' := (up (up (up (up (up (up V 4 (ua (V 4) (V 5 5) sort)) 5 (ua (V 5) 5 ((V 5 5) + 1))) 6 (ua (V 6) (V 5 5) weight)) 7 (ua (V 7) (V 5 5) owner)) 8 (ua (V 8) (V 5 5) owner)) 9 (ua (V 9) (V 5 5) (-1)))) (st2_c (by decide) (st2_c (by decide) (st2_c (by decide) (st2_c (by decide) rfl)))) ?_
          refine x_al0 dX9_tellBone_112 ?_
          refine x_dup dX9_tellBone_113 ?_
          refine x_getI fl_X9_74 (sh_1 hS) (lq_1 hS) dX9_tellBone_114 ?_
          refine x_topI (a' := V 1 10) rfl ?_
          refine x_iconst dX9_tellBone_117 ?_
          refine x_iadd dX9_tellBone_118 ?_
          refine x_putI fl_X9_74 (sh_1 hS) (lq_1 hS) dX9_tellBone_119 ?_
          refine x_mem (V' := (up (up (up (up (up (up (up V 1 (ua (V 1) 10 ((V 1 10) + 1))) 4 (ua (V 4) (V 5 5) sort)) 5 (ua (V 5) 5 ((V 5 5) + 1))) 6 (ua (V 6) (V 5 5) weight)) 7 (ua (V 7) (V 5 5) owner)) 8 (ua (V 8) (V 5 5) owner)) 9 (ua (V 9) (V 5 5) (-1)))) (st2_c (by decide) (st2_c (by decide) (st2_c (by decide) (st2_c (by decide) (st2_c (by decide) (st2_c (by decide) rfl)))))) ?_
          refine x_il4 dX9_tellBone_122 ?_
          exact x_iret hQ (rI.mk (by first | (rw [if_pos (by simp only [cBoneC, cTownOk, cBoneOk] at *; omega)]) | (rw [if_neg (by simp only [cBoneC, cTownOk, cBoneOk] at *; omega)])) (by simp only [cBoneF]; first | (rw [if_pos (by simp only [cBoneC, cTownOk, cBoneOk] at *; omega)]) | (rw [if_neg (by simp only [cBoneC, cTownOk, cBoneOk] at *; omega)]))) dX9_tellBone_124
        · -- 42 ne -> 45
          refine x_iconst dX9_tellBone_45 ?_
          exact x_iret hQ (rI.mk (by first | (rw [if_pos (by simp only [cBoneC, cTownOk, cBoneOk] at *; omega)]) | (rw [if_neg (by simp only [cBoneC, cTownOk, cBoneOk] at *; omega)])) (by simp only [cBoneF]; first | (rw [if_pos (by simp only [cBoneC, cTownOk, cBoneOk] at *; omega)]) | (rw [if_neg (by simp only [cBoneC, cTownOk, cBoneOk] at *; omega)]))) dX9_tellBone_46
set_option maxRecDepth 100000 in
set_option maxHeartbeats 4000000 in
theorem c_X9_remember {B : Bs} {S : Stt} {V : Va} (hS : Stat S) (h11 : 0 ≤ (V 11 1) ∧ (V 11 1) < 20 ∧ 0 ≤ (V 11 2) ∧ (V 11 2) ≤ 20) (h55 : 0 ≤ (V 5 5) ∧ (V 5 5) ≤ 16) (hch : 0 ≤ (V 1 10) ∧ (V 1 10) ≤ 1000000) : C B yX9_remember cX9_remember 1 none 3 0 0 [vR B 1] S V (rV S (cRem V)) := by
  refine C.of [some (vR B 1)] ?_
  intro Γ hQ
  refine x_al0 dX9_remember_0 ?_
  refine x_getR fl_X9_31 (sh_1 hS) (lq_1 hS) (rf_1_4 hS) dX9_remember_1 ?_
  refine x_al0 dX9_remember_4 ?_
  refine x_getR fl_X9_24 (sh_1 hS) (lq_1 hS) (rf_1_3 hS) dX9_remember_5 ?_
  refine x_cVv mm_X7_remember ml_X9_158 dX9_remember_8 (c_X7_remember hS h11 h55) (sh_11 hS) (lq_11 hS) ?_
  refine x_al0 dX9_remember_11 ?_
  refine x_dup dX9_remember_12 ?_
  refine x_getI fl_X9_74 (sh_1 hS) (lq_1 hS) dX9_remember_13 ?_
  refine x_topI (a' := V 1 10) (show ((cRem0 V) 1) 10 = V 1 10 from (by simp only [cRem0]; rw [up_ne (by omega), bcp_o (by omega)])) ?_
  refine x_iconst dX9_remember_16 ?_
  refine x_iadd dX9_remember_17 ?_
  refine x_putI fl_X9_74 (sh_1 hS) (lq_1 hS) dX9_remember_18 ?_
  refine x_mem (V' := (up (cRem0 V) 1 (ua ((cRem0 V) 1) 10 ((V 1 10) + 1)))) rfl ?_
  exact x_vret hQ (rV.mk (by simp only [cRem]; rw [show cRem0 V 1 = V 1 by simp only [cRem0]; rw [up_ne (by omega), bcp_o (by omega)]])) dX9_remember_21
set_option maxRecDepth 100000 in
set_option maxHeartbeats 4000000 in
theorem c_X9_tellProof {B : Bs} {S : Stt} {V : Va} (town : Int) (bone : Int) (hS : Stat S) (h17 : 0 ≤ (V 1 7) ∧ (V 1 7) ≤ 10) (h55 : 0 ≤ (V 5 5) ∧ (V 5 5) ≤ 16) (h11 : 0 ≤ (V 11 1) ∧ (V 11 1) < 20 ∧ 0 ≤ (V 11 2) ∧ (V 11 2) ≤ 20) (hch : 0 ≤ (V 1 10) ∧ (V 1 10) ≤ 1000000) (h10 : ∀ t, 0 ≤ (V 10) t ∧ (V 10) t < 65536) (htown : InR town) (hbone : InR bone) : C B yX9_tellProof cX9_tellProof 3 (some .boolean) 4 0 0 [vR B 1, vI town, vI bone] S V (rI S (cProveF V town bone) (if cProveC V town bone then 1 else 0)) := by
  refine C.of [some (vR B 1), some (vI town), some (vI bone)] ?_
  intro Γ hQ
  have hh := h10 town
  refine x_al0 dX9_tellProof_0 ?_
  refine x_il1 dX9_tellProof_1 ?_
  refine x_cVi mm_X9_hasTown ml_X9_89 dX9_tellProof_2 (c_X9_hasTown town hS h17 (inr (by omega))) (sh_1 hS) (lq_1 hS) ?_
  refine x_ifb_eq (tgt := 32) dX9_tellProof_5 (fun c5_1 => ?_) (fun c5_1 => ?_)
  · -- 5 eq -> 32
    refine x_iconst dX9_tellProof_32 ?_
    exact x_zret hQ (rI.mk (by first | (rw [if_pos (by simp only [cProveC, cTownOk, cBoneOk] at *; omega)]) | (rw [if_neg (by simp only [cProveC, cTownOk, cBoneOk] at *; omega)])) (by simp only [cProveF]; first | (rw [if_pos (by simp only [cProveC, cTownOk, cBoneOk] at *; omega)]) | (rw [if_neg (by simp only [cProveC, cTownOk, cBoneOk] at *; omega)]))) (by decide) dX9_tellProof_33
  · -- 5 eq -> 8
    refine x_al0 dX9_tellProof_8 ?_
    refine x_il2 dX9_tellProof_9 ?_
    refine x_cVi mm_X9_hasBone ml_X9_114 dX9_tellProof_10 (c_X9_hasBone bone hS h55 (inr (by omega))) (sh_1 hS) (lq_1 hS) ?_
    refine x_ifb_eq (tgt := 32) dX9_tellProof_13 (fun c13_2 => ?_) (fun c13_2 => ?_)
    · -- 13 eq -> 32
      refine x_iconst dX9_tellProof_32 ?_
      exact x_zret hQ (rI.mk (by first | (rw [if_pos (by simp only [cProveC, cTownOk, cBoneOk] at *; omega)]) | (rw [if_neg (by simp only [cProveC, cTownOk, cBoneOk] at *; omega)])) (by simp only [cProveF]; first | (rw [if_pos (by simp only [cProveC, cTownOk, cBoneOk] at *; omega)]) | (rw [if_neg (by simp only [cProveC, cTownOk, cBoneOk] at *; omega)]))) (by decide) dX9_tellProof_33
    · -- 13 eq -> 16
      refine x_al0 dX9_tellProof_16 ?_
      refine x_getR fl_X9_24 (sh_1 hS) (lq_1 hS) (rf_1_3 hS) dX9_tellProof_17 ?_
      refine x_getR fl_X9_86 (sh_5 hS) (lq_5 hS) (rf_5_4 hS) dX9_tellProof_20 ?_
      refine x_il1 dX9_tellProof_23 ?_
      refine x_iald (sh_10 hS) (lq_10 hS) (by omega) (by omega) dX9_tellProof_24 ?_
      refine x_topI (a' := V 10 town) rfl ?_
      refine x_il2 dX9_tellProof_25 ?_
      refine x_ishr (inr (by omega)) (by omega) (by omega) dX9_tellProof_26 ?_
      refine x_iconst dX9_tellProof_27 ?_
      refine x_and1 dX9_tellProof_28 ?_
      refine x_if_eq (tgt := 34) dX9_tellProof_29 (inr (by omega)) (fun c29_3 => ?_) (fun c29_3 => ?_)
      · -- 29 eq -> 34
        refine x_al0 dX9_tellProof_34 ?_
        refine x_cVv mm_X9_remember ml_X9_117 dX9_tellProof_35 (c_X9_remember hS h11 h55 hch) (sh_1 hS) (lq_1 hS) ?_
        refine x_al0 dX9_tellProof_38 ?_
        refine x_getR fl_X9_24 (sh_1 hS) (lq_1 hS) (rf_1_3 hS) dX9_tellProof_39 ?_
        refine x_getR fl_X9_86 (sh_5 hS) (lq_5 hS) (rf_5_4 hS) dX9_tellProof_42 ?_
        refine x_il1 dX9_tellProof_45 ?_
        refine x_dup2 dX9_tellProof_46 ?_
        refine x_iald (sh_10 hS) (lq_10 hS) (by omega) (by omega) dX9_tellProof_47 ?_
        refine x_topI (a' := V 10 town) (show ((cRem V) 10) town = V 10 town from (by rw [cRem_o h11.1 h11.2.1 (by omega)])) ?_
        refine x_iconst dX9_tellProof_48 ?_
        refine x_il2 dX9_tellProof_49 ?_
        refine x_shl1 (by omega) (by omega) dX9_tellProof_50 ?_
        refine x_ior (by omega) (Int.le_of_lt (p2_pos _)) dX9_tellProof_51 ?_
        refine x_iast (sh_10 hS) (lq_10 hS) (by omega) (by omega) dX9_tellProof_52 ?_
        refine x_mem (V' := (up (cRem V) 10 (ua ((cRem V) 10) town (bor (V 10 town) (p2 bone))))) rfl ?_
        refine x_iconst dX9_tellProof_53 ?_
        exact x_zret hQ (rI.mk (by first | (rw [if_pos (by simp only [cProveC, cTownOk, cBoneOk] at *; omega)]) | (rw [if_neg (by simp only [cProveC, cTownOk, cBoneOk] at *; omega)])) (by simp only [cProveF]; first | (rw [if_pos (by simp only [cProveC, cTownOk, cBoneOk] at *; omega)]) | (rw [if_neg (by simp only [cProveC, cTownOk, cBoneOk] at *; omega)]))) (by decide) dX9_tellProof_54
      · -- 29 eq -> 32
        refine x_iconst dX9_tellProof_32 ?_
        exact x_zret hQ (rI.mk (by first | (rw [if_pos (by simp only [cProveC, cTownOk, cBoneOk] at *; omega)]) | (rw [if_neg (by simp only [cProveC, cTownOk, cBoneOk] at *; omega)])) (by simp only [cProveF]; first | (rw [if_pos (by simp only [cProveC, cTownOk, cBoneOk] at *; omega)]) | (rw [if_neg (by simp only [cProveC, cTownOk, cBoneOk] at *; omega)]))) (by decide) dX9_tellProof_33
set_option maxRecDepth 100000 in
set_option maxHeartbeats 4000000 in
theorem c_X9_ruleBy {B : Bs} {S : Stt} {V : Va} (text : Int) (hS : Stat S) (h18 : 0 ≤ (V 1 8) ∧ (V 1 8) ≤ 4) (hch : 0 ≤ (V 1 10) ∧ (V 1 10) ≤ 1000000) (htext : InR text) : C B yX9_ruleBy cX9_ruleBy 2 (some .boolean) 1 0 0 [vR B 1, vI text] S V (rI S (up V 1 (if -1 ≤ text ∧ text < (V 1 8) then ua (ua (V 1) 9 text) 10 ((V 1 10) + 1) else (V 1))) (if -1 ≤ text ∧ text < (V 1 8) then 1 else 0)) := by
  refine C.of [some (vR B 1), some (vI text)] ?_
  intro Γ hQ
  refine x_il1 dX9_ruleBy_0 ?_
  refine x_iconst dX9_ruleBy_1 ?_
  refine x_icmp_lt (tgt := 13) dX9_ruleBy_2 (inr (by omega)) (inr (by decide)) (fun c2_1 => ?_) (fun c2_1 => ?_)
  · -- 2 lt -> 13
    refine x_iconst dX9_ruleBy_13 ?_
    exact x_zret hQ (rI.mk (by first | (rw [if_pos (by omega)]) | (rw [if_neg (by omega)])) (by first | (rw [if_pos (by omega)]) | (rw [if_neg (by omega), up_self]))) (by decide) dX9_ruleBy_14
  · -- 2 lt -> 5
    refine x_il1 dX9_ruleBy_5 ?_
    refine x_al0 dX9_ruleBy_6 ?_
    refine x_getI fl_X9_71 (sh_1 hS) (lq_1 hS) dX9_ruleBy_7 ?_
    refine x_topI (a' := V 1 8) rfl ?_
    refine x_icmp_lt (tgt := 15) dX9_ruleBy_10 (inr (by omega)) (inr (by omega)) (fun c10_2 => ?_) (fun c10_2 => ?_)
    · -- 10 lt -> 15
      refine x_al0 dX9_ruleBy_15 ?_
      refine x_il1 dX9_ruleBy_16 ?_
      refine x_putI fl_X9_48 (sh_1 hS) (lq_1 hS) dX9_ruleBy_17 ?_
      refine x_mem (V' := (up V 1 (ua (V 1) 9 text))) rfl ?_
      refine x_al0 dX9_ruleBy_20 ?_
      refine x_dup dX9_ruleBy_21 ?_
      refine x_getI fl_X9_74 (sh_1 hS) (lq_1 hS) dX9_ruleBy_22 ?_
      refine x_topI (a' := V 1 10) (show (ua (V 1) 9 text) 10 = V 1 10 from (ua_ne (by decide))) ?_
      refine x_iconst dX9_ruleBy_25 ?_
      refine x_iadd dX9_ruleBy_26 ?_
      refine x_putI fl_X9_74 (sh_1 hS) (lq_1 hS) dX9_ruleBy_27 ?_
      refine x_mem (V' := (up V 1 (ua (ua (V 1) 9 text) 10 ((V 1 10) + 1)))) (st2_up _ _ _ _ _) ?_
      refine x_iconst dX9_ruleBy_30 ?_
      exact x_zret hQ (rI.mk (by first | (rw [if_pos (by omega)]) | (rw [if_neg (by omega)])) (by first | (rw [if_pos (by omega)]) | (rw [if_neg (by omega), up_self]))) (by decide) dX9_ruleBy_31
    · -- 10 lt -> 13
      refine x_iconst dX9_ruleBy_13 ?_
      exact x_zret hQ (rI.mk (by first | (rw [if_pos (by omega)]) | (rw [if_neg (by omega)])) (by first | (rw [if_pos (by omega)]) | (rw [if_neg (by omega), up_self]))) (by decide) dX9_ruleBy_14
set_option maxRecDepth 100000 in
set_option maxHeartbeats 4000000 in
theorem c_X9_lendTo {B : Bs} {S : Stt} {V : Va} (bone : Int) (town : Int) (years : Int) (hS : Stat S) (h17 : 0 ≤ (V 1 7) ∧ (V 1 7) ≤ 10) (h55 : 0 ≤ (V 5 5) ∧ (V 5 5) ≤ 16) (h56 : 0 ≤ (V 5 6) ∧ (V 5 6) ≤ 999) (h11 : 0 ≤ (V 11 1) ∧ (V 11 1) < 20 ∧ 0 ≤ (V 11 2) ∧ (V 11 2) ≤ 20) (hch : 0 ≤ (V 1 10) ∧ (V 1 10) ≤ 1000000) (hA7 : AB (V 7)) (hA8 : AB (V 8)) (hA9 : AB (V 9)) (hbone : InR bone) (htown : InR town) (hyears : InR years) : C B yX9_lendTo cX9_lendTo 6 (some .int) 4 0 0 [vR B 1, vI bone, vI town, vI years] S V (rI S (cLendF V bone town years) (if cLendC V bone town years then (V 5 6) + years else -1)) := by
  refine C.of [some (vR B 1), some (vI bone), some (vI town), some (vI years), none, none] ?_
  intro Γ hQ
  refine x_al0 dX9_lendTo_0 ?_
  refine x_il1 dX9_lendTo_1 ?_
  refine x_cVi mm_X9_hasBone ml_X9_114 dX9_lendTo_2 (c_X9_hasBone bone hS h55 (inr (by omega))) (sh_1 hS) (lq_1 hS) ?_
  refine x_ifb_eq (tgt := 26) dX9_lendTo_5 (fun c5_1 => ?_) (fun c5_1 => ?_)
  · -- 5 eq -> 26
    refine x_iconst dX9_lendTo_26 ?_
    exact x_iret hQ (rI.mk (by first | (rw [if_pos (by simp only [cLendC, cTownOk, cBoneOk] at *; omega)]) | (rw [if_neg (by simp only [cLendC, cTownOk, cBoneOk] at *; omega)])) (by simp only [cLendF]; first | (rw [if_pos (by simp only [cLendC, cTownOk, cBoneOk] at *; omega)]) | (rw [if_neg (by simp only [cLendC, cTownOk, cBoneOk] at *; omega)]))) dX9_lendTo_27
  · -- 5 eq -> 8
    refine x_al0 dX9_lendTo_8 ?_
    refine x_il2 dX9_lendTo_9 ?_
    refine x_cVi mm_X9_hasTown ml_X9_89 dX9_lendTo_10 (c_X9_hasTown town hS h17 (inr (by omega))) (sh_1 hS) (lq_1 hS) ?_
    refine x_ifb_eq (tgt := 26) dX9_lendTo_13 (fun c13_2 => ?_) (fun c13_2 => ?_)
    · -- 13 eq -> 26
      refine x_iconst dX9_lendTo_26 ?_
      exact x_iret hQ (rI.mk (by first | (rw [if_pos (by simp only [cLendC, cTownOk, cBoneOk] at *; omega)]) | (rw [if_neg (by simp only [cLendC, cTownOk, cBoneOk] at *; omega)])) (by simp only [cLendF]; first | (rw [if_pos (by simp only [cLendC, cTownOk, cBoneOk] at *; omega)]) | (rw [if_neg (by simp only [cLendC, cTownOk, cBoneOk] at *; omega)]))) dX9_lendTo_27
    · -- 13 eq -> 16
      refine x_il3 dX9_lendTo_16 ?_
      refine x_iconst dX9_lendTo_17 ?_
      refine x_bipush dX9_lendTo_18 ?_
      refine x_cSNi mm_X10_within (nw_X9_101) dX9_lendTo_20 (c_X10_within years 1 99 (inr (by omega)) (inr (by decide)) (inr (by decide))) ?_
      refine x_ifb_ne (tgt := 28) dX9_lendTo_23 (fun c23_3 => ?_) (fun c23_3 => ?_)
      · -- 23 ne -> 28
        refine x_al0 dX9_lendTo_28 ?_
        refine x_getR fl_X9_24 (sh_1 hS) (lq_1 hS) (rf_1_3 hS) dX9_lendTo_29 ?_
        refine x_getI fl_X9_120 (sh_5 hS) (lq_5 hS) dX9_lendTo_32 ?_
        refine x_topI (a' := V 5 6) rfl ?_
        refine x_il3 dX9_lendTo_35 ?_
        refine x_iadd dX9_lendTo_36 ?_
        refine x_is4 dX9_lendTo_37 ?_
        refine x_al0 dX9_lendTo_39 ?_
        refine x_getR fl_X9_24 (sh_1 hS) (lq_1 hS) (rf_1_3 hS) dX9_lendTo_40 ?_
        refine x_getR fl_X9_98 (sh_5 hS) (lq_5 hS) (rf_5_2 hS) dX9_lendTo_43 ?_
        refine x_il1 dX9_lendTo_46 ?_
        have hb4 := hA8 bone
        refine x_iald (sh_8 hS) (lq_8 hS) (by omega) (by omega) dX9_lendTo_47 ?_
        refine x_topI (a' := V 8 bone) rfl ?_
        refine x_al0 dX9_lendTo_48 ?_
        refine x_getR fl_X9_24 (sh_1 hS) (lq_1 hS) (rf_1_3 hS) dX9_lendTo_49 ?_
        refine x_getR fl_X9_108 (sh_5 hS) (lq_5 hS) (rf_5_1 hS) dX9_lendTo_52 ?_
        refine x_il1 dX9_lendTo_55 ?_
        have hb5 := hA7 bone
        refine x_iald (sh_7 hS) (lq_7 hS) (by omega) (by omega) dX9_lendTo_56 ?_
        refine x_topI (a' := V 7 bone) rfl ?_
        refine x_icmp_ne (tgt := 77) dX9_lendTo_57 (inr (by omega)) (inr (by omega)) (fun c57_6 => ?_) (fun c57_6 => ?_)
        · -- 57 ne -> 77
          refine x_iconst dX9_lendTo_77 ?_
          refine x_is5 dX9_lendTo_78 ?_
          refine x_il5 dX9_lendTo_80 ?_
          refine x_if_eq (tgt := 106) dX9_lendTo_82 (inr (by decide)) (fun c82_7 => ?_) (fun c82_7 => ?_)
          · -- 82 eq -> 106
            refine x_iconst dX9_lendTo_106 ?_
            exact x_iret hQ (rI.mk (by first | (rw [if_pos (by simp only [cLendC, cTownOk, cBoneOk] at *; omega)]) | (rw [if_neg (by simp only [cLendC, cTownOk, cBoneOk] at *; omega)])) (by simp only [cLendF]; first | (rw [if_pos (by simp only [cLendC, cTownOk, cBoneOk] at *; omega)]) | (rw [if_neg (by simp only [cLendC, cTownOk, cBoneOk] at *; omega)]))) dX9_lendTo_107
          · exact absurd c82_7 (by decide)
        · -- 57 ne -> 60
          refine x_al0 dX9_lendTo_60 ?_
          refine x_getR fl_X9_24 (sh_1 hS) (lq_1 hS) (rf_1_3 hS) dX9_lendTo_61 ?_
          refine x_getR fl_X9_111 (sh_5 hS) (lq_5 hS) (rf_5_3 hS) dX9_lendTo_64 ?_
          refine x_il1 dX9_lendTo_67 ?_
          have hb8 := hA9 bone
          refine x_iald (sh_9 hS) (lq_9 hS) (by omega) (by omega) dX9_lendTo_68 ?_
          refine x_topI (a' := V 9 bone) rfl ?_
          refine x_iconst dX9_lendTo_69 ?_
          refine x_icmp_ne (tgt := 77) dX9_lendTo_70 (inr (by omega)) (inr (by decide)) (fun c70_9 => ?_) (fun c70_9 => ?_)
          · -- 70 ne -> 77
            refine x_iconst dX9_lendTo_77 ?_
            refine x_is5 dX9_lendTo_78 ?_
            refine x_il5 dX9_lendTo_80 ?_
            refine x_if_eq (tgt := 106) dX9_lendTo_82 (inr (by decide)) (fun c82_10 => ?_) (fun c82_10 => ?_)
            · -- 82 eq -> 106
              refine x_iconst dX9_lendTo_106 ?_
              exact x_iret hQ (rI.mk (by first | (rw [if_pos (by simp only [cLendC, cTownOk, cBoneOk] at *; omega)]) | (rw [if_neg (by simp only [cLendC, cTownOk, cBoneOk] at *; omega)])) (by simp only [cLendF]; first | (rw [if_pos (by simp only [cLendC, cTownOk, cBoneOk] at *; omega)]) | (rw [if_neg (by simp only [cLendC, cTownOk, cBoneOk] at *; omega)]))) dX9_lendTo_107
            · exact absurd c82_10 (by decide)
          · -- 70 ne -> 73
            refine x_iconst dX9_lendTo_73 ?_
            refine x_goto (tgt := 78) dX9_lendTo_74 ?_
            refine x_is5 dX9_lendTo_78 ?_
            refine x_il5 dX9_lendTo_80 ?_
            refine x_if_eq (tgt := 106) dX9_lendTo_82 (inr (by decide)) (fun c82_11 => ?_) (fun c82_11 => ?_)
            · exact absurd c82_11 (by decide)
            · -- 82 eq -> 85
              refine x_al0 dX9_lendTo_85 ?_
              refine x_getR fl_X9_24 (sh_1 hS) (lq_1 hS) (rf_1_3 hS) dX9_lendTo_86 ?_
              refine x_getR fl_X9_98 (sh_5 hS) (lq_5 hS) (rf_5_2 hS) dX9_lendTo_89 ?_
              refine x_il1 dX9_lendTo_92 ?_
              have hb12 := hA8 bone
              refine x_iald (sh_8 hS) (lq_8 hS) (by omega) (by omega) dX9_lendTo_93 ?_
              refine x_topI (a' := V 8 bone) rfl ?_
              refine x_il2 dX9_lendTo_94 ?_
              refine x_icmp_eq (tgt := 106) dX9_lendTo_95 (inr (by omega)) (inr (by omega)) (fun c95_13 => ?_) (fun c95_13 => ?_)
              · -- 95 eq -> 106
                refine x_iconst dX9_lendTo_106 ?_
                exact x_iret hQ (rI.mk (by first | (rw [if_pos (by simp only [cLendC, cTownOk, cBoneOk] at *; omega)]) | (rw [if_neg (by simp only [cLendC, cTownOk, cBoneOk] at *; omega)])) (by simp only [cLendF]; first | (rw [if_pos (by simp only [cLendC, cTownOk, cBoneOk] at *; omega)]) | (rw [if_neg (by simp only [cLendC, cTownOk, cBoneOk] at *; omega)]))) dX9_lendTo_107
              · -- 95 eq -> 98
                refine x_il4 dX9_lendTo_98 ?_
                refine x_sipush dX9_lendTo_100 ?_
                refine x_icmp_le (tgt := 108) dX9_lendTo_103 (inr (by omega)) (inr (by decide)) (fun c103_14 => ?_) (fun c103_14 => ?_)
                · -- 103 le -> 108
                  refine x_al0 dX9_lendTo_108 ?_
                  refine x_cVv mm_X9_remember ml_X9_117 dX9_lendTo_109 (c_X9_remember hS h11 h55 hch) (sh_1 hS) (lq_1 hS) ?_
                  refine x_al0 dX9_lendTo_112 ?_
                  refine x_getR fl_X9_24 (sh_1 hS) (lq_1 hS) (rf_1_3 hS) dX9_lendTo_113 ?_
                  refine x_getR fl_X9_98 (sh_5 hS) (lq_5 hS) (rf_5_2 hS) dX9_lendTo_116 ?_
                  refine x_il1 dX9_lendTo_119 ?_
                  refine x_il2 dX9_lendTo_120 ?_
                  refine x_iast (sh_8 hS) (lq_8 hS) (by omega) (by omega) dX9_lendTo_121 ?_
                  refine x_mem (V' := (up (cRem V) 8 (ua ((cRem V) 8) bone town))) rfl ?_
                  refine x_al0 dX9_lendTo_122 ?_
                  refine x_getR fl_X9_24 (sh_1 hS) (lq_1 hS) (rf_1_3 hS) dX9_lendTo_123 ?_
                  refine x_getR fl_X9_111 (sh_5 hS) (lq_5 hS) (rf_5_3 hS) dX9_lendTo_126 ?_
                  refine x_il1 dX9_lendTo_129 ?_
                  refine x_il4 dX9_lendTo_130 ?_
                  refine x_iast (sh_9 hS) (lq_9 hS) (by omega) (by omega) dX9_lendTo_132 ?_
                  refine x_mem (V' := (up (up (cRem V) 8 (ua ((cRem V) 8) bone town)) 9 (ua ((cRem V) 9) bone ((V 5 6) + years)))) rfl ?_
                  refine x_il4 dX9_lendTo_133 ?_
                  exact x_iret hQ (rI.mk (by first | (rw [if_pos (by simp only [cLendC, cTownOk, cBoneOk] at *; omega)]) | (rw [if_neg (by simp only [cLendC, cTownOk, cBoneOk] at *; omega)])) (by simp only [cLendF]; first | (rw [if_pos (by simp only [cLendC, cTownOk, cBoneOk] at *; omega)]) | (rw [if_neg (by simp only [cLendC, cTownOk, cBoneOk] at *; omega)]))) dX9_lendTo_135
                · -- 103 le -> 106
                  refine x_iconst dX9_lendTo_106 ?_
                  exact x_iret hQ (rI.mk (by first | (rw [if_pos (by simp only [cLendC, cTownOk, cBoneOk] at *; omega)]) | (rw [if_neg (by simp only [cLendC, cTownOk, cBoneOk] at *; omega)])) (by simp only [cLendF]; first | (rw [if_pos (by simp only [cLendC, cTownOk, cBoneOk] at *; omega)]) | (rw [if_neg (by simp only [cLendC, cTownOk, cBoneOk] at *; omega)]))) dX9_lendTo_107
      · -- 23 ne -> 26
        refine x_iconst dX9_lendTo_26 ?_
        exact x_iret hQ (rI.mk (by first | (rw [if_pos (by simp only [cLendC, cTownOk, cBoneOk] at *; omega)]) | (rw [if_neg (by simp only [cLendC, cTownOk, cBoneOk] at *; omega)])) (by simp only [cLendF]; first | (rw [if_pos (by simp only [cLendC, cTownOk, cBoneOk] at *; omega)]) | (rw [if_neg (by simp only [cLendC, cTownOk, cBoneOk] at *; omega)]))) dX9_lendTo_27
set_option maxRecDepth 100000 in
set_option maxHeartbeats 4000000 in
theorem c_X9_swapPlaces {B : Bs} {S : Stt} {V : Va} (one : Int) (other : Int) (hS : Stat S) (h55 : 0 ≤ (V 5 5) ∧ (V 5 5) ≤ 16) (h11 : 0 ≤ (V 11 1) ∧ (V 11 1) < 20 ∧ 0 ≤ (V 11 2) ∧ (V 11 2) ≤ 20) (hch : 0 ≤ (V 1 10) ∧ (V 1 10) ≤ 1000000) (hA8 : AB (V 8)) (hone : InR one) (hother : InR other) : C B yX9_swapPlaces cX9_swapPlaces 4 (some .boolean) 4 0 0 [vR B 1, vI one, vI other] S V (rI S (cSwapF V one other) (if cSwapC V one other then 1 else 0)) := by
  refine C.of [some (vR B 1), some (vI one), some (vI other), none] ?_
  intro Γ hQ
  refine x_al0 dX9_swapPlaces_0 ?_
  refine x_il1 dX9_swapPlaces_1 ?_
  refine x_cVi mm_X9_hasBone ml_X9_114 dX9_swapPlaces_2 (c_X9_hasBone one hS h55 (inr (by omega))) (sh_1 hS) (lq_1 hS) ?_
  refine x_ifb_eq (tgt := 37) dX9_swapPlaces_5 (fun c5_1 => ?_) (fun c5_1 => ?_)
  · -- 5 eq -> 37
    refine x_iconst dX9_swapPlaces_37 ?_
    exact x_zret hQ (rI.mk (by first | (rw [if_pos (by simp only [cSwapC, cTownOk, cBoneOk] at *; omega)]) | (rw [if_neg (by simp only [cSwapC, cTownOk, cBoneOk] at *; omega)])) (by simp only [cSwapF]; first | (rw [if_pos (by simp only [cSwapC, cTownOk, cBoneOk] at *; omega)]) | (rw [if_neg (by simp only [cSwapC, cTownOk, cBoneOk] at *; omega)]))) (by decide) dX9_swapPlaces_38
  · -- 5 eq -> 8
    refine x_al0 dX9_swapPlaces_8 ?_
    refine x_il2 dX9_swapPlaces_9 ?_
    refine x_cVi mm_X9_hasBone ml_X9_114 dX9_swapPlaces_10 (c_X9_hasBone other hS h55 (inr (by omega))) (sh_1 hS) (lq_1 hS) ?_
    refine x_ifb_eq (tgt := 37) dX9_swapPlaces_13 (fun c13_2 => ?_) (fun c13_2 => ?_)
    · -- 13 eq -> 37
      refine x_iconst dX9_swapPlaces_37 ?_
      exact x_zret hQ (rI.mk (by first | (rw [if_pos (by simp only [cSwapC, cTownOk, cBoneOk] at *; omega)]) | (rw [if_neg (by simp only [cSwapC, cTownOk, cBoneOk] at *; omega)])) (by simp only [cSwapF]; first | (rw [if_pos (by simp only [cSwapC, cTownOk, cBoneOk] at *; omega)]) | (rw [if_neg (by simp only [cSwapC, cTownOk, cBoneOk] at *; omega)]))) (by decide) dX9_swapPlaces_38
    · -- 13 eq -> 16
      refine x_al0 dX9_swapPlaces_16 ?_
      refine x_getR fl_X9_24 (sh_1 hS) (lq_1 hS) (rf_1_3 hS) dX9_swapPlaces_17 ?_
      refine x_getR fl_X9_98 (sh_5 hS) (lq_5 hS) (rf_5_2 hS) dX9_swapPlaces_20 ?_
      refine x_il1 dX9_swapPlaces_23 ?_
      have hb3 := hA8 one
      refine x_iald (sh_8 hS) (lq_8 hS) (by omega) (by omega) dX9_swapPlaces_24 ?_
      refine x_topI (a' := V 8 one) rfl ?_
      refine x_al0 dX9_swapPlaces_25 ?_
      refine x_getR fl_X9_24 (sh_1 hS) (lq_1 hS) (rf_1_3 hS) dX9_swapPlaces_26 ?_
      refine x_getR fl_X9_98 (sh_5 hS) (lq_5 hS) (rf_5_2 hS) dX9_swapPlaces_29 ?_
      refine x_il2 dX9_swapPlaces_32 ?_
      have hb4 := hA8 other
      refine x_iald (sh_8 hS) (lq_8 hS) (by omega) (by omega) dX9_swapPlaces_33 ?_
      refine x_topI (a' := V 8 other) rfl ?_
      refine x_icmp_ne (tgt := 39) dX9_swapPlaces_34 (inr (by omega)) (inr (by omega)) (fun c34_5 => ?_) (fun c34_5 => ?_)
      · -- 34 ne -> 39
        refine x_al0 dX9_swapPlaces_39 ?_
        refine x_cVv mm_X9_remember ml_X9_117 dX9_swapPlaces_40 (c_X9_remember hS h11 h55 hch) (sh_1 hS) (lq_1 hS) ?_
        refine x_al0 dX9_swapPlaces_43 ?_
        refine x_getR fl_X9_24 (sh_1 hS) (lq_1 hS) (rf_1_3 hS) dX9_swapPlaces_44 ?_
        refine x_getR fl_X9_98 (sh_5 hS) (lq_5 hS) (rf_5_2 hS) dX9_swapPlaces_47 ?_
        refine x_il1 dX9_swapPlaces_50 ?_
        have hb6 := hA8 one
        refine x_iald (sh_8 hS) (lq_8 hS) (by omega) (by omega) dX9_swapPlaces_51 ?_
        refine x_topI (a' := V 8 one) (show ((cRem V) 8) one = V 8 one from (by rw [cRem_o h11.1 h11.2.1 (by omega)])) ?_
        refine x_is3 dX9_swapPlaces_52 ?_
        refine x_al0 dX9_swapPlaces_53 ?_
        refine x_getR fl_X9_24 (sh_1 hS) (lq_1 hS) (rf_1_3 hS) dX9_swapPlaces_54 ?_
        refine x_getR fl_X9_98 (sh_5 hS) (lq_5 hS) (rf_5_2 hS) dX9_swapPlaces_57 ?_
        refine x_il1 dX9_swapPlaces_60 ?_
        refine x_al0 dX9_swapPlaces_61 ?_
        refine x_getR fl_X9_24 (sh_1 hS) (lq_1 hS) (rf_1_3 hS) dX9_swapPlaces_62 ?_
        refine x_getR fl_X9_98 (sh_5 hS) (lq_5 hS) (rf_5_2 hS) dX9_swapPlaces_65 ?_
        refine x_il2 dX9_swapPlaces_68 ?_
        have hb7 := hA8 other
        refine x_iald (sh_8 hS) (lq_8 hS) (by omega) (by omega) dX9_swapPlaces_69 ?_
        refine x_topI (a' := V 8 other) (show ((cRem V) 8) other = V 8 other from (by rw [cRem_o h11.1 h11.2.1 (by omega)])) ?_
        refine x_iast (sh_8 hS) (lq_8 hS) (by omega) (by omega) dX9_swapPlaces_70 ?_
        refine x_mem (V' := (up (cRem V) 8 (ua ((cRem V) 8) one (V 8 other)))) rfl ?_
        refine x_al0 dX9_swapPlaces_71 ?_
        refine x_getR fl_X9_24 (sh_1 hS) (lq_1 hS) (rf_1_3 hS) dX9_swapPlaces_72 ?_
        refine x_getR fl_X9_98 (sh_5 hS) (lq_5 hS) (rf_5_2 hS) dX9_swapPlaces_75 ?_
        refine x_il2 dX9_swapPlaces_78 ?_
        refine x_il3 dX9_swapPlaces_79 ?_
        refine x_iast (sh_8 hS) (lq_8 hS) (by omega) (by omega) dX9_swapPlaces_80 ?_
        refine x_mem (V' := (up (cRem V) 8 (ua (ua ((cRem V) 8) one (V 8 other)) other (V 8 one)))) (st2_up _ _ _ _ _) ?_
        refine x_iconst dX9_swapPlaces_81 ?_
        exact x_zret hQ (rI.mk (by first | (rw [if_pos (by simp only [cSwapC, cTownOk, cBoneOk] at *; omega)]) | (rw [if_neg (by simp only [cSwapC, cTownOk, cBoneOk] at *; omega)])) (by simp only [cSwapF]; first | (rw [if_pos (by simp only [cSwapC, cTownOk, cBoneOk] at *; omega)]) | (rw [if_neg (by simp only [cSwapC, cTownOk, cBoneOk] at *; omega)]))) (by decide) dX9_swapPlaces_82
      · -- 34 ne -> 37
        refine x_iconst dX9_swapPlaces_37 ?_
        exact x_zret hQ (rI.mk (by first | (rw [if_pos (by simp only [cSwapC, cTownOk, cBoneOk] at *; omega)]) | (rw [if_neg (by simp only [cSwapC, cTownOk, cBoneOk] at *; omega)])) (by simp only [cSwapF]; first | (rw [if_pos (by simp only [cSwapC, cTownOk, cBoneOk] at *; omega)]) | (rw [if_neg (by simp only [cSwapC, cTownOk, cBoneOk] at *; omega)]))) (by decide) dX9_swapPlaces_38
set_option maxRecDepth 100000 in
set_option maxHeartbeats 4000000 in
theorem c_X9_stealTo {B : Bs} {S : Stt} {V : Va} (bone : Int) (town : Int) (hS : Stat S) (h17 : 0 ≤ (V 1 7) ∧ (V 1 7) ≤ 10) (h55 : 0 ≤ (V 5 5) ∧ (V 5 5) ≤ 16) (h11 : 0 ≤ (V 11 1) ∧ (V 11 1) < 20 ∧ 0 ≤ (V 11 2) ∧ (V 11 2) ≤ 20) (hch : 0 ≤ (V 1 10) ∧ (V 1 10) ≤ 1000000) (hA8 : AB (V 8)) (hbone : InR bone) (htown : InR town) : C B yX9_stealTo cX9_stealTo 3 (some .boolean) 4 0 0 [vR B 1, vI bone, vI town] S V (rI S (cStealF V bone town) (if cStealC V bone town then 1 else 0)) := by
  refine C.of [some (vR B 1), some (vI bone), some (vI town)] ?_
  intro Γ hQ
  refine x_al0 dX9_stealTo_0 ?_
  refine x_il1 dX9_stealTo_1 ?_
  refine x_cVi mm_X9_hasBone ml_X9_114 dX9_stealTo_2 (c_X9_hasBone bone hS h55 (inr (by omega))) (sh_1 hS) (lq_1 hS) ?_
  refine x_ifb_eq (tgt := 29) dX9_stealTo_5 (fun c5_1 => ?_) (fun c5_1 => ?_)
  · -- 5 eq -> 29
    refine x_iconst dX9_stealTo_29 ?_
    exact x_zret hQ (rI.mk (by first | (rw [if_pos (by simp only [cStealC, cTownOk, cBoneOk] at *; omega)]) | (rw [if_neg (by simp only [cStealC, cTownOk, cBoneOk] at *; omega)])) (by simp only [cStealF]; first | (rw [if_pos (by simp only [cStealC, cTownOk, cBoneOk] at *; omega)]) | (rw [if_neg (by simp only [cStealC, cTownOk, cBoneOk] at *; omega)]))) (by decide) dX9_stealTo_30
  · -- 5 eq -> 8
    refine x_al0 dX9_stealTo_8 ?_
    refine x_il2 dX9_stealTo_9 ?_
    refine x_cVi mm_X9_hasTown ml_X9_89 dX9_stealTo_10 (c_X9_hasTown town hS h17 (inr (by omega))) (sh_1 hS) (lq_1 hS) ?_
    refine x_ifb_eq (tgt := 29) dX9_stealTo_13 (fun c13_2 => ?_) (fun c13_2 => ?_)
    · -- 13 eq -> 29
      refine x_iconst dX9_stealTo_29 ?_
      exact x_zret hQ (rI.mk (by first | (rw [if_pos (by simp only [cStealC, cTownOk, cBoneOk] at *; omega)]) | (rw [if_neg (by simp only [cStealC, cTownOk, cBoneOk] at *; omega)])) (by simp only [cStealF]; first | (rw [if_pos (by simp only [cStealC, cTownOk, cBoneOk] at *; omega)]) | (rw [if_neg (by simp only [cStealC, cTownOk, cBoneOk] at *; omega)]))) (by decide) dX9_stealTo_30
    · -- 13 eq -> 16
      refine x_al0 dX9_stealTo_16 ?_
      refine x_getR fl_X9_24 (sh_1 hS) (lq_1 hS) (rf_1_3 hS) dX9_stealTo_17 ?_
      refine x_getR fl_X9_98 (sh_5 hS) (lq_5 hS) (rf_5_2 hS) dX9_stealTo_20 ?_
      refine x_il1 dX9_stealTo_23 ?_
      have hb3 := hA8 bone
      refine x_iald (sh_8 hS) (lq_8 hS) (by omega) (by omega) dX9_stealTo_24 ?_
      refine x_topI (a' := V 8 bone) rfl ?_
      refine x_il2 dX9_stealTo_25 ?_
      refine x_icmp_ne (tgt := 31) dX9_stealTo_26 (inr (by omega)) (inr (by omega)) (fun c26_4 => ?_) (fun c26_4 => ?_)
      · -- 26 ne -> 31
        refine x_al0 dX9_stealTo_31 ?_
        refine x_cVv mm_X9_remember ml_X9_117 dX9_stealTo_32 (c_X9_remember hS h11 h55 hch) (sh_1 hS) (lq_1 hS) ?_
        refine x_al0 dX9_stealTo_35 ?_
        refine x_getR fl_X9_24 (sh_1 hS) (lq_1 hS) (rf_1_3 hS) dX9_stealTo_36 ?_
        refine x_getR fl_X9_98 (sh_5 hS) (lq_5 hS) (rf_5_2 hS) dX9_stealTo_39 ?_
        refine x_il1 dX9_stealTo_42 ?_
        refine x_il2 dX9_stealTo_43 ?_
        refine x_iast (sh_8 hS) (lq_8 hS) (by omega) (by omega) dX9_stealTo_44 ?_
        refine x_mem (V' := (up (cRem V) 8 (ua ((cRem V) 8) bone town))) rfl ?_
        refine x_al0 dX9_stealTo_45 ?_
        refine x_getR fl_X9_24 (sh_1 hS) (lq_1 hS) (rf_1_3 hS) dX9_stealTo_46 ?_
        refine x_getR fl_X9_108 (sh_5 hS) (lq_5 hS) (rf_5_1 hS) dX9_stealTo_49 ?_
        refine x_il1 dX9_stealTo_52 ?_
        refine x_il2 dX9_stealTo_53 ?_
        refine x_iast (sh_7 hS) (lq_7 hS) (by omega) (by omega) dX9_stealTo_54 ?_
        refine x_mem (V' := (up (up (cRem V) 7 (ua ((cRem V) 7) bone town)) 8 (ua ((cRem V) 8) bone town))) (st2_c (by decide) rfl) ?_
        refine x_al0 dX9_stealTo_55 ?_
        refine x_getR fl_X9_24 (sh_1 hS) (lq_1 hS) (rf_1_3 hS) dX9_stealTo_56 ?_
        refine x_getR fl_X9_111 (sh_5 hS) (lq_5 hS) (rf_5_3 hS) dX9_stealTo_59 ?_
        refine x_il1 dX9_stealTo_62 ?_
        refine x_iconst dX9_stealTo_63 ?_
        refine x_iast (sh_9 hS) (lq_9 hS) (by omega) (by omega) dX9_stealTo_64 ?_
        refine x_mem (V' := (up (up (up (cRem V) 7 (ua ((cRem V) 7) bone town)) 8 (ua ((cRem V) 8) bone town)) 9 (ua ((cRem V) 9) bone (-1)))) rfl ?_
        refine x_iconst dX9_stealTo_65 ?_
        exact x_zret hQ (rI.mk (by first | (rw [if_pos (by simp only [cStealC, cTownOk, cBoneOk] at *; omega)]) | (rw [if_neg (by simp only [cStealC, cTownOk, cBoneOk] at *; omega)])) (by simp only [cStealF]; first | (rw [if_pos (by simp only [cStealC, cTownOk, cBoneOk] at *; omega)]) | (rw [if_neg (by simp only [cStealC, cTownOk, cBoneOk] at *; omega)]))) (by decide) dX9_stealTo_66
      · -- 26 ne -> 29
        refine x_iconst dX9_stealTo_29 ?_
        exact x_zret hQ (rI.mk (by first | (rw [if_pos (by simp only [cStealC, cTownOk, cBoneOk] at *; omega)]) | (rw [if_neg (by simp only [cStealC, cTownOk, cBoneOk] at *; omega)])) (by simp only [cStealF]; first | (rw [if_pos (by simp only [cStealC, cTownOk, cBoneOk] at *; omega)]) | (rw [if_neg (by simp only [cStealC, cTownOk, cBoneOk] at *; omega)]))) (by decide) dX9_stealTo_30
set_option maxRecDepth 100000 in
set_option maxHeartbeats 4000000 in
theorem c_X9_burnProofs {B : Bs} {S : Stt} {V : Va} (town : Int) (hS : Stat S) (h17 : 0 ≤ (V 1 7) ∧ (V 1 7) ≤ 10) (h55 : 0 ≤ (V 5 5) ∧ (V 5 5) ≤ 16) (h11 : 0 ≤ (V 11 1) ∧ (V 11 1) < 20 ∧ 0 ≤ (V 11 2) ∧ (V 11 2) ≤ 20) (hch : 0 ≤ (V 1 10) ∧ (V 1 10) ≤ 1000000) (h10 : ∀ t, 0 ≤ (V 10) t ∧ (V 10) t < 65536) (htown : InR town) : C B yX9_burnProofs cX9_burnProofs 3 (some .int) 4 0 0 [vR B 1, vI town] S V (rI S (cBurnF V town) (if cTownOk V town then bN ((V 10) town) 16 else -1)) := by
  refine C.of [some (vR B 1), some (vI town), none] ?_
  intro Γ hQ
  refine x_al0 dX9_burnProofs_0 ?_
  refine x_il1 dX9_burnProofs_1 ?_
  refine x_cVi mm_X9_hasTown ml_X9_89 dX9_burnProofs_2 (c_X9_hasTown town hS h17 (inr (by omega))) (sh_1 hS) (lq_1 hS) ?_
  refine x_ifb_ne (tgt := 10) dX9_burnProofs_5 (fun c5_1 => ?_) (fun c5_1 => ?_)
  · -- 5 ne -> 10
    refine x_al0 dX9_burnProofs_10 ?_
    refine x_cVv mm_X9_remember ml_X9_117 dX9_burnProofs_11 (c_X9_remember hS h11 h55 hch) (sh_1 hS) (lq_1 hS) ?_
    refine x_al0 dX9_burnProofs_14 ?_
    refine x_getR fl_X9_24 (sh_1 hS) (lq_1 hS) (rf_1_3 hS) dX9_burnProofs_15 ?_
    refine x_getR fl_X9_86 (sh_5 hS) (lq_5 hS) (rf_5_4 hS) dX9_burnProofs_18 ?_
    refine x_il1 dX9_burnProofs_21 ?_
    refine x_iald (sh_10 hS) (lq_10 hS) (by omega) (by omega) dX9_burnProofs_22 ?_
    refine x_topI (a' := V 10 town) (show ((cRem V) 10) town = V 10 town from (by rw [cRem_o h11.1 h11.2.1 (by omega)])) ?_
    refine x_cSi mm_J6_bitCount_0f7a4 ml_X9_93 dX9_burnProofs_23 (c_J6_bitCount_0f7a4 (V 10 town) (h10 _)) ?_
    refine x_is2 dX9_burnProofs_26 ?_
    refine x_al0 dX9_burnProofs_27 ?_
    refine x_getR fl_X9_24 (sh_1 hS) (lq_1 hS) (rf_1_3 hS) dX9_burnProofs_28 ?_
    refine x_getR fl_X9_86 (sh_5 hS) (lq_5 hS) (rf_5_4 hS) dX9_burnProofs_31 ?_
    refine x_il1 dX9_burnProofs_34 ?_
    refine x_iconst dX9_burnProofs_35 ?_
    refine x_iast (sh_10 hS) (lq_10 hS) (by omega) (by omega) dX9_burnProofs_36 ?_
    refine x_mem (V' := (up (cRem V) 10 (ua ((cRem V) 10) town 0))) rfl ?_
    refine x_il2 dX9_burnProofs_37 ?_
    exact x_iret hQ (rI.mk (by first | (rw [if_pos (by simp only [cTownOk, cTownOk, cBoneOk] at *; omega)]) | (rw [if_neg (by simp only [cTownOk, cTownOk, cBoneOk] at *; omega)])) (by simp only [cBurnF]; first | (rw [if_pos (by simp only [cTownOk, cTownOk, cBoneOk] at *; omega)]) | (rw [if_neg (by simp only [cTownOk, cTownOk, cBoneOk] at *; omega)]))) dX9_burnProofs_38
  · -- 5 ne -> 8
    refine x_iconst dX9_burnProofs_8 ?_
    exact x_iret hQ (rI.mk (by first | (rw [if_pos (by simp only [cTownOk, cTownOk, cBoneOk] at *; omega)]) | (rw [if_neg (by simp only [cTownOk, cTownOk, cBoneOk] at *; omega)])) (by simp only [cBurnF]; first | (rw [if_pos (by simp only [cTownOk, cTownOk, cBoneOk] at *; omega)]) | (rw [if_neg (by simp only [cTownOk, cTownOk, cBoneOk] at *; omega)]))) dX9_burnProofs_9
set_option maxRecDepth 100000 in
set_option maxHeartbeats 4000000 in
theorem c_X9_takeBack {B : Bs} {S : Stt} {V : Va} (hS : Stat S) (h11 : 0 ≤ (V 11 1) ∧ (V 11 1) < 20 ∧ 0 ≤ (V 11 2) ∧ (V 11 2) ≤ 20) (hch : 0 ≤ (V 1 10) ∧ (V 1 10) ≤ 1000000) (hrt : ∀ k : Nat, k < 20 → 0 ≤ (V (13 + 6 * k) 5) ∧ (V (13 + 6 * k) 5) ≤ 16) : C B yX9_takeBack cX9_takeBack 1 (some .int) 3 0 0 [vR B 1] S V (rI S (cUndoF V) (if (V 11 2) = 0 then -1 else (V 11 2) - 1)) := by
  refine C.of [some (vR B 1)] ?_
  intro Γ hQ
  have hr13 : 13 ≤ 13 + 6 * ((V 11 1 + 20 - 1) % 20).toNat := by omega
  refine x_al0 dX9_takeBack_0 ?_
  refine x_getR fl_X9_31 (sh_1 hS) (lq_1 hS) (rf_1_4 hS) dX9_takeBack_1 ?_
  refine x_getI fl_X9_160 (sh_11 hS) (lq_11 hS) dX9_takeBack_4 ?_
  refine x_topI (a' := V 11 2) rfl ?_
  refine x_if_ne (tgt := 12) dX9_takeBack_7 (inr (by omega)) (fun c7_1 => ?_) (fun c7_1 => ?_)
  · -- 7 ne -> 12
    refine x_al0 dX9_takeBack_12 ?_
    refine x_getR fl_X9_31 (sh_1 hS) (lq_1 hS) (rf_1_4 hS) dX9_takeBack_13 ?_
    refine x_al0 dX9_takeBack_16 ?_
    refine x_getR fl_X9_24 (sh_1 hS) (lq_1 hS) (rf_1_3 hS) dX9_takeBack_17 ?_
    refine x_cVv mm_X7_takeBack ml_X9_163 dX9_takeBack_20 (c_X7_takeBack hS h11 hrt) (sh_11 hS) (lq_11 hS) ?_
    refine x_al0 dX9_takeBack_23 ?_
    refine x_dup dX9_takeBack_24 ?_
    refine x_getI fl_X9_74 (sh_1 hS) (lq_1 hS) dX9_takeBack_25 ?_
    refine x_topI (a' := V 1 10) (show ((cTB0 V) 1) 10 = V 1 10 from (by simp only [cTB0]; rw [up_ne (by omega), bcp_o (by omega), up_ne (by omega)])) ?_
    refine x_iconst dX9_takeBack_28 ?_
    refine x_iadd dX9_takeBack_29 ?_
    refine x_putI fl_X9_74 (sh_1 hS) (lq_1 hS) dX9_takeBack_30 ?_
    refine x_mem (V' := (up (cTB0 V) 1 (ua ((cTB0 V) 1) 10 ((V 1 10) + 1)))) rfl ?_
    refine x_al0 dX9_takeBack_33 ?_
    refine x_getR fl_X9_31 (sh_1 hS) (lq_1 hS) (rf_1_4 hS) dX9_takeBack_34 ?_
    refine x_getI fl_X9_160 (sh_11 hS) (lq_11 hS) dX9_takeBack_37 ?_
    refine x_topI (a' := if V 11 2 - 1 < 0 then 0 else V 11 2 - 1) (show ((cTB0 V) 11) 2 = if V 11 2 - 1 < 0 then 0 else V 11 2 - 1 from (by simp only [cTB0]; rw [up_ne (by omega), bcp_o (by omega), up_same, ua_same])) ?_
    exact x_iret hQ (rI.mk (by rw [if_neg (by omega), if_neg (by omega)]) (by simp only [cUndoF]; rw [if_neg (by omega)]; simp only [cTB]; rw [show cTB0 V 1 = V 1 by simp only [cTB0]; rw [up_ne (by omega), bcp_o (by omega), up_ne (by omega)]])) dX9_takeBack_40
  · -- 7 ne -> 10
    refine x_iconst dX9_takeBack_10 ?_
    exact x_iret hQ (rI.mk (by rw [if_pos (by omega)]) (by simp only [cUndoF]; rw [if_pos (by omega)])) dX9_takeBack_11
set_option maxRecDepth 100000 in
set_option maxHeartbeats 4000000 in
theorem c_X9_ruleSeen {B : Bs} {S : Stt} {V : Va} (loss : Int) (pace : Int) (hS : Stat S) (hch : 0 ≤ (V 1 10) ∧ (V 1 10) ≤ 1000000) (hloss : InR loss) (hpace : InR pace) : C B yX9_ruleSeen cX9_ruleSeen 3 (some .boolean) 2 0 0 [vR B 1, vI loss, vI pace] S V (rI S (up (up V 1 (if 0 ≤ loss ∧ loss ≤ 9 ∧ 1 ≤ pace ∧ pace ≤ 99 then ua (V 1) 10 ((V 1 10) + 1) else (V 1))) 134 (if 0 ≤ loss ∧ loss ≤ 9 ∧ 1 ≤ pace ∧ pace ≤ 99 then ua (ua (V 134) 5 loss) 6 pace else (V 134))) (if 0 ≤ loss ∧ loss ≤ 9 ∧ 1 ≤ pace ∧ pace ≤ 99 then 1 else 0)) := by
  refine C.of [some (vR B 1), some (vI loss), some (vI pace)] ?_
  intro Γ hQ
  refine x_il1 dX9_ruleSeen_0 ?_
  refine x_iconst dX9_ruleSeen_1 ?_
  refine x_bipush dX9_ruleSeen_2 ?_
  refine x_cSNi mm_X10_within (nw_X9_101) dX9_ruleSeen_4 (c_X10_within loss 0 9 (inr (by omega)) (inr (by decide)) (inr (by decide))) ?_
  refine x_ifb_eq (tgt := 20) dX9_ruleSeen_7 (fun c7_1 => ?_) (fun c7_1 => ?_)
  · -- 7 eq -> 20
    refine x_iconst dX9_ruleSeen_20 ?_
    exact x_zret hQ (rI.mk (by first | (rw [if_pos (by omega)]) | (rw [if_neg (by omega)])) (by first | (rw [if_pos (by omega), if_pos (by omega)]) | (rw [if_neg (by omega), if_neg (by omega), up_self, up_self]))) (by decide) dX9_ruleSeen_21
  · -- 7 eq -> 10
    refine x_il2 dX9_ruleSeen_10 ?_
    refine x_iconst dX9_ruleSeen_11 ?_
    refine x_bipush dX9_ruleSeen_12 ?_
    refine x_cSNi mm_X10_within (nw_X9_101) dX9_ruleSeen_14 (c_X10_within pace 1 99 (inr (by omega)) (inr (by decide)) (inr (by decide))) ?_
    refine x_ifb_ne (tgt := 22) dX9_ruleSeen_17 (fun c17_2 => ?_) (fun c17_2 => ?_)
    · -- 17 ne -> 22
      refine x_al0 dX9_ruleSeen_22 ?_
      refine x_getR fl_X9_44 (sh_1 hS) (lq_1 hS) (rf_1_6 hS) dX9_ruleSeen_23 ?_
      refine x_il1 dX9_ruleSeen_26 ?_
      refine x_putI fl_X9_166 (sh_134 hS) (lq_134 hS) dX9_ruleSeen_27 ?_
      refine x_mem (V' := (up V 134 (ua (V 134) 5 loss))) rfl ?_
      refine x_al0 dX9_ruleSeen_30 ?_
      refine x_getR fl_X9_44 (sh_1 hS) (lq_1 hS) (rf_1_6 hS) dX9_ruleSeen_31 ?_
      refine x_il2 dX9_ruleSeen_34 ?_
      refine x_putI fl_X9_169 (sh_134 hS) (lq_134 hS) dX9_ruleSeen_35 ?_
      refine x_mem (V' := (up V 134 (ua (ua (V 134) 5 loss) 6 pace))) (st2_up _ _ _ _ _) ?_
      refine x_al0 dX9_ruleSeen_38 ?_
      refine x_dup dX9_ruleSeen_39 ?_
      refine x_getI fl_X9_74 (sh_1 hS) (lq_1 hS) dX9_ruleSeen_40 ?_
      refine x_topI (a' := V 1 10) rfl ?_
      refine x_iconst dX9_ruleSeen_43 ?_
      refine x_iadd dX9_ruleSeen_44 ?_
      refine x_putI fl_X9_74 (sh_1 hS) (lq_1 hS) dX9_ruleSeen_45 ?_
      refine x_mem (V' := (up (up V 1 (ua (V 1) 10 ((V 1 10) + 1))) 134 (ua (ua (V 134) 5 loss) 6 pace))) (st2_c (by decide) rfl) ?_
      refine x_iconst dX9_ruleSeen_48 ?_
      exact x_zret hQ (rI.mk (by first | (rw [if_pos (by omega)]) | (rw [if_neg (by omega)])) (by first | (rw [if_pos (by omega), if_pos (by omega)]) | (rw [if_neg (by omega), if_neg (by omega), up_self, up_self]))) (by decide) dX9_ruleSeen_49
    · -- 17 ne -> 20
      refine x_iconst dX9_ruleSeen_20 ?_
      exact x_zret hQ (rI.mk (by first | (rw [if_pos (by omega)]) | (rw [if_neg (by omega)])) (by first | (rw [if_pos (by omega), if_pos (by omega)]) | (rw [if_neg (by omega), if_neg (by omega), up_self, up_self]))) (by decide) dX9_ruleSeen_21
set_option maxRecDepth 100000 in
set_option maxHeartbeats 4000000 in
theorem c_X9_tellSeen {B : Bs} {S : Stt} {V : Va} (town : Int) (sort : Int) (weight : Int) (year : Int) (hS : Stat S) (h17 : 0 ≤ (V 1 7) ∧ (V 1 7) ≤ 10) (h134 : 0 ≤ (V 134 4) ∧ (V 134 4) ≤ 12 ∧ 0 ≤ (V 134 5) ∧ (V 134 5) ≤ 9 ∧ 1 ≤ (V 134 6) ∧ (V 134 6) ≤ 99) (hch : 0 ≤ (V 1 10) ∧ (V 1 10) ≤ 1000000) (htown : InR town) (hsort : InR sort) (hweight : InR weight) (hyear : InR year) : C B yX9_tellSeen cX9_tellSeen 6 (some .int) 2 0 0 [vR B 1, vI town, vI sort, vI weight, vI year] S V (rI S (cSeenF V town sort weight year) (if cSeenC V town sort weight year then (V 134 4) else -1)) := by
  refine C.of [some (vR B 1), some (vI town), some (vI sort), some (vI weight), some (vI year), none] ?_
  intro Γ hQ
  refine x_al0 dX9_tellSeen_0 ?_
  refine x_getR fl_X9_44 (sh_1 hS) (lq_1 hS) (rf_1_6 hS) dX9_tellSeen_1 ?_
  refine x_getI fl_X9_172 (sh_134 hS) (lq_134 hS) dX9_tellSeen_4 ?_
  refine x_topI (a' := V 134 4) rfl ?_
  refine x_is5 dX9_tellSeen_7 ?_
  refine x_il5 dX9_tellSeen_9 ?_
  refine x_bipush dX9_tellSeen_11 ?_
  refine x_icmp_ge (tgt := 57) dX9_tellSeen_13 (inr (by omega)) (inr (by decide)) (fun c13_1 => ?_) (fun c13_1 => ?_)
  · -- 13 ge -> 57
    refine x_iconst dX9_tellSeen_57 ?_
    exact x_iret hQ (rI.mk (by first | (rw [if_pos (by simp only [cSeenC, cTownOk, cBoneOk] at *; omega)]) | (rw [if_neg (by simp only [cSeenC, cTownOk, cBoneOk] at *; omega)])) (by simp only [cSeenF]; first | (rw [if_pos (by simp only [cSeenC, cTownOk, cBoneOk] at *; omega)]) | (rw [if_neg (by simp only [cSeenC, cTownOk, cBoneOk] at *; omega)]))) dX9_tellSeen_58
  · -- 13 ge -> 16
    refine x_al0 dX9_tellSeen_16 ?_
    refine x_il1 dX9_tellSeen_17 ?_
    refine x_cVi mm_X9_hasTown ml_X9_89 dX9_tellSeen_18 (c_X9_hasTown town hS h17 (inr (by omega))) (sh_1 hS) (lq_1 hS) ?_
    refine x_ifb_eq (tgt := 57) dX9_tellSeen_21 (fun c21_2 => ?_) (fun c21_2 => ?_)
    · -- 21 eq -> 57
      refine x_iconst dX9_tellSeen_57 ?_
      exact x_iret hQ (rI.mk (by first | (rw [if_pos (by simp only [cSeenC, cTownOk, cBoneOk] at *; omega)]) | (rw [if_neg (by simp only [cSeenC, cTownOk, cBoneOk] at *; omega)])) (by simp only [cSeenF]; first | (rw [if_pos (by simp only [cSeenC, cTownOk, cBoneOk] at *; omega)]) | (rw [if_neg (by simp only [cSeenC, cTownOk, cBoneOk] at *; omega)]))) dX9_tellSeen_58
    · -- 21 eq -> 24
      refine x_il2 dX9_tellSeen_24 ?_
      refine x_iconst dX9_tellSeen_25 ?_
      refine x_bipush dX9_tellSeen_26 ?_
      refine x_cSNi mm_X10_within (nw_X9_101) dX9_tellSeen_28 (c_X10_within sort 0 19 (inr (by omega)) (inr (by decide)) (inr (by decide))) ?_
      refine x_ifb_eq (tgt := 57) dX9_tellSeen_31 (fun c31_3 => ?_) (fun c31_3 => ?_)
      · -- 31 eq -> 57
        refine x_iconst dX9_tellSeen_57 ?_
        exact x_iret hQ (rI.mk (by first | (rw [if_pos (by simp only [cSeenC, cTownOk, cBoneOk] at *; omega)]) | (rw [if_neg (by simp only [cSeenC, cTownOk, cBoneOk] at *; omega)])) (by simp only [cSeenF]; first | (rw [if_pos (by simp only [cSeenC, cTownOk, cBoneOk] at *; omega)]) | (rw [if_neg (by simp only [cSeenC, cTownOk, cBoneOk] at *; omega)]))) dX9_tellSeen_58
      · -- 31 eq -> 34
        refine x_il3 dX9_tellSeen_34 ?_
        refine x_iconst dX9_tellSeen_35 ?_
        refine x_sipush dX9_tellSeen_36 ?_
        refine x_cSNi mm_X10_within (nw_X9_101) dX9_tellSeen_39 (c_X10_within weight 1 999 (inr (by omega)) (inr (by decide)) (inr (by decide))) ?_
        refine x_ifb_eq (tgt := 57) dX9_tellSeen_42 (fun c42_4 => ?_) (fun c42_4 => ?_)
        · -- 42 eq -> 57
          refine x_iconst dX9_tellSeen_57 ?_
          exact x_iret hQ (rI.mk (by first | (rw [if_pos (by simp only [cSeenC, cTownOk, cBoneOk] at *; omega)]) | (rw [if_neg (by simp only [cSeenC, cTownOk, cBoneOk] at *; omega)])) (by simp only [cSeenF]; first | (rw [if_pos (by simp only [cSeenC, cTownOk, cBoneOk] at *; omega)]) | (rw [if_neg (by simp only [cSeenC, cTownOk, cBoneOk] at *; omega)]))) dX9_tellSeen_58
        · -- 42 eq -> 45
          refine x_il4 dX9_tellSeen_45 ?_
          refine x_iconst dX9_tellSeen_47 ?_
          refine x_sipush dX9_tellSeen_48 ?_
          refine x_cSNi mm_X10_within (nw_X9_101) dX9_tellSeen_51 (c_X10_within year 0 999 (inr (by omega)) (inr (by decide)) (inr (by decide))) ?_
          refine x_ifb_ne (tgt := 59) dX9_tellSeen_54 (fun c54_5 => ?_) (fun c54_5 => ?_)
          · -- 54 ne -> 59
            refine x_al0 dX9_tellSeen_59 ?_
            refine x_getR fl_X9_44 (sh_1 hS) (lq_1 hS) (rf_1_6 hS) dX9_tellSeen_60 ?_
            refine x_getR fl_X9_175 (sh_134 hS) (lq_134 hS) (rf_134_0 hS) dX9_tellSeen_63 ?_
            refine x_il5 dX9_tellSeen_66 ?_
            refine x_il1 dX9_tellSeen_68 ?_
            refine x_iast (sh_135 hS) (lq_135 hS) (by omega) (by omega) dX9_tellSeen_69 ?_
            refine x_mem (V' := (up V 135 (ua (V 135) (V 134 4) town))) rfl ?_
            refine x_al0 dX9_tellSeen_70 ?_
            refine x_getR fl_X9_44 (sh_1 hS) (lq_1 hS) (rf_1_6 hS) dX9_tellSeen_71 ?_
            refine x_getR fl_X9_178 (sh_134 hS) (lq_134 hS) (rf_134_1 hS) dX9_tellSeen_74 ?_
            refine x_il5 dX9_tellSeen_77 ?_
            refine x_il2 dX9_tellSeen_79 ?_
            refine x_iast (sh_136 hS) (lq_136 hS) (by omega) (by omega) dX9_tellSeen_80 ?_
            refine x_mem (V' := (up (up V 135 (ua (V 135) (V 134 4) town)) 136 (ua (V 136) (V 134 4) sort))) rfl ?_
            refine x_al0 dX9_tellSeen_81 ?_
            refine x_getR fl_X9_44 (sh_1 hS) (lq_1 hS) (rf_1_6 hS) dX9_tellSeen_82 ?_
            refine x_getR fl_X9_179 (sh_134 hS) (lq_134 hS) (rf_134_2 hS) dX9_tellSeen_85 ?_
            refine x_il5 dX9_tellSeen_88 ?_
            refine x_il3 dX9_tellSeen_90 ?_
            refine x_iast (sh_137 hS) (lq_137 hS) (by omega) (by omega) dX9_tellSeen_91 ?_
            refine x_mem (V' := (up (up (up V 135 (ua (V 135) (V 134 4) town)) 136 (ua (V 136) (V 134 4) sort)) 137 (ua (V 137) (V 134 4) weight))) rfl ?_
            refine x_al0 dX9_tellSeen_92 ?_
            refine x_getR fl_X9_44 (sh_1 hS) (lq_1 hS) (rf_1_6 hS) dX9_tellSeen_93 ?_
            refine x_getR fl_X9_180 (sh_134 hS) (lq_134 hS) (rf_134_3 hS) dX9_tellSeen_96 ?_
            refine x_il5 dX9_tellSeen_99 ?_
            refine x_il4 dX9_tellSeen_101 ?_
            refine x_iast (sh_138 hS) (lq_138 hS) (by omega) (by omega) dX9_tellSeen_103 ?_
            refine x_mem (V' := (up (up (up (up V 135 (ua (V 135) (V 134 4) town)) 136 (ua (V 136) (V 134 4) sort)) 137 (ua (V 137) (V 134 4) weight)) 138 (ua (V 138) (V 134 4) year))) rfl ?_
            refine x_al0 dX9_tellSeen_104 ?_
            refine x_getR fl_X9_44 (sh_1 hS) (lq_1 hS) (rf_1_6 hS) dX9_tellSeen_105 ?_
            refine x_dup dX9_tellSeen_108 ?_
            refine x_getI fl_X9_172 (sh_134 hS) (lq_134 hS) dX9_tellSeen_109 ?_
            refine x_topI (a' := V 134 4) rfl ?_
            refine x_iconst dX9_tellSeen_112 ?_
            refine x_iadd dX9_tellSeen_113 ?_
            refine x_putI fl_X9_172 (sh_134 hS) (lq_134 hS) dX9_tellSeen_114 ?_
            refine x_mem (V' := (up (up (up (up (up V 134 (ua (V 134) 4 ((V 134 4) + 1))) 135 (ua (V 135) (V 134 4) town)) 136 (ua (V 136) (V 134 4) sort)) 137 (ua (V 137) (V 134 4) weight)) 138 (ua (V 138) (V 134 4) year))) (st2_c (by decide) (st2_c (by decide) (st2_c (by decide) (st2_c (by decide) rfl)))) ?_
            refine x_al0 dX9_tellSeen_117 ?_
            refine x_dup dX9_tellSeen_118 ?_
            refine x_getI fl_X9_74 (sh_1 hS) (lq_1 hS) dX9_tellSeen_119 ?_
            refine x_topI (a' := V 1 10) rfl ?_
            refine x_iconst dX9_tellSeen_122 ?_
            refine x_iadd dX9_tellSeen_123 ?_
            refine x_putI fl_X9_74 (sh_1 hS) (lq_1 hS) dX9_tellSeen_124 ?_
            refine x_mem (V' := (up (up (up (up (up (up V 1 (ua (V 1) 10 ((V 1 10) + 1))) 134 (ua (V 134) 4 ((V 134 4) + 1))) 135 (ua (V 135) (V 134 4) town)) 136 (ua (V 136) (V 134 4) sort)) 137 (ua (V 137) (V 134 4) weight)) 138 (ua (V 138) (V 134 4) year))) (st2_c (by decide) (st2_c (by decide) (st2_c (by decide) (st2_c (by decide) (st2_c (by decide) rfl))))) ?_
            refine x_il5 dX9_tellSeen_127 ?_
            exact x_iret hQ (rI.mk (by first | (rw [if_pos (by simp only [cSeenC, cTownOk, cBoneOk] at *; omega)]) | (rw [if_neg (by simp only [cSeenC, cTownOk, cBoneOk] at *; omega)])) (by simp only [cSeenF]; first | (rw [if_pos (by simp only [cSeenC, cTownOk, cBoneOk] at *; omega)]) | (rw [if_neg (by simp only [cSeenC, cTownOk, cBoneOk] at *; omega)]))) dX9_tellSeen_129
          · -- 54 ne -> 57
            refine x_iconst dX9_tellSeen_57 ?_
            exact x_iret hQ (rI.mk (by first | (rw [if_pos (by simp only [cSeenC, cTownOk, cBoneOk] at *; omega)]) | (rw [if_neg (by simp only [cSeenC, cTownOk, cBoneOk] at *; omega)])) (by simp only [cSeenF]; first | (rw [if_pos (by simp only [cSeenC, cTownOk, cBoneOk] at *; omega)]) | (rw [if_neg (by simp only [cSeenC, cTownOk, cBoneOk] at *; omega)]))) dX9_tellSeen_58
set_option maxRecDepth 100000 in
set_option maxHeartbeats 4000000 in
theorem c_X9_forgetSeen {B : Bs} {S : Stt} {V : Va} (hS : Stat S) (hch : 0 ≤ (V 1 10) ∧ (V 1 10) ≤ 1000000) : C B yX9_forgetSeen cX9_forgetSeen 2 (some .int) 1 0 0 [vR B 1] S V (rI S (up (up V 1 (ua (V 1) 10 ((V 1 10) + 1))) 134 (ua (V 134) 4 0)) (V 134 4)) := by
  refine C.of [some (vR B 1), none] ?_
  intro Γ hQ
  refine x_al0 dX9_forgetSeen_0 ?_
  refine x_getR fl_X9_44 (sh_1 hS) (lq_1 hS) (rf_1_6 hS) dX9_forgetSeen_1 ?_
  refine x_getI fl_X9_172 (sh_134 hS) (lq_134 hS) dX9_forgetSeen_4 ?_
  refine x_topI (a' := V 134 4) rfl ?_
  refine x_is1 dX9_forgetSeen_7 ?_
  refine x_al0 dX9_forgetSeen_8 ?_
  refine x_getR fl_X9_44 (sh_1 hS) (lq_1 hS) (rf_1_6 hS) dX9_forgetSeen_9 ?_
  refine x_iconst dX9_forgetSeen_12 ?_
  refine x_putI fl_X9_172 (sh_134 hS) (lq_134 hS) dX9_forgetSeen_13 ?_
  refine x_mem (V' := (up V 134 (ua (V 134) 4 0))) rfl ?_
  refine x_al0 dX9_forgetSeen_16 ?_
  refine x_dup dX9_forgetSeen_17 ?_
  refine x_getI fl_X9_74 (sh_1 hS) (lq_1 hS) dX9_forgetSeen_18 ?_
  refine x_topI (a' := V 1 10) rfl ?_
  refine x_iconst dX9_forgetSeen_21 ?_
  refine x_iadd dX9_forgetSeen_22 ?_
  refine x_putI fl_X9_74 (sh_1 hS) (lq_1 hS) dX9_forgetSeen_23 ?_
  refine x_mem (V' := (up (up V 1 (ua (V 1) 10 ((V 1 10) + 1))) 134 (ua (V 134) 4 0))) (st2_c (by decide) rfl) ?_
  refine x_il1 dX9_forgetSeen_26 ?_
  exact x_iret hQ (rI.mk (by first | rfl | omega | (rw [if_pos (by omega)]) | (rw [if_neg (by omega)])) rfl) dX9_forgetSeen_27
set_option maxRecDepth 100000 in
set_option maxHeartbeats 4000000 in
theorem c_X9_canBeSame {B : Bs} {S : Stt} {V : Va} (ahead : Int) (one : Int) (hS : Stat S) (h134 : 0 ≤ (V 134 4) ∧ (V 134 4) ≤ 12 ∧ 0 ≤ (V 134 5) ∧ (V 134 5) ≤ 9 ∧ 1 ≤ (V 134 6) ∧ (V 134 6) ≤ 99) (hA2 : AB (V 2)) (hA3 : AB (V 3)) (hA136 : AB (V 136)) (h138 : ∀ s, 0 ≤ (V 138) s ∧ (V 138) s ≤ 999) (h137 : ∀ s, 0 ≤ (V 137) s ∧ (V 137) s ≤ 999) (h135 : ∀ s, 0 ≤ s → s < (V 134 4) → 0 ≤ (V 135) s ∧ (V 135) s < 10) (hahead : InR ahead) (hone : InR one) : C B yX9_canBeSame cX9_canBeSame 5 (some .boolean) 2 0 0 [vR B 1, vI ahead, vI one] S V (rI S V (if cSame V ahead one then 1 else 0)) := by
  refine C.of [some (vR B 1), some (vI ahead), some (vI one), none, none] ?_
  intro Γ hQ
  refine x_il1 dX9_canBeSame_0 ?_
  refine x_iconst dX9_canBeSame_1 ?_
  refine x_al0 dX9_canBeSame_2 ?_
  refine x_getR fl_X9_44 (sh_1 hS) (lq_1 hS) (rf_1_6 hS) dX9_canBeSame_3 ?_
  refine x_getI fl_X9_172 (sh_134 hS) (lq_134 hS) dX9_canBeSame_6 ?_
  refine x_topI (a' := V 134 4) rfl ?_
  refine x_iconst dX9_canBeSame_9 ?_
  refine x_isub dX9_canBeSame_10 ?_
  refine x_cSNi mm_X10_within (nw_X9_101) dX9_canBeSame_11 (c_X10_within ahead 0 ((V 134 4) - 1) (inr (by omega)) (inr (by decide)) (inr (by omega))) ?_
  refine x_ifb_eq (tgt := 55) dX9_canBeSame_14 (fun c14_1 => ?_) (fun c14_1 => ?_)
  · -- 14 eq -> 55
    refine x_iconst dX9_canBeSame_55 ?_
    exact x_zret hQ (rI.mk (by first | (rw [if_pos (by simp only [cSame, cSeenOk]; omega)]) | (rw [if_neg (by simp only [cSame, cSeenOk]; omega)])) rfl) (by decide) dX9_canBeSame_56
  · -- 14 eq -> 17
    refine x_il2 dX9_canBeSame_17 ?_
    refine x_iconst dX9_canBeSame_18 ?_
    refine x_al0 dX9_canBeSame_19 ?_
    refine x_getR fl_X9_44 (sh_1 hS) (lq_1 hS) (rf_1_6 hS) dX9_canBeSame_20 ?_
    refine x_getI fl_X9_172 (sh_134 hS) (lq_134 hS) dX9_canBeSame_23 ?_
    refine x_topI (a' := V 134 4) rfl ?_
    refine x_iconst dX9_canBeSame_26 ?_
    refine x_isub dX9_canBeSame_27 ?_
    refine x_cSNi mm_X10_within (nw_X9_101) dX9_canBeSame_28 (c_X10_within one 0 ((V 134 4) - 1) (inr (by omega)) (inr (by decide)) (inr (by omega))) ?_
    refine x_ifb_eq (tgt := 55) dX9_canBeSame_31 (fun c31_2 => ?_) (fun c31_2 => ?_)
    · -- 31 eq -> 55
      refine x_iconst dX9_canBeSame_55 ?_
      exact x_zret hQ (rI.mk (by first | (rw [if_pos (by simp only [cSame, cSeenOk]; omega)]) | (rw [if_neg (by simp only [cSame, cSeenOk]; omega)])) rfl) (by decide) dX9_canBeSame_56
    · -- 31 eq -> 34
      refine x_al0 dX9_canBeSame_34 ?_
      refine x_getR fl_X9_44 (sh_1 hS) (lq_1 hS) (rf_1_6 hS) dX9_canBeSame_35 ?_
      refine x_getR fl_X9_178 (sh_134 hS) (lq_134 hS) (rf_134_1 hS) dX9_canBeSame_38 ?_
      refine x_il1 dX9_canBeSame_41 ?_
      have hb3 := hA136 ahead
      refine x_iald (sh_136 hS) (lq_136 hS) (by omega) (by omega) dX9_canBeSame_42 ?_
      refine x_topI (a' := V 136 ahead) rfl ?_
      refine x_al0 dX9_canBeSame_43 ?_
      refine x_getR fl_X9_44 (sh_1 hS) (lq_1 hS) (rf_1_6 hS) dX9_canBeSame_44 ?_
      refine x_getR fl_X9_178 (sh_134 hS) (lq_134 hS) (rf_134_1 hS) dX9_canBeSame_47 ?_
      refine x_il2 dX9_canBeSame_50 ?_
      have hb4 := hA136 one
      refine x_iald (sh_136 hS) (lq_136 hS) (by omega) (by omega) dX9_canBeSame_51 ?_
      refine x_topI (a' := V 136 one) rfl ?_
      refine x_icmp_eq (tgt := 57) dX9_canBeSame_52 (inr (by omega)) (inr (by omega)) (fun c52_5 => ?_) (fun c52_5 => ?_)
      · -- 52 eq -> 57
        refine x_al0 dX9_canBeSame_57 ?_
        refine x_getR fl_X9_44 (sh_1 hS) (lq_1 hS) (rf_1_6 hS) dX9_canBeSame_58 ?_
        refine x_getR fl_X9_180 (sh_134 hS) (lq_134 hS) (rf_134_3 hS) dX9_canBeSame_61 ?_
        refine x_il2 dX9_canBeSame_64 ?_
        have hb6 := h138 one
        refine x_iald (sh_138 hS) (lq_138 hS) (by omega) (by omega) dX9_canBeSame_65 ?_
        refine x_topI (a' := V 138 one) rfl ?_
        refine x_al0 dX9_canBeSame_66 ?_
        refine x_getR fl_X9_44 (sh_1 hS) (lq_1 hS) (rf_1_6 hS) dX9_canBeSame_67 ?_
        refine x_getR fl_X9_180 (sh_134 hS) (lq_134 hS) (rf_134_3 hS) dX9_canBeSame_70 ?_
        refine x_il1 dX9_canBeSame_73 ?_
        have hb7 := h138 ahead
        refine x_iald (sh_138 hS) (lq_138 hS) (by omega) (by omega) dX9_canBeSame_74 ?_
        refine x_topI (a' := V 138 ahead) rfl ?_
        refine x_isub dX9_canBeSame_75 ?_
        refine x_is3 dX9_canBeSame_76 ?_
        refine x_al0 dX9_canBeSame_77 ?_
        refine x_getR fl_X9_44 (sh_1 hS) (lq_1 hS) (rf_1_6 hS) dX9_canBeSame_78 ?_
        refine x_getR fl_X9_179 (sh_134 hS) (lq_134 hS) (rf_134_2 hS) dX9_canBeSame_81 ?_
        refine x_il1 dX9_canBeSame_84 ?_
        have hb8 := h137 ahead
        refine x_iald (sh_137 hS) (lq_137 hS) (by omega) (by omega) dX9_canBeSame_85 ?_
        refine x_topI (a' := V 137 ahead) rfl ?_
        refine x_al0 dX9_canBeSame_86 ?_
        refine x_getR fl_X9_44 (sh_1 hS) (lq_1 hS) (rf_1_6 hS) dX9_canBeSame_87 ?_
        refine x_getR fl_X9_179 (sh_134 hS) (lq_134 hS) (rf_134_2 hS) dX9_canBeSame_90 ?_
        refine x_il2 dX9_canBeSame_93 ?_
        have hb9 := h137 one
        refine x_iald (sh_137 hS) (lq_137 hS) (by omega) (by omega) dX9_canBeSame_94 ?_
        refine x_topI (a' := V 137 one) rfl ?_
        refine x_isub dX9_canBeSame_95 ?_
        refine x_is4 dX9_canBeSame_96 ?_
        refine x_il3 dX9_canBeSame_98 ?_
        refine x_if_le (tgt := 121) dX9_canBeSame_99 (inr (by omega)) (fun c99_10 => ?_) (fun c99_10 => ?_)
        · -- 99 le -> 121
          refine x_iconst dX9_canBeSame_121 ?_
          exact x_zret hQ (rI.mk (by first | (rw [if_pos (by simp only [cSame, cSeenOk]; omega)]) | (rw [if_neg (by simp only [cSame, cSeenOk]; omega)])) rfl) (by decide) dX9_canBeSame_122
        · -- 99 le -> 102
          refine x_il4 dX9_canBeSame_102 ?_
          refine x_if_lt (tgt := 121) dX9_canBeSame_104 (inr (by omega)) (fun c104_11 => ?_) (fun c104_11 => ?_)
          · -- 104 lt -> 121
            refine x_iconst dX9_canBeSame_121 ?_
            exact x_zret hQ (rI.mk (by first | (rw [if_pos (by simp only [cSame, cSeenOk]; omega)]) | (rw [if_neg (by simp only [cSame, cSeenOk]; omega)])) rfl) (by decide) dX9_canBeSame_122
          · -- 104 lt -> 107
            have hml : 0 ≤ V 134 5 * (V 138 one - V 138 ahead) ∧ V 134 5 * (V 138 one - V 138 ahead) ≤ 9 * 999 := ⟨Int.mul_nonneg (by omega) (by omega), Int.mul_le_mul (by omega) (by omega) (by omega) (by omega)⟩
            refine x_il4 dX9_canBeSame_107 ?_
            refine x_al0 dX9_canBeSame_109 ?_
            refine x_getR fl_X9_44 (sh_1 hS) (lq_1 hS) (rf_1_6 hS) dX9_canBeSame_110 ?_
            refine x_getI fl_X9_166 (sh_134 hS) (lq_134 hS) dX9_canBeSame_113 ?_
            refine x_topI (a' := V 134 5) rfl ?_
            refine x_il3 dX9_canBeSame_116 ?_
            refine x_imul dX9_canBeSame_117 ?_
            refine x_icmp_le (tgt := 123) dX9_canBeSame_118 (inr (by omega)) (inr (by omega)) (fun c118_12 => ?_) (fun c118_12 => ?_)
            · -- 118 le -> 123
              have t1 := h135 ahead (by omega) (by omega)
              have t2 := h135 one (by omega) (by omega)
              have hmi := cMiles_r hA2 hA3 (V 135 ahead) (V 135 one)
              have hmp : 0 ≤ (V 138 one - V 138 ahead + 1) * V 134 6 ∧ (V 138 one - V 138 ahead + 1) * V 134 6 ≤ 1000 * 99 := ⟨Int.mul_nonneg (by omega) (by omega), Int.mul_le_mul (by omega) (by omega) (by omega) (by omega)⟩
              refine x_al0 dX9_canBeSame_123 ?_
              refine x_al0 dX9_canBeSame_124 ?_
              refine x_getR fl_X9_44 (sh_1 hS) (lq_1 hS) (rf_1_6 hS) dX9_canBeSame_125 ?_
              refine x_getR fl_X9_175 (sh_134 hS) (lq_134 hS) (rf_134_0 hS) dX9_canBeSame_128 ?_
              refine x_il1 dX9_canBeSame_131 ?_
              refine x_iald (sh_135 hS) (lq_135 hS) (by omega) (by omega) dX9_canBeSame_132 ?_
              refine x_topI (a' := V 135 ahead) rfl ?_
              refine x_al0 dX9_canBeSame_133 ?_
              refine x_getR fl_X9_44 (sh_1 hS) (lq_1 hS) (rf_1_6 hS) dX9_canBeSame_134 ?_
              refine x_getR fl_X9_175 (sh_134 hS) (lq_134 hS) (rf_134_0 hS) dX9_canBeSame_137 ?_
              refine x_il2 dX9_canBeSame_140 ?_
              refine x_iald (sh_135 hS) (lq_135 hS) (by omega) (by omega) dX9_canBeSame_141 ?_
              refine x_topI (a' := V 135 one) rfl ?_
              refine x_cVi mm_X9_milesBetween ml_X9_182 dX9_canBeSame_142 (c_X9_milesBetween (V 135 ahead) (V 135 one) hS hA2 hA3 (by omega) (by omega)) (sh_1 hS) (lq_1 hS) ?_
              refine x_il3 dX9_canBeSame_145 ?_
              refine x_iconst dX9_canBeSame_146 ?_
              refine x_iadd dX9_canBeSame_147 ?_
              refine x_al0 dX9_canBeSame_148 ?_
              refine x_getR fl_X9_44 (sh_1 hS) (lq_1 hS) (rf_1_6 hS) dX9_canBeSame_149 ?_
              refine x_getI fl_X9_169 (sh_134 hS) (lq_134 hS) dX9_canBeSame_152 ?_
              refine x_topI (a' := V 134 6) rfl ?_
              refine x_imul dX9_canBeSame_155 ?_
              refine x_icmp_ge (tgt := 163) dX9_canBeSame_156 (inr (by omega)) (inr (by omega)) (fun c156_13 => ?_) (fun c156_13 => ?_)
              · -- 156 ge -> 163
                refine x_iconst dX9_canBeSame_163 ?_
                exact x_zret hQ (rI.mk (by first | (rw [if_pos (by simp only [cSame, cSeenOk]; omega)]) | (rw [if_neg (by simp only [cSame, cSeenOk]; omega)])) rfl) (by decide) dX9_canBeSame_164
              · -- 156 ge -> 159
                refine x_iconst dX9_canBeSame_159 ?_
                refine x_goto (tgt := 164) dX9_canBeSame_160 ?_
                exact x_zret hQ (rI.mk (by first | (rw [if_pos (by simp only [cSame, cSeenOk]; omega)]) | (rw [if_neg (by simp only [cSame, cSeenOk]; omega)])) rfl) (by decide) dX9_canBeSame_164
            · -- 118 le -> 121
              refine x_iconst dX9_canBeSame_121 ?_
              exact x_zret hQ (rI.mk (by first | (rw [if_pos (by simp only [cSame, cSeenOk]; omega)]) | (rw [if_neg (by simp only [cSame, cSeenOk]; omega)])) rfl) (by decide) dX9_canBeSame_122
      · -- 52 eq -> 55
        refine x_iconst dX9_canBeSame_55 ?_
        exact x_zret hQ (rI.mk (by first | (rw [if_pos (by simp only [cSame, cSeenOk]; omega)]) | (rw [if_neg (by simp only [cSame, cSeenOk]; omega)])) rfl) (by decide) dX9_canBeSame_56
