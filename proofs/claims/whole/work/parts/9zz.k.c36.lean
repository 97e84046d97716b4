set_option maxRecDepth 100000 in
set_option maxHeartbeats 4000000 in
theorem c_X3_readAsk_s {B : Bs} {S : Stt} (hS : Stat S) (T : Int → Int) (n u : Int) (N d : Nat) (hd : d ≤ 8) (h1 : SumC B S T n u N d) (ih : ∀ e : Nat, e < d → AskC B S T n u N e) : AskC B S T n u N d := by
  unfold AskC
  unfold SumC at h1
  intro V i hH hR
  refine C.of [some (vR B 277), some (vI (8 - (d : Int))), none] ?_
  intro Γ hQ
  have hK := hH.1
  have h7 := hH.2.1
  have hn := hH.2.2.1
  have hTp := hH.2.2.2
  have r2 := hR.1
  have r8 := hR.2.1
  have r3 := hR.2.2.1
  have r13 := hR.2.2.2.1
  have r9 := UQ_mk hR.2.2.2.2
  have hp := pos_le hTp hn.1 i
  have hk := hK.2.1 i r3
  have htk : V 279 (V 277 8) = cTk T n (pos T n i) := by rw [r8]; exact hk.1
  have hsr : V 280 (V 277 8) = tPl T n (pos T n i) := by rw [r8]; exact hk.2.1
  have hq := TkQ_mk htk
  have kr := hq.r
  have hN := hK.1
  have hpr := (tok_r hTp hp.2).2.1
  have hpr0 := (tok_r hTp hp.2).1
  have r91 := r9.r
  clear hk
  refine x_al0 dX3_readAsk_0 ?_
  refine x_getR fl_X3_22 (sh_277 hS) (lq_277 hS) (rf_277_4 hS) dX3_readAsk_1 ?_
  refine x_al0 dX3_readAsk_4 ?_
  refine x_getI fl_X3_52 (sh_277 hS) (lq_277 hS) dX3_readAsk_5 ?_
  refine x_topI (a' := V 277 8) rfl ?_
  refine x_iald (sh_279 hS) (lq_279 hS) (by omega) (by omega) dX3_readAsk_8 ?_
  refine x_topI (a' := V 279 (V 277 8)) rfl ?_
  refine x_bipush dX3_readAsk_9 ?_
  refine x_icmp_ne (tgt := 47) dX3_readAsk_11 (inr (by omega)) (inr (by decide)) (fun c11_1 => ?_) (fun c11_1 => ?_)
  · -- 11 ne -> 47
    have hnn : ¬ isNotT T n (pos T n i) := fun z => by have y := (hq.w (k := 13) (by decide) rfl).mpr z; omega
    refine x_al0 dX3_readAsk_47 ?_
    refine x_il1 dX3_readAsk_48 ?_
    refine x_cVcp mm_X3_readSum ml_X3_133 dX3_readAsk_49 (h1 V i hH hR) (sh_277 hS) (lq_277 hS) (fun f1 cd1 hc1r => ?_) (hlev := by omega)
    have hc1 : CP T n N i (G T n u 1 (8 - (d : Int)) 0 (pos T n i)) (V 277) (V 283) f1 cd1 := hc1r
    clear hc1r
    have hc1q := CP_q hc1 hN (by omega)
    have hc1_7 : f1 7 = V 277 7 := hc1q.2.2.2.1
    have hc1_9 : f1 9 = V 277 9 := hc1q.2.2.2.2
    refine x_al0 dX3_readAsk_52 ?_
    refine x_getR fl_X3_22 (sh_277 hS) (lq_277 hS) (rf_277_4 hS) dX3_readAsk_53 ?_
    refine x_al0 dX3_readAsk_56 ?_
    refine x_getI fl_X3_52 (sh_277 hS) (lq_277 hS) dX3_readAsk_57 ?_
    refine x_topI (a' := f1 8) rfl ?_
    have hb5 := TkR_r hK (show 0 ≤ f1 8 by omega) (by omega)
    refine x_iald (sh_279 hS) (lq_279 hS) (by omega) (by omega) dX3_readAsk_60 ?_
    refine x_topI (a' := V 279 (f1 8)) rfl ?_
    refine x_is2 dX3_readAsk_61 ?_
    refine x_al0 dX3_readAsk_62 ?_
    refine x_il2 dX3_readAsk_63 ?_
    refine x_bipush dX3_readAsk_64 ?_
    refine x_icmp_lt (tgt := 79) dX3_readAsk_66 (inr (by omega)) (inr (by decide)) (fun c66_2 => ?_) (fun c66_2 => ?_)
    · -- 66 lt -> 79
      refine x_iconst dX3_readAsk_79 ?_
      refine x_iconst dX3_readAsk_80 ?_
      by_cases hz : f1 2 = 0
      · skip
        obtain ⟨j, em, g1, g2, g3, g4, g5, g6, g7, g8, g9⟩ := hc1.2.resolve_right (fun ⟨q, _, z, _⟩ => z hz)
        have g0 := hc1.1
        have htj : V 279 (f1 8) = cTk T n (pos T n j) := by rw [g5]; exact (hK.2.1 j g4).1
        have hqj := TkQ_mk htj
        have hjt : V 279 (f1 8) ≠ 0 → j < N := fun z => TkR_lt hK g4 (hqj.b0 z)
        refine x_cVi mm_X3_take ml_X3_125 dX3_readAsk_81 (c_X3_take 0 1 hS (by omega) (show 0 ≤ (f1 8) ∧ (f1 8) < 301 from (by omega)) (show InR (f1 7) from (inr (by omega))) (show InR (f1 2) from (inr (by omega))) (inr (by decide))) (sh_277 hS) (lq_277 hS) ?_ (hlev := by omega)
        refine x_topI (a' := takV f1 0) rfl ?_
        refine x_mem (V' := (up (up V 277 (takF f1 (V 280) 0 1)) 283 cd1)) (up_k (by decide) (up_up _ _ _ _)) ?_
        refine x_mem (V' := (up (up V 277 (ua (ua f1 2 1) 3 (V 280 (f1 8)))) 283 cd1)) (upE (upE rfl (takF_0 (show (f1) 2 = 0 by omega))) rfl) ?_
        refine x_topI (a' := 0) (takV_1 (show (f1) 2 = 0 by omega)) ?_
        refine x_if_eq (tgt := 98) dX3_readAsk_84 (inr (by decide)) (fun c84_3 => ?_) (fun c84_3 => ?_)
        · -- 84 eq -> 98
          exact x_vret hQ ⟨ua (ua f1 2 1) 3 (V 280 (f1 8)), cd1, CP_c2 (sr := V 280) hN r13 (fun k hk => (hK.2.1 k hk).2.1) (fun r h => Ask_0 hd hnn h) hc1 hz (fun k hk e => by have q := (hK.2.1 k hk).1; rw [← e] at q; have y := (cTk_c (T := T) (n := n) (p := pos T n k)).1; rw [← q] at y; rcases Int.lt_or_le (cmpO (tTok T n (pos T n k))) 0 with x | x; (exact x); (have := y.mpr x; omega)), rfl, rfl, rfl⟩ dX3_readAsk_98
        · exact absurd c84_3 (by decide)
      · skip
        have hzn : f1 2 ≠ 0 := hz
        refine x_cVi mm_X3_take ml_X3_125 dX3_readAsk_81 (c_X3_take 0 1 hS (by omega) (show 0 ≤ (f1 8) ∧ (f1 8) < 301 from (by omega)) (show InR (f1 7) from (inr (by omega))) (show InR (f1 2) from (inr (by omega))) (inr (by decide))) (sh_277 hS) (lq_277 hS) ?_ (hlev := by omega)
        refine x_topI (a' := takV f1 0) rfl ?_
        refine x_mem (V' := (up (up V 277 (takF f1 (V 280) 0 1)) 283 cd1)) (up_k (by decide) (up_up _ _ _ _)) ?_
        refine x_mem (V' := (up (up V 277 f1) 283 cd1)) (upE (upE rfl (takF_f hzn)) rfl) ?_
        refine x_topI (a' := 0) (if_pos hzn) ?_
        refine x_if_eq (tgt := 98) dX3_readAsk_84 (inr (by decide)) (fun c84_4 => ?_) (fun c84_4 => ?_)
        · -- 84 eq -> 98
          exact x_vret hQ ⟨f1, cd1, CP_c1 (fun r h => Ask_0 hd hnn h) hc1 hzn, rfl, rfl, rfl⟩ dX3_readAsk_98
        · exact absurd c84_4 (by decide)
    · -- 66 lt -> 69
      refine x_il2 dX3_readAsk_69 ?_
      refine x_bipush dX3_readAsk_70 ?_
      refine x_icmp_gt (tgt := 79) dX3_readAsk_72 (inr (by omega)) (inr (by decide)) (fun c72_5 => ?_) (fun c72_5 => ?_)
      · -- 72 gt -> 79
        refine x_iconst dX3_readAsk_79 ?_
        refine x_iconst dX3_readAsk_80 ?_
        by_cases hz : f1 2 = 0
        · skip
          obtain ⟨j, em, g1, g2, g3, g4, g5, g6, g7, g8, g9⟩ := hc1.2.resolve_right (fun ⟨q, _, z, _⟩ => z hz)
          have g0 := hc1.1
          have htj : V 279 (f1 8) = cTk T n (pos T n j) := by rw [g5]; exact (hK.2.1 j g4).1
          have hqj := TkQ_mk htj
          have hjt : V 279 (f1 8) ≠ 0 → j < N := fun z => TkR_lt hK g4 (hqj.b0 z)
          refine x_cVi mm_X3_take ml_X3_125 dX3_readAsk_81 (c_X3_take 0 1 hS (by omega) (show 0 ≤ (f1 8) ∧ (f1 8) < 301 from (by omega)) (show InR (f1 7) from (inr (by omega))) (show InR (f1 2) from (inr (by omega))) (inr (by decide))) (sh_277 hS) (lq_277 hS) ?_ (hlev := by omega)
          refine x_topI (a' := takV f1 0) rfl ?_
          refine x_mem (V' := (up (up V 277 (takF f1 (V 280) 0 1)) 283 cd1)) (up_k (by decide) (up_up _ _ _ _)) ?_
          refine x_mem (V' := (up (up V 277 (ua (ua f1 2 1) 3 (V 280 (f1 8)))) 283 cd1)) (upE (upE rfl (takF_0 (show (f1) 2 = 0 by omega))) rfl) ?_
          refine x_topI (a' := 0) (takV_1 (show (f1) 2 = 0 by omega)) ?_
          refine x_if_eq (tgt := 98) dX3_readAsk_84 (inr (by decide)) (fun c84_6 => ?_) (fun c84_6 => ?_)
          · -- 84 eq -> 98
            exact x_vret hQ ⟨ua (ua f1 2 1) 3 (V 280 (f1 8)), cd1, CP_c2 (sr := V 280) hN r13 (fun k hk => (hK.2.1 k hk).2.1) (fun r h => Ask_0 hd hnn h) hc1 hz (fun k hk e => by have q := (hK.2.1 k hk).1; rw [← e] at q; have y := (cTk_c (T := T) (n := n) (p := pos T n k)).1; rw [← q] at y; rcases Int.lt_or_le (cmpO (tTok T n (pos T n k))) 0 with x | x; (exact x); (have := y.mpr x; omega)), rfl, rfl, rfl⟩ dX3_readAsk_98
          · exact absurd c84_6 (by decide)
        · skip
          have hzn : f1 2 ≠ 0 := hz
          refine x_cVi mm_X3_take ml_X3_125 dX3_readAsk_81 (c_X3_take 0 1 hS (by omega) (show 0 ≤ (f1 8) ∧ (f1 8) < 301 from (by omega)) (show InR (f1 7) from (inr (by omega))) (show InR (f1 2) from (inr (by omega))) (inr (by decide))) (sh_277 hS) (lq_277 hS) ?_ (hlev := by omega)
          refine x_topI (a' := takV f1 0) rfl ?_
          refine x_mem (V' := (up (up V 277 (takF f1 (V 280) 0 1)) 283 cd1)) (up_k (by decide) (up_up _ _ _ _)) ?_
          refine x_mem (V' := (up (up V 277 f1) 283 cd1)) (upE (upE rfl (takF_f hzn)) rfl) ?_
          refine x_topI (a' := 0) (if_pos hzn) ?_
          refine x_if_eq (tgt := 98) dX3_readAsk_84 (inr (by decide)) (fun c84_7 => ?_) (fun c84_7 => ?_)
          · -- 84 eq -> 98
            exact x_vret hQ ⟨f1, cd1, CP_c1 (fun r h => Ask_0 hd hnn h) hc1 hzn, rfl, rfl, rfl⟩ dX3_readAsk_98
          · exact absurd c84_7 (by decide)
      · -- 72 gt -> 75
        refine x_iconst dX3_readAsk_75 ?_
        refine x_goto (tgt := 80) dX3_readAsk_76 ?_
        refine x_iconst dX3_readAsk_80 ?_
        by_cases hz : f1 2 = 0
        · skip
          obtain ⟨j, em, g1, g2, g3, g4, g5, g6, g7, g8, g9⟩ := hc1.2.resolve_right (fun ⟨q, _, z, _⟩ => z hz)
          have g0 := hc1.1
          have htj : V 279 (f1 8) = cTk T n (pos T n j) := by rw [g5]; exact (hK.2.1 j g4).1
          have hqj := TkQ_mk htj
          have hjt : V 279 (f1 8) ≠ 0 → j < N := fun z => TkR_lt hK g4 (hqj.b0 z)
          refine x_cVi mm_X3_take ml_X3_125 dX3_readAsk_81 (c_X3_take 1 1 hS (by omega) (show 0 ≤ (f1 8) ∧ (f1 8) < 301 from (by omega)) (show InR (f1 7) from (inr (by omega))) (show InR (f1 2) from (inr (by omega))) (inr (by decide))) (sh_277 hS) (lq_277 hS) ?_ (hlev := by omega)
          refine x_topI (a' := takV f1 1) rfl ?_
          refine x_mem (V' := (up (up V 277 (takF f1 (V 280) 1 1)) 283 cd1)) (up_k (by decide) (up_up _ _ _ _)) ?_
          refine x_mem (V' := (up (up V 277 (ua f1 8 (f1 8 + 1))) 283 cd1)) (upE (upE rfl (takF_1 (show (f1) 2 = 0 by omega) (show (f1) 8 + 1 < (f1) 7 by omega))) rfl) ?_
          refine x_topI (a' := 1) (takV_1 (show (f1) 2 = 0 by omega)) ?_
          refine x_if_eq (tgt := 98) dX3_readAsk_84 (inr (by decide)) (fun c84_8 => ?_) (fun c84_8 => ?_)
          · exact absurd c84_8 (by decide)
          · -- 84 eq -> 87
            have hjN := hjt (by omega)
            refine x_al0 dX3_readAsk_87 ?_
            refine x_il1 dX3_readAsk_88 ?_
            refine x_cVcp mm_X3_readSum ml_X3_133 dX3_readAsk_89 (h1 (up (up V 277 (ua f1 8 (f1 8 + 1))) 283 cd1) (j + 1) (RdH_c hH rfl rfl rfl (Eq.trans (show (ua f1 8 (f1 8 + 1)) 7 = f1 7 from (ua_ne (by decide))) hc1_7)) (show RdS (ua f1 8 (f1 8 + 1)) (j + 1) N u from ⟨Eq.trans (show (ua f1 8 (f1 8 + 1)) 2 = f1 2 from (ua_ne (by decide))) (by omega), Eq.trans (show (ua f1 8 (f1 8 + 1)) 8 = f1 8 + 1 from (ua_same _ _ _)) (by omega), by omega, (by rw [(show (ua f1 8 (f1 8 + 1)) 13 = f1 13 from (ua_ne (by decide)))]; omega), Eq.trans (show (ua f1 8 (f1 8 + 1)) 9 = f1 9 from (ua_ne (by decide))) (hc1_9.trans (UQ_un r9))⟩)) (sh_277 hS) (lq_277 hS) (fun f2 cd2 hc2r => ?_) (hlev := by omega)
            have hc2 : CP T n N (j + 1) (G T n u 1 (8 - (d : Int)) 0 (pos T n (j + 1))) (ua f1 8 (f1 8 + 1)) cd1 f2 cd2 := hc2r
            clear hc2r
            have hc2q := CP_q hc2 hN (by rw [(show (ua f1 8 (f1 8 + 1)) 13 = f1 13 from (ua_ne (by decide)))]; omega)
            have hc2_7 : f2 7 = f1 7 := Eq.trans hc2q.2.2.2.1 (show (ua f1 8 (f1 8 + 1)) 7 = f1 7 from (ua_ne (by decide)))
            have hc2_9 : f2 9 = f1 9 := Eq.trans hc2q.2.2.2.2 (show (ua f1 8 (f1 8 + 1)) 9 = f1 9 from (ua_ne (by decide)))
            refine x_mem (V' := (up (up V 277 f2) 283 cd2)) (Eq.trans (congrArg (fun z => up z 283 _) (up_k (by decide) (up_up _ _ _ _))) (up_up _ _ _ _)) ?_
            refine x_al0 dX3_readAsk_92 ?_
            refine x_il2 dX3_readAsk_93 ?_
            refine x_ineg dX3_readAsk_94 ?_
            refine x_cVv mm_X3_emit ml_X3_157 dX3_readAsk_95 (c_X3_emit (-(V 279 (f1 8))) hS (show 0 ≤ (f2 13) ∧ (f2 13) ≤ 300 from (by omega))) (sh_277 hS) (lq_277 hS) ?_ (hlev := by omega)
            refine x_mem (V' := (up (up V 277 (emf f2)) 283 (emc f2 cd2 (-(V 279 (f1 8)))))) (Eq.trans (congrArg (fun z => up z 283 _) (up_k (by decide) (up_up _ _ _ _))) (up_up _ _ _ _)) ?_
            exact x_vret hQ ⟨emf f2, emc f2 cd2 (-(V 279 (f1 8))), CP_c3 hN r13 (fun r h => Ask_0 hd hnn h) g0 g1 g3 g6 g7 g8 g9 hqj (by omega) hc2, rfl, rfl, rfl⟩ dX3_readAsk_98
        · skip
          have hzn : f1 2 ≠ 0 := hz
          refine x_cVi mm_X3_take ml_X3_125 dX3_readAsk_81 (c_X3_take 1 1 hS (by omega) (show 0 ≤ (f1 8) ∧ (f1 8) < 301 from (by omega)) (show InR (f1 7) from (inr (by omega))) (show InR (f1 2) from (inr (by omega))) (inr (by decide))) (sh_277 hS) (lq_277 hS) ?_ (hlev := by omega)
          refine x_topI (a' := takV f1 1) rfl ?_
          refine x_mem (V' := (up (up V 277 (takF f1 (V 280) 1 1)) 283 cd1)) (up_k (by decide) (up_up _ _ _ _)) ?_
          refine x_mem (V' := (up (up V 277 f1) 283 cd1)) (upE (upE rfl (takF_f hzn)) rfl) ?_
          refine x_topI (a' := 0) (if_pos hzn) ?_
          refine x_if_eq (tgt := 98) dX3_readAsk_84 (inr (by decide)) (fun c84_9 => ?_) (fun c84_9 => ?_)
          · -- 84 eq -> 98
            exact x_vret hQ ⟨f1, cd1, CP_c1 (fun r h => Ask_0 hd hnn h) hc1 hzn, rfl, rfl, rfl⟩ dX3_readAsk_98
          · exact absurd c84_9 (by decide)
  · -- 11 ne -> 14
    have hnt : isNotT T n (pos T n i) := (hq.w (k := 13) (by decide) rfl).mp (by omega)
    have hiN := TkR_lt hK r3 (by have := hnt.1; omega)
    refine x_al0 dX3_readAsk_14 ?_
    refine x_il1 dX3_readAsk_15 ?_
    refine x_bipush dX3_readAsk_16 ?_
    refine x_icmp_ge (tgt := 25) dX3_readAsk_18 (inr (by omega)) (inr (by decide)) (fun c18_10 => ?_) (fun c18_10 => ?_)
    · -- 18 ge -> 25
      refine x_iconst dX3_readAsk_25 ?_
      refine x_iconst dX3_readAsk_26 ?_
      refine x_cVi mm_X3_take ml_X3_125 dX3_readAsk_27 (c_X3_take 0 3 hS (by omega) (by omega) (inr (by omega)) (inr (by omega)) (inr (by decide))) (sh_277 hS) (lq_277 hS) ?_ (hlev := by omega)
      refine x_mem (V' := (up V 277 (ua (ua (V 277) 2 3) 3 (V 280 (V 277 8))))) (upE rfl (takF_0 (show (V 277) 2 = 0 by omega))) ?_
      refine x_topI (a' := 0) (takV_1 (show (V 277) 2 = 0 by omega)) ?_
      refine x_if_eq (tgt := 46) dX3_readAsk_30 (inr (by decide)) (fun c30_11 => ?_) (fun c30_11 => ?_)
      · -- 30 eq -> 46
        exact x_vret hQ ⟨ua (ua (V 277) 2 3) 3 (V 280 (V 277 8)), V 283, CP_f (sr := V 280) ⟨r8, r3⟩ (by omega) (by decide) hsr (Ask_deep (by omega) hnt), rfl, rfl, (show up (up V 277 _) 283 (V 283) = up V 277 _ from up_self _ 283)⟩ dX3_readAsk_46
      · exact absurd c30_11 (by decide)
    · -- 18 ge -> 21
      refine x_iconst dX3_readAsk_21 ?_
      refine x_goto (tgt := 26) dX3_readAsk_22 ?_
      refine x_iconst dX3_readAsk_26 ?_
      refine x_cVi mm_X3_take ml_X3_125 dX3_readAsk_27 (c_X3_take 1 3 hS (by omega) (by omega) (inr (by omega)) (inr (by omega)) (inr (by decide))) (sh_277 hS) (lq_277 hS) ?_ (hlev := by omega)
      refine x_mem (V' := (up V 277 (ua (V 277) 8 (V 277 8 + 1)))) (upE rfl (takF_1 (show (V 277) 2 = 0 by omega) (show (V 277) 8 + 1 < (V 277) 7 by omega))) ?_
      refine x_topI (a' := 1) (takV_1 (show (V 277) 2 = 0 by omega)) ?_
      refine x_if_eq (tgt := 46) dX3_readAsk_30 (inr (by decide)) (fun c30_12 => ?_) (fun c30_12 => ?_)
      · exact absurd c30_12 (by decide)
      · -- 30 eq -> 33
        refine x_al0 dX3_readAsk_33 ?_
        refine x_il1 dX3_readAsk_34 ?_
        refine x_iconst dX3_readAsk_35 ?_
        refine x_iadd dX3_readAsk_36 ?_
        refine x_topI (a' := 8 - ((d - 1 : Nat) : Int)) (by omega) ?_
        refine x_cVcp mm_X3_readAsk ml_X3_154 dX3_readAsk_37 (ih (d - 1) (by omega) (up V 277 (ua (V 277) 8 (V 277 8 + 1))) (i + 1) (RdH_c hH rfl rfl rfl (show (ua (V 277) 8 (V 277 8 + 1)) 7 = V 277 7 by simp only [ua]; (repeat rw [if_neg (by decide)]))) (show RdS (ua (V 277) 8 (V 277 8 + 1)) (i + 1) N u from ⟨Eq.trans (show (ua (V 277) 8 (V 277 8 + 1)) 2 = V 277 2 from (ua_ne (by decide))) (by omega), Eq.trans (show (ua (V 277) 8 (V 277 8 + 1)) 8 = V 277 8 + 1 from (ua_same _ _ _)) (by omega), by omega, (by rw [(show (ua (V 277) 8 (V 277 8 + 1)) 13 = V 277 13 from (ua_ne (by decide)))]; omega), Eq.trans (show (ua (V 277) 8 (V 277 8 + 1)) 9 = V 277 9 from (ua_ne (by decide))) (UQ_un r9)⟩)) (sh_277 hS) (lq_277 hS) (fun f1 cd1 hc1r => ?_) (hlev := by omega)
        have hc1 : CP T n N (i + 1) (Ask T n u (8 - ((d - 1 : Nat) : Int)) (pos T n (i + 1))) (ua (V 277) 8 (V 277 8 + 1)) (V 283) f1 cd1 := hc1r
        clear hc1r
        have hc1q := CP_q hc1 hN (by rw [(show (ua (V 277) 8 (V 277 8 + 1)) 13 = V 277 13 from (ua_ne (by decide)))]; omega)
        have hc1_7 : f1 7 = V 277 7 := Eq.trans hc1q.2.2.2.1 (show (ua (V 277) 8 (V 277 8 + 1)) 7 = V 277 7 from (ua_ne (by decide)))
        have hc1_9 : f1 9 = V 277 9 := Eq.trans hc1q.2.2.2.2 (show (ua (V 277) 8 (V 277 8 + 1)) 9 = V 277 9 from (ua_ne (by decide)))
        refine x_mem (V' := (up (up V 277 f1) 283 cd1)) (congrArg (fun z => up z 283 _) (up_up _ _ _ _)) ?_
        refine x_al0 dX3_readAsk_40 ?_
        refine x_bipush dX3_readAsk_41 ?_
        refine x_cVv mm_X3_emit ml_X3_157 dX3_readAsk_43 (c_X3_emit (-29) hS (show 0 ≤ (f1 13) ∧ (f1 13) ≤ 300 from (by omega))) (sh_277 hS) (lq_277 hS) ?_ (hlev := by omega)
        refine x_mem (V' := (up (up V 277 (emf f1)) 283 (emc f1 cd1 (-29)))) (Eq.trans (congrArg (fun z => up z 283 _) (up_k (by decide) (up_up _ _ _ _))) (up_up _ _ _ _)) ?_
        exact x_vret hQ ⟨emf f1, emc f1 cd1 (-29), CP_post (x := (20, 0)) hiN hR hN (by decide) (fun s hs => Ask_not hd (by omega) hnt hs) hc1, rfl, rfl, rfl⟩ dX3_readAsk_46
theorem c_X3_ra {B : Bs} {S : Stt} (hS : Stat S) (T : Int → Int) (n u : Int) (N : Nat) : ∀ d : Nat, d ≤ 8 → AskC B S T n u N d := by
  intro d
  induction d using Nat.strongRecOn
  rename_i d ih
  intro hd
  exact c_X3_readAsk_s hS T n u N d hd (c_X3_rs hS T n u N d hd).2 (fun e he => ih e he (by omega))
