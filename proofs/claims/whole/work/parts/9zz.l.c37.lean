set_option maxRecDepth 100000 in
set_option maxHeartbeats 4000000 in
theorem c_X3_readEither {B : Bs} {S : Stt} {V : Va} (hS : Stat S) (T : Int → Int) (n u : Int) (N i : Nat) (hH : RdH T n N V) (hR : RdS (V 277) i N u) : C B yX3_readEither cX3_readEither 4 none 22 0 0 [vR B 277] S V (rCP S V (CP T n N i (Eith T n u 0 (pos T n i)) (V 277) (V 283))) := by
  have hA := c_X3_ra (B := B) hS T n u N 8 (by decide)
  unfold AskC at hA
  rw [show (8 : Int) - ((8 : Nat) : Int) = 0 by decide] at hA
  refine C.of [some (vR B 277), none, none, none] ?_
  intro Γ hQ
  have hK := hH.1
  have h7 := hH.2.1
  have hn := hH.2.2.1
  have hTp := hH.2.2.2
  have r2 := hR.1
  have r8 := hR.2.1
  have r3 := hR.2.2.1
  have r13 := hR.2.2.2.1
  have r9 := UQ_mk hR.2.2.2.2
  have hp := pos_le hTp hn.1 i
  have hk := hK.2.1 i r3
  have hN := hK.1
  have hpr := (tok_r hTp hp.2).2.1
  have hpr0 := (tok_r hTp hp.2).1
  have r91 := r9.r
  refine x_iconst dX3_readEither_0 ?_
  refine x_is1 dX3_readEither_1 ?_
  refine x_al0 dX3_readEither_2 ?_
  refine x_iconst dX3_readEither_3 ?_
  refine x_cVcp mm_X3_readAsk ml_X3_154 dX3_readEither_4 (hA V i hH hR) (sh_277 hS) (lq_277 hS) (fun f1 cd1 hc1r => ?_)
  have hc1 : CP T n N i (Ask T n u 0 (pos T n i)) (V 277) (V 283) f1 cd1 := hc1r
  clear hc1r
  have hc1q := CP_q hc1 hN (by omega)
  have hc1_7 : f1 7 = V 277 7 := hc1q.2.2.2.1
  have hc1_9 : f1 9 = V 277 9 := hc1q.2.2.2.2
  refine x_iconst dX3_readEither_7 ?_
  refine x_is2 dX3_readEither_8 ?_
  have lp9 : ∀ (N9 : Nat) (b : Int) (c : Int) (f : Int → Int) (cd : Int → Int), (0 ≤ c ∧ c ≤ 300) → (EcI T n u N i (V 277) (V 283) b c f cd) → (300 - c).toNat < N9 → X Γ B RX3 "readEither" cX3_readEither 4 none 22 0 0 9 [some (vR B 277), some (vI b), some (vI c), none] [] 0 0 S (up (up V 277 f) 283 cd) := by
    intro N9
    induction N9 with
    | zero => intro b c f cd hc hI hN; exact absurd hN (Nat.not_lt_zero _)
    | succ N9 ih9 =>
      intro b c f cd hc hI hN9
      obtain ⟨s2, s8, s13, hq7, hq9, sb, sc⟩ := EcI_q hI hN r13 hc.1
      have hbk := TkR_r hK s8.1 s8.2
      refine x_il2 dX3_readEither_9 ?_
      refine x_sipush dX3_readEither_10 ?_
      refine x_icmp_ge (tgt := 127) dX3_readEither_13 (inr (by omega)) (inr (by decide)) (fun c13_1 => ?_) (fun c13_1 => ?_)
      · -- 13 ge -> 127
        refine x_il1 dX3_readEither_127 ?_
        refine x_if_eq (tgt := 137) dX3_readEither_128 (inr (by omega)) (fun c128_2 => ?_) (fun c128_2 => ?_)
        · -- 128 eq -> 137
          exact x_vret hQ ⟨f, cd, (by by_cases z : f 2 = 0; (exact (EcI_end hI hc.1 z hN r13 (fun j hj e => by have q := (hK.2.1 j hj).1; rw [← e] at q; have q := TkQ_mk q; exact ⟨fun z => by have y := (q.w (k := 14) (by decide) rfl).mpr z; omega, fun z => by have y := (q.w (k := 15) (by decide) rfl).mpr z; omega⟩)).1 (by omega)); exact EcI_fl hI z), rfl, rfl, rfl⟩ dX3_readEither_137
        · -- 128 eq -> 131
          refine x_al0 dX3_readEither_131 ?_
          refine x_bipush dX3_readEither_132 ?_
          refine x_cVv mm_X3_emit ml_X3_157 dX3_readEither_134 (c_X3_emit (-31) hS (show 0 ≤ (f 13) ∧ (f 13) ≤ 300 from (by omega))) (sh_277 hS) (lq_277 hS) ?_
          refine x_mem (V' := (up (up V 277 (emf f)) 283 (emc f cd (-31)))) (Eq.trans (congrArg (fun z => up z 283 _) (up_k (by decide) (up_up _ _ _ _))) (up_up _ _ _ _)) ?_
          exact x_vret hQ ⟨emf f, emc f cd (-31), (by by_cases z : f 2 = 0; (exact (EcI_end hI hc.1 z hN r13 (fun j hj e => by have q := (hK.2.1 j hj).1; rw [← e] at q; have q := TkQ_mk q; exact ⟨fun z => by have y := (q.w (k := 14) (by decide) rfl).mpr z; omega, fun z => by have y := (q.w (k := 15) (by decide) rfl).mpr z; omega⟩)).2 (by omega)); exact CP_e (EcI_fl hI z) z), rfl, rfl, rfl⟩ dX3_readEither_137
      · -- 13 ge -> 16
        refine x_al0 dX3_readEither_16 ?_
        refine x_getI fl_X3_15 (sh_277 hS) (lq_277 hS) dX3_readEither_17 ?_
        refine x_topI (a' := f 2) rfl ?_
        refine x_if_ne (tgt := 127) dX3_readEither_20 (inr (by omega)) (fun c20_3 => ?_) (fun c20_3 => ?_)
        · -- 20 ne -> 127
          refine x_il1 dX3_readEither_127 ?_
          refine x_if_eq (tgt := 137) dX3_readEither_128 (inr (by omega)) (fun c128_4 => ?_) (fun c128_4 => ?_)
          · -- 128 eq -> 137
            exact x_vret hQ ⟨f, cd, (by by_cases z : f 2 = 0; (exact (EcI_end hI hc.1 z hN r13 (fun j hj e => by have q := (hK.2.1 j hj).1; rw [← e] at q; have q := TkQ_mk q; exact ⟨fun z => by have y := (q.w (k := 14) (by decide) rfl).mpr z; omega, fun z => by have y := (q.w (k := 15) (by decide) rfl).mpr z; omega⟩)).1 (by omega)); exact EcI_fl hI z), rfl, rfl, rfl⟩ dX3_readEither_137
          · -- 128 eq -> 131
            refine x_al0 dX3_readEither_131 ?_
            refine x_bipush dX3_readEither_132 ?_
            refine x_cVv mm_X3_emit ml_X3_157 dX3_readEither_134 (c_X3_emit (-31) hS (show 0 ≤ (f 13) ∧ (f 13) ≤ 300 from (by omega))) (sh_277 hS) (lq_277 hS) ?_
            refine x_mem (V' := (up (up V 277 (emf f)) 283 (emc f cd (-31)))) (Eq.trans (congrArg (fun z => up z 283 _) (up_k (by decide) (up_up _ _ _ _))) (up_up _ _ _ _)) ?_
            exact x_vret hQ ⟨emf f, emc f cd (-31), (by by_cases z : f 2 = 0; (exact (EcI_end hI hc.1 z hN r13 (fun j hj e => by have q := (hK.2.1 j hj).1; rw [← e] at q; have q := TkQ_mk q; exact ⟨fun z => by have y := (q.w (k := 14) (by decide) rfl).mpr z; omega, fun z => by have y := (q.w (k := 15) (by decide) rfl).mpr z; omega⟩)).2 (by omega)); exact CP_e (EcI_fl hI z) z), rfl, rfl, rfl⟩ dX3_readEither_137
        · -- 20 ne -> 23
          refine x_al0 dX3_readEither_23 ?_
          refine x_getR fl_X3_22 (sh_277 hS) (lq_277 hS) (rf_277_4 hS) dX3_readEither_24 ?_
          refine x_al0 dX3_readEither_27 ?_
          refine x_getI fl_X3_52 (sh_277 hS) (lq_277 hS) dX3_readEither_28 ?_
          refine x_topI (a' := f 8) rfl ?_
          refine x_iald (sh_279 hS) (lq_279 hS) (by omega) (by omega) dX3_readEither_31 ?_
          refine x_topI (a' := V 279 (f 8)) rfl ?_
          refine x_bipush dX3_readEither_32 ?_
          refine x_icmp_eq (tgt := 51) dX3_readEither_34 (inr (by omega)) (inr (by decide)) (fun c34_5 => ?_) (fun c34_5 => ?_)
          · -- 34 eq -> 51
            have hz : f 2 = 0 := by omega
            obtain ⟨j, em, g1, g2, g3, g4, g5, g6, g7, g8, g9⟩ := hI.2.2.resolve_right (fun ⟨q, _, z, _⟩ => z hz)
            have w0 := hI.1
            have g0 := hI.2.1
            have htj : V 279 (f 8) = cTk T n (pos T n j) := by rw [g5]; exact (hK.2.1 j g4).1
            have hqj := TkQ_mk htj
            have hjN := TkR_lt hK g4 (hqj.b0 (by omega))
            clear hI
            refine x_al0 dX3_readEither_51 ?_
            refine x_getR fl_X3_22 (sh_277 hS) (lq_277 hS) (rf_277_4 hS) dX3_readEither_52 ?_
            refine x_al0 dX3_readEither_55 ?_
            refine x_getI fl_X3_52 (sh_277 hS) (lq_277 hS) dX3_readEither_56 ?_
            refine x_topI (a' := f 8) rfl ?_
            refine x_iald (sh_279 hS) (lq_279 hS) (by omega) (by omega) dX3_readEither_59 ?_
            refine x_topI (a' := V 279 (f 8)) rfl ?_
            refine x_bipush dX3_readEither_60 ?_
            refine x_icmp_ne (tgt := 69) dX3_readEither_62 (inr (by omega)) (inr (by decide)) (fun c62_6 => ?_) (fun c62_6 => ?_)
            · -- 62 ne -> 69
              refine x_iconst dX3_readEither_69 ?_
              refine x_is3 dX3_readEither_70 ?_
              refine x_al0 dX3_readEither_71 ?_
              refine x_iconst dX3_readEither_72 ?_
              refine x_iconst dX3_readEither_73 ?_
              refine x_cVi mm_X3_take ml_X3_125 dX3_readEither_74 (c_X3_take 1 1 hS (by omega) (show 0 ≤ (f 8) ∧ (f 8) < 301 from (by omega)) (show InR (f 7) from (inr (by omega))) (show InR (f 2) from (inr (by omega))) (inr (by decide))) (sh_277 hS) (lq_277 hS) ?_
              refine x_topI (a' := takV f 1) rfl ?_
              refine x_mem (V' := (up (up V 277 (takF f (V 280) 1 1)) 283 cd)) (up_k (by decide) (up_up _ _ _ _)) ?_
              refine x_mem (V' := (up (up V 277 (ua f 8 (f 8 + 1))) 283 cd)) (upE (upE rfl (takF_1 (show (f) 2 = 0 by omega) (show (f) 8 + 1 < (f) 7 by omega))) rfl) ?_
              refine x_topI (a' := 1) (takV_1 (show (f) 2 = 0 by omega)) ?_
              refine x_pop dX3_readEither_77 ?_
              refine x_il3 dX3_readEither_78 ?_
              refine x_if_eq (tgt := 92) dX3_readEither_79 (inr (by decide)) (fun c79_7 => ?_) (fun c79_7 => ?_)
              · -- 79 eq -> 92
                refine x_il1 dX3_readEither_92 ?_
                refine x_if_ne (tgt := 100) dX3_readEither_93 (inr (by omega)) (fun c93_8 => ?_) (fun c93_8 => ?_)
                · -- 93 ne -> 100
                  refine x_iconst dX3_readEither_100 ?_
                  refine x_goto (tgt := 105) dX3_readEither_101 ?_
                  refine x_is1 dX3_readEither_105 ?_
                  refine x_al0 dX3_readEither_106 ?_
                  refine x_iconst dX3_readEither_107 ?_
                  refine x_cVcp mm_X3_readAsk ml_X3_154 dX3_readEither_108 (hA (up (up V 277 (ua f 8 (f 8 + 1))) 283 cd) (j + 1) (RdH_c hH rfl rfl rfl (Eq.trans (show (ua f 8 (f 8 + 1)) 7 = f 7 from (ua_ne (by decide))) hq7)) (show RdS (ua f 8 (f 8 + 1)) (j + 1) N u from ⟨Eq.trans (show (ua f 8 (f 8 + 1)) 2 = f 2 from (ua_ne (by decide))) (by omega), Eq.trans (show (ua f 8 (f 8 + 1)) 8 = f 8 + 1 from (ua_same _ _ _)) (by omega), by omega, (by rw [(show (ua f 8 (f 8 + 1)) 13 = f 13 from (ua_ne (by decide)))]; omega), Eq.trans (show (ua f 8 (f 8 + 1)) 9 = f 9 from (ua_ne (by decide))) (hq9.trans (UQ_un r9))⟩)) (sh_277 hS) (lq_277 hS) (fun f1 cd1 hc1r => ?_)
                  have hc1 : CP T n N (j + 1) (Ask T n u 0 (pos T n (j + 1))) (ua f 8 (f 8 + 1)) cd f1 cd1 := hc1r
                  clear hc1r
                  have hc1q := CP_q hc1 hN (by rw [(show (ua f 8 (f 8 + 1)) 13 = f 13 from (ua_ne (by decide)))]; omega)
                  have hc1_7 : f1 7 = f 7 := Eq.trans hc1q.2.2.2.1 (show (ua f 8 (f 8 + 1)) 7 = f 7 from (ua_ne (by decide)))
                  have hc1_9 : f1 9 = f 9 := Eq.trans hc1q.2.2.2.2 (show (ua f 8 (f 8 + 1)) 9 = f 9 from (ua_ne (by decide)))
                  refine x_mem (V' := (up (up V 277 f1) 283 cd1)) (Eq.trans (congrArg (fun z => up z 283 _) (up_k (by decide) (up_up _ _ _ _))) (up_up _ _ _ _)) ?_
                  refine x_il3 dX3_readEither_111 ?_
                  refine x_if_ne (tgt := 121) dX3_readEither_112 (inr (by decide)) (fun c112_9 => ?_) (fun c112_9 => ?_)
                  · exact absurd c112_9 (by decide)
                  · -- 112 ne -> 115
                    refine x_al0 dX3_readEither_115 ?_
                    refine x_bipush dX3_readEither_116 ?_
                    refine x_cVv mm_X3_emit ml_X3_157 dX3_readEither_118 (c_X3_emit (-30) hS (show 0 ≤ (f1 13) ∧ (f1 13) ≤ 300 from (by omega))) (sh_277 hS) (lq_277 hS) ?_
                    refine x_mem (V' := (up (up V 277 (emf f1)) 283 (emc f1 cd1 (-30)))) (Eq.trans (congrArg (fun z => up z 283 _) (up_k (by decide) (up_up _ _ _ _))) (up_up _ _ _ _)) ?_
                    refine x_inc2 dX3_readEither_121 ?_
                    refine x_goto (tgt := 9) dX3_readEither_124 ?_
                    exact x_fg (ih9 1 (c + 1) (emf f1) (emc f1 cd1 (-30)) (by omega) (by have y : b = 1 := (by omega); have q := EcI_and hN r13 w0 g0 g1 g3 g6 g7 g8 g9 ((hqj.w (k := 14) (by decide) rfl).mp (by omega)) hc1; rw [y] at q; exact q) (by omega)) (And.intro rfl (And.intro rfl (And.intro rfl trivial)))
                · -- 93 ne -> 96
                  refine x_il3 dX3_readEither_96 ?_
                  refine x_if_eq (tgt := 104) dX3_readEither_97 (inr (by decide)) (fun c97_10 => ?_) (fun c97_10 => ?_)
                  · -- 97 eq -> 104
                    refine x_iconst dX3_readEither_104 ?_
                    refine x_is1 dX3_readEither_105 ?_
                    refine x_al0 dX3_readEither_106 ?_
                    refine x_iconst dX3_readEither_107 ?_
                    refine x_cVcp mm_X3_readAsk ml_X3_154 dX3_readEither_108 (hA (up (up V 277 (ua f 8 (f 8 + 1))) 283 cd) (j + 1) (RdH_c hH rfl rfl rfl (Eq.trans (show (ua f 8 (f 8 + 1)) 7 = f 7 from (ua_ne (by decide))) hq7)) (show RdS (ua f 8 (f 8 + 1)) (j + 1) N u from ⟨Eq.trans (show (ua f 8 (f 8 + 1)) 2 = f 2 from (ua_ne (by decide))) (by omega), Eq.trans (show (ua f 8 (f 8 + 1)) 8 = f 8 + 1 from (ua_same _ _ _)) (by omega), by omega, (by rw [(show (ua f 8 (f 8 + 1)) 13 = f 13 from (ua_ne (by decide)))]; omega), Eq.trans (show (ua f 8 (f 8 + 1)) 9 = f 9 from (ua_ne (by decide))) (hq9.trans (UQ_un r9))⟩)) (sh_277 hS) (lq_277 hS) (fun f1 cd1 hc1r => ?_)
                    have hc1 : CP T n N (j + 1) (Ask T n u 0 (pos T n (j + 1))) (ua f 8 (f 8 + 1)) cd f1 cd1 := hc1r
                    clear hc1r
                    have hc1q := CP_q hc1 hN (by rw [(show (ua f 8 (f 8 + 1)) 13 = f 13 from (ua_ne (by decide)))]; omega)
                    have hc1_7 : f1 7 = f 7 := Eq.trans hc1q.2.2.2.1 (show (ua f 8 (f 8 + 1)) 7 = f 7 from (ua_ne (by decide)))
                    have hc1_9 : f1 9 = f 9 := Eq.trans hc1q.2.2.2.2 (show (ua f 8 (f 8 + 1)) 9 = f 9 from (ua_ne (by decide)))
                    refine x_mem (V' := (up (up V 277 f1) 283 cd1)) (Eq.trans (congrArg (fun z => up z 283 _) (up_k (by decide) (up_up _ _ _ _))) (up_up _ _ _ _)) ?_
                    refine x_il3 dX3_readEither_111 ?_
                    refine x_if_ne (tgt := 121) dX3_readEither_112 (inr (by decide)) (fun c112_11 => ?_) (fun c112_11 => ?_)
                    · exact absurd c112_11 (by decide)
                    · -- 112 ne -> 115
                      refine x_al0 dX3_readEither_115 ?_
                      refine x_bipush dX3_readEither_116 ?_
                      refine x_cVv mm_X3_emit ml_X3_157 dX3_readEither_118 (c_X3_emit (-30) hS (show 0 ≤ (f1 13) ∧ (f1 13) ≤ 300 from (by omega))) (sh_277 hS) (lq_277 hS) ?_
                      refine x_mem (V' := (up (up V 277 (emf f1)) 283 (emc f1 cd1 (-30)))) (Eq.trans (congrArg (fun z => up z 283 _) (up_k (by decide) (up_up _ _ _ _))) (up_up _ _ _ _)) ?_
                      refine x_inc2 dX3_readEither_121 ?_
                      refine x_goto (tgt := 9) dX3_readEither_124 ?_
                      exact x_fg (ih9 0 (c + 1) (emf f1) (emc f1 cd1 (-30)) (by omega) (by have y : b = 0 := (by omega); have q := EcI_and hN r13 w0 g0 g1 g3 g6 g7 g8 g9 ((hqj.w (k := 14) (by decide) rfl).mp (by omega)) hc1; rw [y] at q; exact q) (by omega)) (And.intro rfl (And.intro rfl (And.intro rfl trivial)))
                  · exact absurd c97_10 (by decide)
              · exact absurd c79_7 (by decide)
            · -- 62 ne -> 65
              refine x_iconst dX3_readEither_65 ?_
              refine x_goto (tgt := 70) dX3_readEither_66 ?_
              refine x_is3 dX3_readEither_70 ?_
              refine x_al0 dX3_readEither_71 ?_
              refine x_iconst dX3_readEither_72 ?_
              refine x_iconst dX3_readEither_73 ?_
              refine x_cVi mm_X3_take ml_X3_125 dX3_readEither_74 (c_X3_take 1 1 hS (by omega) (show 0 ≤ (f 8) ∧ (f 8) < 301 from (by omega)) (show InR (f 7) from (inr (by omega))) (show InR (f 2) from (inr (by omega))) (inr (by decide))) (sh_277 hS) (lq_277 hS) ?_
              refine x_topI (a' := takV f 1) rfl ?_
              refine x_mem (V' := (up (up V 277 (takF f (V 280) 1 1)) 283 cd)) (up_k (by decide) (up_up _ _ _ _)) ?_
              refine x_mem (V' := (up (up V 277 (ua f 8 (f 8 + 1))) 283 cd)) (upE (upE rfl (takF_1 (show (f) 2 = 0 by omega) (show (f) 8 + 1 < (f) 7 by omega))) rfl) ?_
              refine x_topI (a' := 1) (takV_1 (show (f) 2 = 0 by omega)) ?_
              refine x_pop dX3_readEither_77 ?_
              refine x_il3 dX3_readEither_78 ?_
              refine x_if_eq (tgt := 92) dX3_readEither_79 (inr (by decide)) (fun c79_12 => ?_) (fun c79_12 => ?_)
              · exact absurd c79_12 (by decide)
              · -- 79 eq -> 82
                refine x_il1 dX3_readEither_82 ?_
                refine x_if_eq (tgt := 92) dX3_readEither_83 (inr (by omega)) (fun c83_13 => ?_) (fun c83_13 => ?_)
                · -- 83 eq -> 92
                  refine x_il1 dX3_readEither_92 ?_
                  refine x_if_ne (tgt := 100) dX3_readEither_93 (inr (by omega)) (fun c93_14 => ?_) (fun c93_14 => ?_)
                  · -- 93 ne -> 100
                    refine x_iconst dX3_readEither_100 ?_
                    refine x_goto (tgt := 105) dX3_readEither_101 ?_
                    refine x_is1 dX3_readEither_105 ?_
                    refine x_al0 dX3_readEither_106 ?_
                    refine x_iconst dX3_readEither_107 ?_
                    refine x_cVcp mm_X3_readAsk ml_X3_154 dX3_readEither_108 (hA (up (up V 277 (ua f 8 (f 8 + 1))) 283 cd) (j + 1) (RdH_c hH rfl rfl rfl (Eq.trans (show (ua f 8 (f 8 + 1)) 7 = f 7 from (ua_ne (by decide))) hq7)) (show RdS (ua f 8 (f 8 + 1)) (j + 1) N u from ⟨Eq.trans (show (ua f 8 (f 8 + 1)) 2 = f 2 from (ua_ne (by decide))) (by omega), Eq.trans (show (ua f 8 (f 8 + 1)) 8 = f 8 + 1 from (ua_same _ _ _)) (by omega), by omega, (by rw [(show (ua f 8 (f 8 + 1)) 13 = f 13 from (ua_ne (by decide)))]; omega), Eq.trans (show (ua f 8 (f 8 + 1)) 9 = f 9 from (ua_ne (by decide))) (hq9.trans (UQ_un r9))⟩)) (sh_277 hS) (lq_277 hS) (fun f1 cd1 hc1r => ?_)
                    have hc1 : CP T n N (j + 1) (Ask T n u 0 (pos T n (j + 1))) (ua f 8 (f 8 + 1)) cd f1 cd1 := hc1r
                    clear hc1r
                    have hc1q := CP_q hc1 hN (by rw [(show (ua f 8 (f 8 + 1)) 13 = f 13 from (ua_ne (by decide)))]; omega)
                    have hc1_7 : f1 7 = f 7 := Eq.trans hc1q.2.2.2.1 (show (ua f 8 (f 8 + 1)) 7 = f 7 from (ua_ne (by decide)))
                    have hc1_9 : f1 9 = f 9 := Eq.trans hc1q.2.2.2.2 (show (ua f 8 (f 8 + 1)) 9 = f 9 from (ua_ne (by decide)))
                    refine x_mem (V' := (up (up V 277 f1) 283 cd1)) (Eq.trans (congrArg (fun z => up z 283 _) (up_k (by decide) (up_up _ _ _ _))) (up_up _ _ _ _)) ?_
                    refine x_il3 dX3_readEither_111 ?_
                    refine x_if_ne (tgt := 121) dX3_readEither_112 (inr (by decide)) (fun c112_15 => ?_) (fun c112_15 => ?_)
                    · -- 112 ne -> 121
                      refine x_inc2 dX3_readEither_121 ?_
                      refine x_goto (tgt := 9) dX3_readEither_124 ?_
                      exact x_fg (ih9 1 (c + 1) f1 cd1 (by omega) (EcI_or w0 g0 g1 g3 g6 g7 g8 g9 (fun z => by have y := (hqj.w (k := 14) (by decide) rfl).mpr z; omega) ((hqj.w (k := 15) (by decide) rfl).mp (by omega)) (by first | exact Or.inl ⟨by omega, rfl, rfl⟩ | exact Or.inr ⟨by omega, rfl, rfl⟩) hc1) (by omega)) (And.intro rfl (And.intro rfl (And.intro rfl trivial)))
                    · exact absurd c112_15 (by decide)
                  · -- 93 ne -> 96
                    refine x_il3 dX3_readEither_96 ?_
                    refine x_if_eq (tgt := 104) dX3_readEither_97 (inr (by decide)) (fun c97_16 => ?_) (fun c97_16 => ?_)
                    · exact absurd c97_16 (by decide)
                    · -- 97 eq -> 100
                      refine x_iconst dX3_readEither_100 ?_
                      refine x_goto (tgt := 105) dX3_readEither_101 ?_
                      refine x_is1 dX3_readEither_105 ?_
                      refine x_al0 dX3_readEither_106 ?_
                      refine x_iconst dX3_readEither_107 ?_
                      refine x_cVcp mm_X3_readAsk ml_X3_154 dX3_readEither_108 (hA (up (up V 277 (ua f 8 (f 8 + 1))) 283 cd) (j + 1) (RdH_c hH rfl rfl rfl (Eq.trans (show (ua f 8 (f 8 + 1)) 7 = f 7 from (ua_ne (by decide))) hq7)) (show RdS (ua f 8 (f 8 + 1)) (j + 1) N u from ⟨Eq.trans (show (ua f 8 (f 8 + 1)) 2 = f 2 from (ua_ne (by decide))) (by omega), Eq.trans (show (ua f 8 (f 8 + 1)) 8 = f 8 + 1 from (ua_same _ _ _)) (by omega), by omega, (by rw [(show (ua f 8 (f 8 + 1)) 13 = f 13 from (ua_ne (by decide)))]; omega), Eq.trans (show (ua f 8 (f 8 + 1)) 9 = f 9 from (ua_ne (by decide))) (hq9.trans (UQ_un r9))⟩)) (sh_277 hS) (lq_277 hS) (fun f1 cd1 hc1r => ?_)
                      have hc1 : CP T n N (j + 1) (Ask T n u 0 (pos T n (j + 1))) (ua f 8 (f 8 + 1)) cd f1 cd1 := hc1r
                      clear hc1r
                      have hc1q := CP_q hc1 hN (by rw [(show (ua f 8 (f 8 + 1)) 13 = f 13 from (ua_ne (by decide)))]; omega)
                      have hc1_7 : f1 7 = f 7 := Eq.trans hc1q.2.2.2.1 (show (ua f 8 (f 8 + 1)) 7 = f 7 from (ua_ne (by decide)))
                      have hc1_9 : f1 9 = f 9 := Eq.trans hc1q.2.2.2.2 (show (ua f 8 (f 8 + 1)) 9 = f 9 from (ua_ne (by decide)))
                      refine x_mem (V' := (up (up V 277 f1) 283 cd1)) (Eq.trans (congrArg (fun z => up z 283 _) (up_k (by decide) (up_up _ _ _ _))) (up_up _ _ _ _)) ?_
                      refine x_il3 dX3_readEither_111 ?_
                      refine x_if_ne (tgt := 121) dX3_readEither_112 (inr (by decide)) (fun c112_17 => ?_) (fun c112_17 => ?_)
                      · -- 112 ne -> 121
                        refine x_inc2 dX3_readEither_121 ?_
                        refine x_goto (tgt := 9) dX3_readEither_124 ?_
                        exact x_fg (ih9 1 (c + 1) f1 cd1 (by omega) (EcI_or w0 g0 g1 g3 g6 g7 g8 g9 (fun z => by have y := (hqj.w (k := 14) (by decide) rfl).mpr z; omega) ((hqj.w (k := 15) (by decide) rfl).mp (by omega)) (by first | exact Or.inl ⟨by omega, rfl, rfl⟩ | exact Or.inr ⟨by omega, rfl, rfl⟩) hc1) (by omega)) (And.intro rfl (And.intro rfl (And.intro rfl trivial)))
                      · exact absurd c112_17 (by decide)
                · -- 83 eq -> 86
                  refine x_al0 dX3_readEither_86 ?_
                  refine x_bipush dX3_readEither_87 ?_
                  refine x_cVv mm_X3_emit ml_X3_157 dX3_readEither_89 (c_X3_emit (-31) hS (show 0 ≤ (f 13) ∧ (f 13) ≤ 300 from (by omega))) (sh_277 hS) (lq_277 hS) ?_
                  refine x_mem (V' := (up (up V 277 (emf (ua f 8 (f 8 + 1)))) 283 (emc (ua f 8 (f 8 + 1)) cd (-31)))) (Eq.trans (congrArg (fun z => up z 283 _) (up_k (by decide) (up_up _ _ _ _))) (up_up _ _ _ _)) ?_
                  refine x_mem (V' := (up (up V 277 (ua (ua f 8 (f 8 + 1)) 13 (f 13 + 1))) 283 (ua cd (f 13) (-31)))) (upE (upE rfl ((if_pos (show (ua f 8 (f 8 + 1)) 13 < 300 by rw [(show (ua f 8 (f 8 + 1)) 13 = f 13 from (ua_ne (by decide)))]; omega)).trans (congrArg (fun zz => ua (ua f 8 (f 8 + 1)) 13 (zz + 1)) (show (ua f 8 (f 8 + 1)) 13 = f 13 from (ua_ne (by decide)))))) ((if_pos (show (ua f 8 (f 8 + 1)) 13 < 300 by rw [(show (ua f 8 (f 8 + 1)) 13 = f 13 from (ua_ne (by decide)))]; omega)).trans (congrArg (fun zz => ua cd zz (-31)) (show (ua f 8 (f 8 + 1)) 13 = f 13 from (ua_ne (by decide)))))) ?_
                  refine x_il1 dX3_readEither_92 ?_
                  refine x_if_ne (tgt := 100) dX3_readEither_93 (inr (by omega)) (fun c93_18 => ?_) (fun c93_18 => ?_)
                  · -- 93 ne -> 100
                    refine x_iconst dX3_readEither_100 ?_
                    refine x_goto (tgt := 105) dX3_readEither_101 ?_
                    refine x_is1 dX3_readEither_105 ?_
                    refine x_al0 dX3_readEither_106 ?_
                    refine x_iconst dX3_readEither_107 ?_
                    refine x_cVcp mm_X3_readAsk ml_X3_154 dX3_readEither_108 (hA (up (up V 277 (ua (ua f 8 (f 8 + 1)) 13 (f 13 + 1))) 283 (ua cd (f 13) (-31))) (j + 1) (RdH_c hH rfl rfl rfl (Eq.trans (show (ua (ua f 8 (f 8 + 1)) 13 (f 13 + 1)) 7 = f 7 from ((ua_ne (by decide)).trans (ua_ne (by decide)))) hq7)) (show RdS (ua (ua f 8 (f 8 + 1)) 13 (f 13 + 1)) (j + 1) N u from ⟨Eq.trans (show (ua (ua f 8 (f 8 + 1)) 13 (f 13 + 1)) 2 = f 2 from ((ua_ne (by decide)).trans (ua_ne (by decide)))) (by omega), Eq.trans (show (ua (ua f 8 (f 8 + 1)) 13 (f 13 + 1)) 8 = f 8 + 1 from ((ua_ne (by decide)).trans (ua_same _ _ _))) (by omega), by omega, (by rw [(show (ua (ua f 8 (f 8 + 1)) 13 (f 13 + 1)) 13 = f 13 + 1 from (ua_same _ _ _))]; omega), Eq.trans (show (ua (ua f 8 (f 8 + 1)) 13 (f 13 + 1)) 9 = f 9 from ((ua_ne (by decide)).trans (ua_ne (by decide)))) (hq9.trans (UQ_un r9))⟩)) (sh_277 hS) (lq_277 hS) (fun f1 cd1 hc1r => ?_)
                    have hc1 : CP T n N (j + 1) (Ask T n u 0 (pos T n (j + 1))) (ua (ua f 8 (f 8 + 1)) 13 (f 13 + 1)) (ua cd (f 13) (-31)) f1 cd1 := hc1r
                    clear hc1r
                    have hc1q := CP_q hc1 hN (by rw [(show (ua (ua f 8 (f 8 + 1)) 13 (f 13 + 1)) 13 = f 13 + 1 from (ua_same _ _ _))]; omega)
                    have hc1_7 : f1 7 = f 7 := Eq.trans hc1q.2.2.2.1 (show (ua (ua f 8 (f 8 + 1)) 13 (f 13 + 1)) 7 = f 7 from ((ua_ne (by decide)).trans (ua_ne (by decide))))
                    have hc1_9 : f1 9 = f 9 := Eq.trans hc1q.2.2.2.2 (show (ua (ua f 8 (f 8 + 1)) 13 (f 13 + 1)) 9 = f 9 from ((ua_ne (by decide)).trans (ua_ne (by decide))))
                    refine x_mem (V' := (up (up V 277 f1) 283 cd1)) (Eq.trans (congrArg (fun z => up z 283 _) (up_k (by decide) (up_up _ _ _ _))) (up_up _ _ _ _)) ?_
                    refine x_il3 dX3_readEither_111 ?_
                    refine x_if_ne (tgt := 121) dX3_readEither_112 (inr (by decide)) (fun c112_19 => ?_) (fun c112_19 => ?_)
                    · -- 112 ne -> 121
                      refine x_inc2 dX3_readEither_121 ?_
                      refine x_goto (tgt := 9) dX3_readEither_124 ?_
                      exact x_fg (ih9 1 (c + 1) f1 cd1 (by omega) (EcI_or w0 g0 g1 g3 g6 g7 g8 g9 (fun z => by have y := (hqj.w (k := 14) (by decide) rfl).mpr z; omega) ((hqj.w (k := 15) (by decide) rfl).mp (by omega)) (by first | exact Or.inl ⟨by omega, rfl, rfl⟩ | exact Or.inr ⟨by omega, rfl, rfl⟩) hc1) (by omega)) (And.intro rfl (And.intro rfl (And.intro rfl trivial)))
                    · exact absurd c112_19 (by decide)
                  · -- 93 ne -> 96
                    refine x_il3 dX3_readEither_96 ?_
                    refine x_if_eq (tgt := 104) dX3_readEither_97 (inr (by decide)) (fun c97_20 => ?_) (fun c97_20 => ?_)
                    · exact absurd c97_20 (by decide)
                    · -- 97 eq -> 100
                      refine x_iconst dX3_readEither_100 ?_
                      refine x_goto (tgt := 105) dX3_readEither_101 ?_
                      refine x_is1 dX3_readEither_105 ?_
                      refine x_al0 dX3_readEither_106 ?_
                      refine x_iconst dX3_readEither_107 ?_
                      refine x_cVcp mm_X3_readAsk ml_X3_154 dX3_readEither_108 (hA (up (up V 277 (ua (ua f 8 (f 8 + 1)) 13 (f 13 + 1))) 283 (ua cd (f 13) (-31))) (j + 1) (RdH_c hH rfl rfl rfl (Eq.trans (show (ua (ua f 8 (f 8 + 1)) 13 (f 13 + 1)) 7 = f 7 from ((ua_ne (by decide)).trans (ua_ne (by decide)))) hq7)) (show RdS (ua (ua f 8 (f 8 + 1)) 13 (f 13 + 1)) (j + 1) N u from ⟨Eq.trans (show (ua (ua f 8 (f 8 + 1)) 13 (f 13 + 1)) 2 = f 2 from ((ua_ne (by decide)).trans (ua_ne (by decide)))) (by omega), Eq.trans (show (ua (ua f 8 (f 8 + 1)) 13 (f 13 + 1)) 8 = f 8 + 1 from ((ua_ne (by decide)).trans (ua_same _ _ _))) (by omega), by omega, (by rw [(show (ua (ua f 8 (f 8 + 1)) 13 (f 13 + 1)) 13 = f 13 + 1 from (ua_same _ _ _))]; omega), Eq.trans (show (ua (ua f 8 (f 8 + 1)) 13 (f 13 + 1)) 9 = f 9 from ((ua_ne (by decide)).trans (ua_ne (by decide)))) (hq9.trans (UQ_un r9))⟩)) (sh_277 hS) (lq_277 hS) (fun f1 cd1 hc1r => ?_)
                      have hc1 : CP T n N (j + 1) (Ask T n u 0 (pos T n (j + 1))) (ua (ua f 8 (f 8 + 1)) 13 (f 13 + 1)) (ua cd (f 13) (-31)) f1 cd1 := hc1r
                      clear hc1r
                      have hc1q := CP_q hc1 hN (by rw [(show (ua (ua f 8 (f 8 + 1)) 13 (f 13 + 1)) 13 = f 13 + 1 from (ua_same _ _ _))]; omega)
                      have hc1_7 : f1 7 = f 7 := Eq.trans hc1q.2.2.2.1 (show (ua (ua f 8 (f 8 + 1)) 13 (f 13 + 1)) 7 = f 7 from ((ua_ne (by decide)).trans (ua_ne (by decide))))
                      have hc1_9 : f1 9 = f 9 := Eq.trans hc1q.2.2.2.2 (show (ua (ua f 8 (f 8 + 1)) 13 (f 13 + 1)) 9 = f 9 from ((ua_ne (by decide)).trans (ua_ne (by decide))))
                      refine x_mem (V' := (up (up V 277 f1) 283 cd1)) (Eq.trans (congrArg (fun z => up z 283 _) (up_k (by decide) (up_up _ _ _ _))) (up_up _ _ _ _)) ?_
                      refine x_il3 dX3_readEither_111 ?_
                      refine x_if_ne (tgt := 121) dX3_readEither_112 (inr (by decide)) (fun c112_21 => ?_) (fun c112_21 => ?_)
                      · -- 112 ne -> 121
                        refine x_inc2 dX3_readEither_121 ?_
                        refine x_goto (tgt := 9) dX3_readEither_124 ?_
                        exact x_fg (ih9 1 (c + 1) f1 cd1 (by omega) (EcI_or w0 g0 g1 g3 g6 g7 g8 g9 (fun z => by have y := (hqj.w (k := 14) (by decide) rfl).mpr z; omega) ((hqj.w (k := 15) (by decide) rfl).mp (by omega)) (by first | exact Or.inl ⟨by omega, rfl, rfl⟩ | exact Or.inr ⟨by omega, rfl, rfl⟩) hc1) (by omega)) (And.intro rfl (And.intro rfl (And.intro rfl trivial)))
                      · exact absurd c112_21 (by decide)
          · -- 34 eq -> 37
            refine x_al0 dX3_readEither_37 ?_
            refine x_getR fl_X3_22 (sh_277 hS) (lq_277 hS) (rf_277_4 hS) dX3_readEither_38 ?_
            refine x_al0 dX3_readEither_41 ?_
            refine x_getI fl_X3_52 (sh_277 hS) (lq_277 hS) dX3_readEither_42 ?_
            refine x_topI (a' := f 8) rfl ?_
            refine x_iald (sh_279 hS) (lq_279 hS) (by omega) (by omega) dX3_readEither_45 ?_
            refine x_topI (a' := V 279 (f 8)) rfl ?_
            refine x_bipush dX3_readEither_46 ?_
            refine x_icmp_ne (tgt := 127) dX3_readEither_48 (inr (by omega)) (inr (by decide)) (fun c48_22 => ?_) (fun c48_22 => ?_)
            · -- 48 ne -> 127
              refine x_il1 dX3_readEither_127 ?_
              refine x_if_eq (tgt := 137) dX3_readEither_128 (inr (by omega)) (fun c128_23 => ?_) (fun c128_23 => ?_)
              · -- 128 eq -> 137
                exact x_vret hQ ⟨f, cd, (by by_cases z : f 2 = 0; (exact (EcI_end hI hc.1 z hN r13 (fun j hj e => by have q := (hK.2.1 j hj).1; rw [← e] at q; have q := TkQ_mk q; exact ⟨fun z => by have y := (q.w (k := 14) (by decide) rfl).mpr z; omega, fun z => by have y := (q.w (k := 15) (by decide) rfl).mpr z; omega⟩)).1 (by omega)); exact EcI_fl hI z), rfl, rfl, rfl⟩ dX3_readEither_137
              · -- 128 eq -> 131
                refine x_al0 dX3_readEither_131 ?_
                refine x_bipush dX3_readEither_132 ?_
                refine x_cVv mm_X3_emit ml_X3_157 dX3_readEither_134 (c_X3_emit (-31) hS (show 0 ≤ (f 13) ∧ (f 13) ≤ 300 from (by omega))) (sh_277 hS) (lq_277 hS) ?_
                refine x_mem (V' := (up (up V 277 (emf f)) 283 (emc f cd (-31)))) (Eq.trans (congrArg (fun z => up z 283 _) (up_k (by decide) (up_up _ _ _ _))) (up_up _ _ _ _)) ?_
                exact x_vret hQ ⟨emf f, emc f cd (-31), (by by_cases z : f 2 = 0; (exact (EcI_end hI hc.1 z hN r13 (fun j hj e => by have q := (hK.2.1 j hj).1; rw [← e] at q; have q := TkQ_mk q; exact ⟨fun z => by have y := (q.w (k := 14) (by decide) rfl).mpr z; omega, fun z => by have y := (q.w (k := 15) (by decide) rfl).mpr z; omega⟩)).2 (by omega)); exact CP_e (EcI_fl hI z) z), rfl, rfl, rfl⟩ dX3_readEither_137
            · -- 48 ne -> 51
              have hz : f 2 = 0 := by omega
              obtain ⟨j, em, g1, g2, g3, g4, g5, g6, g7, g8, g9⟩ := hI.2.2.resolve_right (fun ⟨q, _, z, _⟩ => z hz)
              have w0 := hI.1
              have g0 := hI.2.1
              have htj : V 279 (f 8) = cTk T n (pos T n j) := by rw [g5]; exact (hK.2.1 j g4).1
              have hqj := TkQ_mk htj
              have hjN := TkR_lt hK g4 (hqj.b0 (by omega))
              clear hI
              refine x_al0 dX3_readEither_51 ?_
              refine x_getR fl_X3_22 (sh_277 hS) (lq_277 hS) (rf_277_4 hS) dX3_readEither_52 ?_
              refine x_al0 dX3_readEither_55 ?_
              refine x_getI fl_X3_52 (sh_277 hS) (lq_277 hS) dX3_readEither_56 ?_
              refine x_topI (a' := f 8) rfl ?_
              refine x_iald (sh_279 hS) (lq_279 hS) (by omega) (by omega) dX3_readEither_59 ?_
              refine x_topI (a' := V 279 (f 8)) rfl ?_
              refine x_bipush dX3_readEither_60 ?_
              refine x_icmp_ne (tgt := 69) dX3_readEither_62 (inr (by omega)) (inr (by decide)) (fun c62_24 => ?_) (fun c62_24 => ?_)
              · -- 62 ne -> 69
                refine x_iconst dX3_readEither_69 ?_
                refine x_is3 dX3_readEither_70 ?_
                refine x_al0 dX3_readEither_71 ?_
                refine x_iconst dX3_readEither_72 ?_
                refine x_iconst dX3_readEither_73 ?_
                refine x_cVi mm_X3_take ml_X3_125 dX3_readEither_74 (c_X3_take 1 1 hS (by omega) (show 0 ≤ (f 8) ∧ (f 8) < 301 from (by omega)) (show InR (f 7) from (inr (by omega))) (show InR (f 2) from (inr (by omega))) (inr (by decide))) (sh_277 hS) (lq_277 hS) ?_
                refine x_topI (a' := takV f 1) rfl ?_
                refine x_mem (V' := (up (up V 277 (takF f (V 280) 1 1)) 283 cd)) (up_k (by decide) (up_up _ _ _ _)) ?_
                refine x_mem (V' := (up (up V 277 (ua f 8 (f 8 + 1))) 283 cd)) (upE (upE rfl (takF_1 (show (f) 2 = 0 by omega) (show (f) 8 + 1 < (f) 7 by omega))) rfl) ?_
                refine x_topI (a' := 1) (takV_1 (show (f) 2 = 0 by omega)) ?_
                refine x_pop dX3_readEither_77 ?_
                refine x_il3 dX3_readEither_78 ?_
                refine x_if_eq (tgt := 92) dX3_readEither_79 (inr (by decide)) (fun c79_25 => ?_) (fun c79_25 => ?_)
                · -- 79 eq -> 92
                  refine x_il1 dX3_readEither_92 ?_
                  refine x_if_ne (tgt := 100) dX3_readEither_93 (inr (by omega)) (fun c93_26 => ?_) (fun c93_26 => ?_)
                  · -- 93 ne -> 100
                    refine x_iconst dX3_readEither_100 ?_
                    refine x_goto (tgt := 105) dX3_readEither_101 ?_
                    refine x_is1 dX3_readEither_105 ?_
                    refine x_al0 dX3_readEither_106 ?_
                    refine x_iconst dX3_readEither_107 ?_
                    refine x_cVcp mm_X3_readAsk ml_X3_154 dX3_readEither_108 (hA (up (up V 277 (ua f 8 (f 8 + 1))) 283 cd) (j + 1) (RdH_c hH rfl rfl rfl (Eq.trans (show (ua f 8 (f 8 + 1)) 7 = f 7 from (ua_ne (by decide))) hq7)) (show RdS (ua f 8 (f 8 + 1)) (j + 1) N u from ⟨Eq.trans (show (ua f 8 (f 8 + 1)) 2 = f 2 from (ua_ne (by decide))) (by omega), Eq.trans (show (ua f 8 (f 8 + 1)) 8 = f 8 + 1 from (ua_same _ _ _)) (by omega), by omega, (by rw [(show (ua f 8 (f 8 + 1)) 13 = f 13 from (ua_ne (by decide)))]; omega), Eq.trans (show (ua f 8 (f 8 + 1)) 9 = f 9 from (ua_ne (by decide))) (hq9.trans (UQ_un r9))⟩)) (sh_277 hS) (lq_277 hS) (fun f1 cd1 hc1r => ?_)
                    have hc1 : CP T n N (j + 1) (Ask T n u 0 (pos T n (j + 1))) (ua f 8 (f 8 + 1)) cd f1 cd1 := hc1r
                    clear hc1r
                    have hc1q := CP_q hc1 hN (by rw [(show (ua f 8 (f 8 + 1)) 13 = f 13 from (ua_ne (by decide)))]; omega)
                    have hc1_7 : f1 7 = f 7 := Eq.trans hc1q.2.2.2.1 (show (ua f 8 (f 8 + 1)) 7 = f 7 from (ua_ne (by decide)))
                    have hc1_9 : f1 9 = f 9 := Eq.trans hc1q.2.2.2.2 (show (ua f 8 (f 8 + 1)) 9 = f 9 from (ua_ne (by decide)))
                    refine x_mem (V' := (up (up V 277 f1) 283 cd1)) (Eq.trans (congrArg (fun z => up z 283 _) (up_k (by decide) (up_up _ _ _ _))) (up_up _ _ _ _)) ?_
                    refine x_il3 dX3_readEither_111 ?_
                    refine x_if_ne (tgt := 121) dX3_readEither_112 (inr (by decide)) (fun c112_27 => ?_) (fun c112_27 => ?_)
                    · exact absurd c112_27 (by decide)
                    · -- 112 ne -> 115
                      refine x_al0 dX3_readEither_115 ?_
                      refine x_bipush dX3_readEither_116 ?_
                      refine x_cVv mm_X3_emit ml_X3_157 dX3_readEither_118 (c_X3_emit (-30) hS (show 0 ≤ (f1 13) ∧ (f1 13) ≤ 300 from (by omega))) (sh_277 hS) (lq_277 hS) ?_
                      refine x_mem (V' := (up (up V 277 (emf f1)) 283 (emc f1 cd1 (-30)))) (Eq.trans (congrArg (fun z => up z 283 _) (up_k (by decide) (up_up _ _ _ _))) (up_up _ _ _ _)) ?_
                      refine x_inc2 dX3_readEither_121 ?_
                      refine x_goto (tgt := 9) dX3_readEither_124 ?_
                      exact x_fg (ih9 1 (c + 1) (emf f1) (emc f1 cd1 (-30)) (by omega) (by have y : b = 1 := (by omega); have q := EcI_and hN r13 w0 g0 g1 g3 g6 g7 g8 g9 ((hqj.w (k := 14) (by decide) rfl).mp (by omega)) hc1; rw [y] at q; exact q) (by omega)) (And.intro rfl (And.intro rfl (And.intro rfl trivial)))
                  · -- 93 ne -> 96
                    refine x_il3 dX3_readEither_96 ?_
                    refine x_if_eq (tgt := 104) dX3_readEither_97 (inr (by decide)) (fun c97_28 => ?_) (fun c97_28 => ?_)
                    · -- 97 eq -> 104
                      refine x_iconst dX3_readEither_104 ?_
                      refine x_is1 dX3_readEither_105 ?_
                      refine x_al0 dX3_readEither_106 ?_
                      refine x_iconst dX3_readEither_107 ?_
                      refine x_cVcp mm_X3_readAsk ml_X3_154 dX3_readEither_108 (hA (up (up V 277 (ua f 8 (f 8 + 1))) 283 cd) (j + 1) (RdH_c hH rfl rfl rfl (Eq.trans (show (ua f 8 (f 8 + 1)) 7 = f 7 from (ua_ne (by decide))) hq7)) (show RdS (ua f 8 (f 8 + 1)) (j + 1) N u from ⟨Eq.trans (show (ua f 8 (f 8 + 1)) 2 = f 2 from (ua_ne (by decide))) (by omega), Eq.trans (show (ua f 8 (f 8 + 1)) 8 = f 8 + 1 from (ua_same _ _ _)) (by omega), by omega, (by rw [(show (ua f 8 (f 8 + 1)) 13 = f 13 from (ua_ne (by decide)))]; omega), Eq.trans (show (ua f 8 (f 8 + 1)) 9 = f 9 from (ua_ne (by decide))) (hq9.trans (UQ_un r9))⟩)) (sh_277 hS) (lq_277 hS) (fun f1 cd1 hc1r => ?_)
                      have hc1 : CP T n N (j + 1) (Ask T n u 0 (pos T n (j + 1))) (ua f 8 (f 8 + 1)) cd f1 cd1 := hc1r
                      clear hc1r
                      have hc1q := CP_q hc1 hN (by rw [(show (ua f 8 (f 8 + 1)) 13 = f 13 from (ua_ne (by decide)))]; omega)
                      have hc1_7 : f1 7 = f 7 := Eq.trans hc1q.2.2.2.1 (show (ua f 8 (f 8 + 1)) 7 = f 7 from (ua_ne (by decide)))
                      have hc1_9 : f1 9 = f 9 := Eq.trans hc1q.2.2.2.2 (show (ua f 8 (f 8 + 1)) 9 = f 9 from (ua_ne (by decide)))
                      refine x_mem (V' := (up (up V 277 f1) 283 cd1)) (Eq.trans (congrArg (fun z => up z 283 _) (up_k (by decide) (up_up _ _ _ _))) (up_up _ _ _ _)) ?_
                      refine x_il3 dX3_readEither_111 ?_
                      refine x_if_ne (tgt := 121) dX3_readEither_112 (inr (by decide)) (fun c112_29 => ?_) (fun c112_29 => ?_)
                      · exact absurd c112_29 (by decide)
                      · -- 112 ne -> 115
                        refine x_al0 dX3_readEither_115 ?_
                        refine x_bipush dX3_readEither_116 ?_
                        refine x_cVv mm_X3_emit ml_X3_157 dX3_readEither_118 (c_X3_emit (-30) hS (show 0 ≤ (f1 13) ∧ (f1 13) ≤ 300 from (by omega))) (sh_277 hS) (lq_277 hS) ?_
                        refine x_mem (V' := (up (up V 277 (emf f1)) 283 (emc f1 cd1 (-30)))) (Eq.trans (congrArg (fun z => up z 283 _) (up_k (by decide) (up_up _ _ _ _))) (up_up _ _ _ _)) ?_
                        refine x_inc2 dX3_readEither_121 ?_
                        refine x_goto (tgt := 9) dX3_readEither_124 ?_
                        exact x_fg (ih9 0 (c + 1) (emf f1) (emc f1 cd1 (-30)) (by omega) (by have y : b = 0 := (by omega); have q := EcI_and hN r13 w0 g0 g1 g3 g6 g7 g8 g9 ((hqj.w (k := 14) (by decide) rfl).mp (by omega)) hc1; rw [y] at q; exact q) (by omega)) (And.intro rfl (And.intro rfl (And.intro rfl trivial)))
                    · exact absurd c97_28 (by decide)
                · exact absurd c79_25 (by decide)
              · -- 62 ne -> 65
                refine x_iconst dX3_readEither_65 ?_
                refine x_goto (tgt := 70) dX3_readEither_66 ?_
                refine x_is3 dX3_readEither_70 ?_
                refine x_al0 dX3_readEither_71 ?_
                refine x_iconst dX3_readEither_72 ?_
                refine x_iconst dX3_readEither_73 ?_
                refine x_cVi mm_X3_take ml_X3_125 dX3_readEither_74 (c_X3_take 1 1 hS (by omega) (show 0 ≤ (f 8) ∧ (f 8) < 301 from (by omega)) (show InR (f 7) from (inr (by omega))) (show InR (f 2) from (inr (by omega))) (inr (by decide))) (sh_277 hS) (lq_277 hS) ?_
                refine x_topI (a' := takV f 1) rfl ?_
                refine x_mem (V' := (up (up V 277 (takF f (V 280) 1 1)) 283 cd)) (up_k (by decide) (up_up _ _ _ _)) ?_
                refine x_mem (V' := (up (up V 277 (ua f 8 (f 8 + 1))) 283 cd)) (upE (upE rfl (takF_1 (show (f) 2 = 0 by omega) (show (f) 8 + 1 < (f) 7 by omega))) rfl) ?_
                refine x_topI (a' := 1) (takV_1 (show (f) 2 = 0 by omega)) ?_
                refine x_pop dX3_readEither_77 ?_
                refine x_il3 dX3_readEither_78 ?_
                refine x_if_eq (tgt := 92) dX3_readEither_79 (inr (by decide)) (fun c79_30 => ?_) (fun c79_30 => ?_)
                · exact absurd c79_30 (by decide)
                · -- 79 eq -> 82
                  refine x_il1 dX3_readEither_82 ?_
                  refine x_if_eq (tgt := 92) dX3_readEither_83 (inr (by omega)) (fun c83_31 => ?_) (fun c83_31 => ?_)
                  · -- 83 eq -> 92
                    refine x_il1 dX3_readEither_92 ?_
                    refine x_if_ne (tgt := 100) dX3_readEither_93 (inr (by omega)) (fun c93_32 => ?_) (fun c93_32 => ?_)
                    · -- 93 ne -> 100
                      refine x_iconst dX3_readEither_100 ?_
                      refine x_goto (tgt := 105) dX3_readEither_101 ?_
                      refine x_is1 dX3_readEither_105 ?_
                      refine x_al0 dX3_readEither_106 ?_
                      refine x_iconst dX3_readEither_107 ?_
                      refine x_cVcp mm_X3_readAsk ml_X3_154 dX3_readEither_108 (hA (up (up V 277 (ua f 8 (f 8 + 1))) 283 cd) (j + 1) (RdH_c hH rfl rfl rfl (Eq.trans (show (ua f 8 (f 8 + 1)) 7 = f 7 from (ua_ne (by decide))) hq7)) (show RdS (ua f 8 (f 8 + 1)) (j + 1) N u from ⟨Eq.trans (show (ua f 8 (f 8 + 1)) 2 = f 2 from (ua_ne (by decide))) (by omega), Eq.trans (show (ua f 8 (f 8 + 1)) 8 = f 8 + 1 from (ua_same _ _ _)) (by omega), by omega, (by rw [(show (ua f 8 (f 8 + 1)) 13 = f 13 from (ua_ne (by decide)))]; omega), Eq.trans (show (ua f 8 (f 8 + 1)) 9 = f 9 from (ua_ne (by decide))) (hq9.trans (UQ_un r9))⟩)) (sh_277 hS) (lq_277 hS) (fun f1 cd1 hc1r => ?_)
                      have hc1 : CP T n N (j + 1) (Ask T n u 0 (pos T n (j + 1))) (ua f 8 (f 8 + 1)) cd f1 cd1 := hc1r
                      clear hc1r
                      have hc1q := CP_q hc1 hN (by rw [(show (ua f 8 (f 8 + 1)) 13 = f 13 from (ua_ne (by decide)))]; omega)
                      have hc1_7 : f1 7 = f 7 := Eq.trans hc1q.2.2.2.1 (show (ua f 8 (f 8 + 1)) 7 = f 7 from (ua_ne (by decide)))
                      have hc1_9 : f1 9 = f 9 := Eq.trans hc1q.2.2.2.2 (show (ua f 8 (f 8 + 1)) 9 = f 9 from (ua_ne (by decide)))
                      refine x_mem (V' := (up (up V 277 f1) 283 cd1)) (Eq.trans (congrArg (fun z => up z 283 _) (up_k (by decide) (up_up _ _ _ _))) (up_up _ _ _ _)) ?_
                      refine x_il3 dX3_readEither_111 ?_
                      refine x_if_ne (tgt := 121) dX3_readEither_112 (inr (by decide)) (fun c112_33 => ?_) (fun c112_33 => ?_)
                      · -- 112 ne -> 121
                        refine x_inc2 dX3_readEither_121 ?_
                        refine x_goto (tgt := 9) dX3_readEither_124 ?_
                        exact x_fg (ih9 1 (c + 1) f1 cd1 (by omega) (EcI_or w0 g0 g1 g3 g6 g7 g8 g9 (fun z => by have y := (hqj.w (k := 14) (by decide) rfl).mpr z; omega) ((hqj.w (k := 15) (by decide) rfl).mp (by omega)) (by first | exact Or.inl ⟨by omega, rfl, rfl⟩ | exact Or.inr ⟨by omega, rfl, rfl⟩) hc1) (by omega)) (And.intro rfl (And.intro rfl (And.intro rfl trivial)))
                      · exact absurd c112_33 (by decide)
                    · -- 93 ne -> 96
                      refine x_il3 dX3_readEither_96 ?_
                      refine x_if_eq (tgt := 104) dX3_readEither_97 (inr (by decide)) (fun c97_34 => ?_) (fun c97_34 => ?_)
                      · exact absurd c97_34 (by decide)
                      · -- 97 eq -> 100
                        refine x_iconst dX3_readEither_100 ?_
                        refine x_goto (tgt := 105) dX3_readEither_101 ?_
                        refine x_is1 dX3_readEither_105 ?_
                        refine x_al0 dX3_readEither_106 ?_
                        refine x_iconst dX3_readEither_107 ?_
                        refine x_cVcp mm_X3_readAsk ml_X3_154 dX3_readEither_108 (hA (up (up V 277 (ua f 8 (f 8 + 1))) 283 cd) (j + 1) (RdH_c hH rfl rfl rfl (Eq.trans (show (ua f 8 (f 8 + 1)) 7 = f 7 from (ua_ne (by decide))) hq7)) (show RdS (ua f 8 (f 8 + 1)) (j + 1) N u from ⟨Eq.trans (show (ua f 8 (f 8 + 1)) 2 = f 2 from (ua_ne (by decide))) (by omega), Eq.trans (show (ua f 8 (f 8 + 1)) 8 = f 8 + 1 from (ua_same _ _ _)) (by omega), by omega, (by rw [(show (ua f 8 (f 8 + 1)) 13 = f 13 from (ua_ne (by decide)))]; omega), Eq.trans (show (ua f 8 (f 8 + 1)) 9 = f 9 from (ua_ne (by decide))) (hq9.trans (UQ_un r9))⟩)) (sh_277 hS) (lq_277 hS) (fun f1 cd1 hc1r => ?_)
                        have hc1 : CP T n N (j + 1) (Ask T n u 0 (pos T n (j + 1))) (ua f 8 (f 8 + 1)) cd f1 cd1 := hc1r
                        clear hc1r
                        have hc1q := CP_q hc1 hN (by rw [(show (ua f 8 (f 8 + 1)) 13 = f 13 from (ua_ne (by decide)))]; omega)
                        have hc1_7 : f1 7 = f 7 := Eq.trans hc1q.2.2.2.1 (show (ua f 8 (f 8 + 1)) 7 = f 7 from (ua_ne (by decide)))
                        have hc1_9 : f1 9 = f 9 := Eq.trans hc1q.2.2.2.2 (show (ua f 8 (f 8 + 1)) 9 = f 9 from (ua_ne (by decide)))
                        refine x_mem (V' := (up (up V 277 f1) 283 cd1)) (Eq.trans (congrArg (fun z => up z 283 _) (up_k (by decide) (up_up _ _ _ _))) (up_up _ _ _ _)) ?_
                        refine x_il3 dX3_readEither_111 ?_
                        refine x_if_ne (tgt := 121) dX3_readEither_112 (inr (by decide)) (fun c112_35 => ?_) (fun c112_35 => ?_)
                        · -- 112 ne -> 121
                          refine x_inc2 dX3_readEither_121 ?_
                          refine x_goto (tgt := 9) dX3_readEither_124 ?_
                          exact x_fg (ih9 1 (c + 1) f1 cd1 (by omega) (EcI_or w0 g0 g1 g3 g6 g7 g8 g9 (fun z => by have y := (hqj.w (k := 14) (by decide) rfl).mpr z; omega) ((hqj.w (k := 15) (by decide) rfl).mp (by omega)) (by first | exact Or.inl ⟨by omega, rfl, rfl⟩ | exact Or.inr ⟨by omega, rfl, rfl⟩) hc1) (by omega)) (And.intro rfl (And.intro rfl (And.intro rfl trivial)))
                        · exact absurd c112_35 (by decide)
                  · -- 83 eq -> 86
                    refine x_al0 dX3_readEither_86 ?_
                    refine x_bipush dX3_readEither_87 ?_
                    refine x_cVv mm_X3_emit ml_X3_157 dX3_readEither_89 (c_X3_emit (-31) hS (show 0 ≤ (f 13) ∧ (f 13) ≤ 300 from (by omega))) (sh_277 hS) (lq_277 hS) ?_
                    refine x_mem (V' := (up (up V 277 (emf (ua f 8 (f 8 + 1)))) 283 (emc (ua f 8 (f 8 + 1)) cd (-31)))) (Eq.trans (congrArg (fun z => up z 283 _) (up_k (by decide) (up_up _ _ _ _))) (up_up _ _ _ _)) ?_
                    refine x_mem (V' := (up (up V 277 (ua (ua f 8 (f 8 + 1)) 13 (f 13 + 1))) 283 (ua cd (f 13) (-31)))) (upE (upE rfl ((if_pos (show (ua f 8 (f 8 + 1)) 13 < 300 by rw [(show (ua f 8 (f 8 + 1)) 13 = f 13 from (ua_ne (by decide)))]; omega)).trans (congrArg (fun zz => ua (ua f 8 (f 8 + 1)) 13 (zz + 1)) (show (ua f 8 (f 8 + 1)) 13 = f 13 from (ua_ne (by decide)))))) ((if_pos (show (ua f 8 (f 8 + 1)) 13 < 300 by rw [(show (ua f 8 (f 8 + 1)) 13 = f 13 from (ua_ne (by decide)))]; omega)).trans (congrArg (fun zz => ua cd zz (-31)) (show (ua f 8 (f 8 + 1)) 13 = f 13 from (ua_ne (by decide)))))) ?_
                    refine x_il1 dX3_readEither_92 ?_
                    refine x_if_ne (tgt := 100) dX3_readEither_93 (inr (by omega)) (fun c93_36 => ?_) (fun c93_36 => ?_)
                    · -- 93 ne -> 100
                      refine x_iconst dX3_readEither_100 ?_
                      refine x_goto (tgt := 105) dX3_readEither_101 ?_
                      refine x_is1 dX3_readEither_105 ?_
                      refine x_al0 dX3_readEither_106 ?_
                      refine x_iconst dX3_readEither_107 ?_
                      refine x_cVcp mm_X3_readAsk ml_X3_154 dX3_readEither_108 (hA (up (up V 277 (ua (ua f 8 (f 8 + 1)) 13 (f 13 + 1))) 283 (ua cd (f 13) (-31))) (j + 1) (RdH_c hH rfl rfl rfl (Eq.trans (show (ua (ua f 8 (f 8 + 1)) 13 (f 13 + 1)) 7 = f 7 from ((ua_ne (by decide)).trans (ua_ne (by decide)))) hq7)) (show RdS (ua (ua f 8 (f 8 + 1)) 13 (f 13 + 1)) (j + 1) N u from ⟨Eq.trans (show (ua (ua f 8 (f 8 + 1)) 13 (f 13 + 1)) 2 = f 2 from ((ua_ne (by decide)).trans (ua_ne (by decide)))) (by omega), Eq.trans (show (ua (ua f 8 (f 8 + 1)) 13 (f 13 + 1)) 8 = f 8 + 1 from ((ua_ne (by decide)).trans (ua_same _ _ _))) (by omega), by omega, (by rw [(show (ua (ua f 8 (f 8 + 1)) 13 (f 13 + 1)) 13 = f 13 + 1 from (ua_same _ _ _))]; omega), Eq.trans (show (ua (ua f 8 (f 8 + 1)) 13 (f 13 + 1)) 9 = f 9 from ((ua_ne (by decide)).trans (ua_ne (by decide)))) (hq9.trans (UQ_un r9))⟩)) (sh_277 hS) (lq_277 hS) (fun f1 cd1 hc1r => ?_)
                      have hc1 : CP T n N (j + 1) (Ask T n u 0 (pos T n (j + 1))) (ua (ua f 8 (f 8 + 1)) 13 (f 13 + 1)) (ua cd (f 13) (-31)) f1 cd1 := hc1r
                      clear hc1r
                      have hc1q := CP_q hc1 hN (by rw [(show (ua (ua f 8 (f 8 + 1)) 13 (f 13 + 1)) 13 = f 13 + 1 from (ua_same _ _ _))]; omega)
                      have hc1_7 : f1 7 = f 7 := Eq.trans hc1q.2.2.2.1 (show (ua (ua f 8 (f 8 + 1)) 13 (f 13 + 1)) 7 = f 7 from ((ua_ne (by decide)).trans (ua_ne (by decide))))
                      have hc1_9 : f1 9 = f 9 := Eq.trans hc1q.2.2.2.2 (show (ua (ua f 8 (f 8 + 1)) 13 (f 13 + 1)) 9 = f 9 from ((ua_ne (by decide)).trans (ua_ne (by decide))))
                      refine x_mem (V' := (up (up V 277 f1) 283 cd1)) (Eq.trans (congrArg (fun z => up z 283 _) (up_k (by decide) (up_up _ _ _ _))) (up_up _ _ _ _)) ?_
                      refine x_il3 dX3_readEither_111 ?_
                      refine x_if_ne (tgt := 121) dX3_readEither_112 (inr (by decide)) (fun c112_37 => ?_) (fun c112_37 => ?_)
                      · -- 112 ne -> 121
                        refine x_inc2 dX3_readEither_121 ?_
                        refine x_goto (tgt := 9) dX3_readEither_124 ?_
                        exact x_fg (ih9 1 (c + 1) f1 cd1 (by omega) (EcI_or w0 g0 g1 g3 g6 g7 g8 g9 (fun z => by have y := (hqj.w (k := 14) (by decide) rfl).mpr z; omega) ((hqj.w (k := 15) (by decide) rfl).mp (by omega)) (by first | exact Or.inl ⟨by omega, rfl, rfl⟩ | exact Or.inr ⟨by omega, rfl, rfl⟩) hc1) (by omega)) (And.intro rfl (And.intro rfl (And.intro rfl trivial)))
                      · exact absurd c112_37 (by decide)
                    · -- 93 ne -> 96
                      refine x_il3 dX3_readEither_96 ?_
                      refine x_if_eq (tgt := 104) dX3_readEither_97 (inr (by decide)) (fun c97_38 => ?_) (fun c97_38 => ?_)
                      · exact absurd c97_38 (by decide)
                      · -- 97 eq -> 100
                        refine x_iconst dX3_readEither_100 ?_
                        refine x_goto (tgt := 105) dX3_readEither_101 ?_
                        refine x_is1 dX3_readEither_105 ?_
                        refine x_al0 dX3_readEither_106 ?_
                        refine x_iconst dX3_readEither_107 ?_
                        refine x_cVcp mm_X3_readAsk ml_X3_154 dX3_readEither_108 (hA (up (up V 277 (ua (ua f 8 (f 8 + 1)) 13 (f 13 + 1))) 283 (ua cd (f 13) (-31))) (j + 1) (RdH_c hH rfl rfl rfl (Eq.trans (show (ua (ua f 8 (f 8 + 1)) 13 (f 13 + 1)) 7 = f 7 from ((ua_ne (by decide)).trans (ua_ne (by decide)))) hq7)) (show RdS (ua (ua f 8 (f 8 + 1)) 13 (f 13 + 1)) (j + 1) N u from ⟨Eq.trans (show (ua (ua f 8 (f 8 + 1)) 13 (f 13 + 1)) 2 = f 2 from ((ua_ne (by decide)).trans (ua_ne (by decide)))) (by omega), Eq.trans (show (ua (ua f 8 (f 8 + 1)) 13 (f 13 + 1)) 8 = f 8 + 1 from ((ua_ne (by decide)).trans (ua_same _ _ _))) (by omega), by omega, (by rw [(show (ua (ua f 8 (f 8 + 1)) 13 (f 13 + 1)) 13 = f 13 + 1 from (ua_same _ _ _))]; omega), Eq.trans (show (ua (ua f 8 (f 8 + 1)) 13 (f 13 + 1)) 9 = f 9 from ((ua_ne (by decide)).trans (ua_ne (by decide)))) (hq9.trans (UQ_un r9))⟩)) (sh_277 hS) (lq_277 hS) (fun f1 cd1 hc1r => ?_)
                        have hc1 : CP T n N (j + 1) (Ask T n u 0 (pos T n (j + 1))) (ua (ua f 8 (f 8 + 1)) 13 (f 13 + 1)) (ua cd (f 13) (-31)) f1 cd1 := hc1r
                        clear hc1r
                        have hc1q := CP_q hc1 hN (by rw [(show (ua (ua f 8 (f 8 + 1)) 13 (f 13 + 1)) 13 = f 13 + 1 from (ua_same _ _ _))]; omega)
                        have hc1_7 : f1 7 = f 7 := Eq.trans hc1q.2.2.2.1 (show (ua (ua f 8 (f 8 + 1)) 13 (f 13 + 1)) 7 = f 7 from ((ua_ne (by decide)).trans (ua_ne (by decide))))
                        have hc1_9 : f1 9 = f 9 := Eq.trans hc1q.2.2.2.2 (show (ua (ua f 8 (f 8 + 1)) 13 (f 13 + 1)) 9 = f 9 from ((ua_ne (by decide)).trans (ua_ne (by decide))))
                        refine x_mem (V' := (up (up V 277 f1) 283 cd1)) (Eq.trans (congrArg (fun z => up z 283 _) (up_k (by decide) (up_up _ _ _ _))) (up_up _ _ _ _)) ?_
                        refine x_il3 dX3_readEither_111 ?_
                        refine x_if_ne (tgt := 121) dX3_readEither_112 (inr (by decide)) (fun c112_39 => ?_) (fun c112_39 => ?_)
                        · -- 112 ne -> 121
                          refine x_inc2 dX3_readEither_121 ?_
                          refine x_goto (tgt := 9) dX3_readEither_124 ?_
                          exact x_fg (ih9 1 (c + 1) f1 cd1 (by omega) (EcI_or w0 g0 g1 g3 g6 g7 g8 g9 (fun z => by have y := (hqj.w (k := 14) (by decide) rfl).mpr z; omega) ((hqj.w (k := 15) (by decide) rfl).mp (by omega)) (by first | exact Or.inl ⟨by omega, rfl, rfl⟩ | exact Or.inr ⟨by omega, rfl, rfl⟩) hc1) (by omega)) (And.intro rfl (And.intro rfl (And.intro rfl trivial)))
                        · exact absurd c112_39 (by decide)
  exact x_fg (lp9 _ 0 0 f1 cd1 (by omega) (EcI_0 hc1) (Nat.lt_succ_self _)) (And.intro rfl (And.intro rfl (And.intro rfl trivial)))
