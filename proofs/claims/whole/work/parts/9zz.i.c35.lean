set_option maxRecDepth 100000 in
set_option maxHeartbeats 4000000 in
theorem c_X3_readSum_s {B : Bs} {S : Stt} (hS : Stat S) (T : Int → Int) (n u : Int) (N d : Nat) (hd : d ≤ 8) (h1 : OneC B S T n u N d) : SumC B S T n u N d := by
  unfold SumC
  unfold OneC at h1
  intro V i hH hR
  refine C.of [some (vR B 277), some (vI (8 - (d : Int))), none, none, none, none] ?_
  intro Γ hQ
  have hK := hH.1
  have h7 := hH.2.1
  have hn := hH.2.2.1
  have hTp := hH.2.2.2
  have r2 := hR.1
  have r8 := hR.2.1
  have r3 := hR.2.2.1
  have r13 := hR.2.2.2.1
  have r9 := UQ_mk hR.2.2.2.2
  have hp := pos_le hTp hn.1 i
  have hk := hK.2.1 i r3
  have hN := hK.1
  have hpr := (tok_r hTp hp.2).2.1
  have hpr0 := (tok_r hTp hp.2).1
  have r91 := r9.r
  refine x_iconst dX3_readSum_0 ?_
  refine x_is2 dX3_readSum_1 ?_
  refine x_al0 dX3_readSum_2 ?_
  refine x_il1 dX3_readSum_3 ?_
  refine x_cVcp mm_X3_readOne ml_X3_160 dX3_readSum_4 (h1 V i hH hR) (sh_277 hS) (lq_277 hS) (fun f1 cd1 hc1r => ?_) (hlev := by omega)
  have hc1 : CP T n N i (G T n u 0 (8 - (d : Int)) 0 (pos T n i)) (V 277) (V 283) f1 cd1 := hc1r
  clear hc1r
  have hc1q := CP_q hc1 hN (by omega)
  have hc1_7 : f1 7 = V 277 7 := hc1q.2.2.2.1
  have hc1_9 : f1 9 = V 277 9 := hc1q.2.2.2.2
  refine x_iconst dX3_readSum_7 ?_
  refine x_is3 dX3_readSum_8 ?_
  have lp9 : ∀ (N9 : Nat) (w : Int) (c : Int) (f : Int → Int) (cd : Int → Int), (0 ≤ c ∧ c ≤ 300) → (SuI T n u (8 - (d : Int)) N i (V 277) (V 283) w c f cd) → (300 - c).toNat < N9 → X Γ B RX3 "readSum" cX3_readSum 6 none (2 * d + 4) 0 0 9 [some (vR B 277), some (vI (8 - (d : Int))), some (vI w), some (vI c), none, none] [] 0 0 S (up (up V 277 f) 283 cd) := by
    intro N9
    induction N9 with
    | zero => intro w c f cd hc hI hN; exact absurd hN (Nat.not_lt_zero _)
    | succ N9 ih9 =>
      intro w c f cd hc hI hN9
      obtain ⟨s2, s8, s13, sj, hq7, hq9, sw⟩ := SuI_q hI hN r13 hc.1
      have hbk := TkR_r hK s8.1 s8.2
      refine x_il3 dX3_readSum_9 ?_
      refine x_sipush dX3_readSum_10 ?_
      refine x_icmp_ge (tgt := 131) dX3_readSum_13 (inr (by omega)) (inr (by decide)) (fun c13_1 => ?_) (fun c13_1 => ?_)
      · -- 13 ge -> 131
        refine x_il2 dX3_readSum_131 ?_
        refine x_if_eq (tgt := 141) dX3_readSum_132 (inr (by omega)) (fun c132_2 => ?_) (fun c132_2 => ?_)
        · -- 132 eq -> 141
          exact x_vret hQ ⟨f, cd, (by by_cases z : f 2 = 0; (exact (SuI_end hI hc.1 z hN r13 (fun j hj e => by have q := (hK.2.1 j hj).1; rw [← e] at q; have q := TkQ_mk q; exact ⟨q.b6 (by omega), q.b7 (by omega), q.b8 (by omega), q.b9 (by omega)⟩)).1 (by omega)); exact SuI_fl hI z), rfl, rfl, rfl⟩ dX3_readSum_141
        · -- 132 eq -> 135
          refine x_al0 dX3_readSum_135 ?_
          refine x_il2 dX3_readSum_136 ?_
          refine x_ineg dX3_readSum_137 ?_
          refine x_cVv mm_X3_emit ml_X3_157 dX3_readSum_138 (c_X3_emit (-w) hS (show 0 ≤ (f 13) ∧ (f 13) ≤ 300 from (by omega))) (sh_277 hS) (lq_277 hS) ?_ (hlev := by omega)
          refine x_mem (V' := (up (up V 277 (emf f)) 283 (emc f cd (-w)))) (Eq.trans (congrArg (fun z => up z 283 _) (up_k (by decide) (up_up _ _ _ _))) (up_up _ _ _ _)) ?_
          exact x_vret hQ ⟨emf f, emc f cd (-w), (by by_cases z : f 2 = 0; (exact (SuI_end hI hc.1 z hN r13 (fun j hj e => by have q := (hK.2.1 j hj).1; rw [← e] at q; have q := TkQ_mk q; exact ⟨q.b6 (by omega), q.b7 (by omega), q.b8 (by omega), q.b9 (by omega)⟩)).2 (by omega)); exact CP_e (SuI_fl hI z) z), rfl, rfl, rfl⟩ dX3_readSum_141
      · -- 13 ge -> 16
        refine x_al0 dX3_readSum_16 ?_
        refine x_getI fl_X3_15 (sh_277 hS) (lq_277 hS) dX3_readSum_17 ?_
        refine x_topI (a' := f 2) rfl ?_
        refine x_if_ne (tgt := 131) dX3_readSum_20 (inr (by omega)) (fun c20_3 => ?_) (fun c20_3 => ?_)
        · -- 20 ne -> 131
          refine x_il2 dX3_readSum_131 ?_
          refine x_if_eq (tgt := 141) dX3_readSum_132 (inr (by omega)) (fun c132_4 => ?_) (fun c132_4 => ?_)
          · -- 132 eq -> 141
            exact x_vret hQ ⟨f, cd, (by by_cases z : f 2 = 0; (exact (SuI_end hI hc.1 z hN r13 (fun j hj e => by have q := (hK.2.1 j hj).1; rw [← e] at q; have q := TkQ_mk q; exact ⟨q.b6 (by omega), q.b7 (by omega), q.b8 (by omega), q.b9 (by omega)⟩)).1 (by omega)); exact SuI_fl hI z), rfl, rfl, rfl⟩ dX3_readSum_141
          · -- 132 eq -> 135
            refine x_al0 dX3_readSum_135 ?_
            refine x_il2 dX3_readSum_136 ?_
            refine x_ineg dX3_readSum_137 ?_
            refine x_cVv mm_X3_emit ml_X3_157 dX3_readSum_138 (c_X3_emit (-w) hS (show 0 ≤ (f 13) ∧ (f 13) ≤ 300 from (by omega))) (sh_277 hS) (lq_277 hS) ?_ (hlev := by omega)
            refine x_mem (V' := (up (up V 277 (emf f)) 283 (emc f cd (-w)))) (Eq.trans (congrArg (fun z => up z 283 _) (up_k (by decide) (up_up _ _ _ _))) (up_up _ _ _ _)) ?_
            exact x_vret hQ ⟨emf f, emc f cd (-w), (by by_cases z : f 2 = 0; (exact (SuI_end hI hc.1 z hN r13 (fun j hj e => by have q := (hK.2.1 j hj).1; rw [← e] at q; have q := TkQ_mk q; exact ⟨q.b6 (by omega), q.b7 (by omega), q.b8 (by omega), q.b9 (by omega)⟩)).2 (by omega)); exact CP_e (SuI_fl hI z) z), rfl, rfl, rfl⟩ dX3_readSum_141
        · -- 20 ne -> 23
          refine x_al0 dX3_readSum_23 ?_
          refine x_getR fl_X3_22 (sh_277 hS) (lq_277 hS) (rf_277_4 hS) dX3_readSum_24 ?_
          refine x_al0 dX3_readSum_27 ?_
          refine x_getI fl_X3_52 (sh_277 hS) (lq_277 hS) dX3_readSum_28 ?_
          refine x_topI (a' := f 8) rfl ?_
          refine x_iald (sh_279 hS) (lq_279 hS) (by omega) (by omega) dX3_readSum_31 ?_
          refine x_topI (a' := V 279 (f 8)) rfl ?_
          refine x_bipush dX3_readSum_32 ?_
          refine x_icmp_lt (tgt := 131) dX3_readSum_34 (inr (by omega)) (inr (by decide)) (fun c34_5 => ?_) (fun c34_5 => ?_)
          · -- 34 lt -> 131
            refine x_il2 dX3_readSum_131 ?_
            refine x_if_eq (tgt := 141) dX3_readSum_132 (inr (by omega)) (fun c132_6 => ?_) (fun c132_6 => ?_)
            · -- 132 eq -> 141
              exact x_vret hQ ⟨f, cd, (by by_cases z : f 2 = 0; (exact (SuI_end hI hc.1 z hN r13 (fun j hj e => by have q := (hK.2.1 j hj).1; rw [← e] at q; have q := TkQ_mk q; exact ⟨q.b6 (by omega), q.b7 (by omega), q.b8 (by omega), q.b9 (by omega)⟩)).1 (by omega)); exact SuI_fl hI z), rfl, rfl, rfl⟩ dX3_readSum_141
            · -- 132 eq -> 135
              refine x_al0 dX3_readSum_135 ?_
              refine x_il2 dX3_readSum_136 ?_
              refine x_ineg dX3_readSum_137 ?_
              refine x_cVv mm_X3_emit ml_X3_157 dX3_readSum_138 (c_X3_emit (-w) hS (show 0 ≤ (f 13) ∧ (f 13) ≤ 300 from (by omega))) (sh_277 hS) (lq_277 hS) ?_ (hlev := by omega)
              refine x_mem (V' := (up (up V 277 (emf f)) 283 (emc f cd (-w)))) (Eq.trans (congrArg (fun z => up z 283 _) (up_k (by decide) (up_up _ _ _ _))) (up_up _ _ _ _)) ?_
              exact x_vret hQ ⟨emf f, emc f cd (-w), (by by_cases z : f 2 = 0; (exact (SuI_end hI hc.1 z hN r13 (fun j hj e => by have q := (hK.2.1 j hj).1; rw [← e] at q; have q := TkQ_mk q; exact ⟨q.b6 (by omega), q.b7 (by omega), q.b8 (by omega), q.b9 (by omega)⟩)).2 (by omega)); exact CP_e (SuI_fl hI z) z), rfl, rfl, rfl⟩ dX3_readSum_141
          · -- 34 lt -> 37
            refine x_al0 dX3_readSum_37 ?_
            refine x_getR fl_X3_22 (sh_277 hS) (lq_277 hS) (rf_277_4 hS) dX3_readSum_38 ?_
            refine x_al0 dX3_readSum_41 ?_
            refine x_getI fl_X3_52 (sh_277 hS) (lq_277 hS) dX3_readSum_42 ?_
            refine x_topI (a' := f 8) rfl ?_
            refine x_iald (sh_279 hS) (lq_279 hS) (by omega) (by omega) dX3_readSum_45 ?_
            refine x_topI (a' := V 279 (f 8)) rfl ?_
            refine x_bipush dX3_readSum_46 ?_
            refine x_icmp_gt (tgt := 131) dX3_readSum_48 (inr (by omega)) (inr (by decide)) (fun c48_7 => ?_) (fun c48_7 => ?_)
            · -- 48 gt -> 131
              refine x_il2 dX3_readSum_131 ?_
              refine x_if_eq (tgt := 141) dX3_readSum_132 (inr (by omega)) (fun c132_8 => ?_) (fun c132_8 => ?_)
              · -- 132 eq -> 141
                exact x_vret hQ ⟨f, cd, (by by_cases z : f 2 = 0; (exact (SuI_end hI hc.1 z hN r13 (fun j hj e => by have q := (hK.2.1 j hj).1; rw [← e] at q; have q := TkQ_mk q; exact ⟨q.b6 (by omega), q.b7 (by omega), q.b8 (by omega), q.b9 (by omega)⟩)).1 (by omega)); exact SuI_fl hI z), rfl, rfl, rfl⟩ dX3_readSum_141
              · -- 132 eq -> 135
                refine x_al0 dX3_readSum_135 ?_
                refine x_il2 dX3_readSum_136 ?_
                refine x_ineg dX3_readSum_137 ?_
                refine x_cVv mm_X3_emit ml_X3_157 dX3_readSum_138 (c_X3_emit (-w) hS (show 0 ≤ (f 13) ∧ (f 13) ≤ 300 from (by omega))) (sh_277 hS) (lq_277 hS) ?_ (hlev := by omega)
                refine x_mem (V' := (up (up V 277 (emf f)) 283 (emc f cd (-w)))) (Eq.trans (congrArg (fun z => up z 283 _) (up_k (by decide) (up_up _ _ _ _))) (up_up _ _ _ _)) ?_
                exact x_vret hQ ⟨emf f, emc f cd (-w), (by by_cases z : f 2 = 0; (exact (SuI_end hI hc.1 z hN r13 (fun j hj e => by have q := (hK.2.1 j hj).1; rw [← e] at q; have q := TkQ_mk q; exact ⟨q.b6 (by omega), q.b7 (by omega), q.b8 (by omega), q.b9 (by omega)⟩)).2 (by omega)); exact CP_e (SuI_fl hI z) z), rfl, rfl, rfl⟩ dX3_readSum_141
            · -- 48 gt -> 51
              have hz : f 2 = 0 := by omega
              obtain ⟨j, em, g1, g2, g3, g4, g5, g6, g7, g8, g9⟩ := hI.2.2.resolve_right (fun ⟨q, _, z, _⟩ => z hz)
              have w0 := hI.1
              have g0 := hI.2.1
              have htj : V 279 (f 8) = cTk T n (pos T n j) := by rw [g5]; exact (hK.2.1 j g4).1
              have hqj := TkQ_mk htj
              have hjt : tTok T n (pos T n j) ≠ 0 := hqj.b0 (by omega)
              have hjN := TkR_lt hK g4 hjt
              have g7w : (i : Int) + em.length ≤ j := by split at g7 <;> omega
              have g7x : w ≠ 0 → (i : Int) + em.length + 1 ≤ j := fun z => by rw [if_neg z] at g7; exact g7
              clear hI
              refine x_al0 dX3_readSum_51 ?_
              refine x_getR fl_X3_22 (sh_277 hS) (lq_277 hS) (rf_277_4 hS) dX3_readSum_52 ?_
              refine x_al0 dX3_readSum_55 ?_
              refine x_getI fl_X3_52 (sh_277 hS) (lq_277 hS) dX3_readSum_56 ?_
              refine x_topI (a' := f 8) rfl ?_
              refine x_iald (sh_279 hS) (lq_279 hS) (by omega) (by omega) dX3_readSum_59 ?_
              refine x_topI (a' := V 279 (f 8)) rfl ?_
              refine x_is4 dX3_readSum_60 ?_
              refine x_al0 dX3_readSum_62 ?_
              refine x_iconst dX3_readSum_63 ?_
              refine x_iconst dX3_readSum_64 ?_
              refine x_cVi mm_X3_take ml_X3_125 dX3_readSum_65 (c_X3_take 1 1 hS (by omega) (show 0 ≤ (f 8) ∧ (f 8) < 301 from (by omega)) (show InR (f 7) from (inr (by omega))) (show InR (f 2) from (inr (by omega))) (inr (by decide))) (sh_277 hS) (lq_277 hS) ?_ (hlev := by omega)
              refine x_topI (a' := takV f 1) rfl ?_
              refine x_mem (V' := (up (up V 277 (takF f (V 280) 1 1)) 283 cd)) (up_k (by decide) (up_up _ _ _ _)) ?_
              refine x_mem (V' := (up (up V 277 (ua f 8 (f 8 + 1))) 283 cd)) (upE (upE rfl (takF_1 (show (f) 2 = 0 by omega) (show (f) 8 + 1 < (f) 7 by omega))) rfl) ?_
              refine x_topI (a' := 1) (takV_1 (show (f) 2 = 0 by omega)) ?_
              refine x_pop dX3_readSum_68 ?_
              refine x_il4 dX3_readSum_69 ?_
              refine x_bipush dX3_readSum_71 ?_
              refine x_icmp_eq (tgt := 83) dX3_readSum_73 (inr (by omega)) (inr (by decide)) (fun c73_9 => ?_) (fun c73_9 => ?_)
              · -- 73 eq -> 83
                refine x_iconst dX3_readSum_83 ?_
                refine x_goto (tgt := 88) dX3_readSum_84 ?_
                refine x_is5 dX3_readSum_88 ?_
                refine x_il5 dX3_readSum_90 ?_
                refine x_if_ne (tgt := 108) dX3_readSum_92 (inr (by decide)) (fun c92_10 => ?_) (fun c92_10 => ?_)
                · -- 92 ne -> 108
                  refine x_al0 dX3_readSum_108 ?_
                  refine x_il1 dX3_readSum_109 ?_
                  refine x_cVcp mm_X3_readOne ml_X3_160 dX3_readSum_110 (h1 (up (up V 277 (ua f 8 (f 8 + 1))) 283 cd) (j + 1) (RdH_c hH rfl rfl rfl (Eq.trans (show (ua f 8 (f 8 + 1)) 7 = f 7 from (ua_ne (by decide))) hq7)) (show RdS (ua f 8 (f 8 + 1)) (j + 1) N u from ⟨Eq.trans (show (ua f 8 (f 8 + 1)) 2 = f 2 from (ua_ne (by decide))) (by omega), Eq.trans (show (ua f 8 (f 8 + 1)) 8 = f 8 + 1 from (ua_same _ _ _)) (by omega), by omega, (by rw [(show (ua f 8 (f 8 + 1)) 13 = f 13 from (ua_ne (by decide)))]; omega), Eq.trans (show (ua f 8 (f 8 + 1)) 9 = f 9 from (ua_ne (by decide))) (hq9.trans (UQ_un r9))⟩)) (sh_277 hS) (lq_277 hS) (fun f1 cd1 hc1r => ?_) (hlev := by omega)
                  have hc1 : CP T n N (j + 1) (G T n u 0 (8 - (d : Int)) 0 (pos T n (j + 1))) (ua f 8 (f 8 + 1)) cd f1 cd1 := hc1r
                  clear hc1r
                  have hc1q := CP_q hc1 hN (by rw [(show (ua f 8 (f 8 + 1)) 13 = f 13 from (ua_ne (by decide)))]; omega)
                  have hc1_7 : f1 7 = f 7 := Eq.trans hc1q.2.2.2.1 (show (ua f 8 (f 8 + 1)) 7 = f 7 from (ua_ne (by decide)))
                  have hc1_9 : f1 9 = f 9 := Eq.trans hc1q.2.2.2.2 (show (ua f 8 (f 8 + 1)) 9 = f 9 from (ua_ne (by decide)))
                  refine x_mem (V' := (up (up V 277 f1) 283 cd1)) (Eq.trans (congrArg (fun z => up z 283 _) (up_k (by decide) (up_up _ _ _ _))) (up_up _ _ _ _)) ?_
                  refine x_il5 dX3_readSum_113 ?_
                  refine x_if_eq (tgt := 125) dX3_readSum_115 (inr (by decide)) (fun c115_11 => ?_) (fun c115_11 => ?_)
                  · exact absurd c115_11 (by decide)
                  · -- 115 eq -> 118
                    refine x_al0 dX3_readSum_118 ?_
                    refine x_il4 dX3_readSum_119 ?_
                    refine x_ineg dX3_readSum_121 ?_
                    refine x_cVv mm_X3_emit ml_X3_157 dX3_readSum_122 (c_X3_emit (-(V 279 (f 8))) hS (show 0 ≤ (f1 13) ∧ (f1 13) ≤ 300 from (by omega))) (sh_277 hS) (lq_277 hS) ?_ (hlev := by omega)
                    refine x_mem (V' := (up (up V 277 (emf f1)) 283 (emc f1 cd1 (-(V 279 (f 8)))))) (Eq.trans (congrArg (fun z => up z 283 _) (up_k (by decide) (up_up _ _ _ _))) (up_up _ _ _ _)) ?_
                    refine x_inc3 dX3_readSum_125 ?_
                    refine x_goto (tgt := 9) dX3_readSum_128 ?_
                    exact x_fg (ih9 w (c + 1) (emf f1) (emc f1 cd1 (-(V 279 (f 8)))) (by omega) (SuI_mul hN r13 w0 g0 g1 g3 g6 g7 g8 g9 (by first | exact Or.inl ⟨by omega, hqj.a8 (by omega)⟩ | exact Or.inr ⟨by omega, hqj.a9 (by omega)⟩) hc1) (by omega)) (And.intro rfl (And.intro rfl (And.intro rfl (And.intro rfl trivial))))
                · exact absurd c92_10 (by decide)
              · -- 73 eq -> 76
                refine x_il4 dX3_readSum_76 ?_
                refine x_bipush dX3_readSum_78 ?_
                refine x_icmp_ne (tgt := 87) dX3_readSum_80 (inr (by omega)) (inr (by decide)) (fun c80_12 => ?_) (fun c80_12 => ?_)
                · -- 80 ne -> 87
                  refine x_iconst dX3_readSum_87 ?_
                  refine x_is5 dX3_readSum_88 ?_
                  refine x_il5 dX3_readSum_90 ?_
                  refine x_if_ne (tgt := 108) dX3_readSum_92 (inr (by decide)) (fun c92_13 => ?_) (fun c92_13 => ?_)
                  · exact absurd c92_13 (by decide)
                  · -- 92 ne -> 95
                    refine x_il2 dX3_readSum_95 ?_
                    refine x_if_eq (tgt := 105) dX3_readSum_96 (inr (by omega)) (fun c96_14 => ?_) (fun c96_14 => ?_)
                    · -- 96 eq -> 105
                      refine x_il4 dX3_readSum_105 ?_
                      refine x_is2 dX3_readSum_107 ?_
                      refine x_al0 dX3_readSum_108 ?_
                      refine x_il1 dX3_readSum_109 ?_
                      refine x_cVcp mm_X3_readOne ml_X3_160 dX3_readSum_110 (h1 (up (up V 277 (ua f 8 (f 8 + 1))) 283 cd) (j + 1) (RdH_c hH rfl rfl rfl (Eq.trans (show (ua f 8 (f 8 + 1)) 7 = f 7 from (ua_ne (by decide))) hq7)) (show RdS (ua f 8 (f 8 + 1)) (j + 1) N u from ⟨Eq.trans (show (ua f 8 (f 8 + 1)) 2 = f 2 from (ua_ne (by decide))) (by omega), Eq.trans (show (ua f 8 (f 8 + 1)) 8 = f 8 + 1 from (ua_same _ _ _)) (by omega), by omega, (by rw [(show (ua f 8 (f 8 + 1)) 13 = f 13 from (ua_ne (by decide)))]; omega), Eq.trans (show (ua f 8 (f 8 + 1)) 9 = f 9 from (ua_ne (by decide))) (hq9.trans (UQ_un r9))⟩)) (sh_277 hS) (lq_277 hS) (fun f1 cd1 hc1r => ?_) (hlev := by omega)
                      have hc1 : CP T n N (j + 1) (G T n u 0 (8 - (d : Int)) 0 (pos T n (j + 1))) (ua f 8 (f 8 + 1)) cd f1 cd1 := hc1r
                      clear hc1r
                      have hc1q := CP_q hc1 hN (by rw [(show (ua f 8 (f 8 + 1)) 13 = f 13 from (ua_ne (by decide)))]; omega)
                      have hc1_7 : f1 7 = f 7 := Eq.trans hc1q.2.2.2.1 (show (ua f 8 (f 8 + 1)) 7 = f 7 from (ua_ne (by decide)))
                      have hc1_9 : f1 9 = f 9 := Eq.trans hc1q.2.2.2.2 (show (ua f 8 (f 8 + 1)) 9 = f 9 from (ua_ne (by decide)))
                      refine x_mem (V' := (up (up V 277 f1) 283 cd1)) (Eq.trans (congrArg (fun z => up z 283 _) (up_k (by decide) (up_up _ _ _ _))) (up_up _ _ _ _)) ?_
                      refine x_il5 dX3_readSum_113 ?_
                      refine x_if_eq (tgt := 125) dX3_readSum_115 (inr (by decide)) (fun c115_15 => ?_) (fun c115_15 => ?_)
                      · -- 115 eq -> 125
                        refine x_inc3 dX3_readSum_125 ?_
                        refine x_goto (tgt := 9) dX3_readSum_128 ?_
                        exact x_fg (ih9 (V 279 (f 8)) (c + 1) f1 cd1 (by omega) (SuI_add w0 g0 g1 g3 g6 g7 g8 g9 (by rcases (show V 279 (f 8) = 6 ∨ V 279 (f 8) = 7 by omega) with z | z; (exact Or.inl ⟨z, hqj.a6 z⟩); exact Or.inr ⟨z, hqj.a7 z⟩) (by first | exact Or.inl ⟨by omega, rfl, rfl⟩ | exact Or.inr ⟨by omega, rfl, rfl⟩) hc1) (by omega)) (And.intro rfl (And.intro rfl (And.intro rfl (And.intro rfl trivial))))
                      · exact absurd c115_15 (by decide)
                    · -- 96 eq -> 99
                      refine x_al0 dX3_readSum_99 ?_
                      refine x_il2 dX3_readSum_100 ?_
                      refine x_ineg dX3_readSum_101 ?_
                      refine x_cVv mm_X3_emit ml_X3_157 dX3_readSum_102 (c_X3_emit (-w) hS (show 0 ≤ (f 13) ∧ (f 13) ≤ 300 from (by omega))) (sh_277 hS) (lq_277 hS) ?_ (hlev := by omega)
                      refine x_mem (V' := (up (up V 277 (emf (ua f 8 (f 8 + 1)))) 283 (emc (ua f 8 (f 8 + 1)) cd (-w)))) (Eq.trans (congrArg (fun z => up z 283 _) (up_k (by decide) (up_up _ _ _ _))) (up_up _ _ _ _)) ?_
                      refine x_mem (V' := (up (up V 277 (ua (ua f 8 (f 8 + 1)) 13 (f 13 + 1))) 283 (ua cd (f 13) (-w)))) (upE (upE rfl ((if_pos (show (ua f 8 (f 8 + 1)) 13 < 300 by rw [(show (ua f 8 (f 8 + 1)) 13 = f 13 from (ua_ne (by decide)))]; omega)).trans (congrArg (fun zz => ua (ua f 8 (f 8 + 1)) 13 (zz + 1)) (show (ua f 8 (f 8 + 1)) 13 = f 13 from (ua_ne (by decide)))))) ((if_pos (show (ua f 8 (f 8 + 1)) 13 < 300 by rw [(show (ua f 8 (f 8 + 1)) 13 = f 13 from (ua_ne (by decide)))]; omega)).trans (congrArg (fun zz => ua cd zz (-w)) (show (ua f 8 (f 8 + 1)) 13 = f 13 from (ua_ne (by decide)))))) ?_
                      refine x_il4 dX3_readSum_105 ?_
                      refine x_is2 dX3_readSum_107 ?_
                      refine x_al0 dX3_readSum_108 ?_
                      refine x_il1 dX3_readSum_109 ?_
                      refine x_cVcp mm_X3_readOne ml_X3_160 dX3_readSum_110 (h1 (up (up V 277 (ua (ua f 8 (f 8 + 1)) 13 (f 13 + 1))) 283 (ua cd (f 13) (-w))) (j + 1) (RdH_c hH rfl rfl rfl (Eq.trans (show (ua (ua f 8 (f 8 + 1)) 13 (f 13 + 1)) 7 = f 7 from ((ua_ne (by decide)).trans (ua_ne (by decide)))) hq7)) (show RdS (ua (ua f 8 (f 8 + 1)) 13 (f 13 + 1)) (j + 1) N u from ⟨Eq.trans (show (ua (ua f 8 (f 8 + 1)) 13 (f 13 + 1)) 2 = f 2 from ((ua_ne (by decide)).trans (ua_ne (by decide)))) (by omega), Eq.trans (show (ua (ua f 8 (f 8 + 1)) 13 (f 13 + 1)) 8 = f 8 + 1 from ((ua_ne (by decide)).trans (ua_same _ _ _))) (by omega), by omega, (by rw [(show (ua (ua f 8 (f 8 + 1)) 13 (f 13 + 1)) 13 = f 13 + 1 from (ua_same _ _ _))]; omega), Eq.trans (show (ua (ua f 8 (f 8 + 1)) 13 (f 13 + 1)) 9 = f 9 from ((ua_ne (by decide)).trans (ua_ne (by decide)))) (hq9.trans (UQ_un r9))⟩)) (sh_277 hS) (lq_277 hS) (fun f1 cd1 hc1r => ?_) (hlev := by omega)
                      have hc1 : CP T n N (j + 1) (G T n u 0 (8 - (d : Int)) 0 (pos T n (j + 1))) (ua (ua f 8 (f 8 + 1)) 13 (f 13 + 1)) (ua cd (f 13) (-w)) f1 cd1 := hc1r
                      clear hc1r
                      have hc1q := CP_q hc1 hN (by rw [(show (ua (ua f 8 (f 8 + 1)) 13 (f 13 + 1)) 13 = f 13 + 1 from (ua_same _ _ _))]; omega)
                      have hc1_7 : f1 7 = f 7 := Eq.trans hc1q.2.2.2.1 (show (ua (ua f 8 (f 8 + 1)) 13 (f 13 + 1)) 7 = f 7 from ((ua_ne (by decide)).trans (ua_ne (by decide))))
                      have hc1_9 : f1 9 = f 9 := Eq.trans hc1q.2.2.2.2 (show (ua (ua f 8 (f 8 + 1)) 13 (f 13 + 1)) 9 = f 9 from ((ua_ne (by decide)).trans (ua_ne (by decide))))
                      refine x_mem (V' := (up (up V 277 f1) 283 cd1)) (Eq.trans (congrArg (fun z => up z 283 _) (up_k (by decide) (up_up _ _ _ _))) (up_up _ _ _ _)) ?_
                      refine x_il5 dX3_readSum_113 ?_
                      refine x_if_eq (tgt := 125) dX3_readSum_115 (inr (by decide)) (fun c115_16 => ?_) (fun c115_16 => ?_)
                      · -- 115 eq -> 125
                        refine x_inc3 dX3_readSum_125 ?_
                        refine x_goto (tgt := 9) dX3_readSum_128 ?_
                        exact x_fg (ih9 (V 279 (f 8)) (c + 1) f1 cd1 (by omega) (SuI_add w0 g0 g1 g3 g6 g7 g8 g9 (by rcases (show V 279 (f 8) = 6 ∨ V 279 (f 8) = 7 by omega) with z | z; (exact Or.inl ⟨z, hqj.a6 z⟩); exact Or.inr ⟨z, hqj.a7 z⟩) (by first | exact Or.inl ⟨by omega, rfl, rfl⟩ | exact Or.inr ⟨by omega, rfl, rfl⟩) hc1) (by omega)) (And.intro rfl (And.intro rfl (And.intro rfl (And.intro rfl trivial))))
                      · exact absurd c115_16 (by decide)
                · -- 80 ne -> 83
                  refine x_iconst dX3_readSum_83 ?_
                  refine x_goto (tgt := 88) dX3_readSum_84 ?_
                  refine x_is5 dX3_readSum_88 ?_
                  refine x_il5 dX3_readSum_90 ?_
                  refine x_if_ne (tgt := 108) dX3_readSum_92 (inr (by decide)) (fun c92_17 => ?_) (fun c92_17 => ?_)
                  · -- 92 ne -> 108
                    refine x_al0 dX3_readSum_108 ?_
                    refine x_il1 dX3_readSum_109 ?_
                    refine x_cVcp mm_X3_readOne ml_X3_160 dX3_readSum_110 (h1 (up (up V 277 (ua f 8 (f 8 + 1))) 283 cd) (j + 1) (RdH_c hH rfl rfl rfl (Eq.trans (show (ua f 8 (f 8 + 1)) 7 = f 7 from (ua_ne (by decide))) hq7)) (show RdS (ua f 8 (f 8 + 1)) (j + 1) N u from ⟨Eq.trans (show (ua f 8 (f 8 + 1)) 2 = f 2 from (ua_ne (by decide))) (by omega), Eq.trans (show (ua f 8 (f 8 + 1)) 8 = f 8 + 1 from (ua_same _ _ _)) (by omega), by omega, (by rw [(show (ua f 8 (f 8 + 1)) 13 = f 13 from (ua_ne (by decide)))]; omega), Eq.trans (show (ua f 8 (f 8 + 1)) 9 = f 9 from (ua_ne (by decide))) (hq9.trans (UQ_un r9))⟩)) (sh_277 hS) (lq_277 hS) (fun f1 cd1 hc1r => ?_) (hlev := by omega)
                    have hc1 : CP T n N (j + 1) (G T n u 0 (8 - (d : Int)) 0 (pos T n (j + 1))) (ua f 8 (f 8 + 1)) cd f1 cd1 := hc1r
                    clear hc1r
                    have hc1q := CP_q hc1 hN (by rw [(show (ua f 8 (f 8 + 1)) 13 = f 13 from (ua_ne (by decide)))]; omega)
                    have hc1_7 : f1 7 = f 7 := Eq.trans hc1q.2.2.2.1 (show (ua f 8 (f 8 + 1)) 7 = f 7 from (ua_ne (by decide)))
                    have hc1_9 : f1 9 = f 9 := Eq.trans hc1q.2.2.2.2 (show (ua f 8 (f 8 + 1)) 9 = f 9 from (ua_ne (by decide)))
                    refine x_mem (V' := (up (up V 277 f1) 283 cd1)) (Eq.trans (congrArg (fun z => up z 283 _) (up_k (by decide) (up_up _ _ _ _))) (up_up _ _ _ _)) ?_
                    refine x_il5 dX3_readSum_113 ?_
                    refine x_if_eq (tgt := 125) dX3_readSum_115 (inr (by decide)) (fun c115_18 => ?_) (fun c115_18 => ?_)
                    · exact absurd c115_18 (by decide)
                    · -- 115 eq -> 118
                      refine x_al0 dX3_readSum_118 ?_
                      refine x_il4 dX3_readSum_119 ?_
                      refine x_ineg dX3_readSum_121 ?_
                      refine x_cVv mm_X3_emit ml_X3_157 dX3_readSum_122 (c_X3_emit (-(V 279 (f 8))) hS (show 0 ≤ (f1 13) ∧ (f1 13) ≤ 300 from (by omega))) (sh_277 hS) (lq_277 hS) ?_ (hlev := by omega)
                      refine x_mem (V' := (up (up V 277 (emf f1)) 283 (emc f1 cd1 (-(V 279 (f 8)))))) (Eq.trans (congrArg (fun z => up z 283 _) (up_k (by decide) (up_up _ _ _ _))) (up_up _ _ _ _)) ?_
                      refine x_inc3 dX3_readSum_125 ?_
                      refine x_goto (tgt := 9) dX3_readSum_128 ?_
                      exact x_fg (ih9 w (c + 1) (emf f1) (emc f1 cd1 (-(V 279 (f 8)))) (by omega) (SuI_mul hN r13 w0 g0 g1 g3 g6 g7 g8 g9 (by first | exact Or.inl ⟨by omega, hqj.a8 (by omega)⟩ | exact Or.inr ⟨by omega, hqj.a9 (by omega)⟩) hc1) (by omega)) (And.intro rfl (And.intro rfl (And.intro rfl (And.intro rfl trivial))))
                  · exact absurd c92_17 (by decide)
  exact x_fg (lp9 _ 0 0 f1 cd1 (by omega) (SuI_0 hc1) (Nat.lt_succ_self _)) (And.intro rfl (And.intro rfl (And.intro rfl (And.intro rfl trivial))))
theorem c_X3_rs {B : Bs} {S : Stt} (hS : Stat S) (T : Int → Int) (n u : Int) (N : Nat) : ∀ d : Nat, d ≤ 8 → OneC B S T n u N d ∧ SumC B S T n u N d := by
  intro d
  induction d using Nat.strongRecOn
  rename_i d ih
  intro hd
  have h1 := c_X3_readOne_s hS T n u N d hd (fun e he => ih e he (by omega))
  exact ⟨h1, c_X3_readSum_s hS T n u N d hd h1⟩
