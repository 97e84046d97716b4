set_option maxRecDepth 100000 in
set_option maxHeartbeats 4000000 in
theorem c_X11_asks {B : Bs} {S : Stt} {V : Va} (p0 : Int) (hS : Stat S) (hTn : (V 308 4) ≤ 300) (hTp : ∀ k, 0 ≤ (V 312) k ∧ (V 312) k < 256) (h12 : 0 ≤ (V 308 12) ∧ (V 308 12) ≤ 2100) (h20 : InR (V 308 20)) (hwr : 0 ≤ (V 308 14) ∧ (V 308 14) ≤ p0) (h18 : 0 ≤ (V 308 18) ∧ (V 308 18) ≤ 8) (hPb : AB (V 313)) (hPS : PS (V 312) (V 308 4) p0 (V 308)) : C B yX11_asks cX11_asks 5 (some .int) 7 0 0 [vR B 308] S V (rP3 S V (RsP (V 312) (V 308 4) p0 (V 308 18) (V 308 12) (V 308 14) (V 311) (V 308) (Ask (V 312) (V 308 4) (V 308 20) (V 308 18) p0))) := by
  refine C.of [some (vR B 308), none, none, none, none] ?_
  intro Γ hQ
  refine x_iconst dX11_asks_0 ?_
  refine x_is1 dX11_asks_1 ?_
  have lp2 : ∀ (N2 : Nat) (k : Int) (f : Int → Int), (∃ p, AsI (V 312) (V 308 4) (V 308 20) p0 (V 308 18) (V 308 14) (V 308) k p f) → (8 - k).toNat < N2 → X Γ B RX11 "asks" cX11_asks 5 (some .int) 7 0 0 2 [some (vR B 308), some (vI k), none, none, none] [] 0 0 S (up V 308 f) := by
    intro N2
    induction N2 with
    | zero => intro k f hA2 hN; exact absurd hN (Nat.not_lt_zero _)
    | succ N2 ih2 =>
      intro k f hA2 hN2
      obtain ⟨p, hAI⟩ := hA2
      have hAI0 := hAI
      obtain ⟨b1, b2, b3, b4, b5, b6, b7, b8⟩ := hAI0
      have hrp := tok_r hTp b1.1.2
      have hq5 := b1.2.2.2.2.1
      have hq7 := b1.2.2.2.2.2.2.1
      have hq9 := b1.2.2.2.2.2.2.2.2
      have hq3 := b1.2.2.1
      have hq2 := b1.2.1
      have hq0 := b1.1
      refine x_al0 dX11_asks_2 ?_
      refine x_bipush dX11_asks_3 ?_
      refine x_bipush dX11_asks_5 ?_
      refine x_bipush dX11_asks_7 ?_
      refine x_cSl mm_X11_w3 ml_X11_146 dX11_asks_9 (c_X11_w3 110 111 116 (by first | decide | omega) (by first | decide | omega) (by first | decide | omega)) ?_
      refine x_cVi mm_X11_isWord ml_X11_216 dX11_asks_12 (c_X11_isWord ((110 * 256 + 111) * 256 + 116) hS (show 0 ≤ (f 9) ∧ (f 9) < 256 from (by omega)) (show 0 ≤ (f 11) ∧ (f 11) < 72057594037927936 from hq9) (by omega)) (sh_308 hS) (lq_308 hS) ?_
      refine x_top (v' := vI (if (f 9) = 2 ∧ (f 11) = ((110 * 256 + 111) * 256 + 116) then 1 else 0)) rfl ?_
      refine x_ifb_eq (tgt := 49) dX11_asks_15 (fun c15_1 => ?_) (fun c15_1 => ?_)
      · -- 15 eq -> 49
        have hnn : ¬ isNotT (V 312) (V 308 4) p := by intro z; have z0 : ¬ (f 9 = 2 ∧ f 11 = (110 * 256 + 111) * 256 + 116) := (by assumption); exact z0 ⟨by omega, by have := hq7 z.1; have := z.2; omega⟩
        refine x_al0 dX11_asks_49 ?_
        obtain ⟨a1, a2, a3, a4, a5, a6, a7, a8⟩ := id hAI
        have ea4 : f 4 = V 308 4 := a1.2.1
        have ea12 : f 12 = V 308 12 := a7 12 (by omega)
        have ea20 : f 20 = V 308 20 := a7 20 (by omega)
        have hsa_n : f 4 ≤ 300 := by omega
        have hsa_12 : 0 ≤ f 12 ∧ f 12 ≤ 2100 := by omega
        have hsa_20 : InR (f 20) := by rw [ea20]; exact h20
        have hsa_wr : 0 ≤ f 14 ∧ f 14 ≤ p := by omega
        have hsa_18 : 0 ≤ f 18 ∧ f 18 ≤ 8 := by omega
        have hsa_b : AB (V 313) := hPb
        have hsa_ps : PS (V 312) (f 4) p f := by rw [ea4]; exact a1
        refine x_cVi3 mm_X11_summed ml_X11_220 dX11_asks_50 (c_X11_summed p hS hsa_n hTp hsa_12 hsa_20 hsa_wr hsa_18 hsa_b hsa_ps) (sh_308 hS) (lq_308 hS) (fun ra fa txa pla hqa => ?_)
        have hza : SuP (V 312) (f 4) (f 20) p (f 18) (f 12) (f 14) (V 311) f ra fa txa pla := hqa
        have hra : 0 ≤ ra ∧ ra < 10 := by rcases hza with z | z; (have := z.1; omega); exact ⟨z.2.2.1, z.2.1⟩
        refine x_mem (V' := (up (up (up V 308 fa) 311 txa) 313 pla)) (congrArg (fun z => up z 313 _) (congrArg (fun z => up z 311 _) (up_up _ _ _ _))) ?_
        refine x_is2 dX11_asks_53 ?_
        refine x_il2 dX11_asks_54 ?_
        refine x_if_eq (tgt := 60) dX11_asks_55 (inr (by omega)) (fun c55_2 => ?_) (fun c55_2 => ?_)
        · -- 55 eq -> 60
          have hza0 := hza.resolve_right (fun z => absurd z.1 (by omega))
          obtain ⟨_, q1, em1, s1, s2, s3, s4, s5, s6, s7, s8, s9⟩ := hza0
          rw [ea4] at s1 s2
          rw [ea20] at s1
          have hc9 := s2.2.2.2.2.1
          have hcr0 := cmpO_r (fa 9)
          have ht0 := tok_r hTp s2.1.2
          have hf7 := s2.2.2.1
          have hf4 := s2.2.1
          refine x_al0 dX11_asks_60 ?_
          refine x_cVi mm_X11_compareOf ml_X11_223 dX11_asks_61 (c_X11_compareOf hS (show 0 ≤ (fa 9) ∧ (fa 9) < 256 from (by omega))) (sh_308 hS) (lq_308 hS) ?_
          refine x_topI (a' := if (fa 9) = 60 then 10 else if (fa 9) = 4 then 11 else if (fa 9) = 62 then 12 else if (fa 9) = 5 then 13 else if (fa 9) = 61 then 14 else if (fa 9) = 35 then 15 else -1) rfl ?_
          refine x_topI (a' := cmpO (fa 9)) rfl ?_
          refine x_is3 dX11_asks_64 ?_
          refine x_il3 dX11_asks_65 ?_
          refine x_if_ge (tgt := 71) dX11_asks_66 (inr (by omega)) (fun c66_3 => ?_) (fun c66_3 => ?_)
          · -- 66 ge -> 71
            have hcm : ¬ cmpO (tTok (V 312) (V 308 4) q1) < 0 := by rw [← hc9]; omega
            refine x_al0 dX11_asks_71 ?_
            refine x_cVv mm_X11_nextToken ml_X11_184 dX11_asks_72 (c_X11_nextToken hS (show 0 ≤ (fa 4) ∧ (fa 4) ≤ 300 from (by omega)) (show 0 ≤ (fa 7) ∧ (fa 7) ≤ (fa 4) from (by omega)) (show ∀ k, 0 ≤ (V 312) k ∧ (V 312) k < 256 from hTp)) (sh_308 hS) (lq_308 hS) ?_
            refine x_mem (V' := (up (up (up V 308 (mTok fa (V 312))) 311 txa) 313 pla)) (up_k (by decide) (up_k (by decide) (up_up _ _ _ _))) ?_
            refine x_al0 dX11_asks_75 ?_
            have eb4 : mTok fa (V 312) 4 = V 308 4 := (mTok_k (by decide)).trans s2.2.1
            have eb12 : mTok fa (V 312) 12 = V 308 12 := (mTok_k (by decide)).trans ((s8 12 (by omega)).trans ea12)
            have eb20 : mTok fa (V 312) 20 = V 308 20 := (mTok_k (by decide)).trans ((s8 20 (by omega)).trans ea20)
            have eb18 : mTok fa (V 312) 18 = f 18 := (mTok_k (by decide)).trans s4
            have eb14 : mTok fa (V 312) 14 = V 308 14 + em1.length := (mTok_k (by decide)).trans (by omega)
            have hnq := tok_r hTp s2.1.2
            have hcr := cmpO_r (tTok (V 312) (V 308 4) q1)
            have hsb_n : mTok fa (V 312) 4 ≤ 300 := by omega
            have hsb_12 : 0 ≤ mTok fa (V 312) 12 ∧ mTok fa (V 312) 12 ≤ 2100 := by omega
            have hsb_20 : InR (mTok fa (V 312) 20) := by rw [eb20]; exact h20
            have hsb_wr : 0 ≤ mTok fa (V 312) 14 ∧ mTok fa (V 312) 14 ≤ tNx (V 312) (V 308 4) q1 := by omega
            have hsb_18 : 0 ≤ mTok fa (V 312) 18 ∧ mTok fa (V 312) 18 ≤ 8 := by omega
            have hsb_b : AB pla := s9
            have hsb_ps : PS (V 312) (mTok fa (V 312) 4) (tNx (V 312) (V 308 4) q1) (mTok fa (V 312)) := by rw [eb4]; exact PS_nx hTp s2
            refine x_cVi3 mm_X11_summed ml_X11_220 dX11_asks_76 (c_X11_summed (tNx (V 312) (V 308 4) q1) hS hsb_n hTp hsb_12 hsb_20 hsb_wr hsb_18 hsb_b hsb_ps) (sh_308 hS) (lq_308 hS) (fun rb fb txb plb hqb => ?_)
            have hzb : SuP (V 312) ((mTok fa (V 312)) 4) ((mTok fa (V 312)) 20) (tNx (V 312) (V 308 4) q1) ((mTok fa (V 312)) 18) ((mTok fa (V 312)) 12) ((mTok fa (V 312)) 14) txa (mTok fa (V 312)) rb fb txb plb := hqb
            have hrb : 0 ≤ rb ∧ rb < 10 := by rcases hzb with z | z; (have := z.1; omega); exact ⟨z.2.2.1, z.2.1⟩
            refine x_mem (V' := (up (up (up V 308 fb) 311 txb) 313 plb)) (Eq.trans (Eq.trans (congrArg (fun z => up z 313 _) (congrArg (fun z => up z 311 _) (up_k (by decide) (up_k (by decide) (up_up _ _ _ _))))) (congrArg (fun z => up z 313 _) (up_k (by decide) (up_up _ _ _ _)))) (up_up _ _ _ _)) ?_
            refine x_is2 dX11_asks_79 ?_
            refine x_il2 dX11_asks_80 ?_
            refine x_if_eq (tgt := 86) dX11_asks_81 (inr (by omega)) (fun c81_4 => ?_) (fun c81_4 => ?_)
            · -- 81 eq -> 86
              have hzb0 := hzb.resolve_right (fun z => absurd z.1 (by omega))
              obtain ⟨_, q2, em2, t1, t2, t3, t4, t5, t6, t7, t8, t9⟩ := hzb0
              have ht12 : fb 12 = V 308 12 := (t8 12 (by omega)).trans eb12
              rw [eb4] at t1 t2
              rw [eb20, eb18] at t1
              have ht22 := t2.1
              refine x_al0 dX11_asks_86 ?_
              refine x_il3 dX11_asks_87 ?_
              refine x_iconst dX11_asks_88 ?_
              refine x_cVv mm_X11_emit ml_X11_170 dX11_asks_89 (c_X11_emit (cmpO (fa 9)) 0 hS (show 0 ≤ (fb 12) ∧ (fb 12) ≤ 2100 from (by omega)) (show 0 ≤ (fb 14) ∧ (fb 14) < 300 from (by omega))) (sh_308 hS) (lq_308 hS) ?_
              refine x_mem (V' := (up (up (up V 308 (ua fb 14 ((fb 14) + 1))) 311 (ua (ua txb ((fb 12) + 100 + 2 * (fb 14)) (cmpO (fa 9))) ((fb 12) + 100 + 2 * (fb 14) + 1) 0)) 313 plb)) (Eq.trans (congrArg (fun z => up z 311 _) (up_k (by decide) (up_k (by decide) (up_up _ _ _ _)))) (up_k (by decide) (up_up _ _ _ _))) ?_
              refine x_al0 dX11_asks_92 ?_
              refine x_dup dX11_asks_93 ?_
              refine x_getI fl_X11_167 (sh_308 hS) (lq_308 hS) dX11_asks_94 ?_
              refine x_topI (a' := fb 18) (show (ua fb 14 ((fb 14) + 1)) 18 = fb 18 from (ua_ne (by decide))) ?_
              refine x_il1 dX11_asks_97 ?_
              refine x_isub dX11_asks_98 ?_
              refine x_putI fl_X11_167 (sh_308 hS) (lq_308 hS) dX11_asks_99 ?_
              refine x_mem (V' := (up (up (up V 308 (ua (ua fb 14 ((fb 14) + 1)) 18 ((fb 18) - k))) 311 (ua (ua txb ((fb 12) + 100 + 2 * (fb 14)) (cmpO (fa 9))) ((fb 12) + 100 + 2 * (fb 14) + 1) 0)) 313 plb)) (st2_c (by decide) (st2_c (by decide) (st2_up _ _ _ _ _))) ?_
              refine x_iconst dX11_asks_102 ?_
              refine x_is4 dX11_asks_103 ?_
              have lp105 : ∀ (N105 : Nat) (j : Int), (0 ≤ j ∧ j ≤ k) → (k - j).toNat < N105 → X Γ B RX11 "asks" cX11_asks 5 (some .int) 7 0 0 105 [some (vR B 308), some (vI k), some (vI rb), some (vI (cmpO (fa 9))), some (vI j)] [] 0 0 S (up (up (up V 308 (ua (ua fb 18 (fb 18 - k)) 14 (fb 14 + 1 + j))) 311 (emL (emL txb (fb 12) (fb 14) [(cmpO (fa 9), 0)]) (fb 12) (fb 14 + 1) (List.replicate (Int.toNat j) (20, 0)))) 313 plb) := by
                intro N105
                induction N105 with
                | zero => intro j hj hN; exact absurd hN (Nat.not_lt_zero _)
                | succ N105 ih105 =>
                  intro j hj hN105
                  refine x_il4 dX11_asks_105 ?_
                  refine x_il1 dX11_asks_107 ?_
                  refine x_icmp_ge (tgt := 124) dX11_asks_108 (inr (by omega)) (inr (by omega)) (fun c108_5 => ?_) (fun c108_5 => ?_)
                  · -- 108 ge -> 124
                    refine x_iconst dX11_asks_124 ?_
                    exact x_iret hQ ⟨0, _, _, plb, (by refine Or.inl ⟨rfl, q2, em1 ++ em2 ++ [(cmpO (tTok (V 312) (V 308 4) q1), 0)] ++ List.replicate k.toNat (20, 0), ?_, PS_ua (PS_ua t2 (by decide)) (by decide), ?_, ?_, ?_, by omega, ?_, fun z hz => ?_, t9⟩; (rw [a3] at s1 t1; have y := AsI_0r hAI hnn (s := (0, q2, em1 ++ em2 ++ [(cmpO (tTok (V 312) (V 308 4) q1), 0)])) ⟨_, s1, by rw [if_neg (by simp), if_neg hcm]; exact ⟨_, t1, (if_neg (by simp)).symm⟩⟩; exact y); (show fb 14 + 1 + j = _; simp; omega); (show fb 18 - k = _; omega); (rw [t5, ht12, t3, eb12, eb14, s5, ea12, a2, ← hc9, show j = k by omega]; exact emL_ask _ _ _ _ _ _ _); (simp; omega); (rw [ua_ne (by omega), ua_ne (by omega)]; exact ((t8 z hz).trans (mTok_k (by omega))).trans ((s8 z hz).trans (a7 z hz)))), rfl, rfl, rfl⟩ dX11_asks_125
                  · -- 108 ge -> 111
                    refine x_al0 dX11_asks_111 ?_
                    refine x_bipush dX11_asks_112 ?_
                    refine x_iconst dX11_asks_114 ?_
                    refine x_cVv mm_X11_emit ml_X11_170 dX11_asks_115 (c_X11_emit 20 0 hS (show 0 ≤ (fb 12) ∧ (fb 12) ≤ 2100 from (by omega)) (show 0 ≤ (fb 14 + 1 + j) ∧ (fb 14 + 1 + j) < 300 from (by omega))) (sh_308 hS) (lq_308 hS) ?_
                    refine x_mem (V' := (up (up (up V 308 (ua (ua (ua fb 18 (fb 18 - k)) 14 (fb 14 + 1 + j)) 14 ((fb 14 + 1 + j) + 1))) 311 (ua (ua (emL (emL txb (fb 12) (fb 14) [(cmpO (fa 9), 0)]) (fb 12) (fb 14 + 1) (List.replicate (Int.toNat j) (20, 0))) ((fb 12) + 100 + 2 * (fb 14 + 1 + j)) 20) ((fb 12) + 100 + 2 * (fb 14 + 1 + j) + 1) 0)) 313 plb)) (Eq.trans (congrArg (fun z => up z 311 _) (up_k (by decide) (up_k (by decide) (up_up _ _ _ _)))) (up_k (by decide) (up_up _ _ _ _))) ?_
                    refine x_inc4 dX11_asks_118 ?_
                    refine x_goto (tgt := 105) dX11_asks_121 ?_
                    refine x_mem (V' := (up (up (up V 308 (ua (ua fb 18 (fb 18 - k)) 14 (fb 14 + 1 + (j + 1)))) 311 (emL (emL txb (fb 12) (fb 14) [(cmpO (fa 9), 0)]) (fb 12) (fb 14 + 1) (List.replicate (Int.toNat (j + 1)) (20, 0)))) 313 plb)) (upE (upE (upE rfl (by funext z; simp only [ua]; (repeat' split) <;> first | rfl | omega | (subst_vars; omega) | (rename_i h; rw [h]; omega))) (repX_s _ _ _ _ hj.1).symm) rfl) ?_
                    exact x_fg (ih105 (j + 1) (by omega) (by omega)) (And.intro rfl (And.intro rfl (And.intro rfl (And.intro rfl (And.intro rfl trivial)))))
              refine x_mem (V' := (up (up (up V 308 (ua (ua fb 18 (fb 18 - k)) 14 (fb 14 + 1 + 0))) 311 (emL (emL txb (fb 12) (fb 14) [(cmpO (fa 9), 0)]) (fb 12) (fb 14 + 1) (List.replicate (Int.toNat 0) (20, 0)))) 313 plb)) (upE (upE (upE rfl (by funext z; simp only [ua]; (repeat' split) <;> first | rfl | omega | (subst_vars; omega) | (rename_i h; rw [h]; omega))) ((emL_1 _ _ _ _ _ (by omega) (by decide)).symm)) rfl) ?_
              exact x_fg (lp105 _ 0 (by omega) (Nat.lt_succ_self _)) (And.intro rfl (And.intro rfl (And.intro rfl (And.intro rfl (And.intro rfl trivial)))))
            · -- 81 eq -> 84
              refine x_il2 dX11_asks_84 ?_
              exact x_iret hQ ⟨rb, fb, txb, plb, (by have z := hzb.resolve_left (fun z => absurd z.1 (by omega)); obtain ⟨z1, z2, z3, qq, ee, z4, z5, z6, z7, z8, z9, z10⟩ := z; rw [eb4] at z4 z5; rw [eb20, eb18, a3] at z4; rw [eb12, eb14, s5, ea12, a2, ← emL_app] at z6; refine Or.inr ⟨z1, z2, z3, qq, em1 ++ ee, ?_, z5, z6, by omega, by rw [List.length_append]; omega, fun j hj => ((z9 j hj).trans (mTok_k (by omega))).trans ((s8 j hj).trans (a7 j hj)), z10⟩; rw [a3] at s1; have y := AsI_0r hAI hnn (s := (rb, qq, [])) ⟨_, s1, by rw [if_neg (by simp), if_neg hcm]; exact ⟨_, z4, (if_pos z1).symm⟩⟩; simp only [notR] at y; rw [if_pos z1] at y; exact y), rfl, rfl, rfl⟩ dX11_asks_85
          · -- 66 ge -> 69
            have hcm : cmpO (tTok (V 312) (V 308 4) q1) < 0 := by rw [← hc9]; omega
            refine x_iconst dX11_asks_69 ?_
            exact x_iret hQ ⟨1, fa, txa, pla, (by refine Or.inr ⟨by decide, by decide, by decide, q1, em1, ?_, s2, ?_, by omega, by omega, fun j hj => (s8 j hj).trans (a7 j hj), s9⟩; (rw [a3] at s1; exact AsI_0r (s := (1, q1, [])) hAI hnn ⟨_, s1, by rw [if_neg (by simp)]; exact if_pos hcm ▸ rfl⟩); rw [s5, ea12, a2]), rfl, rfl, rfl⟩ dX11_asks_70
        · -- 55 eq -> 58
          refine x_il2 dX11_asks_58 ?_
          exact x_iret hQ ⟨ra, fa, txa, pla, (by have z := hza.resolve_left (fun z => absurd z.1 (by omega)); obtain ⟨z1, z2, z3, qq, ee, z4, z5, z6, z7, z8, z9, z10⟩ := z; rw [ea4] at z4 z5; rw [ea20, a3] at z4; rw [ea12, a2] at z6; refine Or.inr ⟨z1, z2, z3, qq, ee, ?_, z5, z6, by omega, by omega, fun j hj => (z9 j hj).trans (a7 j hj), z10⟩; have y := AsI_0r hAI hnn (s := (ra, qq, [])) ⟨_, z4, by rw [if_pos z1]⟩; simp only [notR] at y; rw [if_pos z1] at y; exact y), rfl, rfl, rfl⟩ dX11_asks_59
      · -- 15 eq -> 18
        have hisn : isNotT (V 312) (V 308 4) p := by have z : f 9 = 2 ∧ f 11 = (110 * 256 + 111) * 256 + 116 := (by assumption); exact ⟨by omega, by have := hq7 (by omega); omega⟩
        refine x_al0 dX11_asks_18 ?_
        refine x_getI fl_X11_167 (sh_308 hS) (lq_308 hS) dX11_asks_19 ?_
        refine x_topI (a' := f 18) rfl ?_
        refine x_bipush dX11_asks_22 ?_
        refine x_icmp_ne (tgt := 29) dX11_asks_24 (inr (by omega)) (inr (by decide)) (fun c24_6 => ?_) (fun c24_6 => ?_)
        · -- 24 ne -> 29
          refine x_al0 dX11_asks_29 ?_
          refine x_dup dX11_asks_30 ?_
          refine x_getI fl_X11_167 (sh_308 hS) (lq_308 hS) dX11_asks_31 ?_
          refine x_topI (a' := f 18) rfl ?_
          refine x_iconst dX11_asks_34 ?_
          refine x_iadd dX11_asks_35 ?_
          refine x_putI fl_X11_167 (sh_308 hS) (lq_308 hS) dX11_asks_36 ?_
          refine x_mem (V' := (up V 308 (ua f 18 ((f 18) + 1)))) (st2_up _ _ _ _ _) ?_
          refine x_inc1 dX11_asks_39 ?_
          refine x_al0 dX11_asks_42 ?_
          refine x_cVv mm_X11_nextToken ml_X11_184 dX11_asks_43 (c_X11_nextToken hS (show 0 ≤ (f 4) ∧ (f 4) ≤ 300 from (by omega)) (show 0 ≤ (f 7) ∧ (f 7) ≤ (f 4) from (by omega)) (show ∀ k, 0 ≤ (V 312) k ∧ (V 312) k < 256 from hTp)) (sh_308 hS) (lq_308 hS) ?_
          refine x_mem (V' := (up V 308 (mTok (ua f 18 ((f 18) + 1)) (V 312)))) (up_up _ _ _ _) ?_
          refine x_goto (tgt := 2) dX11_asks_46 ?_
          exact x_fg (ih2 (k + 1) (mTok (ua f 18 ((f 18) + 1)) (V 312)) ⟨_, AsI_s hTp hAI hisn (by omega)⟩ (by omega)) (And.intro rfl (And.intro rfl trivial))
        · -- 24 ne -> 27
          refine x_iconst dX11_asks_27 ?_
          exact x_iret hQ ⟨3, f, V 311, V 313, (by refine Or.inr ⟨by decide, by decide, by decide, p, [], AsI_f hAI hisn (by omega), b1, rfl, by omega, by simp; omega, b7, hPb⟩), rfl, rfl, (by first | rfl | (rw [show up (up V 308 f) 311 (V 311) = up V 308 f from up_self _ 311]; exact up_self _ 313))⟩ dX11_asks_28
  refine x_mem (V' := (up V 308 (V 308))) (show _ = (up V 308 (V 308)) from (Eq.symm (up_self _ 308))) ?_
  exact x_fg (lp2 _ 0 (V 308) ⟨p0, AsI_0 hPS h18.2⟩ (Nat.lt_succ_self _)) (And.intro rfl (And.intro rfl trivial))
