set_option maxRecDepth 100000 in
set_option maxHeartbeats 4000000 in
theorem c_X11_lent {B : Bs} {S : Stt} {V : Va} (x : Int) (p0 : Int) (hS : Stat S) (hTn : (V 308 4) ≤ 300) (hTp : ∀ k, 0 ≤ (V 312) k ∧ (V 312) k < 256) (hPS : PS (V 312) (V 308 4) p0 (V 308)) (hx : 0 ≤ x ∧ x < 2790) : C B yX11_lent cX11_lent 3 (some .int) 5 0 0 [vR B 308, vI x] S V (rP2 S V (NuP (V 312) (V 308 4) x (V 311) (V 308) (numR (V 312) (V 308 4) (itm 4) p0))) := by
  refine C.of [some (vR B 308), some (vI x), none] ?_
  intro Γ hQ
  have hps0 := hPS
  have hk0 : ∀ k, k < 7 ∨ 11 < k → V 308 k = V 308 k := fun _ _ => rfl
  have pt0 := PS_tok hTp hPS
  have hN0 : NuS (V 312) (V 308 4) (itm 4) p0 [] (itm 4) p0 := NuS_0
  have hN0 : NuS (V 312) (V 308 4) (itm 4) p0 [] [(1, 0, 15), (0, wTo, 0), (1, 0, 9), (0, wFor, 0), (1, 1, 99)] p0 := hN0
  refine x_al0 dX11_lent_0 ?_
  refine x_il1 dX11_lent_1 ?_
  refine x_iconst dX11_lent_2 ?_
  refine x_iadd dX11_lent_3 ?_
  refine x_iconst dX11_lent_4 ?_
  refine x_bipush dX11_lent_5 ?_
  refine x_cVi mm_X11_figure ml_X11_233 dX11_lent_7 (c_X11_figure (x + 1) 0 15 hS (by omega) (by omega) hTp (by omega) (inr (by omega)) (by omega) (inr (by decide)) (inr (by decide))) (sh_308 hS) (lq_308 hS) ?_
  by_cases g9_7 : (V 308) 9 = 1
  · by_cases gn_7 : 0 ≤ (V 308) 10 ∧ (V 308) 10 ≤ 15
    rotate_left
    · have gt := PS_num hps0 g9_7
      have gf := gn_7
      rw [gt.2] at gf
      have hF := NuS_f2 hN0 gt.1 gf
      refine x_topI (a' := 2) (figV_2 g9_7 gn_7) ?_
      refine x_mem (V' := (up (up V 308 (V 308)) 311 (V 311))) (upE (upE rfl (if_neg (fun z => gn_7 z.2))) (if_neg (fun z => gn_7 z.2))) ?_
      refine x_is2 dX11_lent_10 ?_
      refine x_il2 dX11_lent_11 ?_
      refine x_if_ne (tgt := 24) dX11_lent_12 (inr (by decide)) (fun c12_1 => ?_) (fun c12_1 => ?_)
      · -- 12 ne -> 24
        refine x_il2 dX11_lent_24 ?_
        refine x_if_ne (tgt := 39) dX11_lent_25 (inr (by decide)) (fun c25_2 => ?_) (fun c25_2 => ?_)
        · -- 25 ne -> 39
          refine x_il2 dX11_lent_39 ?_
          refine x_if_ne (tgt := 61) dX11_lent_40 (inr (by decide)) (fun c40_3 => ?_) (fun c40_3 => ?_)
          · -- 40 ne -> 61
            refine x_il2 dX11_lent_61 ?_
            refine x_if_eq (tgt := 69) dX11_lent_62 (inr (by decide)) (fun c62_4 => ?_) (fun c62_4 => ?_)
            · exact absurd c62_4 (by decide)
            · -- 62 eq -> 65
              refine x_il2 dX11_lent_65 ?_
              refine x_goto (tgt := 79) dX11_lent_66 ?_
              exact x_iret hQ ⟨2, V 308, V 311, NuP_f hF hps0 hk0 (by decide) (fun k hk => rfl) (fun _ => Or.inl rfl), rfl, rfl, (by rw [up_self, up_self])⟩ dX11_lent_79
          · exact absurd c40_3 (by decide)
        · exact absurd c25_2 (by decide)
      · exact absurd c12_1 (by decide)
    have gt := PS_num hps0 g9_7
    have gc : figC (V 308) 0 15 := ⟨g9_7, gn_7⟩
    have gf := gn_7
    rw [gt.2] at gf
    refine x_topI (a' := 0) (figV_0 gc) ?_
    refine x_mem (V' := (up (up V 308 (mTok (V 308) (V 312))) 311 (ua (V 311) (x + 1) (tNum (V 312) (V 308 4) p0)))) (upE (upE rfl (if_pos gc)) ((if_pos gc).trans (by rw [gt.2]))) ?_
    obtain ⟨f1, hf1⟩ : ∃ z : Int → Int, z = mTok (V 308) (V 312) := ⟨_, rfl⟩
    refine x_mem (V' := (up (up V 308 f1) 311 (ua (V 311) (x + 1) (tNum (V 312) (V 308 4) p0)))) (upE (upE rfl hf1.symm) rfl) ?_
    have hNf1 := NuS_n hN0 gt.1 gf
    have psf1 : PS (V 312) (V 308 4) (tNx (V 312) (V 308 4) p0) f1 := by rw [hf1]; exact PS_nx hTp hps0
    obtain ⟨p_1, hp_1⟩ : ∃ z : Int, z = tNx (V 312) (V 308 4) p0 := ⟨_, rfl⟩
    rw [← hp_1] at hNf1 psf1
    clear hp_1
    have hkf1 : ∀ k, k < 7 ∨ 11 < k → f1 k = V 308 k := fun k hk => by rw [hf1]; exact (mTok_k (by omega)).trans (hk0 k hk)
    clear hf1
    have ptf1 := PS_tok hTp psf1
    refine x_is2 dX11_lent_10 ?_
    refine x_il2 dX11_lent_11 ?_
    refine x_if_ne (tgt := 24) dX11_lent_12 (inr (by decide)) (fun c12_5 => ?_) (fun c12_5 => ?_)
    · exact absurd c12_5 (by decide)
    · -- 12 ne -> 15
      refine x_al0 dX11_lent_15 ?_
      refine x_al0 dX11_lent_16 ?_
      refine x_cVi mm_X11_isTo ml_X11_241 dX11_lent_17 (c_X11_isTo hS (show 0 ≤ (f1 9) ∧ (f1 9) < 256 from (by omega)) (show 0 ≤ (f1 11) ∧ (f1 11) < 72057594037927936 from (by omega))) (sh_308 hS) (lq_308 hS) ?_
      refine x_top (v' := vI (if (f1 9) = 2 ∧ (f1 11) = 29807 then 1 else 0)) rfl ?_
      have hai := And_iff (w := wTo) psf1
      by_cases gs_20 : f1 9 = 2 ∧ f1 11 = wTo
      · refine x_topI (a' := 1) (if_pos gs_20) ?_
        have gw := hai.mp gs_20
        refine x_cVi mm_X11_step ml_X11_237 dX11_lent_20 (c_X11_step 1 hS (show 0 ≤ (f1 4) ∧ (f1 4) ≤ 300 from (by omega)) (show 0 ≤ (f1 7) ∧ (f1 7) ≤ (f1 4) from (by omega)) (show ∀ k, 0 ≤ (V 312) k ∧ (V 312) k < 256 from hTp) (by first | omega | exact ite_01 _)) (sh_308 hS) (lq_308 hS) ?_
        refine x_mem (V' := (up (up V 308 (if 1 = 0 then f1 else mTok f1 (V 312))) 311 (ua (V 311) (x + 1) (tNum (V 312) (V 308 4) p0)))) (up_k (by decide) (up_up _ _ _ _)) ?_
        refine x_topI (a' := 0) rfl ?_
        refine x_mem (V' := (up (up V 308 (mTok f1 (V 312))) 311 (ua (V 311) (x + 1) (tNum (V 312) (V 308 4) p0)))) (upE (upE rfl (if_neg (by decide))) rfl) ?_
        obtain ⟨f2, hf2⟩ : ∃ z : Int → Int, z = mTok f1 (V 312) := ⟨_, rfl⟩
        refine x_mem (V' := (up (up V 308 f2) 311 (ua (V 311) (x + 1) (tNum (V 312) (V 308 4) p0)))) (upE (upE rfl hf2.symm) rfl) ?_
        have hNf2 := NuS_w hNf1 gw
        have psf2 : PS (V 312) (V 308 4) (tNx (V 312) (V 308 4) p_1) f2 := by rw [hf2]; exact PS_nx hTp psf1
        obtain ⟨p_2, hp_2⟩ : ∃ z : Int, z = tNx (V 312) (V 308 4) p_1 := ⟨_, rfl⟩
        rw [← hp_2] at hNf2 psf2
        clear hp_2
        have hkf2 : ∀ k, k < 7 ∨ 11 < k → f2 k = V 308 k := fun k hk => by rw [hf2]; exact (mTok_k (by omega)).trans (hkf1 k hk)
        clear hf2
        have ptf2 := PS_tok hTp psf2
        refine x_is2 dX11_lent_23 ?_
        refine x_il2 dX11_lent_24 ?_
        refine x_if_ne (tgt := 39) dX11_lent_25 (inr (by decide)) (fun c25_6 => ?_) (fun c25_6 => ?_)
        · exact absurd c25_6 (by decide)
        · -- 25 ne -> 28
          refine x_al0 dX11_lent_28 ?_
          refine x_il1 dX11_lent_29 ?_
          refine x_iconst dX11_lent_30 ?_
          refine x_iadd dX11_lent_31 ?_
          refine x_iconst dX11_lent_32 ?_
          refine x_bipush dX11_lent_33 ?_
          refine x_cVi mm_X11_figure ml_X11_233 dX11_lent_35 (c_X11_figure (x + 2) 0 9 hS (show 0 ≤ (f2 4) ∧ (f2 4) ≤ 300 from (by omega)) (show 0 ≤ (f2 7) ∧ (f2 7) ≤ (f2 4) from (by omega)) (show ∀ k, 0 ≤ (V 312) k ∧ (V 312) k < 256 from hTp) (show 0 ≤ (f2 9) ∧ (f2 9) < 256 from (by omega)) (show InR (f2 10) from (inr (by omega))) (by omega) (inr (by decide)) (inr (by decide))) (sh_308 hS) (lq_308 hS) ?_
          refine x_topI (a' := figV f2 0 9) rfl ?_
          refine x_mem (V' := (up (up V 308 (if figC f2 0 9 then mTok f2 (V 312) else f2)) 311 (if figC f2 0 9 then ua (ua (V 311) (x + 1) (tNum (V 312) (V 308 4) p0)) (x + 2) (f2 10) else (ua (V 311) (x + 1) (tNum (V 312) (V 308 4) p0))))) (Eq.trans (congrArg (fun z => up z 311 _) (up_k (by decide) (up_up _ _ _ _))) (up_up _ _ _ _)) ?_
          by_cases g9_35 : f2 9 = 1
          · by_cases gn_35 : 0 ≤ f2 10 ∧ f2 10 ≤ 9
            rotate_left
            · have gt := PS_num psf2 g9_35
              have gf := gn_35
              rw [gt.2] at gf
              have hF := NuS_f2 hNf2 gt.1 gf
              refine x_topI (a' := 2) (figV_2 g9_35 gn_35) ?_
              refine x_mem (V' := (up (up V 308 f2) 311 (ua (V 311) (x + 1) (tNum (V 312) (V 308 4) p0)))) (upE (upE rfl (if_neg (fun z => gn_35 z.2))) (if_neg (fun z => gn_35 z.2))) ?_
              refine x_is2 dX11_lent_38 ?_
              refine x_il2 dX11_lent_39 ?_
              refine x_if_ne (tgt := 61) dX11_lent_40 (inr (by decide)) (fun c40_7 => ?_) (fun c40_7 => ?_)
              · -- 40 ne -> 61
                refine x_il2 dX11_lent_61 ?_
                refine x_if_eq (tgt := 69) dX11_lent_62 (inr (by decide)) (fun c62_8 => ?_) (fun c62_8 => ?_)
                · exact absurd c62_8 (by decide)
                · -- 62 eq -> 65
                  refine x_il2 dX11_lent_65 ?_
                  refine x_goto (tgt := 79) dX11_lent_66 ?_
                  exact x_iret hQ ⟨2, f2, ua (V 311) (x + 1) (tNum (V 312) (V 308 4) p0), NuP_f hF psf2 hkf2 (by decide) (fun k hk => (by rw [ua_ne (by omega)])) (fun k => by simp only [ua]; (repeat' split) <;> first | exact Or.inl rfl | (right; omega)), rfl, rfl, rfl⟩ dX11_lent_79
              · exact absurd c40_7 (by decide)
            have gt := PS_num psf2 g9_35
            have gc : figC f2 0 9 := ⟨g9_35, gn_35⟩
            have gf := gn_35
            rw [gt.2] at gf
            refine x_topI (a' := 0) (figV_0 gc) ?_
            refine x_mem (V' := (up (up V 308 (mTok f2 (V 312))) 311 (ua (ua (V 311) (x + 1) (tNum (V 312) (V 308 4) p0)) (x + 2) (tNum (V 312) (V 308 4) p_2)))) (upE (upE rfl (if_pos gc)) ((if_pos gc).trans (by rw [gt.2]))) ?_
            obtain ⟨f3, hf3⟩ : ∃ z : Int → Int, z = mTok f2 (V 312) := ⟨_, rfl⟩
            refine x_mem (V' := (up (up V 308 f3) 311 (ua (ua (V 311) (x + 1) (tNum (V 312) (V 308 4) p0)) (x + 2) (tNum (V 312) (V 308 4) p_2)))) (upE (upE rfl hf3.symm) rfl) ?_
            have hNf3 := NuS_n hNf2 gt.1 gf
            have psf3 : PS (V 312) (V 308 4) (tNx (V 312) (V 308 4) p_2) f3 := by rw [hf3]; exact PS_nx hTp psf2
            obtain ⟨p_3, hp_3⟩ : ∃ z : Int, z = tNx (V 312) (V 308 4) p_2 := ⟨_, rfl⟩
            rw [← hp_3] at hNf3 psf3
            clear hp_3
            have hkf3 : ∀ k, k < 7 ∨ 11 < k → f3 k = V 308 k := fun k hk => by rw [hf3]; exact (mTok_k (by omega)).trans (hkf2 k hk)
            clear hf3
            have ptf3 := PS_tok hTp psf3
            refine x_is2 dX11_lent_38 ?_
            refine x_il2 dX11_lent_39 ?_
            refine x_if_ne (tgt := 61) dX11_lent_40 (inr (by decide)) (fun c40_9 => ?_) (fun c40_9 => ?_)
            · exact absurd c40_9 (by decide)
            · -- 40 ne -> 43
              refine x_al0 dX11_lent_43 ?_
              refine x_al0 dX11_lent_44 ?_
              refine x_bipush dX11_lent_45 ?_
              refine x_bipush dX11_lent_47 ?_
              refine x_bipush dX11_lent_49 ?_
              refine x_cSl mm_X11_w3 ml_X11_146 dX11_lent_51 (c_X11_w3 102 111 114 (by first | decide | omega) (by first | decide | omega) (by first | decide | omega)) ?_
              refine x_cVi mm_X11_isWord ml_X11_216 dX11_lent_54 (c_X11_isWord ((102 * 256 + 111) * 256 + 114) hS (show 0 ≤ (f3 9) ∧ (f3 9) < 256 from (by omega)) (show 0 ≤ (f3 11) ∧ (f3 11) < 72057594037927936 from (by omega)) (by omega)) (sh_308 hS) (lq_308 hS) ?_
              refine x_top (v' := vI (if (f3 9) = 2 ∧ (f3 11) = ((102 * 256 + 111) * 256 + 114) then 1 else 0)) rfl ?_
              have hai := And_iff (w := wFor) psf3
              by_cases gs_57 : f3 9 = 2 ∧ f3 11 = wFor
              · refine x_topI (a' := 1) (if_pos gs_57) ?_
                have gw := hai.mp gs_57
                refine x_cVi mm_X11_step ml_X11_237 dX11_lent_57 (c_X11_step 1 hS (show 0 ≤ (f3 4) ∧ (f3 4) ≤ 300 from (by omega)) (show 0 ≤ (f3 7) ∧ (f3 7) ≤ (f3 4) from (by omega)) (show ∀ k, 0 ≤ (V 312) k ∧ (V 312) k < 256 from hTp) (by first | omega | exact ite_01 _)) (sh_308 hS) (lq_308 hS) ?_
                refine x_mem (V' := (up (up V 308 (if 1 = 0 then f3 else mTok f3 (V 312))) 311 (ua (ua (V 311) (x + 1) (tNum (V 312) (V 308 4) p0)) (x + 2) (tNum (V 312) (V 308 4) p_2)))) (up_k (by decide) (up_up _ _ _ _)) ?_
                refine x_topI (a' := 0) rfl ?_
                refine x_mem (V' := (up (up V 308 (mTok f3 (V 312))) 311 (ua (ua (V 311) (x + 1) (tNum (V 312) (V 308 4) p0)) (x + 2) (tNum (V 312) (V 308 4) p_2)))) (upE (upE rfl (if_neg (by decide))) rfl) ?_
                obtain ⟨f4, hf4⟩ : ∃ z : Int → Int, z = mTok f3 (V 312) := ⟨_, rfl⟩
                refine x_mem (V' := (up (up V 308 f4) 311 (ua (ua (V 311) (x + 1) (tNum (V 312) (V 308 4) p0)) (x + 2) (tNum (V 312) (V 308 4) p_2)))) (upE (upE rfl hf4.symm) rfl) ?_
                have hNf4 := NuS_w hNf3 gw
                have psf4 : PS (V 312) (V 308 4) (tNx (V 312) (V 308 4) p_3) f4 := by rw [hf4]; exact PS_nx hTp psf3
                obtain ⟨p_4, hp_4⟩ : ∃ z : Int, z = tNx (V 312) (V 308 4) p_3 := ⟨_, rfl⟩
                rw [← hp_4] at hNf4 psf4
                clear hp_4
                have hkf4 : ∀ k, k < 7 ∨ 11 < k → f4 k = V 308 k := fun k hk => by rw [hf4]; exact (mTok_k (by omega)).trans (hkf3 k hk)
                clear hf4
                have ptf4 := PS_tok hTp psf4
                refine x_is2 dX11_lent_60 ?_
                refine x_il2 dX11_lent_61 ?_
                refine x_if_eq (tgt := 69) dX11_lent_62 (inr (by decide)) (fun c62_10 => ?_) (fun c62_10 => ?_)
                · -- 62 eq -> 69
                  refine x_al0 dX11_lent_69 ?_
                  refine x_il1 dX11_lent_70 ?_
                  refine x_iconst dX11_lent_71 ?_
                  refine x_iadd dX11_lent_72 ?_
                  refine x_iconst dX11_lent_73 ?_
                  refine x_bipush dX11_lent_74 ?_
                  refine x_cVi mm_X11_figure ml_X11_233 dX11_lent_76 (c_X11_figure (x + 3) 1 99 hS (show 0 ≤ (f4 4) ∧ (f4 4) ≤ 300 from (by omega)) (show 0 ≤ (f4 7) ∧ (f4 7) ≤ (f4 4) from (by omega)) (show ∀ k, 0 ≤ (V 312) k ∧ (V 312) k < 256 from hTp) (show 0 ≤ (f4 9) ∧ (f4 9) < 256 from (by omega)) (show InR (f4 10) from (inr (by omega))) (by omega) (inr (by decide)) (inr (by decide))) (sh_308 hS) (lq_308 hS) ?_
                  refine x_topI (a' := figV f4 1 99) rfl ?_
                  refine x_mem (V' := (up (up V 308 (if figC f4 1 99 then mTok f4 (V 312) else f4)) 311 (if figC f4 1 99 then ua (ua (ua (V 311) (x + 1) (tNum (V 312) (V 308 4) p0)) (x + 2) (tNum (V 312) (V 308 4) p_2)) (x + 3) (f4 10) else (ua (ua (V 311) (x + 1) (tNum (V 312) (V 308 4) p0)) (x + 2) (tNum (V 312) (V 308 4) p_2))))) (Eq.trans (congrArg (fun z => up z 311 _) (up_k (by decide) (up_up _ _ _ _))) (up_up _ _ _ _)) ?_
                  by_cases g9_76 : f4 9 = 1
                  · by_cases gn_76 : 1 ≤ f4 10 ∧ f4 10 ≤ 99
                    rotate_left
                    · have gt := PS_num psf4 g9_76
                      have gf := gn_76
                      rw [gt.2] at gf
                      have hF := NuS_f2 hNf4 gt.1 gf
                      refine x_topI (a' := 2) (figV_2 g9_76 gn_76) ?_
                      refine x_mem (V' := (up (up V 308 f4) 311 (ua (ua (V 311) (x + 1) (tNum (V 312) (V 308 4) p0)) (x + 2) (tNum (V 312) (V 308 4) p_2)))) (upE (upE rfl (if_neg (fun z => gn_76 z.2))) (if_neg (fun z => gn_76 z.2))) ?_
                      exact x_iret hQ ⟨2, f4, ua (ua (V 311) (x + 1) (tNum (V 312) (V 308 4) p0)) (x + 2) (tNum (V 312) (V 308 4) p_2), NuP_f hF psf4 hkf4 (by decide) (fun k hk => (by rw [ua_ne (by omega), ua_ne (by omega)])) (fun k => by simp only [ua]; (repeat' split) <;> first | exact Or.inl rfl | (right; omega)), rfl, rfl, rfl⟩ dX11_lent_79
                    have gt := PS_num psf4 g9_76
                    have gc : figC f4 1 99 := ⟨g9_76, gn_76⟩
                    have gf := gn_76
                    rw [gt.2] at gf
                    refine x_topI (a' := 0) (figV_0 gc) ?_
                    refine x_mem (V' := (up (up V 308 (mTok f4 (V 312))) 311 (ua (ua (ua (V 311) (x + 1) (tNum (V 312) (V 308 4) p0)) (x + 2) (tNum (V 312) (V 308 4) p_2)) (x + 3) (tNum (V 312) (V 308 4) p_4)))) (upE (upE rfl (if_pos gc)) ((if_pos gc).trans (by rw [gt.2]))) ?_
                    obtain ⟨f5, hf5⟩ : ∃ z : Int → Int, z = mTok f4 (V 312) := ⟨_, rfl⟩
                    refine x_mem (V' := (up (up V 308 f5) 311 (ua (ua (ua (V 311) (x + 1) (tNum (V 312) (V 308 4) p0)) (x + 2) (tNum (V 312) (V 308 4) p_2)) (x + 3) (tNum (V 312) (V 308 4) p_4)))) (upE (upE rfl hf5.symm) rfl) ?_
                    have hNf5 := NuS_n hNf4 gt.1 gf
                    have psf5 : PS (V 312) (V 308 4) (tNx (V 312) (V 308 4) p_4) f5 := by rw [hf5]; exact PS_nx hTp psf4
                    obtain ⟨p_5, hp_5⟩ : ∃ z : Int, z = tNx (V 312) (V 308 4) p_4 := ⟨_, rfl⟩
                    rw [← hp_5] at hNf5 psf5
                    clear hp_5
                    have hkf5 : ∀ k, k < 7 ∨ 11 < k → f5 k = V 308 k := fun k hk => by rw [hf5]; exact (mTok_k (by omega)).trans (hkf4 k hk)
                    clear hf5
                    have ptf5 := PS_tok hTp psf5
                    exact x_iret hQ ⟨0, f5, ua (ua (ua (V 311) (x + 1) (tNum (V 312) (V 308 4) p0)) (x + 2) (tNum (V 312) (V 308 4) p_2)) (x + 3) (tNum (V 312) (V 308 4) p_4), NuP_0 (NuS_e hNf5) psf5 hkf5 (putL_3 _ _ _ _ _) (fun k hk => (by rw [ua_ne (by omega), ua_ne (by omega), ua_ne (by omega)])) (fun k => by simp only [ua]; (repeat' split) <;> first | exact Or.inl rfl | (right; omega)), rfl, rfl, rfl⟩ dX11_lent_79
                  have gt : ¬ tTok (V 312) (V 308 4) p_4 = 1 := fun z => g9_76 (by rw [psf4.2.2.2.2.1]; exact z)
                  have hF := NuS_f1 hNf4 gt
                  refine x_topI (a' := 1) (figV_1 g9_76) ?_
                  refine x_mem (V' := (up (up V 308 f4) 311 (ua (ua (V 311) (x + 1) (tNum (V 312) (V 308 4) p0)) (x + 2) (tNum (V 312) (V 308 4) p_2)))) (upE (upE rfl (if_neg (fun z => g9_76 z.1))) (if_neg (fun z => g9_76 z.1))) ?_
                  exact x_iret hQ ⟨1, f4, ua (ua (V 311) (x + 1) (tNum (V 312) (V 308 4) p0)) (x + 2) (tNum (V 312) (V 308 4) p_2), NuP_f hF psf4 hkf4 (by decide) (fun k hk => (by rw [ua_ne (by omega), ua_ne (by omega)])) (fun k => by simp only [ua]; (repeat' split) <;> first | exact Or.inl rfl | (right; omega)), rfl, rfl, rfl⟩ dX11_lent_79
                · exact absurd c62_10 (by decide)
              refine x_topI (a' := 0) (if_neg gs_57) ?_
              have gw : ¬ (tTok (V 312) (V 308 4) p_3 = 2 ∧ tWd (V 312) (V 308 4) p_3 = wFor) := fun z => gs_57 (hai.mpr z)
              have hF := NuS_fw hNf3 gw
              refine x_cVi mm_X11_step ml_X11_237 dX11_lent_57 (c_X11_step 0 hS (show 0 ≤ (f3 4) ∧ (f3 4) ≤ 300 from (by omega)) (show 0 ≤ (f3 7) ∧ (f3 7) ≤ (f3 4) from (by omega)) (show ∀ k, 0 ≤ (V 312) k ∧ (V 312) k < 256 from hTp) (by first | omega | exact ite_01 _)) (sh_308 hS) (lq_308 hS) ?_
              refine x_mem (V' := (up (up V 308 (if 0 = 0 then f3 else mTok f3 (V 312))) 311 (ua (ua (V 311) (x + 1) (tNum (V 312) (V 308 4) p0)) (x + 2) (tNum (V 312) (V 308 4) p_2)))) (up_k (by decide) (up_up _ _ _ _)) ?_
              refine x_topI (a' := 1) rfl ?_
              refine x_mem (V' := (up (up V 308 f3) 311 (ua (ua (V 311) (x + 1) (tNum (V 312) (V 308 4) p0)) (x + 2) (tNum (V 312) (V 308 4) p_2)))) (upE (upE rfl (if_pos rfl)) rfl) ?_
              refine x_is2 dX11_lent_60 ?_
              refine x_il2 dX11_lent_61 ?_
              refine x_if_eq (tgt := 69) dX11_lent_62 (inr (by decide)) (fun c62_11 => ?_) (fun c62_11 => ?_)
              · exact absurd c62_11 (by decide)
              · -- 62 eq -> 65
                refine x_il2 dX11_lent_65 ?_
                refine x_goto (tgt := 79) dX11_lent_66 ?_
                exact x_iret hQ ⟨1, f3, ua (ua (V 311) (x + 1) (tNum (V 312) (V 308 4) p0)) (x + 2) (tNum (V 312) (V 308 4) p_2), NuP_f hF psf3 hkf3 (by decide) (fun k hk => (by rw [ua_ne (by omega), ua_ne (by omega)])) (fun k => by simp only [ua]; (repeat' split) <;> first | exact Or.inl rfl | (right; omega)), rfl, rfl, rfl⟩ dX11_lent_79
          have gt : ¬ tTok (V 312) (V 308 4) p_2 = 1 := fun z => g9_35 (by rw [psf2.2.2.2.2.1]; exact z)
          have hF := NuS_f1 hNf2 gt
          refine x_topI (a' := 1) (figV_1 g9_35) ?_
          refine x_mem (V' := (up (up V 308 f2) 311 (ua (V 311) (x + 1) (tNum (V 312) (V 308 4) p0)))) (upE (upE rfl (if_neg (fun z => g9_35 z.1))) (if_neg (fun z => g9_35 z.1))) ?_
          refine x_is2 dX11_lent_38 ?_
          refine x_il2 dX11_lent_39 ?_
          refine x_if_ne (tgt := 61) dX11_lent_40 (inr (by decide)) (fun c40_12 => ?_) (fun c40_12 => ?_)
          · -- 40 ne -> 61
            refine x_il2 dX11_lent_61 ?_
            refine x_if_eq (tgt := 69) dX11_lent_62 (inr (by decide)) (fun c62_13 => ?_) (fun c62_13 => ?_)
            · exact absurd c62_13 (by decide)
            · -- 62 eq -> 65
              refine x_il2 dX11_lent_65 ?_
              refine x_goto (tgt := 79) dX11_lent_66 ?_
              exact x_iret hQ ⟨1, f2, ua (V 311) (x + 1) (tNum (V 312) (V 308 4) p0), NuP_f hF psf2 hkf2 (by decide) (fun k hk => (by rw [ua_ne (by omega)])) (fun k => by simp only [ua]; (repeat' split) <;> first | exact Or.inl rfl | (right; omega)), rfl, rfl, rfl⟩ dX11_lent_79
          · exact absurd c40_12 (by decide)
      refine x_topI (a' := 0) (if_neg gs_20) ?_
      have gw : ¬ (tTok (V 312) (V 308 4) p_1 = 2 ∧ tWd (V 312) (V 308 4) p_1 = wTo) := fun z => gs_20 (hai.mpr z)
      have hF := NuS_fw hNf1 gw
      refine x_cVi mm_X11_step ml_X11_237 dX11_lent_20 (c_X11_step 0 hS (show 0 ≤ (f1 4) ∧ (f1 4) ≤ 300 from (by omega)) (show 0 ≤ (f1 7) ∧ (f1 7) ≤ (f1 4) from (by omega)) (show ∀ k, 0 ≤ (V 312) k ∧ (V 312) k < 256 from hTp) (by first | omega | exact ite_01 _)) (sh_308 hS) (lq_308 hS) ?_
      refine x_mem (V' := (up (up V 308 (if 0 = 0 then f1 else mTok f1 (V 312))) 311 (ua (V 311) (x + 1) (tNum (V 312) (V 308 4) p0)))) (up_k (by decide) (up_up _ _ _ _)) ?_
      refine x_topI (a' := 1) rfl ?_
      refine x_mem (V' := (up (up V 308 f1) 311 (ua (V 311) (x + 1) (tNum (V 312) (V 308 4) p0)))) (upE (upE rfl (if_pos rfl)) rfl) ?_
      refine x_is2 dX11_lent_23 ?_
      refine x_il2 dX11_lent_24 ?_
      refine x_if_ne (tgt := 39) dX11_lent_25 (inr (by decide)) (fun c25_14 => ?_) (fun c25_14 => ?_)
      · -- 25 ne -> 39
        refine x_il2 dX11_lent_39 ?_
        refine x_if_ne (tgt := 61) dX11_lent_40 (inr (by decide)) (fun c40_15 => ?_) (fun c40_15 => ?_)
        · -- 40 ne -> 61
          refine x_il2 dX11_lent_61 ?_
          refine x_if_eq (tgt := 69) dX11_lent_62 (inr (by decide)) (fun c62_16 => ?_) (fun c62_16 => ?_)
          · exact absurd c62_16 (by decide)
          · -- 62 eq -> 65
            refine x_il2 dX11_lent_65 ?_
            refine x_goto (tgt := 79) dX11_lent_66 ?_
            exact x_iret hQ ⟨1, f1, ua (V 311) (x + 1) (tNum (V 312) (V 308 4) p0), NuP_f hF psf1 hkf1 (by decide) (fun k hk => (by rw [ua_ne (by omega)])) (fun k => by simp only [ua]; (repeat' split) <;> first | exact Or.inl rfl | (right; omega)), rfl, rfl, rfl⟩ dX11_lent_79
        · exact absurd c40_15 (by decide)
      · exact absurd c25_14 (by decide)
  have gt : ¬ tTok (V 312) (V 308 4) p0 = 1 := fun z => g9_7 (by rw [hps0.2.2.2.2.1]; exact z)
  have hF := NuS_f1 hN0 gt
  refine x_topI (a' := 1) (figV_1 g9_7) ?_
  refine x_mem (V' := (up (up V 308 (V 308)) 311 (V 311))) (upE (upE rfl (if_neg (fun z => g9_7 z.1))) (if_neg (fun z => g9_7 z.1))) ?_
  refine x_is2 dX11_lent_10 ?_
  refine x_il2 dX11_lent_11 ?_
  refine x_if_ne (tgt := 24) dX11_lent_12 (inr (by decide)) (fun c12_17 => ?_) (fun c12_17 => ?_)
  · -- 12 ne -> 24
    refine x_il2 dX11_lent_24 ?_
    refine x_if_ne (tgt := 39) dX11_lent_25 (inr (by decide)) (fun c25_18 => ?_) (fun c25_18 => ?_)
    · -- 25 ne -> 39
      refine x_il2 dX11_lent_39 ?_
      refine x_if_ne (tgt := 61) dX11_lent_40 (inr (by decide)) (fun c40_19 => ?_) (fun c40_19 => ?_)
      · -- 40 ne -> 61
        refine x_il2 dX11_lent_61 ?_
        refine x_if_eq (tgt := 69) dX11_lent_62 (inr (by decide)) (fun c62_20 => ?_) (fun c62_20 => ?_)
        · exact absurd c62_20 (by decide)
        · -- 62 eq -> 65
          refine x_il2 dX11_lent_65 ?_
          refine x_goto (tgt := 79) dX11_lent_66 ?_
          exact x_iret hQ ⟨1, V 308, V 311, NuP_f hF hps0 hk0 (by decide) (fun k hk => rfl) (fun _ => Or.inl rfl), rfl, rfl, (by rw [up_self, up_self])⟩ dX11_lent_79
      · exact absurd c40_19 (by decide)
    · exact absurd c25_18 (by decide)
  · exact absurd c12_17 (by decide)
set_option maxRecDepth 100000 in
set_option maxHeartbeats 4000000 in
theorem c_X11_kind {B : Bs} {S : Stt} {V : Va} (x : Int) (p0 : Int) (hS : Stat S) (hTn : (V 308 4) ≤ 300) (hTp : ∀ k, 0 ≤ (V 312) k ∧ (V 312) k < 256) (hPS : PS (V 312) (V 308 4) p0 (V 308)) (hx : 0 ≤ x ∧ x < 2790) (hX : AB (V 311)) (h12 : 0 ≤ (V 308 12) ∧ (V 308 12) ≤ 2100) (hc24 : 0 ≤ (V 311) (V 308 12) ∧ (V 311) (V 308 12) ≤ 24) : C B yX11_kind cX11_kind 3 (some .int) 5 0 0 [vR B 308, vI x] S V (rP2 S V (fun r f tx => ∃ R, KnR (V 312) (V 308 4) (mKd (V 311) (V 308 12)) p0 R ∧ NuP (V 312) (V 308 4) x (V 311) (V 308) R r f tx)) := by
  refine C.of [some (vR B 308), some (vI x), none] ?_
  intro Γ hQ
  have hps0 := hPS
  have hk0 : ∀ k, k < 7 ∨ 11 < k → V 308 k = V 308 k := fun _ _ => rfl
  have pt0 := PS_tok hTp hPS
  have hN0 : NuS (V 312) (V 308 4) (itm 3) p0 [] (itm 3) p0 := NuS_0
  have hN0 : NuS (V 312) (V 308 4) (itm 3) p0 [] [(1, 0, 19), (0, wMany, 0), (1, 1, 9)] p0 := hN0
  have hps9 := hPS.2.2.2.2.1
  have ct85 : (¬ (tTok (V 312) (V 308 4) p0 = 1 ∧ (0 ≤ tNum (V 312) (V 308 4) p0 ∧ tNum (V 312) (V 308 4) p0 ≤ 19) ∧ mKd (V 311) (V 308 12) (tNum (V 312) (V 308 4) p0))) → X Γ B RX11 "kind" cX11_kind 3 (some .int) 5 0 0 85 [some (vR B 308), some (vI x), none] [] 0 0 S V := by
    intro hnk
    refine x_al0 dX11_kind_85 ?_
    refine x_il1 dX11_kind_86 ?_
    refine x_iconst dX11_kind_87 ?_
    refine x_iadd dX11_kind_88 ?_
    refine x_iconst dX11_kind_89 ?_
    refine x_bipush dX11_kind_90 ?_
    refine x_cVi mm_X11_figure ml_X11_233 dX11_kind_92 (c_X11_figure (x + 1) 0 19 hS (by omega) (by omega) hTp (by omega) (inr (by omega)) (by omega) (inr (by decide)) (inr (by decide))) (sh_308 hS) (lq_308 hS) ?_
    by_cases g9_92 : (V 308) 9 = 1
    · by_cases gn_92 : 0 ≤ (V 308) 10 ∧ (V 308) 10 ≤ 19
      rotate_left
      · have gt := PS_num hps0 g9_92
        have gf := gn_92
        rw [gt.2] at gf
        have hF := NuS_f2 hN0 gt.1 gf
        refine x_topI (a' := 2) (figV_2 g9_92 gn_92) ?_
        refine x_mem (V' := (up (up V 308 (V 308)) 311 (V 311))) (upE (upE rfl (if_neg (fun z => gn_92 z.2))) (if_neg (fun z => gn_92 z.2))) ?_
        refine x_is2 dX11_kind_95 ?_
        refine x_il2 dX11_kind_96 ?_
        refine x_if_ne (tgt := 120) dX11_kind_97 (inr (by decide)) (fun c97_1 => ?_) (fun c97_1 => ?_)
        · -- 97 ne -> 120
          refine x_il2 dX11_kind_120 ?_
          refine x_if_eq (tgt := 128) dX11_kind_121 (inr (by decide)) (fun c121_2 => ?_) (fun c121_2 => ?_)
          · exact absurd c121_2 (by decide)
          · -- 121 eq -> 124
            refine x_il2 dX11_kind_124 ?_
            refine x_goto (tgt := 138) dX11_kind_125 ?_
            exact x_iret hQ ⟨2, V 308, V 311, ⟨_, (Or.inr ⟨hnk, rfl⟩), NuP_f hF hps0 hk0 (by decide) (fun k hk => rfl) (fun _ => Or.inl rfl)⟩, rfl, rfl, (by rw [up_self, up_self])⟩ dX11_kind_138
        · exact absurd c97_1 (by decide)
      have gt := PS_num hps0 g9_92
      have gc : figC (V 308) 0 19 := ⟨g9_92, gn_92⟩
      have gf := gn_92
      rw [gt.2] at gf
      refine x_topI (a' := 0) (figV_0 gc) ?_
      refine x_mem (V' := (up (up V 308 (mTok (V 308) (V 312))) 311 (ua (V 311) (x + 1) (tNum (V 312) (V 308 4) p0)))) (upE (upE rfl (if_pos gc)) ((if_pos gc).trans (by rw [gt.2]))) ?_
      obtain ⟨f1, hf1⟩ : ∃ z : Int → Int, z = mTok (V 308) (V 312) := ⟨_, rfl⟩
      refine x_mem (V' := (up (up V 308 f1) 311 (ua (V 311) (x + 1) (tNum (V 312) (V 308 4) p0)))) (upE (upE rfl hf1.symm) rfl) ?_
      have hNf1 := NuS_n hN0 gt.1 gf
      have psf1 : PS (V 312) (V 308 4) (tNx (V 312) (V 308 4) p0) f1 := by rw [hf1]; exact PS_nx hTp hps0
      obtain ⟨p_1, hp_1⟩ : ∃ z : Int, z = tNx (V 312) (V 308 4) p0 := ⟨_, rfl⟩
      rw [← hp_1] at hNf1 psf1
      clear hp_1
      have hkf1 : ∀ k, k < 7 ∨ 11 < k → f1 k = V 308 k := fun k hk => by rw [hf1]; exact (mTok_k (by omega)).trans (hk0 k hk)
      clear hf1
      have ptf1 := PS_tok hTp psf1
      refine x_is2 dX11_kind_95 ?_
      refine x_il2 dX11_kind_96 ?_
      refine x_if_ne (tgt := 120) dX11_kind_97 (inr (by decide)) (fun c97_3 => ?_) (fun c97_3 => ?_)
      · exact absurd c97_3 (by decide)
      · -- 97 ne -> 100
        refine x_al0 dX11_kind_100 ?_
        refine x_al0 dX11_kind_101 ?_
        refine x_bipush dX11_kind_102 ?_
        refine x_bipush dX11_kind_104 ?_
        refine x_bipush dX11_kind_106 ?_
        refine x_bipush dX11_kind_108 ?_
        refine x_cSl mm_X11_w4 ml_X11_173 dX11_kind_110 (c_X11_w4 109 97 110 121 (by first | decide | omega) (by first | decide | omega) (by first | decide | omega) (by first | decide | omega)) ?_
        refine x_cVi mm_X11_isWord ml_X11_216 dX11_kind_113 (c_X11_isWord (((109 * 256 + 97) * 256 + 110) * 256 + 121) hS (show 0 ≤ (f1 9) ∧ (f1 9) < 256 from (by omega)) (show 0 ≤ (f1 11) ∧ (f1 11) < 72057594037927936 from (by omega)) (by omega)) (sh_308 hS) (lq_308 hS) ?_
        refine x_top (v' := vI (if (f1 9) = 2 ∧ (f1 11) = (((109 * 256 + 97) * 256 + 110) * 256 + 121) then 1 else 0)) rfl ?_
        have hai := And_iff (w := wMany) psf1
        by_cases gs_116 : f1 9 = 2 ∧ f1 11 = wMany
        · refine x_topI (a' := 1) (if_pos gs_116) ?_
          have gw := hai.mp gs_116
          refine x_cVi mm_X11_step ml_X11_237 dX11_kind_116 (c_X11_step 1 hS (show 0 ≤ (f1 4) ∧ (f1 4) ≤ 300 from (by omega)) (show 0 ≤ (f1 7) ∧ (f1 7) ≤ (f1 4) from (by omega)) (show ∀ k, 0 ≤ (V 312) k ∧ (V 312) k < 256 from hTp) (by first | omega | exact ite_01 _)) (sh_308 hS) (lq_308 hS) ?_
          refine x_mem (V' := (up (up V 308 (if 1 = 0 then f1 else mTok f1 (V 312))) 311 (ua (V 311) (x + 1) (tNum (V 312) (V 308 4) p0)))) (up_k (by decide) (up_up _ _ _ _)) ?_
          refine x_topI (a' := 0) rfl ?_
          refine x_mem (V' := (up (up V 308 (mTok f1 (V 312))) 311 (ua (V 311) (x + 1) (tNum (V 312) (V 308 4) p0)))) (upE (upE rfl (if_neg (by decide))) rfl) ?_
          obtain ⟨f2, hf2⟩ : ∃ z : Int → Int, z = mTok f1 (V 312) := ⟨_, rfl⟩
          refine x_mem (V' := (up (up V 308 f2) 311 (ua (V 311) (x + 1) (tNum (V 312) (V 308 4) p0)))) (upE (upE rfl hf2.symm) rfl) ?_
          have hNf2 := NuS_w hNf1 gw
          have psf2 : PS (V 312) (V 308 4) (tNx (V 312) (V 308 4) p_1) f2 := by rw [hf2]; exact PS_nx hTp psf1
          obtain ⟨p_2, hp_2⟩ : ∃ z : Int, z = tNx (V 312) (V 308 4) p_1 := ⟨_, rfl⟩
          rw [← hp_2] at hNf2 psf2
          clear hp_2
          have hkf2 : ∀ k, k < 7 ∨ 11 < k → f2 k = V 308 k := fun k hk => by rw [hf2]; exact (mTok_k (by omega)).trans (hkf1 k hk)
          clear hf2
          have ptf2 := PS_tok hTp psf2
          refine x_is2 dX11_kind_119 ?_
          refine x_il2 dX11_kind_120 ?_
          refine x_if_eq (tgt := 128) dX11_kind_121 (inr (by decide)) (fun c121_4 => ?_) (fun c121_4 => ?_)
          · -- 121 eq -> 128
            refine x_al0 dX11_kind_128 ?_
            refine x_il1 dX11_kind_129 ?_
            refine x_iconst dX11_kind_130 ?_
            refine x_iadd dX11_kind_131 ?_
            refine x_iconst dX11_kind_132 ?_
            refine x_bipush dX11_kind_133 ?_
            refine x_cVi mm_X11_figure ml_X11_233 dX11_kind_135 (c_X11_figure (x + 2) 1 9 hS (show 0 ≤ (f2 4) ∧ (f2 4) ≤ 300 from (by omega)) (show 0 ≤ (f2 7) ∧ (f2 7) ≤ (f2 4) from (by omega)) (show ∀ k, 0 ≤ (V 312) k ∧ (V 312) k < 256 from hTp) (show 0 ≤ (f2 9) ∧ (f2 9) < 256 from (by omega)) (show InR (f2 10) from (inr (by omega))) (by omega) (inr (by decide)) (inr (by decide))) (sh_308 hS) (lq_308 hS) ?_
            refine x_topI (a' := figV f2 1 9) rfl ?_
            refine x_mem (V' := (up (up V 308 (if figC f2 1 9 then mTok f2 (V 312) else f2)) 311 (if figC f2 1 9 then ua (ua (V 311) (x + 1) (tNum (V 312) (V 308 4) p0)) (x + 2) (f2 10) else (ua (V 311) (x + 1) (tNum (V 312) (V 308 4) p0))))) (Eq.trans (congrArg (fun z => up z 311 _) (up_k (by decide) (up_up _ _ _ _))) (up_up _ _ _ _)) ?_
            by_cases g9_135 : f2 9 = 1
            · by_cases gn_135 : 1 ≤ f2 10 ∧ f2 10 ≤ 9
              rotate_left
              · have gt := PS_num psf2 g9_135
                have gf := gn_135
                rw [gt.2] at gf
                have hF := NuS_f2 hNf2 gt.1 gf
                refine x_topI (a' := 2) (figV_2 g9_135 gn_135) ?_
                refine x_mem (V' := (up (up V 308 f2) 311 (ua (V 311) (x + 1) (tNum (V 312) (V 308 4) p0)))) (upE (upE rfl (if_neg (fun z => gn_135 z.2))) (if_neg (fun z => gn_135 z.2))) ?_
                exact x_iret hQ ⟨2, f2, ua (V 311) (x + 1) (tNum (V 312) (V 308 4) p0), ⟨_, (Or.inr ⟨hnk, rfl⟩), NuP_f hF psf2 hkf2 (by decide) (fun k hk => (by rw [ua_ne (by omega)])) (fun k => by simp only [ua]; (repeat' split) <;> first | exact Or.inl rfl | (right; omega))⟩, rfl, rfl, rfl⟩ dX11_kind_138
              have gt := PS_num psf2 g9_135
              have gc : figC f2 1 9 := ⟨g9_135, gn_135⟩
              have gf := gn_135
              rw [gt.2] at gf
              refine x_topI (a' := 0) (figV_0 gc) ?_
              refine x_mem (V' := (up (up V 308 (mTok f2 (V 312))) 311 (ua (ua (V 311) (x + 1) (tNum (V 312) (V 308 4) p0)) (x + 2) (tNum (V 312) (V 308 4) p_2)))) (upE (upE rfl (if_pos gc)) ((if_pos gc).trans (by rw [gt.2]))) ?_
              obtain ⟨f3, hf3⟩ : ∃ z : Int → Int, z = mTok f2 (V 312) := ⟨_, rfl⟩
              refine x_mem (V' := (up (up V 308 f3) 311 (ua (ua (V 311) (x + 1) (tNum (V 312) (V 308 4) p0)) (x + 2) (tNum (V 312) (V 308 4) p_2)))) (upE (upE rfl hf3.symm) rfl) ?_
              have hNf3 := NuS_n hNf2 gt.1 gf
              have psf3 : PS (V 312) (V 308 4) (tNx (V 312) (V 308 4) p_2) f3 := by rw [hf3]; exact PS_nx hTp psf2
              obtain ⟨p_3, hp_3⟩ : ∃ z : Int, z = tNx (V 312) (V 308 4) p_2 := ⟨_, rfl⟩
              rw [← hp_3] at hNf3 psf3
              clear hp_3
              have hkf3 : ∀ k, k < 7 ∨ 11 < k → f3 k = V 308 k := fun k hk => by rw [hf3]; exact (mTok_k (by omega)).trans (hkf2 k hk)
              clear hf3
              have ptf3 := PS_tok hTp psf3
              exact x_iret hQ ⟨0, f3, ua (ua (V 311) (x + 1) (tNum (V 312) (V 308 4) p0)) (x + 2) (tNum (V 312) (V 308 4) p_2), ⟨_, (Or.inr ⟨hnk, rfl⟩), NuP_0 (NuS_e hNf3) psf3 hkf3 (putL_2 _ _ _ _) (fun k hk => (by rw [ua_ne (by omega), ua_ne (by omega)])) (fun k => by simp only [ua]; (repeat' split) <;> first | exact Or.inl rfl | (right; omega))⟩, rfl, rfl, rfl⟩ dX11_kind_138
            have gt : ¬ tTok (V 312) (V 308 4) p_2 = 1 := fun z => g9_135 (by rw [psf2.2.2.2.2.1]; exact z)
            have hF := NuS_f1 hNf2 gt
            refine x_topI (a' := 1) (figV_1 g9_135) ?_
            refine x_mem (V' := (up (up V 308 f2) 311 (ua (V 311) (x + 1) (tNum (V 312) (V 308 4) p0)))) (upE (upE rfl (if_neg (fun z => g9_135 z.1))) (if_neg (fun z => g9_135 z.1))) ?_
            exact x_iret hQ ⟨1, f2, ua (V 311) (x + 1) (tNum (V 312) (V 308 4) p0), ⟨_, (Or.inr ⟨hnk, rfl⟩), NuP_f hF psf2 hkf2 (by decide) (fun k hk => (by rw [ua_ne (by omega)])) (fun k => by simp only [ua]; (repeat' split) <;> first | exact Or.inl rfl | (right; omega))⟩, rfl, rfl, rfl⟩ dX11_kind_138
          · exact absurd c121_4 (by decide)
        refine x_topI (a' := 0) (if_neg gs_116) ?_
        have gw : ¬ (tTok (V 312) (V 308 4) p_1 = 2 ∧ tWd (V 312) (V 308 4) p_1 = wMany) := fun z => gs_116 (hai.mpr z)
        have hF := NuS_fw hNf1 gw
        refine x_cVi mm_X11_step ml_X11_237 dX11_kind_116 (c_X11_step 0 hS (show 0 ≤ (f1 4) ∧ (f1 4) ≤ 300 from (by omega)) (show 0 ≤ (f1 7) ∧ (f1 7) ≤ (f1 4) from (by omega)) (show ∀ k, 0 ≤ (V 312) k ∧ (V 312) k < 256 from hTp) (by first | omega | exact ite_01 _)) (sh_308 hS) (lq_308 hS) ?_
        refine x_mem (V' := (up (up V 308 (if 0 = 0 then f1 else mTok f1 (V 312))) 311 (ua (V 311) (x + 1) (tNum (V 312) (V 308 4) p0)))) (up_k (by decide) (up_up _ _ _ _)) ?_
        refine x_topI (a' := 1) rfl ?_
        refine x_mem (V' := (up (up V 308 f1) 311 (ua (V 311) (x + 1) (tNum (V 312) (V 308 4) p0)))) (upE (upE rfl (if_pos rfl)) rfl) ?_
        refine x_is2 dX11_kind_119 ?_
        refine x_il2 dX11_kind_120 ?_
        refine x_if_eq (tgt := 128) dX11_kind_121 (inr (by decide)) (fun c121_5 => ?_) (fun c121_5 => ?_)
        · exact absurd c121_5 (by decide)
        · -- 121 eq -> 124
          refine x_il2 dX11_kind_124 ?_
          refine x_goto (tgt := 138) dX11_kind_125 ?_
          exact x_iret hQ ⟨1, f1, ua (V 311) (x + 1) (tNum (V 312) (V 308 4) p0), ⟨_, (Or.inr ⟨hnk, rfl⟩), NuP_f hF psf1 hkf1 (by decide) (fun k hk => (by rw [ua_ne (by omega)])) (fun k => by simp only [ua]; (repeat' split) <;> first | exact Or.inl rfl | (right; omega))⟩, rfl, rfl, rfl⟩ dX11_kind_138
    have gt : ¬ tTok (V 312) (V 308 4) p0 = 1 := fun z => g9_92 (by rw [hps0.2.2.2.2.1]; exact z)
    have hF := NuS_f1 hN0 gt
    refine x_topI (a' := 1) (figV_1 g9_92) ?_
    refine x_mem (V' := (up (up V 308 (V 308)) 311 (V 311))) (upE (upE rfl (if_neg (fun z => g9_92 z.1))) (if_neg (fun z => g9_92 z.1))) ?_
    refine x_is2 dX11_kind_95 ?_
    refine x_il2 dX11_kind_96 ?_
    refine x_if_ne (tgt := 120) dX11_kind_97 (inr (by decide)) (fun c97_6 => ?_) (fun c97_6 => ?_)
    · -- 97 ne -> 120
      refine x_il2 dX11_kind_120 ?_
      refine x_if_eq (tgt := 128) dX11_kind_121 (inr (by decide)) (fun c121_7 => ?_) (fun c121_7 => ?_)
      · exact absurd c121_7 (by decide)
      · -- 121 eq -> 124
        refine x_il2 dX11_kind_124 ?_
        refine x_goto (tgt := 138) dX11_kind_125 ?_
        exact x_iret hQ ⟨1, V 308, V 311, ⟨_, (Or.inr ⟨hnk, rfl⟩), NuP_f hF hps0 hk0 (by decide) (fun k hk => rfl) (fun _ => Or.inl rfl)⟩, rfl, rfl, (by rw [up_self, up_self])⟩ dX11_kind_138
    · exact absurd c97_6 (by decide)
  refine x_al0 dX11_kind_0 ?_
  refine x_getI fl_X11_129 (sh_308 hS) (lq_308 hS) dX11_kind_1 ?_
  refine x_topI (a' := V 308 9) rfl ?_
  refine x_iconst dX11_kind_4 ?_
  refine x_icmp_ne (tgt := 85) dX11_kind_5 (inr (by omega)) (inr (by decide)) (fun c5_8 => ?_) (fun c5_8 => ?_)
  · -- 5 ne -> 85
    exact x_fg (ct85  (fun z => by have y := (hPS.2.2.2.2.2.1 z.1); have z2 := z.2.1; have z1 := z.1; first | (exfalso; omega) | (obtain ⟨j, j0, j1, j2, j3⟩ := z.2.2; exact hno j j0 (by omega) ⟨j2, by omega⟩))) (And.intro rfl (And.intro rfl trivial))
  · -- 5 ne -> 8
    refine x_al0 dX11_kind_8 ?_
    refine x_getI fl_X11_135 (sh_308 hS) (lq_308 hS) dX11_kind_9 ?_
    refine x_topI (a' := V 308 10) rfl ?_
    refine x_iconst dX11_kind_12 ?_
    refine x_bipush dX11_kind_13 ?_
    refine x_cSi mm_X11_isIn ml_X11_75 dX11_kind_15 (c_X11_isIn (V 308 10) 0 19 (inr (by omega)) (inr (by decide)) (inr (by decide))) ?_
    refine x_ifb_eq (tgt := 85) dX11_kind_18 (fun c18_9 => ?_) (fun c18_9 => ?_)
    · -- 18 eq -> 85
      exact x_fg (ct85  (fun z => by have y := (hPS.2.2.2.2.2.1 z.1); have z2 := z.2.1; have z1 := z.1; first | (exfalso; omega) | (obtain ⟨j, j0, j1, j2, j3⟩ := z.2.2; exact hno j j0 (by omega) ⟨j2, by omega⟩))) (And.intro rfl (And.intro rfl trivial))
    · -- 18 eq -> 21
      refine x_iconst dX11_kind_21 ?_
      refine x_is2 dX11_kind_22 ?_
      have lp23 : ∀ (N23 : Nat) (k : Int), (0 ≤ k ∧ k ≤ V 311 (V 308 12)) → (∀ j, 0 ≤ j → j < k → ¬ (V 311 (V 308 12 + 1 + 4 * j) = 3 ∧ V 311 (V 308 12 + 2 + 4 * j) = V 308 10)) → (V 311 (V 308 12) - k).toNat < N23 → X Γ B RX11 "kind" cX11_kind 3 (some .int) 5 0 0 23 [some (vR B 308), some (vI x), some (vI k)] [] 0 0 S V := by
        intro N23
        induction N23 with
        | zero => intro k hk hno hN; exact absurd hN (Nat.not_lt_zero _)
        | succ N23 ih23 =>
          intro k hk hno hN23
          refine x_il2 dX11_kind_23 ?_
          refine x_al0 dX11_kind_24 ?_
          refine x_getR fl_X11_16 (sh_308 hS) (lq_308 hS) (rf_308_2 hS) dX11_kind_25 ?_
          refine x_al0 dX11_kind_28 ?_
          refine x_getI fl_X11_154 (sh_308 hS) (lq_308 hS) dX11_kind_29 ?_
          refine x_topI (a' := V 308 12) rfl ?_
          have hb10 := hX (V 308 12)
          refine x_iald (sh_311 hS) (lq_311 hS) (by omega) (by omega) dX11_kind_32 ?_
          refine x_topI (a' := V 311 (V 308 12)) rfl ?_
          refine x_icmp_ge (tgt := 85) dX11_kind_33 (inr (by omega)) (inr (by omega)) (fun c33_11 => ?_) (fun c33_11 => ?_)
          · -- 33 ge -> 85
            exact x_fg (ct85  (fun z => by have y := (hPS.2.2.2.2.2.1 z.1); have z2 := z.2.1; have z1 := z.1; first | (exfalso; omega) | (obtain ⟨j, j0, j1, j2, j3⟩ := z.2.2; exact hno j j0 (by omega) ⟨j2, by omega⟩))) (And.intro rfl (And.intro rfl trivial))
          · -- 33 ge -> 36
            refine x_al0 dX11_kind_36 ?_
            refine x_getR fl_X11_16 (sh_308 hS) (lq_308 hS) (rf_308_2 hS) dX11_kind_37 ?_
            refine x_al0 dX11_kind_40 ?_
            refine x_getI fl_X11_154 (sh_308 hS) (lq_308 hS) dX11_kind_41 ?_
            refine x_topI (a' := V 308 12) rfl ?_
            refine x_iconst dX11_kind_44 ?_
            refine x_iadd dX11_kind_45 ?_
            refine x_iconst dX11_kind_46 ?_
            refine x_il2 dX11_kind_47 ?_
            refine x_imul dX11_kind_48 ?_
            refine x_iadd dX11_kind_49 ?_
            have hb12 := hX (((V 308 12) + 1) + (4 * k))
            refine x_iald (sh_311 hS) (lq_311 hS) (by omega) (by omega) dX11_kind_50 ?_
            refine x_topI (a' := V 311 (((V 308 12) + 1) + (4 * k))) rfl ?_
            refine x_iconst dX11_kind_51 ?_
            refine x_icmp_ne (tgt := 79) dX11_kind_52 (inr (by omega)) (inr (by decide)) (fun c52_13 => ?_) (fun c52_13 => ?_)
            · -- 52 ne -> 79
              refine x_inc2 dX11_kind_79 ?_
              refine x_goto (tgt := 23) dX11_kind_82 ?_
              exact x_fg (ih23 (k + 1) (by omega) (fun j j0 j1 => by by_cases e : j = k; (rw [e]; omega); exact hno j j0 (by omega)) (by omega)) (And.intro rfl (And.intro rfl (And.intro rfl trivial)))
            · -- 52 ne -> 55
              refine x_al0 dX11_kind_55 ?_
              refine x_getR fl_X11_16 (sh_308 hS) (lq_308 hS) (rf_308_2 hS) dX11_kind_56 ?_
              refine x_al0 dX11_kind_59 ?_
              refine x_getI fl_X11_154 (sh_308 hS) (lq_308 hS) dX11_kind_60 ?_
              refine x_topI (a' := V 308 12) rfl ?_
              refine x_iconst dX11_kind_63 ?_
              refine x_iadd dX11_kind_64 ?_
              refine x_iconst dX11_kind_65 ?_
              refine x_il2 dX11_kind_66 ?_
              refine x_imul dX11_kind_67 ?_
              refine x_iadd dX11_kind_68 ?_
              have hb14 := hX (((V 308 12) + 2) + (4 * k))
              refine x_iald (sh_311 hS) (lq_311 hS) (by omega) (by omega) dX11_kind_69 ?_
              refine x_topI (a' := V 311 (((V 308 12) + 2) + (4 * k))) rfl ?_
              refine x_al0 dX11_kind_70 ?_
              refine x_getI fl_X11_135 (sh_308 hS) (lq_308 hS) dX11_kind_71 ?_
              refine x_topI (a' := V 308 10) rfl ?_
              refine x_icmp_ne (tgt := 79) dX11_kind_74 (inr (by omega)) (inr (by omega)) (fun c74_15 => ?_) (fun c74_15 => ?_)
              · -- 74 ne -> 79
                refine x_inc2 dX11_kind_79 ?_
                refine x_goto (tgt := 23) dX11_kind_82 ?_
                exact x_fg (ih23 (k + 1) (by omega) (fun j j0 j1 => by by_cases e : j = k; (rw [e]; omega); exact hno j j0 (by omega)) (by omega)) (And.intro rfl (And.intro rfl (And.intro rfl trivial)))
              · -- 74 ne -> 77
                refine x_iconst dX11_kind_77 ?_
                exact x_iret hQ ⟨4, V 308, V 311, ⟨_, Or.inl ⟨⟨by omega, (by have y := hPS.2.2.2.2.2.1 (by omega); omega), (by have y := hPS.2.2.2.2.2.1 (by omega); rw [← y]; exact ⟨k, hk.1, by omega, by omega, by omega⟩)⟩, rfl⟩, NuP_f ⟨rfl, rfl⟩ hPS hk0 (by decide) (fun _ _ => rfl) (fun _ => Or.inl rfl)⟩, rfl, rfl, (by rw [up_self, up_self])⟩ dX11_kind_78
      exact x_fg (lp23 _ 0 (by omega) (fun j j0 j1 => by omega) (Nat.lt_succ_self _)) (And.intro rfl (And.intro rfl (And.intro rfl trivial)))
