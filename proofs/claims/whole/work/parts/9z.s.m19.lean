set_option maxRecDepth 100000 in
set_option maxHeartbeats 4000000 in
theorem c_X11_done {B : Bs} {S : Stt} {V : Va} (x : Int) (sort : Int) (p0 : Int) (hS : Stat S) (hTn : (V 308 4) ≤ 300) (hTp : ∀ k, 0 ≤ (V 312) k ∧ (V 312) k < 256) (hPS : PS (V 312) (V 308 4) p0 (V 308)) (hx : 0 ≤ x ∧ x < 2790) (hX : AB (V 311)) (h12 : 0 ≤ (V 308 12) ∧ (V 308 12) ≤ 2100) (hc24 : 0 ≤ (V 311) (V 308 12) ∧ (V 311) (V 308 12) ≤ 24) (hsr : 3 ≤ sort ∧ sort ≤ 8) : C B yX11_done cX11_done 4 (some .int) 6 0 0 [vR B 308, vI x, vI sort] S V (rP2 S V (fun r f tx => ∃ R, DoR (V 312) (V 308 4) (mKd (V 311) (V 308 12)) sort p0 R ∧ NuP (V 312) (V 308 4) x (V 311) (V 308) R r f tx)) := by
  refine C.of [some (vR B 308), some (vI x), some (vI sort), none] ?_
  intro Γ hQ
  have hps0 := hPS
  have hk0 : ∀ k, k < 7 ∨ 11 < k → V 308 k = V 308 k := fun _ _ => rfl
  have pt0 := PS_tok hTp hPS
  refine x_il2 dX11_done_0 ?_
  refine x_iconst dX11_done_1 ?_
  refine x_icmp_ne (tgt := 11) dX11_done_2 (inr (by omega)) (inr (by decide)) (fun c2_1 => ?_) (fun c2_1 => ?_)
  · -- 2 ne -> 11
    refine x_il2 dX11_done_11 ?_
    refine x_iconst dX11_done_12 ?_
    refine x_icmp_ne (tgt := 22) dX11_done_13 (inr (by omega)) (inr (by decide)) (fun c13_2 => ?_) (fun c13_2 => ?_)
    · -- 13 ne -> 22
      refine x_il2 dX11_done_22 ?_
      refine x_bipush dX11_done_23 ?_
      refine x_icmp_eq (tgt := 34) dX11_done_25 (inr (by omega)) (inr (by decide)) (fun c25_3 => ?_) (fun c25_3 => ?_)
      · -- 25 eq -> 34
        refine x_al0 dX11_done_34 ?_
        refine x_il1 dX11_done_35 ?_
        refine x_iconst dX11_done_36 ?_
        refine x_iadd dX11_done_37 ?_
        refine x_iconst dX11_done_38 ?_
        refine x_il2 dX11_done_39 ?_
        refine x_bipush dX11_done_40 ?_
        refine x_icmp_ne (tgt := 50) dX11_done_42 (inr (by omega)) (inr (by decide)) (fun c42_4 => ?_) (fun c42_4 => ?_)
        · -- 42 ne -> 50
          have hN0 : NuS (V 312) (V 308 4) (itm sort) p0 [] [(1, 0, 99)] p0 := by rw [show sort = 8 by omega]; exact NuS_0
          refine x_bipush dX11_done_50 ?_
          refine x_cVi mm_X11_figure ml_X11_233 dX11_done_52 (c_X11_figure (x + 1) 0 99 hS (by omega) (by omega) hTp (by omega) (inr (by omega)) (by omega) (inr (by decide)) (inr (by decide))) (sh_308 hS) (lq_308 hS) ?_
          by_cases g9_52 : (V 308) 9 = 1
          · by_cases gn_52 : 0 ≤ (V 308) 10 ∧ (V 308) 10 ≤ 99
            rotate_left
            · have gt := PS_num hps0 g9_52
              have gf := gn_52
              rw [gt.2] at gf
              have hF := NuS_f2 hN0 gt.1 gf
              refine x_topI (a' := 2) (figV_2 g9_52 gn_52) ?_
              refine x_mem (V' := (up (up V 308 (V 308)) 311 (V 311))) (upE (upE rfl (if_neg (fun z => gn_52 z.2))) (if_neg (fun z => gn_52 z.2))) ?_
              exact x_iret hQ ⟨2, V 308, V 311, ⟨_, (Or.inr ⟨by omega, rfl⟩), NuP_f hF hps0 hk0 (by decide) (fun k hk => rfl) (fun _ => Or.inl rfl)⟩, rfl, rfl, (by rw [up_self, up_self])⟩ dX11_done_55
            have gt := PS_num hps0 g9_52
            have gc : figC (V 308) 0 99 := ⟨g9_52, gn_52⟩
            have gf := gn_52
            rw [gt.2] at gf
            refine x_topI (a' := 0) (figV_0 gc) ?_
            refine x_mem (V' := (up (up V 308 (mTok (V 308) (V 312))) 311 (ua (V 311) (x + 1) (tNum (V 312) (V 308 4) p0)))) (upE (upE rfl (if_pos gc)) ((if_pos gc).trans (by rw [gt.2]))) ?_
            obtain ⟨f1, hf1⟩ : ∃ z : Int → Int, z = mTok (V 308) (V 312) := ⟨_, rfl⟩
            refine x_mem (V' := (up (up V 308 f1) 311 (ua (V 311) (x + 1) (tNum (V 312) (V 308 4) p0)))) (upE (upE rfl hf1.symm) rfl) ?_
            have hNf1 := NuS_n hN0 gt.1 gf
            have psf1 : PS (V 312) (V 308 4) (tNx (V 312) (V 308 4) p0) f1 := by rw [hf1]; exact PS_nx hTp hps0
            obtain ⟨p_1, hp_1⟩ : ∃ z : Int, z = tNx (V 312) (V 308 4) p0 := ⟨_, rfl⟩
            rw [← hp_1] at hNf1 psf1
            clear hp_1
            have hkf1 : ∀ k, k < 7 ∨ 11 < k → f1 k = V 308 k := fun k hk => by rw [hf1]; exact (mTok_k (by omega)).trans (hk0 k hk)
            clear hf1
            have ptf1 := PS_tok hTp psf1
            exact x_iret hQ ⟨0, f1, ua (V 311) (x + 1) (tNum (V 312) (V 308 4) p0), ⟨_, (Or.inr ⟨by omega, rfl⟩), NuP_0 (NuS_e hNf1) psf1 hkf1 (putL_1 _ _ _) (fun k hk => (by rw [ua_ne (by omega)])) (fun k => by simp only [ua]; (repeat' split) <;> first | exact Or.inl rfl | (right; omega))⟩, rfl, rfl, rfl⟩ dX11_done_55
          have gt : ¬ tTok (V 312) (V 308 4) p0 = 1 := fun z => g9_52 (by rw [hps0.2.2.2.2.1]; exact z)
          have hF := NuS_f1 hN0 gt
          refine x_topI (a' := 1) (figV_1 g9_52) ?_
          refine x_mem (V' := (up (up V 308 (V 308)) 311 (V 311))) (upE (upE rfl (if_neg (fun z => g9_52 z.1))) (if_neg (fun z => g9_52 z.1))) ?_
          exact x_iret hQ ⟨1, V 308, V 311, ⟨_, (Or.inr ⟨by omega, rfl⟩), NuP_f hF hps0 hk0 (by decide) (fun k hk => rfl) (fun _ => Or.inl rfl)⟩, rfl, rfl, (by rw [up_self, up_self])⟩ dX11_done_55
        · -- 42 ne -> 45
          have hN0 : NuS (V 312) (V 308 4) (itm sort) p0 [] [(1, 0, 9)] p0 := by rw [show sort = 7 by omega]; exact NuS_0
          refine x_bipush dX11_done_45 ?_
          refine x_goto (tgt := 52) dX11_done_47 ?_
          refine x_cVi mm_X11_figure ml_X11_233 dX11_done_52 (c_X11_figure (x + 1) 0 9 hS (by omega) (by omega) hTp (by omega) (inr (by omega)) (by omega) (inr (by decide)) (inr (by decide))) (sh_308 hS) (lq_308 hS) ?_
          by_cases g9_52 : (V 308) 9 = 1
          · by_cases gn_52 : 0 ≤ (V 308) 10 ∧ (V 308) 10 ≤ 9
            rotate_left
            · have gt := PS_num hps0 g9_52
              have gf := gn_52
              rw [gt.2] at gf
              have hF := NuS_f2 hN0 gt.1 gf
              refine x_topI (a' := 2) (figV_2 g9_52 gn_52) ?_
              refine x_mem (V' := (up (up V 308 (V 308)) 311 (V 311))) (upE (upE rfl (if_neg (fun z => gn_52 z.2))) (if_neg (fun z => gn_52 z.2))) ?_
              exact x_iret hQ ⟨2, V 308, V 311, ⟨_, (Or.inr ⟨by omega, rfl⟩), NuP_f hF hps0 hk0 (by decide) (fun k hk => rfl) (fun _ => Or.inl rfl)⟩, rfl, rfl, (by rw [up_self, up_self])⟩ dX11_done_55
            have gt := PS_num hps0 g9_52
            have gc : figC (V 308) 0 9 := ⟨g9_52, gn_52⟩
            have gf := gn_52
            rw [gt.2] at gf
            refine x_topI (a' := 0) (figV_0 gc) ?_
            refine x_mem (V' := (up (up V 308 (mTok (V 308) (V 312))) 311 (ua (V 311) (x + 1) (tNum (V 312) (V 308 4) p0)))) (upE (upE rfl (if_pos gc)) ((if_pos gc).trans (by rw [gt.2]))) ?_
            obtain ⟨f2, hf2⟩ : ∃ z : Int → Int, z = mTok (V 308) (V 312) := ⟨_, rfl⟩
            refine x_mem (V' := (up (up V 308 f2) 311 (ua (V 311) (x + 1) (tNum (V 312) (V 308 4) p0)))) (upE (upE rfl hf2.symm) rfl) ?_
            have hNf2 := NuS_n hN0 gt.1 gf
            have psf2 : PS (V 312) (V 308 4) (tNx (V 312) (V 308 4) p0) f2 := by rw [hf2]; exact PS_nx hTp hps0
            obtain ⟨p_2, hp_2⟩ : ∃ z : Int, z = tNx (V 312) (V 308 4) p0 := ⟨_, rfl⟩
            rw [← hp_2] at hNf2 psf2
            clear hp_2
            have hkf2 : ∀ k, k < 7 ∨ 11 < k → f2 k = V 308 k := fun k hk => by rw [hf2]; exact (mTok_k (by omega)).trans (hk0 k hk)
            clear hf2
            have ptf2 := PS_tok hTp psf2
            exact x_iret hQ ⟨0, f2, ua (V 311) (x + 1) (tNum (V 312) (V 308 4) p0), ⟨_, (Or.inr ⟨by omega, rfl⟩), NuP_0 (NuS_e hNf2) psf2 hkf2 (putL_1 _ _ _) (fun k hk => (by rw [ua_ne (by omega)])) (fun k => by simp only [ua]; (repeat' split) <;> first | exact Or.inl rfl | (right; omega))⟩, rfl, rfl, rfl⟩ dX11_done_55
          have gt : ¬ tTok (V 312) (V 308 4) p0 = 1 := fun z => g9_52 (by rw [hps0.2.2.2.2.1]; exact z)
          have hF := NuS_f1 hN0 gt
          refine x_topI (a' := 1) (figV_1 g9_52) ?_
          refine x_mem (V' := (up (up V 308 (V 308)) 311 (V 311))) (upE (upE rfl (if_neg (fun z => g9_52 z.1))) (if_neg (fun z => g9_52 z.1))) ?_
          exact x_iret hQ ⟨1, V 308, V 311, ⟨_, (Or.inr ⟨by omega, rfl⟩), NuP_f hF hps0 hk0 (by decide) (fun k hk => rfl) (fun _ => Or.inl rfl)⟩, rfl, rfl, (by rw [up_self, up_self])⟩ dX11_done_55
      · -- 25 eq -> 28
        refine x_il2 dX11_done_28 ?_
        refine x_bipush dX11_done_29 ?_
        refine x_icmp_ne (tgt := 56) dX11_done_31 (inr (by omega)) (inr (by decide)) (fun c31_5 => ?_) (fun c31_5 => ?_)
        · -- 31 ne -> 56
          by_cases hs5 : sort = 5
          · skip
            have hN0 : NuS (V 312) (V 308 4) (itm sort) p0 [] [(1, 0, 15), (0, wWith, 0), (1, 0, 15)] p0 := by rw [show sort = 5 by omega]; exact NuS_0
            refine x_al0 dX11_done_56 ?_
            refine x_il1 dX11_done_57 ?_
            refine x_iconst dX11_done_58 ?_
            refine x_iadd dX11_done_59 ?_
            refine x_iconst dX11_done_60 ?_
            refine x_bipush dX11_done_61 ?_
            refine x_cVi mm_X11_figure ml_X11_233 dX11_done_63 (c_X11_figure (x + 1) 0 15 hS (by omega) (by omega) hTp (by omega) (inr (by omega)) (by omega) (inr (by decide)) (inr (by decide))) (sh_308 hS) (lq_308 hS) ?_
            by_cases g9_63 : (V 308) 9 = 1
            · by_cases gn_63 : 0 ≤ (V 308) 10 ∧ (V 308) 10 ≤ 15
              rotate_left
              · have gt := PS_num hps0 g9_63
                have gf := gn_63
                rw [gt.2] at gf
                have hF := NuS_f2 hN0 gt.1 gf
                refine x_topI (a' := 2) (figV_2 g9_63 gn_63) ?_
                refine x_mem (V' := (up (up V 308 (V 308)) 311 (V 311))) (upE (upE rfl (if_neg (fun z => gn_63 z.2))) (if_neg (fun z => gn_63 z.2))) ?_
                refine x_is3 dX11_done_66 ?_
                refine x_il3 dX11_done_67 ?_
                refine x_if_ne (tgt := 103) dX11_done_68 (inr (by decide)) (fun c68_6 => ?_) (fun c68_6 => ?_)
                · -- 68 ne -> 103
                  refine x_il3 dX11_done_103 ?_
                  refine x_if_eq (tgt := 111) dX11_done_104 (inr (by decide)) (fun c104_7 => ?_) (fun c104_7 => ?_)
                  · exact absurd c104_7 (by decide)
                  · -- 104 eq -> 107
                    refine x_il3 dX11_done_107 ?_
                    refine x_goto (tgt := 131) dX11_done_108 ?_
                    exact x_iret hQ ⟨2, V 308, V 311, ⟨_, (Or.inr ⟨by omega, rfl⟩), NuP_f hF hps0 hk0 (by decide) (fun k hk => rfl) (fun _ => Or.inl rfl)⟩, rfl, rfl, (by rw [up_self, up_self])⟩ dX11_done_131
                · exact absurd c68_6 (by decide)
              have gt := PS_num hps0 g9_63
              have gc : figC (V 308) 0 15 := ⟨g9_63, gn_63⟩
              have gf := gn_63
              rw [gt.2] at gf
              refine x_topI (a' := 0) (figV_0 gc) ?_
              refine x_mem (V' := (up (up V 308 (mTok (V 308) (V 312))) 311 (ua (V 311) (x + 1) (tNum (V 312) (V 308 4) p0)))) (upE (upE rfl (if_pos gc)) ((if_pos gc).trans (by rw [gt.2]))) ?_
              obtain ⟨f3, hf3⟩ : ∃ z : Int → Int, z = mTok (V 308) (V 312) := ⟨_, rfl⟩
              refine x_mem (V' := (up (up V 308 f3) 311 (ua (V 311) (x + 1) (tNum (V 312) (V 308 4) p0)))) (upE (upE rfl hf3.symm) rfl) ?_
              have hNf3 := NuS_n hN0 gt.1 gf
              have psf3 : PS (V 312) (V 308 4) (tNx (V 312) (V 308 4) p0) f3 := by rw [hf3]; exact PS_nx hTp hps0
              obtain ⟨p_3, hp_3⟩ : ∃ z : Int, z = tNx (V 312) (V 308 4) p0 := ⟨_, rfl⟩
              rw [← hp_3] at hNf3 psf3
              clear hp_3
              have hkf3 : ∀ k, k < 7 ∨ 11 < k → f3 k = V 308 k := fun k hk => by rw [hf3]; exact (mTok_k (by omega)).trans (hk0 k hk)
              clear hf3
              have ptf3 := PS_tok hTp psf3
              refine x_is3 dX11_done_66 ?_
              refine x_il3 dX11_done_67 ?_
              refine x_if_ne (tgt := 103) dX11_done_68 (inr (by decide)) (fun c68_8 => ?_) (fun c68_8 => ?_)
              · exact absurd c68_8 (by decide)
              · -- 68 ne -> 71
                refine x_al0 dX11_done_71 ?_
                refine x_il2 dX11_done_72 ?_
                refine x_iconst dX11_done_73 ?_
                refine x_icmp_ne (tgt := 95) dX11_done_74 (inr (by omega)) (inr (by decide)) (fun c74_9 => ?_) (fun c74_9 => ?_)
                · (exfalso; omega)
                · -- 74 ne -> 77
                  refine x_al0 dX11_done_77 ?_
                  refine x_bipush dX11_done_78 ?_
                  refine x_bipush dX11_done_80 ?_
                  refine x_bipush dX11_done_82 ?_
                  refine x_bipush dX11_done_84 ?_
                  refine x_cSl mm_X11_w4 ml_X11_173 dX11_done_86 (c_X11_w4 119 105 116 104 (by first | decide | omega) (by first | decide | omega) (by first | decide | omega) (by first | decide | omega)) ?_
                  refine x_cVi mm_X11_isWord ml_X11_216 dX11_done_89 (c_X11_isWord (((119 * 256 + 105) * 256 + 116) * 256 + 104) hS (show 0 ≤ (f3 9) ∧ (f3 9) < 256 from (by omega)) (show 0 ≤ (f3 11) ∧ (f3 11) < 72057594037927936 from (by omega)) (by omega)) (sh_308 hS) (lq_308 hS) ?_
                  refine x_top (v' := vI (if (f3 9) = 2 ∧ (f3 11) = (((119 * 256 + 105) * 256 + 116) * 256 + 104) then 1 else 0)) rfl ?_
                  refine x_goto (tgt := 99) dX11_done_92 ?_
                  have hai := And_iff (w := wWith) psf3
                  by_cases gs_99 : f3 9 = 2 ∧ f3 11 = wWith
                  · refine x_topI (a' := 1) (if_pos gs_99) ?_
                    have gw := hai.mp gs_99
                    refine x_cVi mm_X11_step ml_X11_237 dX11_done_99 (c_X11_step 1 hS (show 0 ≤ (f3 4) ∧ (f3 4) ≤ 300 from (by omega)) (show 0 ≤ (f3 7) ∧ (f3 7) ≤ (f3 4) from (by omega)) (show ∀ k, 0 ≤ (V 312) k ∧ (V 312) k < 256 from hTp) (by first | omega | exact ite_01 _)) (sh_308 hS) (lq_308 hS) ?_
                    refine x_mem (V' := (up (up V 308 (if 1 = 0 then f3 else mTok f3 (V 312))) 311 (ua (V 311) (x + 1) (tNum (V 312) (V 308 4) p0)))) (up_k (by decide) (up_up _ _ _ _)) ?_
                    refine x_topI (a' := 0) rfl ?_
                    refine x_mem (V' := (up (up V 308 (mTok f3 (V 312))) 311 (ua (V 311) (x + 1) (tNum (V 312) (V 308 4) p0)))) (upE (upE rfl (if_neg (by decide))) rfl) ?_
                    obtain ⟨f4, hf4⟩ : ∃ z : Int → Int, z = mTok f3 (V 312) := ⟨_, rfl⟩
                    refine x_mem (V' := (up (up V 308 f4) 311 (ua (V 311) (x + 1) (tNum (V 312) (V 308 4) p0)))) (upE (upE rfl hf4.symm) rfl) ?_
                    have hNf4 := NuS_w hNf3 gw
                    have psf4 : PS (V 312) (V 308 4) (tNx (V 312) (V 308 4) p_3) f4 := by rw [hf4]; exact PS_nx hTp psf3
                    obtain ⟨p_4, hp_4⟩ : ∃ z : Int, z = tNx (V 312) (V 308 4) p_3 := ⟨_, rfl⟩
                    rw [← hp_4] at hNf4 psf4
                    clear hp_4
                    have hkf4 : ∀ k, k < 7 ∨ 11 < k → f4 k = V 308 k := fun k hk => by rw [hf4]; exact (mTok_k (by omega)).trans (hkf3 k hk)
                    clear hf4
                    have ptf4 := PS_tok hTp psf4
                    refine x_is3 dX11_done_102 ?_
                    refine x_il3 dX11_done_103 ?_
                    refine x_if_eq (tgt := 111) dX11_done_104 (inr (by decide)) (fun c104_10 => ?_) (fun c104_10 => ?_)
                    · -- 104 eq -> 111
                      refine x_al0 dX11_done_111 ?_
                      refine x_il1 dX11_done_112 ?_
                      refine x_iconst dX11_done_113 ?_
                      refine x_iadd dX11_done_114 ?_
                      refine x_iconst dX11_done_115 ?_
                      refine x_il2 dX11_done_116 ?_
                      refine x_iconst dX11_done_117 ?_
                      refine x_icmp_ne (tgt := 126) dX11_done_118 (inr (by omega)) (inr (by decide)) (fun c118_11 => ?_) (fun c118_11 => ?_)
                      · (exfalso; omega)
                      · -- 118 ne -> 121
                        refine x_bipush dX11_done_121 ?_
                        refine x_goto (tgt := 128) dX11_done_123 ?_
                        refine x_cVi mm_X11_figure ml_X11_233 dX11_done_128 (c_X11_figure (x + 2) 0 15 hS (show 0 ≤ (f4 4) ∧ (f4 4) ≤ 300 from (by omega)) (show 0 ≤ (f4 7) ∧ (f4 7) ≤ (f4 4) from (by omega)) (show ∀ k, 0 ≤ (V 312) k ∧ (V 312) k < 256 from hTp) (show 0 ≤ (f4 9) ∧ (f4 9) < 256 from (by omega)) (show InR (f4 10) from (inr (by omega))) (by omega) (inr (by decide)) (inr (by decide))) (sh_308 hS) (lq_308 hS) ?_
                        refine x_topI (a' := figV f4 0 15) rfl ?_
                        refine x_mem (V' := (up (up V 308 (if figC f4 0 15 then mTok f4 (V 312) else f4)) 311 (if figC f4 0 15 then ua (ua (V 311) (x + 1) (tNum (V 312) (V 308 4) p0)) (x + 2) (f4 10) else (ua (V 311) (x + 1) (tNum (V 312) (V 308 4) p0))))) (Eq.trans (congrArg (fun z => up z 311 _) (up_k (by decide) (up_up _ _ _ _))) (up_up _ _ _ _)) ?_
                        by_cases g9_128 : f4 9 = 1
                        · by_cases gn_128 : 0 ≤ f4 10 ∧ f4 10 ≤ 15
                          rotate_left
                          · have gt := PS_num psf4 g9_128
                            have gf := gn_128
                            rw [gt.2] at gf
                            have hF := NuS_f2 hNf4 gt.1 gf
                            refine x_topI (a' := 2) (figV_2 g9_128 gn_128) ?_
                            refine x_mem (V' := (up (up V 308 f4) 311 (ua (V 311) (x + 1) (tNum (V 312) (V 308 4) p0)))) (upE (upE rfl (if_neg (fun z => gn_128 z.2))) (if_neg (fun z => gn_128 z.2))) ?_
                            exact x_iret hQ ⟨2, f4, ua (V 311) (x + 1) (tNum (V 312) (V 308 4) p0), ⟨_, (Or.inr ⟨by omega, rfl⟩), NuP_f hF psf4 hkf4 (by decide) (fun k hk => (by rw [ua_ne (by omega)])) (fun k => by simp only [ua]; (repeat' split) <;> first | exact Or.inl rfl | (right; omega))⟩, rfl, rfl, rfl⟩ dX11_done_131
                          have gt := PS_num psf4 g9_128
                          have gc : figC f4 0 15 := ⟨g9_128, gn_128⟩
                          have gf := gn_128
                          rw [gt.2] at gf
                          refine x_topI (a' := 0) (figV_0 gc) ?_
                          refine x_mem (V' := (up (up V 308 (mTok f4 (V 312))) 311 (ua (ua (V 311) (x + 1) (tNum (V 312) (V 308 4) p0)) (x + 2) (tNum (V 312) (V 308 4) p_4)))) (upE (upE rfl (if_pos gc)) ((if_pos gc).trans (by rw [gt.2]))) ?_
                          obtain ⟨f5, hf5⟩ : ∃ z : Int → Int, z = mTok f4 (V 312) := ⟨_, rfl⟩
                          refine x_mem (V' := (up (up V 308 f5) 311 (ua (ua (V 311) (x + 1) (tNum (V 312) (V 308 4) p0)) (x + 2) (tNum (V 312) (V 308 4) p_4)))) (upE (upE rfl hf5.symm) rfl) ?_
                          have hNf5 := NuS_n hNf4 gt.1 gf
                          have psf5 : PS (V 312) (V 308 4) (tNx (V 312) (V 308 4) p_4) f5 := by rw [hf5]; exact PS_nx hTp psf4
                          obtain ⟨p_5, hp_5⟩ : ∃ z : Int, z = tNx (V 312) (V 308 4) p_4 := ⟨_, rfl⟩
                          rw [← hp_5] at hNf5 psf5
                          clear hp_5
                          have hkf5 : ∀ k, k < 7 ∨ 11 < k → f5 k = V 308 k := fun k hk => by rw [hf5]; exact (mTok_k (by omega)).trans (hkf4 k hk)
                          clear hf5
                          have ptf5 := PS_tok hTp psf5
                          exact x_iret hQ ⟨0, f5, ua (ua (V 311) (x + 1) (tNum (V 312) (V 308 4) p0)) (x + 2) (tNum (V 312) (V 308 4) p_4), ⟨_, (Or.inr ⟨by omega, rfl⟩), NuP_0 (NuS_e hNf5) psf5 hkf5 (putL_2 _ _ _ _) (fun k hk => (by rw [ua_ne (by omega), ua_ne (by omega)])) (fun k => by simp only [ua]; (repeat' split) <;> first | exact Or.inl rfl | (right; omega))⟩, rfl, rfl, rfl⟩ dX11_done_131
                        have gt : ¬ tTok (V 312) (V 308 4) p_4 = 1 := fun z => g9_128 (by rw [psf4.2.2.2.2.1]; exact z)
                        have hF := NuS_f1 hNf4 gt
                        refine x_topI (a' := 1) (figV_1 g9_128) ?_
                        refine x_mem (V' := (up (up V 308 f4) 311 (ua (V 311) (x + 1) (tNum (V 312) (V 308 4) p0)))) (upE (upE rfl (if_neg (fun z => g9_128 z.1))) (if_neg (fun z => g9_128 z.1))) ?_
                        exact x_iret hQ ⟨1, f4, ua (V 311) (x + 1) (tNum (V 312) (V 308 4) p0), ⟨_, (Or.inr ⟨by omega, rfl⟩), NuP_f hF psf4 hkf4 (by decide) (fun k hk => (by rw [ua_ne (by omega)])) (fun k => by simp only [ua]; (repeat' split) <;> first | exact Or.inl rfl | (right; omega))⟩, rfl, rfl, rfl⟩ dX11_done_131
                    · exact absurd c104_10 (by decide)
                  refine x_topI (a' := 0) (if_neg gs_99) ?_
                  have gw : ¬ (tTok (V 312) (V 308 4) p_3 = 2 ∧ tWd (V 312) (V 308 4) p_3 = wWith) := fun z => gs_99 (hai.mpr z)
                  have hF := NuS_fw hNf3 gw
                  refine x_cVi mm_X11_step ml_X11_237 dX11_done_99 (c_X11_step 0 hS (show 0 ≤ (f3 4) ∧ (f3 4) ≤ 300 from (by omega)) (show 0 ≤ (f3 7) ∧ (f3 7) ≤ (f3 4) from (by omega)) (show ∀ k, 0 ≤ (V 312) k ∧ (V 312) k < 256 from hTp) (by first | omega | exact ite_01 _)) (sh_308 hS) (lq_308 hS) ?_
                  refine x_mem (V' := (up (up V 308 (if 0 = 0 then f3 else mTok f3 (V 312))) 311 (ua (V 311) (x + 1) (tNum (V 312) (V 308 4) p0)))) (up_k (by decide) (up_up _ _ _ _)) ?_
                  refine x_topI (a' := 1) rfl ?_
                  refine x_mem (V' := (up (up V 308 f3) 311 (ua (V 311) (x + 1) (tNum (V 312) (V 308 4) p0)))) (upE (upE rfl (if_pos rfl)) rfl) ?_
                  refine x_is3 dX11_done_102 ?_
                  refine x_il3 dX11_done_103 ?_
                  refine x_if_eq (tgt := 111) dX11_done_104 (inr (by decide)) (fun c104_12 => ?_) (fun c104_12 => ?_)
                  · exact absurd c104_12 (by decide)
                  · -- 104 eq -> 107
                    refine x_il3 dX11_done_107 ?_
                    refine x_goto (tgt := 131) dX11_done_108 ?_
                    exact x_iret hQ ⟨1, f3, ua (V 311) (x + 1) (tNum (V 312) (V 308 4) p0), ⟨_, (Or.inr ⟨by omega, rfl⟩), NuP_f hF psf3 hkf3 (by decide) (fun k hk => (by rw [ua_ne (by omega)])) (fun k => by simp only [ua]; (repeat' split) <;> first | exact Or.inl rfl | (right; omega))⟩, rfl, rfl, rfl⟩ dX11_done_131
            have gt : ¬ tTok (V 312) (V 308 4) p0 = 1 := fun z => g9_63 (by rw [hps0.2.2.2.2.1]; exact z)
            have hF := NuS_f1 hN0 gt
            refine x_topI (a' := 1) (figV_1 g9_63) ?_
            refine x_mem (V' := (up (up V 308 (V 308)) 311 (V 311))) (upE (upE rfl (if_neg (fun z => g9_63 z.1))) (if_neg (fun z => g9_63 z.1))) ?_
            refine x_is3 dX11_done_66 ?_
            refine x_il3 dX11_done_67 ?_
            refine x_if_ne (tgt := 103) dX11_done_68 (inr (by decide)) (fun c68_13 => ?_) (fun c68_13 => ?_)
            · -- 68 ne -> 103
              refine x_il3 dX11_done_103 ?_
              refine x_if_eq (tgt := 111) dX11_done_104 (inr (by decide)) (fun c104_14 => ?_) (fun c104_14 => ?_)
              · exact absurd c104_14 (by decide)
              · -- 104 eq -> 107
                refine x_il3 dX11_done_107 ?_
                refine x_goto (tgt := 131) dX11_done_108 ?_
                exact x_iret hQ ⟨1, V 308, V 311, ⟨_, (Or.inr ⟨by omega, rfl⟩), NuP_f hF hps0 hk0 (by decide) (fun k hk => rfl) (fun _ => Or.inl rfl)⟩, rfl, rfl, (by rw [up_self, up_self])⟩ dX11_done_131
            · exact absurd c68_13 (by decide)
          · skip
            have hN0 : NuS (V 312) (V 308 4) (itm sort) p0 [] [(1, 0, 15), (0, wTo, 0), (1, 0, 9)] p0 := by rw [show sort = 6 by omega]; exact NuS_0
            refine x_al0 dX11_done_56 ?_
            refine x_il1 dX11_done_57 ?_
            refine x_iconst dX11_done_58 ?_
            refine x_iadd dX11_done_59 ?_
            refine x_iconst dX11_done_60 ?_
            refine x_bipush dX11_done_61 ?_
            refine x_cVi mm_X11_figure ml_X11_233 dX11_done_63 (c_X11_figure (x + 1) 0 15 hS (by omega) (by omega) hTp (by omega) (inr (by omega)) (by omega) (inr (by decide)) (inr (by decide))) (sh_308 hS) (lq_308 hS) ?_
            by_cases g9_63 : (V 308) 9 = 1
            · by_cases gn_63 : 0 ≤ (V 308) 10 ∧ (V 308) 10 ≤ 15
              rotate_left
              · have gt := PS_num hps0 g9_63
                have gf := gn_63
                rw [gt.2] at gf
                have hF := NuS_f2 hN0 gt.1 gf
                refine x_topI (a' := 2) (figV_2 g9_63 gn_63) ?_
                refine x_mem (V' := (up (up V 308 (V 308)) 311 (V 311))) (upE (upE rfl (if_neg (fun z => gn_63 z.2))) (if_neg (fun z => gn_63 z.2))) ?_
                refine x_is3 dX11_done_66 ?_
                refine x_il3 dX11_done_67 ?_
                refine x_if_ne (tgt := 103) dX11_done_68 (inr (by decide)) (fun c68_15 => ?_) (fun c68_15 => ?_)
                · -- 68 ne -> 103
                  refine x_il3 dX11_done_103 ?_
                  refine x_if_eq (tgt := 111) dX11_done_104 (inr (by decide)) (fun c104_16 => ?_) (fun c104_16 => ?_)
                  · exact absurd c104_16 (by decide)
                  · -- 104 eq -> 107
                    refine x_il3 dX11_done_107 ?_
                    refine x_goto (tgt := 131) dX11_done_108 ?_
                    exact x_iret hQ ⟨2, V 308, V 311, ⟨_, (Or.inr ⟨by omega, rfl⟩), NuP_f hF hps0 hk0 (by decide) (fun k hk => rfl) (fun _ => Or.inl rfl)⟩, rfl, rfl, (by rw [up_self, up_self])⟩ dX11_done_131
                · exact absurd c68_15 (by decide)
              have gt := PS_num hps0 g9_63
              have gc : figC (V 308) 0 15 := ⟨g9_63, gn_63⟩
              have gf := gn_63
              rw [gt.2] at gf
              refine x_topI (a' := 0) (figV_0 gc) ?_
              refine x_mem (V' := (up (up V 308 (mTok (V 308) (V 312))) 311 (ua (V 311) (x + 1) (tNum (V 312) (V 308 4) p0)))) (upE (upE rfl (if_pos gc)) ((if_pos gc).trans (by rw [gt.2]))) ?_
              obtain ⟨f6, hf6⟩ : ∃ z : Int → Int, z = mTok (V 308) (V 312) := ⟨_, rfl⟩
              refine x_mem (V' := (up (up V 308 f6) 311 (ua (V 311) (x + 1) (tNum (V 312) (V 308 4) p0)))) (upE (upE rfl hf6.symm) rfl) ?_
              have hNf6 := NuS_n hN0 gt.1 gf
              have psf6 : PS (V 312) (V 308 4) (tNx (V 312) (V 308 4) p0) f6 := by rw [hf6]; exact PS_nx hTp hps0
              obtain ⟨p_6, hp_6⟩ : ∃ z : Int, z = tNx (V 312) (V 308 4) p0 := ⟨_, rfl⟩
              rw [← hp_6] at hNf6 psf6
              clear hp_6
              have hkf6 : ∀ k, k < 7 ∨ 11 < k → f6 k = V 308 k := fun k hk => by rw [hf6]; exact (mTok_k (by omega)).trans (hk0 k hk)
              clear hf6
              have ptf6 := PS_tok hTp psf6
              refine x_is3 dX11_done_66 ?_
              refine x_il3 dX11_done_67 ?_
              refine x_if_ne (tgt := 103) dX11_done_68 (inr (by decide)) (fun c68_17 => ?_) (fun c68_17 => ?_)
              · exact absurd c68_17 (by decide)
              · -- 68 ne -> 71
                refine x_al0 dX11_done_71 ?_
                refine x_il2 dX11_done_72 ?_
                refine x_iconst dX11_done_73 ?_
                refine x_icmp_ne (tgt := 95) dX11_done_74 (inr (by omega)) (inr (by decide)) (fun c74_18 => ?_) (fun c74_18 => ?_)
                · -- 74 ne -> 95
                  refine x_al0 dX11_done_95 ?_
                  refine x_cVi mm_X11_isTo ml_X11_241 dX11_done_96 (c_X11_isTo hS (show 0 ≤ (f6 9) ∧ (f6 9) < 256 from (by omega)) (show 0 ≤ (f6 11) ∧ (f6 11) < 72057594037927936 from (by omega))) (sh_308 hS) (lq_308 hS) ?_
                  refine x_top (v' := vI (if (f6 9) = 2 ∧ (f6 11) = 29807 then 1 else 0)) rfl ?_
                  have hai := And_iff (w := wTo) psf6
                  by_cases gs_99 : f6 9 = 2 ∧ f6 11 = wTo
                  · refine x_topI (a' := 1) (if_pos gs_99) ?_
                    have gw := hai.mp gs_99
                    refine x_cVi mm_X11_step ml_X11_237 dX11_done_99 (c_X11_step 1 hS (show 0 ≤ (f6 4) ∧ (f6 4) ≤ 300 from (by omega)) (show 0 ≤ (f6 7) ∧ (f6 7) ≤ (f6 4) from (by omega)) (show ∀ k, 0 ≤ (V 312) k ∧ (V 312) k < 256 from hTp) (by first | omega | exact ite_01 _)) (sh_308 hS) (lq_308 hS) ?_
                    refine x_mem (V' := (up (up V 308 (if 1 = 0 then f6 else mTok f6 (V 312))) 311 (ua (V 311) (x + 1) (tNum (V 312) (V 308 4) p0)))) (up_k (by decide) (up_up _ _ _ _)) ?_
                    refine x_topI (a' := 0) rfl ?_
                    refine x_mem (V' := (up (up V 308 (mTok f6 (V 312))) 311 (ua (V 311) (x + 1) (tNum (V 312) (V 308 4) p0)))) (upE (upE rfl (if_neg (by decide))) rfl) ?_
                    obtain ⟨f7, hf7⟩ : ∃ z : Int → Int, z = mTok f6 (V 312) := ⟨_, rfl⟩
                    refine x_mem (V' := (up (up V 308 f7) 311 (ua (V 311) (x + 1) (tNum (V 312) (V 308 4) p0)))) (upE (upE rfl hf7.symm) rfl) ?_
                    have hNf7 := NuS_w hNf6 gw
                    have psf7 : PS (V 312) (V 308 4) (tNx (V 312) (V 308 4) p_6) f7 := by rw [hf7]; exact PS_nx hTp psf6
                    obtain ⟨p_7, hp_7⟩ : ∃ z : Int, z = tNx (V 312) (V 308 4) p_6 := ⟨_, rfl⟩
                    rw [← hp_7] at hNf7 psf7
                    clear hp_7
                    have hkf7 : ∀ k, k < 7 ∨ 11 < k → f7 k = V 308 k := fun k hk => by rw [hf7]; exact (mTok_k (by omega)).trans (hkf6 k hk)
                    clear hf7
                    have ptf7 := PS_tok hTp psf7
                    refine x_is3 dX11_done_102 ?_
                    refine x_il3 dX11_done_103 ?_
                    refine x_if_eq (tgt := 111) dX11_done_104 (inr (by decide)) (fun c104_19 => ?_) (fun c104_19 => ?_)
                    · -- 104 eq -> 111
                      refine x_al0 dX11_done_111 ?_
                      refine x_il1 dX11_done_112 ?_
                      refine x_iconst dX11_done_113 ?_
                      refine x_iadd dX11_done_114 ?_
                      refine x_iconst dX11_done_115 ?_
                      refine x_il2 dX11_done_116 ?_
                      refine x_iconst dX11_done_117 ?_
                      refine x_icmp_ne (tgt := 126) dX11_done_118 (inr (by omega)) (inr (by decide)) (fun c118_20 => ?_) (fun c118_20 => ?_)
                      · -- 118 ne -> 126
                        refine x_bipush dX11_done_126 ?_
                        refine x_cVi mm_X11_figure ml_X11_233 dX11_done_128 (c_X11_figure (x + 2) 0 9 hS (show 0 ≤ (f7 4) ∧ (f7 4) ≤ 300 from (by omega)) (show 0 ≤ (f7 7) ∧ (f7 7) ≤ (f7 4) from (by omega)) (show ∀ k, 0 ≤ (V 312) k ∧ (V 312) k < 256 from hTp) (show 0 ≤ (f7 9) ∧ (f7 9) < 256 from (by omega)) (show InR (f7 10) from (inr (by omega))) (by omega) (inr (by decide)) (inr (by decide))) (sh_308 hS) (lq_308 hS) ?_
                        refine x_topI (a' := figV f7 0 9) rfl ?_
                        refine x_mem (V' := (up (up V 308 (if figC f7 0 9 then mTok f7 (V 312) else f7)) 311 (if figC f7 0 9 then ua (ua (V 311) (x + 1) (tNum (V 312) (V 308 4) p0)) (x + 2) (f7 10) else (ua (V 311) (x + 1) (tNum (V 312) (V 308 4) p0))))) (Eq.trans (congrArg (fun z => up z 311 _) (up_k (by decide) (up_up _ _ _ _))) (up_up _ _ _ _)) ?_
                        by_cases g9_128 : f7 9 = 1
                        · by_cases gn_128 : 0 ≤ f7 10 ∧ f7 10 ≤ 9
                          rotate_left
                          · have gt := PS_num psf7 g9_128
                            have gf := gn_128
                            rw [gt.2] at gf
                            have hF := NuS_f2 hNf7 gt.1 gf
                            refine x_topI (a' := 2) (figV_2 g9_128 gn_128) ?_
                            refine x_mem (V' := (up (up V 308 f7) 311 (ua (V 311) (x + 1) (tNum (V 312) (V 308 4) p0)))) (upE (upE rfl (if_neg (fun z => gn_128 z.2))) (if_neg (fun z => gn_128 z.2))) ?_
                            exact x_iret hQ ⟨2, f7, ua (V 311) (x + 1) (tNum (V 312) (V 308 4) p0), ⟨_, (Or.inr ⟨by omega, rfl⟩), NuP_f hF psf7 hkf7 (by decide) (fun k hk => (by rw [ua_ne (by omega)])) (fun k => by simp only [ua]; (repeat' split) <;> first | exact Or.inl rfl | (right; omega))⟩, rfl, rfl, rfl⟩ dX11_done_131
                          have gt := PS_num psf7 g9_128
                          have gc : figC f7 0 9 := ⟨g9_128, gn_128⟩
                          have gf := gn_128
                          rw [gt.2] at gf
                          refine x_topI (a' := 0) (figV_0 gc) ?_
                          refine x_mem (V' := (up (up V 308 (mTok f7 (V 312))) 311 (ua (ua (V 311) (x + 1) (tNum (V 312) (V 308 4) p0)) (x + 2) (tNum (V 312) (V 308 4) p_7)))) (upE (upE rfl (if_pos gc)) ((if_pos gc).trans (by rw [gt.2]))) ?_
                          obtain ⟨f8, hf8⟩ : ∃ z : Int → Int, z = mTok f7 (V 312) := ⟨_, rfl⟩
                          refine x_mem (V' := (up (up V 308 f8) 311 (ua (ua (V 311) (x + 1) (tNum (V 312) (V 308 4) p0)) (x + 2) (tNum (V 312) (V 308 4) p_7)))) (upE (upE rfl hf8.symm) rfl) ?_
                          have hNf8 := NuS_n hNf7 gt.1 gf
                          have psf8 : PS (V 312) (V 308 4) (tNx (V 312) (V 308 4) p_7) f8 := by rw [hf8]; exact PS_nx hTp psf7
                          obtain ⟨p_8, hp_8⟩ : ∃ z : Int, z = tNx (V 312) (V 308 4) p_7 := ⟨_, rfl⟩
                          rw [← hp_8] at hNf8 psf8
                          clear hp_8
                          have hkf8 : ∀ k, k < 7 ∨ 11 < k → f8 k = V 308 k := fun k hk => by rw [hf8]; exact (mTok_k (by omega)).trans (hkf7 k hk)
                          clear hf8
                          have ptf8 := PS_tok hTp psf8
                          exact x_iret hQ ⟨0, f8, ua (ua (V 311) (x + 1) (tNum (V 312) (V 308 4) p0)) (x + 2) (tNum (V 312) (V 308 4) p_7), ⟨_, (Or.inr ⟨by omega, rfl⟩), NuP_0 (NuS_e hNf8) psf8 hkf8 (putL_2 _ _ _ _) (fun k hk => (by rw [ua_ne (by omega), ua_ne (by omega)])) (fun k => by simp only [ua]; (repeat' split) <;> first | exact Or.inl rfl | (right; omega))⟩, rfl, rfl, rfl⟩ dX11_done_131
                        have gt : ¬ tTok (V 312) (V 308 4) p_7 = 1 := fun z => g9_128 (by rw [psf7.2.2.2.2.1]; exact z)
                        have hF := NuS_f1 hNf7 gt
                        refine x_topI (a' := 1) (figV_1 g9_128) ?_
                        refine x_mem (V' := (up (up V 308 f7) 311 (ua (V 311) (x + 1) (tNum (V 312) (V 308 4) p0)))) (upE (upE rfl (if_neg (fun z => g9_128 z.1))) (if_neg (fun z => g9_128 z.1))) ?_
                        exact x_iret hQ ⟨1, f7, ua (V 311) (x + 1) (tNum (V 312) (V 308 4) p0), ⟨_, (Or.inr ⟨by omega, rfl⟩), NuP_f hF psf7 hkf7 (by decide) (fun k hk => (by rw [ua_ne (by omega)])) (fun k => by simp only [ua]; (repeat' split) <;> first | exact Or.inl rfl | (right; omega))⟩, rfl, rfl, rfl⟩ dX11_done_131
                      · (exfalso; omega)
                    · exact absurd c104_19 (by decide)
                  refine x_topI (a' := 0) (if_neg gs_99) ?_
                  have gw : ¬ (tTok (V 312) (V 308 4) p_6 = 2 ∧ tWd (V 312) (V 308 4) p_6 = wTo) := fun z => gs_99 (hai.mpr z)
                  have hF := NuS_fw hNf6 gw
                  refine x_cVi mm_X11_step ml_X11_237 dX11_done_99 (c_X11_step 0 hS (show 0 ≤ (f6 4) ∧ (f6 4) ≤ 300 from (by omega)) (show 0 ≤ (f6 7) ∧ (f6 7) ≤ (f6 4) from (by omega)) (show ∀ k, 0 ≤ (V 312) k ∧ (V 312) k < 256 from hTp) (by first | omega | exact ite_01 _)) (sh_308 hS) (lq_308 hS) ?_
                  refine x_mem (V' := (up (up V 308 (if 0 = 0 then f6 else mTok f6 (V 312))) 311 (ua (V 311) (x + 1) (tNum (V 312) (V 308 4) p0)))) (up_k (by decide) (up_up _ _ _ _)) ?_
                  refine x_topI (a' := 1) rfl ?_
                  refine x_mem (V' := (up (up V 308 f6) 311 (ua (V 311) (x + 1) (tNum (V 312) (V 308 4) p0)))) (upE (upE rfl (if_pos rfl)) rfl) ?_
                  refine x_is3 dX11_done_102 ?_
                  refine x_il3 dX11_done_103 ?_
                  refine x_if_eq (tgt := 111) dX11_done_104 (inr (by decide)) (fun c104_21 => ?_) (fun c104_21 => ?_)
                  · exact absurd c104_21 (by decide)
                  · -- 104 eq -> 107
                    refine x_il3 dX11_done_107 ?_
                    refine x_goto (tgt := 131) dX11_done_108 ?_
                    exact x_iret hQ ⟨1, f6, ua (V 311) (x + 1) (tNum (V 312) (V 308 4) p0), ⟨_, (Or.inr ⟨by omega, rfl⟩), NuP_f hF psf6 hkf6 (by decide) (fun k hk => (by rw [ua_ne (by omega)])) (fun k => by simp only [ua]; (repeat' split) <;> first | exact Or.inl rfl | (right; omega))⟩, rfl, rfl, rfl⟩ dX11_done_131
                · (exfalso; omega)
            have gt : ¬ tTok (V 312) (V 308 4) p0 = 1 := fun z => g9_63 (by rw [hps0.2.2.2.2.1]; exact z)
            have hF := NuS_f1 hN0 gt
            refine x_topI (a' := 1) (figV_1 g9_63) ?_
            refine x_mem (V' := (up (up V 308 (V 308)) 311 (V 311))) (upE (upE rfl (if_neg (fun z => g9_63 z.1))) (if_neg (fun z => g9_63 z.1))) ?_
            refine x_is3 dX11_done_66 ?_
            refine x_il3 dX11_done_67 ?_
            refine x_if_ne (tgt := 103) dX11_done_68 (inr (by decide)) (fun c68_22 => ?_) (fun c68_22 => ?_)
            · -- 68 ne -> 103
              refine x_il3 dX11_done_103 ?_
              refine x_if_eq (tgt := 111) dX11_done_104 (inr (by decide)) (fun c104_23 => ?_) (fun c104_23 => ?_)
              · exact absurd c104_23 (by decide)
              · -- 104 eq -> 107
                refine x_il3 dX11_done_107 ?_
                refine x_goto (tgt := 131) dX11_done_108 ?_
                exact x_iret hQ ⟨1, V 308, V 311, ⟨_, (Or.inr ⟨by omega, rfl⟩), NuP_f hF hps0 hk0 (by decide) (fun k hk => rfl) (fun _ => Or.inl rfl)⟩, rfl, rfl, (by rw [up_self, up_self])⟩ dX11_done_131
            · exact absurd c68_22 (by decide)
        · -- 31 ne -> 34
          refine x_al0 dX11_done_34 ?_
          refine x_il1 dX11_done_35 ?_
          refine x_iconst dX11_done_36 ?_
          refine x_iadd dX11_done_37 ?_
          refine x_iconst dX11_done_38 ?_
          refine x_il2 dX11_done_39 ?_
          refine x_bipush dX11_done_40 ?_
          refine x_icmp_ne (tgt := 50) dX11_done_42 (inr (by omega)) (inr (by decide)) (fun c42_24 => ?_) (fun c42_24 => ?_)
          · -- 42 ne -> 50
            have hN0 : NuS (V 312) (V 308 4) (itm sort) p0 [] [(1, 0, 99)] p0 := by rw [show sort = 8 by omega]; exact NuS_0
            refine x_bipush dX11_done_50 ?_
            refine x_cVi mm_X11_figure ml_X11_233 dX11_done_52 (c_X11_figure (x + 1) 0 99 hS (by omega) (by omega) hTp (by omega) (inr (by omega)) (by omega) (inr (by decide)) (inr (by decide))) (sh_308 hS) (lq_308 hS) ?_
            by_cases g9_52 : (V 308) 9 = 1
            · by_cases gn_52 : 0 ≤ (V 308) 10 ∧ (V 308) 10 ≤ 99
              rotate_left
              · have gt := PS_num hps0 g9_52
                have gf := gn_52
                rw [gt.2] at gf
                have hF := NuS_f2 hN0 gt.1 gf
                refine x_topI (a' := 2) (figV_2 g9_52 gn_52) ?_
                refine x_mem (V' := (up (up V 308 (V 308)) 311 (V 311))) (upE (upE rfl (if_neg (fun z => gn_52 z.2))) (if_neg (fun z => gn_52 z.2))) ?_
                exact x_iret hQ ⟨2, V 308, V 311, ⟨_, (Or.inr ⟨by omega, rfl⟩), NuP_f hF hps0 hk0 (by decide) (fun k hk => rfl) (fun _ => Or.inl rfl)⟩, rfl, rfl, (by rw [up_self, up_self])⟩ dX11_done_55
              have gt := PS_num hps0 g9_52
              have gc : figC (V 308) 0 99 := ⟨g9_52, gn_52⟩
              have gf := gn_52
              rw [gt.2] at gf
              refine x_topI (a' := 0) (figV_0 gc) ?_
              refine x_mem (V' := (up (up V 308 (mTok (V 308) (V 312))) 311 (ua (V 311) (x + 1) (tNum (V 312) (V 308 4) p0)))) (upE (upE rfl (if_pos gc)) ((if_pos gc).trans (by rw [gt.2]))) ?_
              obtain ⟨f9, hf9⟩ : ∃ z : Int → Int, z = mTok (V 308) (V 312) := ⟨_, rfl⟩
              refine x_mem (V' := (up (up V 308 f9) 311 (ua (V 311) (x + 1) (tNum (V 312) (V 308 4) p0)))) (upE (upE rfl hf9.symm) rfl) ?_
              have hNf9 := NuS_n hN0 gt.1 gf
              have psf9 : PS (V 312) (V 308 4) (tNx (V 312) (V 308 4) p0) f9 := by rw [hf9]; exact PS_nx hTp hps0
              obtain ⟨p_9, hp_9⟩ : ∃ z : Int, z = tNx (V 312) (V 308 4) p0 := ⟨_, rfl⟩
              rw [← hp_9] at hNf9 psf9
              clear hp_9
              have hkf9 : ∀ k, k < 7 ∨ 11 < k → f9 k = V 308 k := fun k hk => by rw [hf9]; exact (mTok_k (by omega)).trans (hk0 k hk)
              clear hf9
              have ptf9 := PS_tok hTp psf9
              exact x_iret hQ ⟨0, f9, ua (V 311) (x + 1) (tNum (V 312) (V 308 4) p0), ⟨_, (Or.inr ⟨by omega, rfl⟩), NuP_0 (NuS_e hNf9) psf9 hkf9 (putL_1 _ _ _) (fun k hk => (by rw [ua_ne (by omega)])) (fun k => by simp only [ua]; (repeat' split) <;> first | exact Or.inl rfl | (right; omega))⟩, rfl, rfl, rfl⟩ dX11_done_55
            have gt : ¬ tTok (V 312) (V 308 4) p0 = 1 := fun z => g9_52 (by rw [hps0.2.2.2.2.1]; exact z)
            have hF := NuS_f1 hN0 gt
            refine x_topI (a' := 1) (figV_1 g9_52) ?_
            refine x_mem (V' := (up (up V 308 (V 308)) 311 (V 311))) (upE (upE rfl (if_neg (fun z => g9_52 z.1))) (if_neg (fun z => g9_52 z.1))) ?_
            exact x_iret hQ ⟨1, V 308, V 311, ⟨_, (Or.inr ⟨by omega, rfl⟩), NuP_f hF hps0 hk0 (by decide) (fun k hk => rfl) (fun _ => Or.inl rfl)⟩, rfl, rfl, (by rw [up_self, up_self])⟩ dX11_done_55
          · -- 42 ne -> 45
            have hN0 : NuS (V 312) (V 308 4) (itm sort) p0 [] [(1, 0, 9)] p0 := by rw [show sort = 7 by omega]; exact NuS_0
            refine x_bipush dX11_done_45 ?_
            refine x_goto (tgt := 52) dX11_done_47 ?_
            refine x_cVi mm_X11_figure ml_X11_233 dX11_done_52 (c_X11_figure (x + 1) 0 9 hS (by omega) (by omega) hTp (by omega) (inr (by omega)) (by omega) (inr (by decide)) (inr (by decide))) (sh_308 hS) (lq_308 hS) ?_
            by_cases g9_52 : (V 308) 9 = 1
            · by_cases gn_52 : 0 ≤ (V 308) 10 ∧ (V 308) 10 ≤ 9
              rotate_left
              · have gt := PS_num hps0 g9_52
                have gf := gn_52
                rw [gt.2] at gf
                have hF := NuS_f2 hN0 gt.1 gf
                refine x_topI (a' := 2) (figV_2 g9_52 gn_52) ?_
                refine x_mem (V' := (up (up V 308 (V 308)) 311 (V 311))) (upE (upE rfl (if_neg (fun z => gn_52 z.2))) (if_neg (fun z => gn_52 z.2))) ?_
                exact x_iret hQ ⟨2, V 308, V 311, ⟨_, (Or.inr ⟨by omega, rfl⟩), NuP_f hF hps0 hk0 (by decide) (fun k hk => rfl) (fun _ => Or.inl rfl)⟩, rfl, rfl, (by rw [up_self, up_self])⟩ dX11_done_55
              have gt := PS_num hps0 g9_52
              have gc : figC (V 308) 0 9 := ⟨g9_52, gn_52⟩
              have gf := gn_52
              rw [gt.2] at gf
              refine x_topI (a' := 0) (figV_0 gc) ?_
              refine x_mem (V' := (up (up V 308 (mTok (V 308) (V 312))) 311 (ua (V 311) (x + 1) (tNum (V 312) (V 308 4) p0)))) (upE (upE rfl (if_pos gc)) ((if_pos gc).trans (by rw [gt.2]))) ?_
              obtain ⟨f10, hf10⟩ : ∃ z : Int → Int, z = mTok (V 308) (V 312) := ⟨_, rfl⟩
              refine x_mem (V' := (up (up V 308 f10) 311 (ua (V 311) (x + 1) (tNum (V 312) (V 308 4) p0)))) (upE (upE rfl hf10.symm) rfl) ?_
              have hNf10 := NuS_n hN0 gt.1 gf
              have psf10 : PS (V 312) (V 308 4) (tNx (V 312) (V 308 4) p0) f10 := by rw [hf10]; exact PS_nx hTp hps0
              obtain ⟨p_10, hp_10⟩ : ∃ z : Int, z = tNx (V 312) (V 308 4) p0 := ⟨_, rfl⟩
              rw [← hp_10] at hNf10 psf10
              clear hp_10
              have hkf10 : ∀ k, k < 7 ∨ 11 < k → f10 k = V 308 k := fun k hk => by rw [hf10]; exact (mTok_k (by omega)).trans (hk0 k hk)
              clear hf10
              have ptf10 := PS_tok hTp psf10
              exact x_iret hQ ⟨0, f10, ua (V 311) (x + 1) (tNum (V 312) (V 308 4) p0), ⟨_, (Or.inr ⟨by omega, rfl⟩), NuP_0 (NuS_e hNf10) psf10 hkf10 (putL_1 _ _ _) (fun k hk => (by rw [ua_ne (by omega)])) (fun k => by simp only [ua]; (repeat' split) <;> first | exact Or.inl rfl | (right; omega))⟩, rfl, rfl, rfl⟩ dX11_done_55
            have gt : ¬ tTok (V 312) (V 308 4) p0 = 1 := fun z => g9_52 (by rw [hps0.2.2.2.2.1]; exact z)
            have hF := NuS_f1 hN0 gt
            refine x_topI (a' := 1) (figV_1 g9_52) ?_
            refine x_mem (V' := (up (up V 308 (V 308)) 311 (V 311))) (upE (upE rfl (if_neg (fun z => g9_52 z.1))) (if_neg (fun z => g9_52 z.1))) ?_
            exact x_iret hQ ⟨1, V 308, V 311, ⟨_, (Or.inr ⟨by omega, rfl⟩), NuP_f hF hps0 hk0 (by decide) (fun k hk => rfl) (fun _ => Or.inl rfl)⟩, rfl, rfl, (by rw [up_self, up_self])⟩ dX11_done_55
    · -- 13 ne -> 16
      refine x_al0 dX11_done_16 ?_
      refine x_il1 dX11_done_17 ?_
      refine x_cVi2 mm_X11_lent ml_X11_247 dX11_done_18 (c_X11_lent x p0 hS hTn hTp hPS (by omega)) (sh_308 hS) (lq_308 hS) (fun rq fq txq hq => ?_)
      exact x_iret hQ ⟨rq, fq, txq, ⟨_, Or.inr ⟨by omega, rfl⟩, (by rw [show sort = 4 by omega]; exact hq)⟩, rfl, rfl, rfl⟩ dX11_done_21
  · -- 2 ne -> 5
    refine x_al0 dX11_done_5 ?_
    refine x_il1 dX11_done_6 ?_
    refine x_cVi2 mm_X11_kind ml_X11_244 dX11_done_7 (c_X11_kind x p0 hS hTn hTp hPS (by omega) hX h12 hc24) (sh_308 hS) (lq_308 hS) (fun rq fq txq hq => ?_)
    exact x_iret hQ ⟨rq, fq, txq, (by obtain ⟨R, q1, q2⟩ := hq; exact ⟨R, Or.inl ⟨by omega, q1⟩, q2⟩), rfl, rfl, rfl⟩ dX11_done_10
