set_option maxRecDepth 100000 in
set_option maxHeartbeats 4000000 in
theorem c_X11_clause {B : Bs} {S : Stt} {V : Va} (cs : List Cls) (p0 : Int) (hS : Stat S) (hTn : (V 308 4) ≤ 300) (hTp : ∀ k, 0 ≤ (V 312) k ∧ (V 312) k < 256) (h12 : 0 ≤ (V 308 12) ∧ (V 308 12) ≤ 2100) (hX : AB (V 311)) (hPb : AB (V 313)) (hI : TxI (V 312) (V 308 4) (V 308 12) cs p0 (V 308) (V 311)) : C B yX11_clause cX11_clause 6 (some .int) 9 0 0 [vR B 308] S V (rP3 S V (CluP (V 312) (V 308 4) (V 308 12) cs p0 (V 308) (V 311))) := by
  refine C.of [some (vR B 308), none, none, none, none, none] ?_
  intro Γ hQ
  obtain ⟨i1, i2, i3, i4, i5, i6, i7, i8, i9⟩ := id hI
  have pt0 := PS_tok hTp i1
  have hnp := tok_r hTp i1.1.2
  have i60 := i6.1
  have i10 := i1.1
  refine x_al0 dX11_clause_0 ?_
  refine x_cVi mm_X11_sortOf ml_X11_250 dX11_clause_1 (c_X11_sortOf hS (by omega) (by omega)) (sh_308 hS) (lq_308 hS) ?_
  obtain ⟨sr, hsr0⟩ : ∃ z : Int, z = srtOf (V 308 9) (V 308 11) := ⟨_, rfl⟩
  refine x_topI (a' := sr) hsr0.symm ?_
  have hsr : sr = tSr (V 312) (V 308 4) p0 := hsr0.trans (PS_sr i1)
  have hsrr := tSr_r (V 312) (V 308 4) p0
  rw [← hsr] at hsrr
  refine x_is1 dX11_clause_4 ?_
  refine x_il1 dX11_clause_5 ?_
  refine x_if_ge (tgt := 11) dX11_clause_6 (inr (by omega)) (fun c6_1 => ?_) (fun c6_1 => ?_)
  · -- 6 ge -> 11
    have ct30 : (¬ (sr < 3 ∧ told cs sr)) → X Γ B RX11 "clause" cX11_clause 6 (some .int) 9 0 0 30 [some (vR B 308), some (vI sr), none, none, none, none] [] 0 0 S V := by
      intro hnt
      refine x_al0 dX11_clause_30 ?_
      refine x_getR fl_X11_16 (sh_308 hS) (lq_308 hS) (rf_308_2 hS) dX11_clause_31 ?_
      refine x_al0 dX11_clause_34 ?_
      refine x_getI fl_X11_154 (sh_308 hS) (lq_308 hS) dX11_clause_35 ?_
      refine x_topI (a' := V 308 12) rfl ?_
      have hb2 := hX (V 308 12)
      refine x_iald (sh_311 hS) (lq_311 hS) (by omega) (by omega) dX11_clause_38 ?_
      refine x_topI (a' := V 311 (V 308 12)) rfl ?_
      refine x_topI (a' := (cs.length : Int)) i7.1 ?_
      refine x_is2 dX11_clause_39 ?_
      refine x_il2 dX11_clause_40 ?_
      refine x_bipush dX11_clause_41 ?_
      refine x_icmp_ne (tgt := 49) dX11_clause_43 (inr (by omega)) (inr (by decide)) (fun c43_3 => ?_) (fun c43_3 => ?_)
      · -- 43 ne -> 49
        have hbo := bor_nn (V 308 21) (p2 sr)
        have hl24 : cs.length ≠ 24 := by omega
        have ct75 : ∀ (F : Int → Int), (PS (V 312) (V 308 4) (tNx (V 312) (V 308 4) p0) F) → (∀ k, k < 7 ∨ k = 12 ∨ k = 14 ∨ k = 18 ∨ 22 ≤ k → F k = V 308 k) → (F 20 = sr) → ((sr < 3 → F 21 = bor (V 308 21) (p2 sr)) ∧ (3 ≤ sr → F 21 = V 308 21)) → X Γ B RX11 "clause" cX11_clause 6 (some .int) 9 0 0 75 [some (vR B 308), some (vI sr), some (vI (cs.length : Int)), none, none, none] [] 0 0 S (up V 308 F) := by
          intro F hFp hFk hF20 hF21
          have hF12 := hFk 12 (by omega)
          have hF4 := hFk 4 (by omega)
          have hF14 := hFk 14 (by omega)
          have hF18 : F 18 = 0 := (hFk 18 (by omega)).trans i4
          have h0 : 0 ≤ sr := by omega
          have hs := hsr
          have hX1 : AB (ua (V 311) (V 308 12 + 1 + 4 * (cs.length : Int)) sr) := AB_ua hX (by omega)
          refine x_al0 dX11_clause_75 ?_
          refine x_getI fl_X11_154 (sh_308 hS) (lq_308 hS) dX11_clause_76 ?_
          refine x_topI (a' := F 12) rfl ?_
          refine x_iconst dX11_clause_79 ?_
          refine x_iadd dX11_clause_80 ?_
          refine x_iconst dX11_clause_81 ?_
          refine x_il2 dX11_clause_82 ?_
          refine x_imul dX11_clause_83 ?_
          refine x_iadd dX11_clause_84 ?_
          refine x_is3 dX11_clause_85 ?_
          refine x_al0 dX11_clause_86 ?_
          refine x_getR fl_X11_16 (sh_308 hS) (lq_308 hS) (rf_308_2 hS) dX11_clause_87 ?_
          refine x_il3 dX11_clause_90 ?_
          refine x_il1 dX11_clause_91 ?_
          refine x_iast (sh_311 hS) (lq_311 hS) (by omega) (by omega) dX11_clause_92 ?_
          refine x_mem (V' := (up (up V 308 F) 311 (ua (V 311) (((F 12) + 1) + (4 * (cs.length : Int))) sr))) rfl ?_
          refine x_al0 dX11_clause_93 ?_
          refine x_getI fl_X11_157 (sh_308 hS) (lq_308 hS) dX11_clause_94 ?_
          refine x_topI (a' := F 14) rfl ?_
          refine x_is4 dX11_clause_97 ?_
          refine x_mem (V' := (up (up V 308 F) 311 (ua (V 311) (V 308 12 + 1 + 4 * (cs.length : Int)) sr))) (upE rfl (by rw [hF12])) ?_
          have ct128 : ∀ (rq : Int) (fq : Int → Int) (txq : Int → Int) (plq : Int → Int), (BoP (V 312) (V 308 4) (V 308 12) cs sr (tNx (V 312) (V 308 4) p0) (V 308 14) (V 308 12 + 1 + 4 * (cs.length : Int)) (ua (V 311) (V 308 12 + 1 + 4 * (cs.length : Int)) sr) F rq fq txq plq) → X Γ B RX11 "clause" cX11_clause 6 (some .int) 9 0 0 128 [some (vR B 308), some (vI sr), none, some (vI (F 12 + 1 + 4 * (cs.length : Int))), some (vI (F 14)), none] [vI rq] 0 0 S (up (up (up V 308 fq) 311 txq) 313 plq) := by
            intro rq fq txq plq hq
            obtain ⟨q, vs, em, hB⟩ := hq
            obtain ⟨b1, b2, b3, b4, b5, b6, b7, b8, b9, b10, b11⟩ := id hB
            have g12 : fq 12 = V 308 12 := (b5 12 (by omega)).trans hF12
            have g4 : fq 4 = V 308 4 := (b5 4 (by omega)).trans hF4
            have hnq := tok_r hTp b2.1.2
            have g9 := b2.2.2.2.2.1
            have g7 := b2.2.2.1
            refine x_is5 dX11_clause_128 ?_
            refine x_il5 dX11_clause_130 ?_
            refine x_if_eq (tgt := 138) dX11_clause_132 (inr (by omega)) (fun c132_4 => ?_) (fun c132_4 => ?_)
            · -- 132 eq -> 138
              have hrq0 : rq = 0 := by omega
              have hw14 := (b6 hrq0).1.1
              refine x_il1 dX11_clause_138 ?_
              refine x_iconst dX11_clause_139 ?_
              refine x_icmp_ge (tgt := 165) dX11_clause_140 (inr (by omega)) (inr (by decide)) (fun c140_5 => ?_) (fun c140_5 => ?_)
              · -- 140 ge -> 165
                refine x_al0 dX11_clause_165 ?_
                refine x_getR fl_X11_16 (sh_308 hS) (lq_308 hS) (rf_308_2 hS) dX11_clause_166 ?_
                refine x_al0 dX11_clause_169 ?_
                refine x_getI fl_X11_154 (sh_308 hS) (lq_308 hS) dX11_clause_170 ?_
                refine x_topI (a' := fq 12) rfl ?_
                refine x_dup2 dX11_clause_173 ?_
                refine x_iald (sh_311 hS) (lq_311 hS) (by omega) (by omega) dX11_clause_174 ?_
                refine x_topI (a' := txq (fq 12)) rfl ?_
                refine x_iconst dX11_clause_175 ?_
                refine x_iadd dX11_clause_176 ?_
                refine x_iast (sh_311 hS) (lq_311 hS) (by omega) (by omega) dX11_clause_177 ?_
                refine x_mem (V' := (up (up (up V 308 fq) 311 (ua txq (fq 12) ((txq (fq 12)) + 1))) 313 plq)) (st2_c (by decide) (st2_up _ _ _ _ _)) ?_
                refine x_al0 dX11_clause_178 ?_
                refine x_getI fl_X11_129 (sh_308 hS) (lq_308 hS) dX11_clause_179 ?_
                refine x_topI (a' := fq 9) rfl ?_
                refine x_bipush dX11_clause_182 ?_
                refine x_icmp_eq (tgt := 189) dX11_clause_184 (inr (by omega)) (inr (by decide)) (fun c184_6 => ?_) (fun c184_6 => ?_)
                · -- 184 eq -> 189
                  refine x_al0 dX11_clause_189 ?_
                  refine x_cVv mm_X11_nextToken ml_X11_184 dX11_clause_190 (c_X11_nextToken hS (show 0 ≤ (fq 4) ∧ (fq 4) ≤ 300 from (by omega)) (show 0 ≤ (fq 7) ∧ (fq 7) ≤ (fq 4) from (by omega)) (show ∀ k, 0 ≤ (V 312) k ∧ (V 312) k < 256 from hTp)) (sh_308 hS) (lq_308 hS) ?_
                  refine x_mem (V' := (up (up (up V 308 (mTok fq (V 312))) 311 (ua txq (fq 12) ((txq (fq 12)) + 1))) 313 plq)) (up_k (by decide) (up_k (by decide) (up_up _ _ _ _))) ?_
                  refine x_iconst dX11_clause_193 ?_
                  exact x_iret hQ ⟨0, mTok fq (V 312), ua txq (fq 12) ((txq (fq 12)) + 1), plq, (by rw [hrq0] at hB; have z := TxI_add (txn := ua txq (fq 12) ((txq (fq 12)) + 1)) hTp hI hs h0 hnt hl24 hFk hF21 hB (by simp only [ua]; first | (rw [if_pos (by omega), g12]) | (rw [if_pos (by omega)]; omega)) (fun z => by first | (exfalso; omega) | (simp only [ua]; exact ⟨by rw [if_neg (by omega), if_neg (by omega), if_pos (by omega)]; exact hF14, by rw [if_neg (by omega), if_pos (by omega)]⟩)) (fun k k0 k1 => by simp only [ua]; rw [if_neg (by omega)]) (by omega); refine ⟨tNx (V 312) (V 308 4) q, _, z.2.1, z.1.1, ?_, by decide, fun _ => ⟨z.2.2, z.1⟩⟩; have y : TxF (V 308 12) (V 308) (V 311) fq (ua txq (fq 12) ((txq (fq 12)) + 1)) plq := (TxF_mk (by omega) hX hFk hB (fun k hk => by simp only [ua]; rw [if_neg (by omega)]) (by first | exact (AB_ua b8 (by have := i7.1; have y := b7 (V 308 12) (by omega); rw [ua_ne (by omega)] at y; first | (rw [g12, y]; omega) | (rw [y]; omega))) | exact (AB_ua (AB_ua (AB_ua b8 (by omega)) (by omega)) (by have := i7.1; have y := b7 (V 308 12) (by omega); rw [ua_ne (by omega)] at y; first | (rw [g12, y]; omega) | (rw [y]; omega))))); exact ⟨fun k hk => (mTok_k (by omega)).trans (y.1 k hk), y.2⟩), rfl, rfl, rfl⟩ dX11_clause_194
                · -- 184 eq -> 187
                  refine x_iconst dX11_clause_187 ?_
                  exact x_iret hQ ⟨1, fq, ua txq (fq 12) ((txq (fq 12)) + 1), plq, ⟨q, (0, [], []), (by rw [hrq0] at b1; exact Or.inr (Or.inr (Or.inr ⟨⟨by omega, by rw [← hs]; exact hnt, hl24⟩, 0, q, vs, em, by rw [← hs]; exact b1, Or.inr (Or.inl ⟨rfl, by omega, rfl, rfl⟩)⟩))), b2, (TxF_mk (by omega) hX hFk hB (fun k hk => by simp only [ua]; rw [if_neg (by omega)]) (by first | exact (AB_ua b8 (by have := i7.1; have y := b7 (V 308 12) (by omega); rw [ua_ne (by omega)] at y; first | (rw [g12, y]; omega) | (rw [y]; omega))) | exact (AB_ua (AB_ua (AB_ua b8 (by omega)) (by omega)) (by have := i7.1; have y := b7 (V 308 12) (by omega); rw [ua_ne (by omega)] at y; first | (rw [g12, y]; omega) | (rw [y]; omega))))), by decide, fun z => absurd z (by decide)⟩, rfl, rfl, rfl⟩ dX11_clause_188
              · -- 140 ge -> 143
                refine x_al0 dX11_clause_143 ?_
                refine x_getR fl_X11_16 (sh_308 hS) (lq_308 hS) (rf_308_2 hS) dX11_clause_144 ?_
                refine x_il3 dX11_clause_147 ?_
                refine x_iconst dX11_clause_148 ?_
                refine x_iadd dX11_clause_149 ?_
                refine x_il4 dX11_clause_150 ?_
                refine x_iast (sh_311 hS) (lq_311 hS) (by omega) (by omega) dX11_clause_152 ?_
                refine x_mem (V' := (up (up (up V 308 fq) 311 (ua txq ((F 12 + 1 + 4 * (cs.length : Int)) + 1) (F 14))) 313 plq)) (st2_c (by decide) (st2_up _ _ _ _ _)) ?_
                refine x_al0 dX11_clause_153 ?_
                refine x_getR fl_X11_16 (sh_308 hS) (lq_308 hS) (rf_308_2 hS) dX11_clause_154 ?_
                refine x_il3 dX11_clause_157 ?_
                refine x_iconst dX11_clause_158 ?_
                refine x_iadd dX11_clause_159 ?_
                refine x_al0 dX11_clause_160 ?_
                refine x_getI fl_X11_157 (sh_308 hS) (lq_308 hS) dX11_clause_161 ?_
                refine x_topI (a' := fq 14) rfl ?_
                refine x_iast (sh_311 hS) (lq_311 hS) (by omega) (by omega) dX11_clause_164 ?_
                refine x_mem (V' := (up (up (up V 308 fq) 311 (ua (ua txq ((F 12 + 1 + 4 * (cs.length : Int)) + 1) (F 14)) ((F 12 + 1 + 4 * (cs.length : Int)) + 2) (fq 14))) 313 plq)) (st2_c (by decide) (st2_up _ _ _ _ _)) ?_
                refine x_al0 dX11_clause_165 ?_
                refine x_getR fl_X11_16 (sh_308 hS) (lq_308 hS) (rf_308_2 hS) dX11_clause_166 ?_
                refine x_al0 dX11_clause_169 ?_
                refine x_getI fl_X11_154 (sh_308 hS) (lq_308 hS) dX11_clause_170 ?_
                refine x_topI (a' := fq 12) rfl ?_
                refine x_dup2 dX11_clause_173 ?_
                refine x_iald (sh_311 hS) (lq_311 hS) (by omega) (by omega) dX11_clause_174 ?_
                refine x_topI (a' := txq (fq 12)) (show (ua (ua txq ((F 12 + 1 + 4 * (cs.length : Int)) + 1) (F 14)) ((F 12 + 1 + 4 * (cs.length : Int)) + 2) (fq 14)) (fq 12) = txq (fq 12) from ((ua_ne (by omega)).trans (ua_ne (by omega)))) ?_
                refine x_iconst dX11_clause_175 ?_
                refine x_iadd dX11_clause_176 ?_
                refine x_iast (sh_311 hS) (lq_311 hS) (by omega) (by omega) dX11_clause_177 ?_
                refine x_mem (V' := (up (up (up V 308 fq) 311 (ua (ua (ua txq ((F 12 + 1 + 4 * (cs.length : Int)) + 1) (F 14)) ((F 12 + 1 + 4 * (cs.length : Int)) + 2) (fq 14)) (fq 12) ((txq (fq 12)) + 1))) 313 plq)) (st2_c (by decide) (st2_up _ _ _ _ _)) ?_
                refine x_al0 dX11_clause_178 ?_
                refine x_getI fl_X11_129 (sh_308 hS) (lq_308 hS) dX11_clause_179 ?_
                refine x_topI (a' := fq 9) rfl ?_
                refine x_bipush dX11_clause_182 ?_
                refine x_icmp_eq (tgt := 189) dX11_clause_184 (inr (by omega)) (inr (by decide)) (fun c184_7 => ?_) (fun c184_7 => ?_)
                · -- 184 eq -> 189
                  refine x_al0 dX11_clause_189 ?_
                  refine x_cVv mm_X11_nextToken ml_X11_184 dX11_clause_190 (c_X11_nextToken hS (show 0 ≤ (fq 4) ∧ (fq 4) ≤ 300 from (by omega)) (show 0 ≤ (fq 7) ∧ (fq 7) ≤ (fq 4) from (by omega)) (show ∀ k, 0 ≤ (V 312) k ∧ (V 312) k < 256 from hTp)) (sh_308 hS) (lq_308 hS) ?_
                  refine x_mem (V' := (up (up (up V 308 (mTok fq (V 312))) 311 (ua (ua (ua txq ((F 12 + 1 + 4 * (cs.length : Int)) + 1) (F 14)) ((F 12 + 1 + 4 * (cs.length : Int)) + 2) (fq 14)) (fq 12) ((txq (fq 12)) + 1))) 313 plq)) (up_k (by decide) (up_k (by decide) (up_up _ _ _ _))) ?_
                  refine x_iconst dX11_clause_193 ?_
                  exact x_iret hQ ⟨0, mTok fq (V 312), ua (ua (ua txq ((F 12 + 1 + 4 * (cs.length : Int)) + 1) (F 14)) ((F 12 + 1 + 4 * (cs.length : Int)) + 2) (fq 14)) (fq 12) ((txq (fq 12)) + 1), plq, (by rw [hrq0] at hB; have z := TxI_add (txn := ua (ua (ua txq ((F 12 + 1 + 4 * (cs.length : Int)) + 1) (F 14)) ((F 12 + 1 + 4 * (cs.length : Int)) + 2) (fq 14)) (fq 12) ((txq (fq 12)) + 1)) hTp hI hs h0 hnt hl24 hFk hF21 hB (by simp only [ua]; first | (rw [if_pos (by omega), g12]) | (rw [if_pos (by omega)]; omega)) (fun z => by first | (exfalso; omega) | (simp only [ua]; exact ⟨by rw [if_neg (by omega), if_neg (by omega), if_pos (by omega)]; exact hF14, by rw [if_neg (by omega), if_pos (by omega)]⟩)) (fun k k0 k1 => by simp only [ua]; rw [if_neg (by omega)]; rw [if_neg (by omega)]; rw [if_neg (by omega)]) (by omega); refine ⟨tNx (V 312) (V 308 4) q, _, z.2.1, z.1.1, ?_, by decide, fun _ => ⟨z.2.2, z.1⟩⟩; have y : TxF (V 308 12) (V 308) (V 311) fq (ua (ua (ua txq ((F 12 + 1 + 4 * (cs.length : Int)) + 1) (F 14)) ((F 12 + 1 + 4 * (cs.length : Int)) + 2) (fq 14)) (fq 12) ((txq (fq 12)) + 1)) plq := (TxF_mk (by omega) hX hFk hB (fun k hk => by simp only [ua]; rw [if_neg (by omega)]; rw [if_neg (by omega)]; rw [if_neg (by omega)]) (by first | exact (AB_ua b8 (by have := i7.1; have y := b7 (V 308 12) (by omega); rw [ua_ne (by omega)] at y; first | (rw [g12, y]; omega) | (rw [y]; omega))) | exact (AB_ua (AB_ua (AB_ua b8 (by omega)) (by omega)) (by have := i7.1; have y := b7 (V 308 12) (by omega); rw [ua_ne (by omega)] at y; first | (rw [g12, y]; omega) | (rw [y]; omega))))); exact ⟨fun k hk => (mTok_k (by omega)).trans (y.1 k hk), y.2⟩), rfl, rfl, rfl⟩ dX11_clause_194
                · -- 184 eq -> 187
                  refine x_iconst dX11_clause_187 ?_
                  exact x_iret hQ ⟨1, fq, ua (ua (ua txq ((F 12 + 1 + 4 * (cs.length : Int)) + 1) (F 14)) ((F 12 + 1 + 4 * (cs.length : Int)) + 2) (fq 14)) (fq 12) ((txq (fq 12)) + 1), plq, ⟨q, (0, [], []), (by rw [hrq0] at b1; exact Or.inr (Or.inr (Or.inr ⟨⟨by omega, by rw [← hs]; exact hnt, hl24⟩, 0, q, vs, em, by rw [← hs]; exact b1, Or.inr (Or.inl ⟨rfl, by omega, rfl, rfl⟩)⟩))), b2, (TxF_mk (by omega) hX hFk hB (fun k hk => by simp only [ua]; rw [if_neg (by omega)]; rw [if_neg (by omega)]; rw [if_neg (by omega)]) (by first | exact (AB_ua b8 (by have := i7.1; have y := b7 (V 308 12) (by omega); rw [ua_ne (by omega)] at y; first | (rw [g12, y]; omega) | (rw [y]; omega))) | exact (AB_ua (AB_ua (AB_ua b8 (by omega)) (by omega)) (by have := i7.1; have y := b7 (V 308 12) (by omega); rw [ua_ne (by omega)] at y; first | (rw [g12, y]; omega) | (rw [y]; omega))))), by decide, fun z => absurd z (by decide)⟩, rfl, rfl, rfl⟩ dX11_clause_188
            · -- 132 eq -> 135
              refine x_il5 dX11_clause_135 ?_
              exact x_iret hQ ⟨rq, fq, txq, plq, ⟨q, (0, [], []), Or.inr (Or.inr (Or.inr ⟨⟨by omega, by rw [← hs]; exact hnt, hl24⟩, rq, q, vs, em, by rw [← hs]; exact b1, Or.inl ⟨by omega, rfl, rfl⟩⟩)), b2, TxF_mk (by omega) hX hFk hB (fun _ _ => rfl) b8, ⟨b10, b11⟩, fun z => absurd z (by omega)⟩, rfl, rfl, rfl⟩ dX11_clause_137
          refine x_il1 dX11_clause_99 ?_
          refine x_iconst dX11_clause_100 ?_
          refine x_icmp_lt (tgt := 113) dX11_clause_101 (inr (by omega)) (inr (by decide)) (fun c101_8 => ?_) (fun c101_8 => ?_)
          · -- 101 lt -> 113
            refine x_il1 dX11_clause_113 ?_
            refine x_if_ne (tgt := 124) dX11_clause_114 (inr (by omega)) (fun c114_9 => ?_) (fun c114_9 => ?_)
            · -- 114 ne -> 124
              refine x_al0 dX11_clause_124 ?_
              refine x_cVi3 mm_X11_either ml_X11_259 dX11_clause_125 (c_X11_either (tNx (V 312) (V 308 4) p0) hS (show F 4 ≤ 300 by omega) hTp (show 0 ≤ F 12 ∧ F 12 ≤ 2100 by omega) (show InR (F 20) by rw [hF20]; exact inr (by omega)) (show 0 ≤ F 14 ∧ F 14 ≤ tNx (V 312) (V 308 4) p0 by omega) (show 0 ≤ F 18 ∧ F 18 ≤ 8 by omega) hPb (show PS (V 312) (F 4) (tNx (V 312) (V 308 4) p0) F by rw [hF4]; exact hFp)) (sh_308 hS) (lq_308 hS) (fun rq fq txq plq hq => ?_)
              have hq2 : RsP (V 312) (F 4) (tNx (V 312) (V 308 4) p0) (F 18) (F 12) (F 14) (ua (V 311) (V 308 12 + 1 + 4 * (cs.length : Int)) sr) F (Eith (V 312) (F 4) (F 20) (F 18) (tNx (V 312) (V 308 4) p0)) rq fq txq plq := hq
              rw [hF4, hF12, hF14, hF18, hF20] at hq2
              have hBo : BoP (V 312) (V 308 4) (V 308 12) cs sr (tNx (V 312) (V 308 4) p0) (V 308 14) (V 308 12 + 1 + 4 * (cs.length : Int)) (ua (V 311) (V 308 12 + 1 + 4 * (cs.length : Int)) sr) F rq fq txq plq := BoP_rs (fun r q em h => Or.inr (Or.inl ⟨by omega, h, rfl⟩)) hq2 (by omega) hTn hX1 (by omega)
              clear hq hq2
              refine x_mem (V' := (up (up (up V 308 fq) 311 txq) 313 plq)) (Eq.trans (congrArg (fun z => up z 313 _) (congrArg (fun z => up z 311 _) (up_k (by decide) (up_up _ _ _ _)))) (congrArg (fun z => up z 313 _) (up_up _ _ _ _))) ?_
              exact x_fg (ct128 rq fq txq plq hBo) (And.intro rfl (And.intro rfl (And.intro rfl (And.intro rfl trivial))))
            · -- 114 ne -> 117
              refine x_al0 dX11_clause_117 ?_
              refine x_cVi3 mm_X11_summed ml_X11_220 dX11_clause_118 (c_X11_summed (tNx (V 312) (V 308 4) p0) hS (show F 4 ≤ 300 by omega) hTp (show 0 ≤ F 12 ∧ F 12 ≤ 2100 by omega) (show InR (F 20) by rw [hF20]; exact inr (by omega)) (show 0 ≤ F 14 ∧ F 14 ≤ tNx (V 312) (V 308 4) p0 by omega) (show 0 ≤ F 18 ∧ F 18 ≤ 8 by omega) hPb (show PS (V 312) (F 4) (tNx (V 312) (V 308 4) p0) F by rw [hF4]; exact hFp)) (sh_308 hS) (lq_308 hS) (fun rq fq txq plq hq => ?_)
              have hq2 : RsP (V 312) (F 4) (tNx (V 312) (V 308 4) p0) (F 18) (F 12) (F 14) (ua (V 311) (V 308 12 + 1 + 4 * (cs.length : Int)) sr) F (G (V 312) (F 4) (F 20) 1 (F 18) 0 (tNx (V 312) (V 308 4) p0)) rq fq txq plq := hq
              rw [hF4, hF12, hF14, hF18, hF20] at hq2
              have hBo : BoP (V 312) (V 308 4) (V 308 12) cs sr (tNx (V 312) (V 308 4) p0) (V 308 14) (V 308 12 + 1 + 4 * (cs.length : Int)) (ua (V 311) (V 308 12 + 1 + 4 * (cs.length : Int)) sr) F rq fq txq plq := BoP_rs (fun r q em h => Or.inl ⟨by omega, by rw [show sr = 0 by omega] at h ⊢; exact h, rfl⟩) hq2 (by omega) hTn hX1 (by omega)
              clear hq hq2
              refine x_mem (V' := (up (up (up V 308 fq) 311 txq) 313 plq)) (Eq.trans (congrArg (fun z => up z 313 _) (congrArg (fun z => up z 311 _) (up_k (by decide) (up_up _ _ _ _)))) (congrArg (fun z => up z 313 _) (up_up _ _ _ _))) ?_
              refine x_goto (tgt := 128) dX11_clause_121 ?_
              exact x_fg (ct128 rq fq txq plq hBo) (And.intro rfl (And.intro rfl (And.intro rfl (And.intro rfl trivial))))
          · -- 101 lt -> 104
            refine x_al0 dX11_clause_104 ?_
            refine x_il3 dX11_clause_105 ?_
            refine x_il1 dX11_clause_106 ?_
            refine x_cVi2 mm_X11_done ml_X11_256 dX11_clause_107 (c_X11_done (((F 12) + 1) + (4 * (cs.length : Int))) sr (tNx (V 312) (V 308 4) p0) hS (show F 4 ≤ 300 by omega) hTp (show PS (V 312) (F 4) (tNx (V 312) (V 308 4) p0) F by rw [hF4]; exact hFp) (by omega) (show AB (ua (V 311) (V 308 12 + 1 + 4 * (cs.length : Int)) sr) from hX1) (show 0 ≤ F 12 ∧ F 12 ≤ 2100 by omega) (show 0 ≤ ua (V 311) (V 308 12 + 1 + 4 * (cs.length : Int)) sr (F 12) ∧ ua (V 311) (V 308 12 + 1 + 4 * (cs.length : Int)) sr (F 12) ≤ 24 by rw [hF12, ua_ne (by omega), i7.1]; omega) (by omega)) (sh_308 hS) (lq_308 hS) (fun rq fq txq hq => ?_)
            have hq2 : ∃ R, DoR (V 312) (F 4) (mKd (ua (V 311) (V 308 12 + 1 + 4 * (cs.length : Int)) sr) (F 12)) sr (tNx (V 312) (V 308 4) p0) R ∧ NuP (V 312) (F 4) (((F 12) + 1) + (4 * (cs.length : Int))) (ua (V 311) (V 308 12 + 1 + 4 * (cs.length : Int)) sr) F R rq fq txq := hq
            rw [hF4, hF12] at hq2
            obtain ⟨R, hR1, hR2⟩ := hq2
            have hBo : BoP (V 312) (V 308 4) (V 308 12) cs sr (tNx (V 312) (V 308 4) p0) (V 308 14) (V 308 12 + 1 + 4 * (cs.length : Int)) (ua (V 311) (V 308 12 + 1 + 4 * (cs.length : Int)) sr) F rq fq txq (V 313) := BoP_do (K := mKd (ua (V 311) (V 308 12 + 1 + 4 * (cs.length : Int)) sr) (V 308 12)) (by omega) hTp (fun v v0 v1 => (mKd_x (by omega) i7.1).trans (kTold_m i7 i9 v)) hR1 hR2 hF14 (by omega) hFp.1.2 (by omega) hX1 hPb (by omega)
            clear hq hR1 hR2
            refine x_mem (V' := (up (up V 308 fq) 311 txq)) (Eq.trans (congrArg (fun z => up z 311 _) (up_k (by decide) (up_up _ _ _ _))) (up_up _ _ _ _)) ?_
            refine x_goto (tgt := 128) dX11_clause_110 ?_
            refine x_mem (V' := (up (up (up V 308 fq) 311 txq) 313 (V 313))) (show _ = (up (up (up V 308 fq) 311 txq) 313 (V 313)) from (Eq.symm (up_self _ 313))) ?_
            exact x_fg (ct128 rq fq txq (V 313) hBo) (And.intro rfl (And.intro rfl (And.intro rfl (And.intro rfl trivial))))
        refine x_il1 dX11_clause_49 ?_
        refine x_iconst dX11_clause_50 ?_
        refine x_icmp_ge (tgt := 66) dX11_clause_51 (inr (by omega)) (inr (by decide)) (fun c51_10 => ?_) (fun c51_10 => ?_)
        · -- 51 ge -> 66
          refine x_al0 dX11_clause_66 ?_
          refine x_il1 dX11_clause_67 ?_
          refine x_putI fl_X11_181 (sh_308 hS) (lq_308 hS) dX11_clause_68 ?_
          refine x_mem (V' := (up V 308 (ua (V 308) 20 sr))) rfl ?_
          refine x_al0 dX11_clause_71 ?_
          refine x_cVv mm_X11_nextToken ml_X11_184 dX11_clause_72 (c_X11_nextToken hS (show 0 ≤ (V 308 4) ∧ (V 308 4) ≤ 300 from (by omega)) (show 0 ≤ (V 308 7) ∧ (V 308 7) ≤ (V 308 4) from (by omega)) (show ∀ k, 0 ≤ (V 312) k ∧ (V 312) k < 256 from hTp)) (sh_308 hS) (lq_308 hS) ?_
          refine x_mem (V' := (up V 308 (mTok (ua (V 308) 20 sr) (V 312)))) (up_up _ _ _ _) ?_
          exact x_fg (ct75 (mTok (ua (V 308) 20 sr) (V 312)) (PS_nx hTp (PS_ua i1 (by decide))) (fun k hk => (mTok_k (by omega)).trans (by rw [ua_ne (by omega)])) ((mTok_k (by decide)).trans (ua_same _ _ _)) ⟨fun z => (by exfalso; omega), fun z => (mTok_k (by decide)).trans (ua_ne (by decide))⟩) (And.intro rfl (And.intro rfl (And.intro rfl trivial)))
        · -- 51 ge -> 54
          refine x_al0 dX11_clause_54 ?_
          refine x_dup dX11_clause_55 ?_
          refine x_getI fl_X11_253 (sh_308 hS) (lq_308 hS) dX11_clause_56 ?_
          refine x_topI (a' := V 308 21) rfl ?_
          refine x_iconst dX11_clause_59 ?_
          refine x_il1 dX11_clause_60 ?_
          refine x_shl1 (by omega) (by omega) dX11_clause_61 ?_
          refine x_ior (by omega) (Int.le_of_lt (p2_pos _)) dX11_clause_62 ?_
          refine x_putI fl_X11_253 (sh_308 hS) (lq_308 hS) dX11_clause_63 ?_
          refine x_mem (V' := (up V 308 (ua (V 308) 21 (bor (V 308 21) (p2 sr))))) rfl ?_
          refine x_al0 dX11_clause_66 ?_
          refine x_il1 dX11_clause_67 ?_
          refine x_putI fl_X11_181 (sh_308 hS) (lq_308 hS) dX11_clause_68 ?_
          refine x_mem (V' := (up V 308 (ua (ua (V 308) 21 (bor (V 308 21) (p2 sr))) 20 sr))) (st2_up _ _ _ _ _) ?_
          refine x_al0 dX11_clause_71 ?_
          refine x_cVv mm_X11_nextToken ml_X11_184 dX11_clause_72 (c_X11_nextToken hS (show 0 ≤ (V 308 4) ∧ (V 308 4) ≤ 300 from (by omega)) (show 0 ≤ (V 308 7) ∧ (V 308 7) ≤ (V 308 4) from (by omega)) (show ∀ k, 0 ≤ (V 312) k ∧ (V 312) k < 256 from hTp)) (sh_308 hS) (lq_308 hS) ?_
          refine x_mem (V' := (up V 308 (mTok (ua (ua (V 308) 21 (bor (V 308 21) (p2 sr))) 20 sr) (V 312)))) (up_up _ _ _ _) ?_
          exact x_fg (ct75 (mTok (ua (ua (V 308) 21 (bor (V 308 21) (p2 sr))) 20 sr) (V 312)) (PS_nx hTp (PS_ua (PS_ua i1 (by decide)) (by decide))) (fun k hk => (mTok_k (by omega)).trans (by rw [ua_ne (by omega), ua_ne (by omega)])) ((mTok_k (by decide)).trans (ua_same _ _ _)) ⟨fun z => (mTok_k (by decide)).trans ((ua_ne (by decide)).trans (ua_same _ _ _)), fun z => (by exfalso; omega)⟩) (And.intro rfl (And.intro rfl (And.intro rfl trivial)))
      · -- 43 ne -> 46
        refine x_bipush dX11_clause_46 ?_
        exact x_iret hQ ⟨6, V 308, V 311, V 313, CluP_0 hI hX hPb (Or.inr (Or.inr (Or.inl ⟨⟨by omega, by rw [← hsr]; exact hnt, by omega⟩, rfl, rfl⟩))) (by decide), rfl, rfl, (by rw [up_self, up_self, up_self])⟩ dX11_clause_48
    refine x_il1 dX11_clause_11 ?_
    refine x_iconst dX11_clause_12 ?_
    refine x_icmp_ge (tgt := 30) dX11_clause_13 (inr (by omega)) (inr (by decide)) (fun c13_11 => ?_) (fun c13_11 => ?_)
    · -- 13 ge -> 30
      exact x_fg (ct30  (fun z => by have y := (i6.2 sr (by omega) (by omega)).mpr z.2; omega)) (And.intro rfl (And.intro rfl trivial))
    · -- 13 ge -> 16
      refine x_al0 dX11_clause_16 ?_
      refine x_getI fl_X11_253 (sh_308 hS) (lq_308 hS) dX11_clause_17 ?_
      refine x_topI (a' := V 308 21) rfl ?_
      refine x_il1 dX11_clause_20 ?_
      refine x_ishr (inr (by omega)) (by omega) (by omega) dX11_clause_21 ?_
      refine x_iconst dX11_clause_22 ?_
      refine x_and1 dX11_clause_23 ?_
      refine x_iconst dX11_clause_24 ?_
      refine x_icmp_ne (tgt := 30) dX11_clause_25 (inr (by omega)) (inr (by decide)) (fun c25_12 => ?_) (fun c25_12 => ?_)
      · -- 25 ne -> 30
        exact x_fg (ct30  (fun z => by have y := (i6.2 sr (by omega) (by omega)).mpr z.2; omega)) (And.intro rfl (And.intro rfl trivial))
      · -- 25 ne -> 28
        have hto : told cs sr := (i6.2 sr (by omega) (by omega)).mp (by omega)
        refine x_iconst dX11_clause_28 ?_
        exact x_iret hQ ⟨4, V 308, V 311, V 313, CluP_0 hI hX hPb (Or.inr (Or.inl ⟨⟨by omega, by omega, by rw [← hsr]; exact hto⟩, rfl, rfl⟩)) (by decide), rfl, rfl, (by rw [up_self, up_self, up_self])⟩ dX11_clause_29
  · -- 6 ge -> 9
    refine x_iconst dX11_clause_9 ?_
    exact x_iret hQ ⟨1, V 308, V 311, V 313, CluP_0 hI hX hPb (Or.inl ⟨by omega, rfl, rfl⟩) (by decide), rfl, rfl, (by rw [up_self, up_self, up_self])⟩ dX11_clause_10
