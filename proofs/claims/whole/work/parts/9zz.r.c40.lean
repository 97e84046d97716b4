set_option maxRecDepth 100000 in
set_option maxHeartbeats 4000000 in
theorem c_X3_readClause {B : Bs} {S : Stt} {V : Va} (T : Int → Int) (n : Int) (N : Nat) (i : Nat) (cs : List Cls) (hS : Stat S) (hH : RdH T n N V) (hI : CsI T n N cs i (V 277) (V 282) (V 283) (V 284) (V 285) (V 286)) : C B yX3_readClause cX3_readClause 3 none 23 0 0 [vR B 277] S V (rRc S V (fun f cl cd fr tw my => ClC T n N cs i (V 277) f cl cd fr tw my)) := by
  refine C.of [some (vR B 277), none, none] ?_
  intro Γ hQ
  have hK := hH.1
  have h7 := hH.2.1
  have hn := hH.2.2.1
  have hTp := hH.2.2.2
  have hN := hK.1
  obtain ⟨r2, r33, r8, r3, r7, r11, r24, r13, rle⟩ := id hI.1
  have hp := pos_le hTp hn.1 i
  have htk : V 279 (V 277 8) = cTk T n (pos T n i) := by rw [r8]; exact (hK.2.1 i r3).1
  have hsrt : V 280 (V 277 8) = tPl T n (pos T n i) := by rw [r8]; exact (hK.2.1 i r3).2.1
  refine x_al0 dX3_readClause_0 ?_
  refine x_getR fl_X3_22 (sh_277 hS) (lq_277 hS) (rf_277_4 hS) dX3_readClause_1 ?_
  refine x_al0 dX3_readClause_4 ?_
  refine x_getI fl_X3_52 (sh_277 hS) (lq_277 hS) dX3_readClause_5 ?_
  refine x_topI (a' := V 277 8) rfl ?_
  refine x_iald (sh_279 hS) (lq_279 hS) (by omega) (by omega) dX3_readClause_8 ?_
  refine x_topI (a' := V 279 (V 277 8)) rfl ?_
  obtain ⟨wd, hwd⟩ : ∃ z : Int, z = V 279 (V 277 8) := ⟨_, rfl⟩
  refine x_topI (a' := wd) hwd.symm ?_
  have hq : TkQ T n (pos T n i) wd := TkQ_mk (hwd.trans htk)
  have kr := hq.r
  have hsr2 := cTk_sr (T := T) (n := n) (p := pos T n i)
  rw [← htk, ← hwd] at hsr2
  have hs3 := tSr_r T n (pos T n i)
  have hs4 : ¬ (16 ≤ wd ∧ wd ≤ 24) → tSr T n (pos T n i) < 0 := fun z => by rcases Int.lt_or_le (tSr T n (pos T n i)) 0 with y | y; (exact y); exact absurd (hsr2.1.mpr y) z
  have hs5 : 16 ≤ wd ∧ wd ≤ 24 → 0 ≤ tSr T n (pos T n i) := hsr2.1.mp
  have hs6 := hsr2.2
  have hs8 := hs3.2.1
  have hs9 := hs3.1
  have hs7 := hs3.2.2
  clear hsr2 hs3
  refine x_is1 dX3_readClause_9 ?_
  refine x_il1 dX3_readClause_10 ?_
  refine x_bipush dX3_readClause_11 ?_
  refine x_icmp_lt (tgt := 22) dX3_readClause_13 (inr (by omega)) (inr (by decide)) (fun c13_1 => ?_) (fun c13_1 => ?_)
  · -- 13 lt -> 22
    refine x_al0 dX3_readClause_22 ?_
    refine x_iconst dX3_readClause_23 ?_
    refine x_iconst dX3_readClause_24 ?_
    refine x_cVi mm_X3_take ml_X3_125 dX3_readClause_25 (c_X3_take 0 1 hS (by omega) (by omega) (inr (by omega)) (inr (by omega)) (inr (by decide))) (sh_277 hS) (lq_277 hS) ?_
    refine x_mem (V' := (up V 277 (ua (ua (V 277) 2 1) 3 (V 280 (V 277 8))))) (upE rfl (takF_0 (show (V 277) 2 = 0 by omega))) ?_
    refine x_topI (a' := 0) (takV_1 (show (V 277) 2 = 0 by omega)) ?_
    refine x_pop dX3_readClause_28 ?_
    refine x_goto (tgt := 217) dX3_readClause_29 ?_
    exact x_vret hQ ⟨ua (ua (V 277) 2 1) 3 (V 280 (V 277 8)), V 282, V 283, V 284, V 285, V 286, ClC_f (sr := V 280) ⟨r8, r3⟩ (by decide) hsrt (Or.inl ⟨hs4 (by omega), rfl, rfl⟩), rfl, rfl, (by funext zz; simp only [up]; (repeat' split) <;> first | rfl | (subst_vars; rfl) | omega)⟩ dX3_readClause_217
  · -- 13 lt -> 16
    refine x_il1 dX3_readClause_16 ?_
    refine x_bipush dX3_readClause_17 ?_
    refine x_icmp_le (tgt := 32) dX3_readClause_19 (inr (by omega)) (inr (by decide)) (fun c19_2 => ?_) (fun c19_2 => ?_)
    · -- 19 le -> 32
      have hs0 := hs5 (by omega)
      have hse := hs6 hs0
      have htt := hs7 hs0
      obtain ⟨s, hs⟩ : ∃ z : Int, z = tSr T n (pos T n i) := ⟨_, rfl⟩
      rw [← hs] at hs0 hse hs8
      have hiN := TkR_lt hK r3 (by omega)
      clear hs4 hs5 hs6 hs7 hs9
      refine x_il1 dX3_readClause_32 ?_
      have ct61 : (¬ (s < 3 ∧ told cs s)) → X Γ B RX3 "readClause" cX3_readClause 3 none 23 0 0 61 [some (vR B 277), some (vI wd), none] [] 0 0 S V := by
        intro hnt
        refine x_al0 dX3_readClause_61 ?_
        refine x_al0 dX3_readClause_62 ?_
        refine x_getI fl_X3_55 (sh_277 hS) (lq_277 hS) dX3_readClause_63 ?_
        refine x_topI (a' := V 277 11) rfl ?_
        refine x_bipush dX3_readClause_66 ?_
        refine x_icmp_ge (tgt := 75) dX3_readClause_68 (inr (by omega)) (inr (by decide)) (fun c68_3 => ?_) (fun c68_3 => ?_)
        · -- 68 ge -> 75
          refine x_iconst dX3_readClause_75 ?_
          refine x_bipush dX3_readClause_76 ?_
          refine x_cVi mm_X3_take ml_X3_125 dX3_readClause_78 (c_X3_take 0 6 hS (by omega) (by omega) (inr (by omega)) (inr (by omega)) (inr (by decide))) (sh_277 hS) (lq_277 hS) ?_
          refine x_mem (V' := (up V 277 (ua (ua (V 277) 2 6) 3 (V 280 (V 277 8))))) (upE rfl (takF_0 (show (V 277) 2 = 0 by omega))) ?_
          refine x_topI (a' := 0) (takV_1 (show (V 277) 2 = 0 by omega)) ?_
          refine x_if_eq (tgt := 217) dX3_readClause_81 (inr (by decide)) (fun c81_4 => ?_) (fun c81_4 => ?_)
          · -- 81 eq -> 217
            exact x_vret hQ ⟨ua (ua (V 277) 2 6) 3 (V 280 (V 277 8)), V 282, V 283, V 284, V 285, V 286, ClC_f (sr := V 280) ⟨r8, r3⟩ (by decide) hsrt (Or.inr (Or.inr (Or.inl ⟨⟨by omega, by rw [← hs]; exact hnt, by omega⟩, rfl, rfl⟩))), rfl, rfl, (by funext zz; simp only [up]; (repeat' split) <;> first | rfl | (subst_vars; rfl) | omega)⟩ dX3_readClause_217
          · exact absurd c81_4 (by decide)
        · -- 68 ge -> 71
          refine x_iconst dX3_readClause_71 ?_
          refine x_goto (tgt := 76) dX3_readClause_72 ?_
          refine x_bipush dX3_readClause_76 ?_
          refine x_cVi mm_X3_take ml_X3_125 dX3_readClause_78 (c_X3_take 1 6 hS (by omega) (by omega) (inr (by omega)) (inr (by omega)) (inr (by decide))) (sh_277 hS) (lq_277 hS) ?_
          refine x_mem (V' := (up V 277 (ua (V 277) 8 (V 277 8 + 1)))) (upE rfl (takF_1 (show (V 277) 2 = 0 by omega) (show (V 277) 8 + 1 < (V 277) 7 by omega))) ?_
          refine x_topI (a' := 1) (takV_1 (show (V 277) 2 = 0 by omega)) ?_
          refine x_if_eq (tgt := 217) dX3_readClause_81 (inr (by decide)) (fun c81_5 => ?_) (fun c81_5 => ?_)
          · exact absurd c81_5 (by decide)
          · -- 81 eq -> 84
            have hl24 : cs.length ≠ 24 := by omega
            refine x_al0 dX3_readClause_84 ?_
            refine x_getR fl_X3_31 (sh_277 hS) (lq_277 hS) (rf_277_10 hS) dX3_readClause_85 ?_
            have ct116 : ∀ (F1 : Int → Int), (∀ k, k ≠ 8 → k ≠ 9 → F1 k = V 277 k) → (F1 8 = ((i + 1 : Nat) : Int)) → (UQ (F1 9) s) → X Γ B RX3 "readClause" cX3_readClause 3 none 23 0 0 116 [some (vR B 277), some (vI wd), some (vI (V 277 13))] [] 0 0 S (up (up V 277 F1) 282 (ua (V 282) (4 * (cs.length : Int)) (16 + s))) := by
              intro F1 hF1 hF8 hF9
              have hF11 := hF1 11 (by decide) (by decide)
              have hF13 := hF1 13 (by decide) (by decide)
              refine x_il1 dX3_readClause_116 ?_
              have ct154 : ∀ (fq : Int → Int) (clq : Int → Int) (cdq : Int → Int) (myq : Int → Int), (BdC T n N cs s (4 * (cs.length : Int)) (i + 1) F1 (ua (V 282) (4 * (cs.length : Int)) (16 + s)) (V 283) (V 286) fq clq cdq myq) → X Γ B RX3 "readClause" cX3_readClause 3 none 23 0 0 154 [some (vR B 277), some (vI wd), some (vI (V 277 13))] [] 0 0 S (up (up (up (up V 277 fq) 282 clq) 283 cdq) 286 myq) := by
                intro fq clq cdq myq hB
                obtain ⟨qr, qq, qvs, qem, qb1, qb2, qb3, _⟩ := id hB
                have q11 : fq 11 = V 277 11 := (qb2 11 (by decide) (by decide) (by decide) (by decide)).trans (hF1 11 (by decide) (by decide))
                have q7 : fq 7 = V 277 7 := (qb2 7 (by decide) (by decide) (by decide) (by decide)).trans (hF1 7 (by decide) (by decide))
                have q28 : (0 ≤ fq 2 ∧ fq 2 < 10) ∧ 0 ≤ fq 8 ∧ fq 8 ≤ N := by rcases qb3 with ⟨_, z1, _, j, _, z2, z3, _⟩ | ⟨_, z1, z2, _, z3, _⟩; (exact ⟨by omega, by omega⟩); exact ⟨by omega, z3⟩
                have hbq := TkR_r hK q28.2.1 q28.2.2
                clear qb1 qb2 qb3
                refine x_il1 dX3_readClause_154 ?_
                refine x_bipush dX3_readClause_155 ?_
                refine x_icmp_gt (tgt := 183) dX3_readClause_157 (inr (by omega)) (inr (by decide)) (fun c157_6 => ?_) (fun c157_6 => ?_)
                · -- 157 gt -> 183
                  refine x_al0 dX3_readClause_183 ?_
                  refine x_dup dX3_readClause_184 ?_
                  refine x_getI fl_X3_55 (sh_277 hS) (lq_277 hS) dX3_readClause_185 ?_
                  refine x_topI (a' := fq 11) rfl ?_
                  refine x_iconst dX3_readClause_188 ?_
                  refine x_iadd dX3_readClause_189 ?_
                  refine x_putI fl_X3_55 (sh_277 hS) (lq_277 hS) dX3_readClause_190 ?_
                  refine x_mem (V' := (up (up (up (up V 277 (ua fq 11 ((fq 11) + 1))) 282 clq) 283 cdq) 286 myq)) (st2_c (by decide) (st2_c (by decide) (st2_c (by decide) (st2_up _ _ _ _ _)))) ?_
                  refine x_al0 dX3_readClause_193 ?_
                  refine x_al0 dX3_readClause_194 ?_
                  refine x_getR fl_X3_22 (sh_277 hS) (lq_277 hS) (rf_277_4 hS) dX3_readClause_195 ?_
                  refine x_al0 dX3_readClause_198 ?_
                  refine x_getI fl_X3_52 (sh_277 hS) (lq_277 hS) dX3_readClause_199 ?_
                  refine x_topI (a' := fq 8) (show (ua fq 11 ((fq 11) + 1)) 8 = fq 8 from (ua_ne (by decide))) ?_
                  refine x_iald (sh_279 hS) (lq_279 hS) (by omega) (by omega) dX3_readClause_202 ?_
                  refine x_topI (a' := V 279 (fq 8)) rfl ?_
                  refine x_iconst dX3_readClause_203 ?_
                  refine x_icmp_ne (tgt := 211) dX3_readClause_204 (inr (by omega)) (inr (by decide)) (fun c204_7 => ?_) (fun c204_7 => ?_)
                  · -- 204 ne -> 211
                    refine x_iconst dX3_readClause_211 ?_
                    refine x_iconst dX3_readClause_212 ?_
                    refine x_cVi mm_X3_take ml_X3_125 dX3_readClause_213 (c_X3_take 0 1 hS (by omega) (show 0 ≤ (fq 8) ∧ (fq 8) < 301 from (by omega)) (show InR (fq 7) from (inr (by omega))) (show InR (fq 2) from (inr (by omega))) (inr (by decide))) (sh_277 hS) (lq_277 hS) ?_
                    refine x_topI (a' := takV (ua fq 11 ((fq 11) + 1)) 0) rfl ?_
                    refine x_mem (V' := (up (up (up (up V 277 (takF (ua fq 11 ((fq 11) + 1)) (V 280) 0 1)) 282 clq) 283 cdq) 286 myq)) (up_k (by decide) (up_k (by decide) (up_k (by decide) (up_up _ _ _ _)))) ?_
                    refine x_pop dX3_readClause_216 ?_
                    exact x_vret hQ ⟨takF (ua fq 11 ((fq 11) + 1)) (V 280) 0 1, clq, cdq, V 284, V 285, myq, ClC_end (sr := V 280) hTp hN hp.2 hI hs hs0 hnt hl24 hiN hF1 hB ⟨fun z => absurd z (by omega), fun _ => ⟨rfl, rfl⟩⟩ (fun k hk => (hK.2.1 k hk).2.1) (fun j hj e => by have q := TkQ_mk (show V 279 (fq 8) = cTk T n (pos T n j) by rw [e]; exact (hK.2.1 j hj).1); first | exact Or.inl ⟨rfl, q.a3 (by omega), TkR_lt hK hj (by have := q.a3 (by omega); omega)⟩ | exact Or.inr ⟨rfl, q.b3 (by omega)⟩), rfl, rfl, (by funext zz; simp only [up]; (repeat' split) <;> first | rfl | (subst_vars; rfl) | omega)⟩ dX3_readClause_217
                  · -- 204 ne -> 207
                    refine x_iconst dX3_readClause_207 ?_
                    refine x_goto (tgt := 212) dX3_readClause_208 ?_
                    refine x_iconst dX3_readClause_212 ?_
                    refine x_cVi mm_X3_take ml_X3_125 dX3_readClause_213 (c_X3_take 1 1 hS (by omega) (show 0 ≤ (fq 8) ∧ (fq 8) < 301 from (by omega)) (show InR (fq 7) from (inr (by omega))) (show InR (fq 2) from (inr (by omega))) (inr (by decide))) (sh_277 hS) (lq_277 hS) ?_
                    refine x_topI (a' := takV (ua fq 11 ((fq 11) + 1)) 1) rfl ?_
                    refine x_mem (V' := (up (up (up (up V 277 (takF (ua fq 11 ((fq 11) + 1)) (V 280) 1 1)) 282 clq) 283 cdq) 286 myq)) (up_k (by decide) (up_k (by decide) (up_k (by decide) (up_up _ _ _ _)))) ?_
                    refine x_pop dX3_readClause_216 ?_
                    exact x_vret hQ ⟨takF (ua fq 11 ((fq 11) + 1)) (V 280) 1 1, clq, cdq, V 284, V 285, myq, ClC_end (sr := V 280) hTp hN hp.2 hI hs hs0 hnt hl24 hiN hF1 hB ⟨fun z => absurd z (by omega), fun _ => ⟨rfl, rfl⟩⟩ (fun k hk => (hK.2.1 k hk).2.1) (fun j hj e => by have q := TkQ_mk (show V 279 (fq 8) = cTk T n (pos T n j) by rw [e]; exact (hK.2.1 j hj).1); first | exact Or.inl ⟨rfl, q.a3 (by omega), TkR_lt hK hj (by have := q.a3 (by omega); omega)⟩ | exact Or.inr ⟨rfl, q.b3 (by omega)⟩), rfl, rfl, (by funext zz; simp only [up]; (repeat' split) <;> first | rfl | (subst_vars; rfl) | omega)⟩ dX3_readClause_217
                · -- 157 gt -> 160
                  refine x_al0 dX3_readClause_160 ?_
                  refine x_getR fl_X3_37 (sh_277 hS) (lq_277 hS) (rf_277_14 hS) dX3_readClause_161 ?_
                  refine x_il1 dX3_readClause_164 ?_
                  refine x_bipush dX3_readClause_165 ?_
                  refine x_isub dX3_readClause_167 ?_
                  refine x_il2 dX3_readClause_168 ?_
                  refine x_iast (sh_284 hS) (lq_284 hS) (by omega) (by omega) dX3_readClause_169 ?_
                  refine x_mem (V' := (up (up (up (up (up V 277 fq) 282 clq) 283 cdq) 284 (ua (V 284) (wd - 16) (V 277 13))) 286 myq)) (st2_c (by decide) rfl) ?_
                  refine x_al0 dX3_readClause_170 ?_
                  refine x_getR fl_X3_40 (sh_277 hS) (lq_277 hS) (rf_277_15 hS) dX3_readClause_171 ?_
                  refine x_il1 dX3_readClause_174 ?_
                  refine x_bipush dX3_readClause_175 ?_
                  refine x_isub dX3_readClause_177 ?_
                  refine x_al0 dX3_readClause_178 ?_
                  refine x_getI fl_X3_58 (sh_277 hS) (lq_277 hS) dX3_readClause_179 ?_
                  refine x_topI (a' := fq 13) rfl ?_
                  refine x_iast (sh_285 hS) (lq_285 hS) (by omega) (by omega) dX3_readClause_182 ?_
                  refine x_mem (V' := (up (up (up (up (up (up V 277 fq) 282 clq) 283 cdq) 284 (ua (V 284) (wd - 16) (V 277 13))) 285 (ua (V 285) (wd - 16) (fq 13))) 286 myq)) (st2_c (by decide) rfl) ?_
                  refine x_al0 dX3_readClause_183 ?_
                  refine x_dup dX3_readClause_184 ?_
                  refine x_getI fl_X3_55 (sh_277 hS) (lq_277 hS) dX3_readClause_185 ?_
                  refine x_topI (a' := fq 11) rfl ?_
                  refine x_iconst dX3_readClause_188 ?_
                  refine x_iadd dX3_readClause_189 ?_
                  refine x_putI fl_X3_55 (sh_277 hS) (lq_277 hS) dX3_readClause_190 ?_
                  refine x_mem (V' := (up (up (up (up (up (up V 277 (ua fq 11 ((fq 11) + 1))) 282 clq) 283 cdq) 284 (ua (V 284) (wd - 16) (V 277 13))) 285 (ua (V 285) (wd - 16) (fq 13))) 286 myq)) (st2_c (by decide) (st2_c (by decide) (st2_c (by decide) (st2_c (by decide) (st2_c (by decide) (st2_up _ _ _ _ _)))))) ?_
                  refine x_al0 dX3_readClause_193 ?_
                  refine x_al0 dX3_readClause_194 ?_
                  refine x_getR fl_X3_22 (sh_277 hS) (lq_277 hS) (rf_277_4 hS) dX3_readClause_195 ?_
                  refine x_al0 dX3_readClause_198 ?_
                  refine x_getI fl_X3_52 (sh_277 hS) (lq_277 hS) dX3_readClause_199 ?_
                  refine x_topI (a' := fq 8) (show (ua fq 11 ((fq 11) + 1)) 8 = fq 8 from (ua_ne (by decide))) ?_
                  refine x_iald (sh_279 hS) (lq_279 hS) (by omega) (by omega) dX3_readClause_202 ?_
                  refine x_topI (a' := V 279 (fq 8)) rfl ?_
                  refine x_iconst dX3_readClause_203 ?_
                  refine x_icmp_ne (tgt := 211) dX3_readClause_204 (inr (by omega)) (inr (by decide)) (fun c204_8 => ?_) (fun c204_8 => ?_)
                  · -- 204 ne -> 211
                    refine x_iconst dX3_readClause_211 ?_
                    refine x_iconst dX3_readClause_212 ?_
                    refine x_cVi mm_X3_take ml_X3_125 dX3_readClause_213 (c_X3_take 0 1 hS (by omega) (show 0 ≤ (fq 8) ∧ (fq 8) < 301 from (by omega)) (show InR (fq 7) from (inr (by omega))) (show InR (fq 2) from (inr (by omega))) (inr (by decide))) (sh_277 hS) (lq_277 hS) ?_
                    refine x_topI (a' := takV (ua fq 11 ((fq 11) + 1)) 0) rfl ?_
                    refine x_mem (V' := (up (up (up (up (up (up V 277 (takF (ua fq 11 ((fq 11) + 1)) (V 280) 0 1)) 282 clq) 283 cdq) 284 (ua (V 284) (wd - 16) (V 277 13))) 285 (ua (V 285) (wd - 16) (fq 13))) 286 myq)) (up_k (by decide) (up_k (by decide) (up_k (by decide) (up_k (by decide) (up_k (by decide) (up_up _ _ _ _)))))) ?_
                    refine x_pop dX3_readClause_216 ?_
                    exact x_vret hQ ⟨takF (ua fq 11 ((fq 11) + 1)) (V 280) 0 1, clq, cdq, ua (V 284) (wd - 16) (V 277 13), ua (V 285) (wd - 16) (fq 13), myq, ClC_end (sr := V 280) hTp hN hp.2 hI hs hs0 hnt hl24 hiN hF1 hB ⟨fun z => ⟨by rw [show wd - 16 = s by omega], by rw [show wd - 16 = s by omega]⟩, fun z => absurd z (by omega)⟩ (fun k hk => (hK.2.1 k hk).2.1) (fun j hj e => by have q := TkQ_mk (show V 279 (fq 8) = cTk T n (pos T n j) by rw [e]; exact (hK.2.1 j hj).1); first | exact Or.inl ⟨rfl, q.a3 (by omega), TkR_lt hK hj (by have := q.a3 (by omega); omega)⟩ | exact Or.inr ⟨rfl, q.b3 (by omega)⟩), rfl, rfl, rfl⟩ dX3_readClause_217
                  · -- 204 ne -> 207
                    refine x_iconst dX3_readClause_207 ?_
                    refine x_goto (tgt := 212) dX3_readClause_208 ?_
                    refine x_iconst dX3_readClause_212 ?_
                    refine x_cVi mm_X3_take ml_X3_125 dX3_readClause_213 (c_X3_take 1 1 hS (by omega) (show 0 ≤ (fq 8) ∧ (fq 8) < 301 from (by omega)) (show InR (fq 7) from (inr (by omega))) (show InR (fq 2) from (inr (by omega))) (inr (by decide))) (sh_277 hS) (lq_277 hS) ?_
                    refine x_topI (a' := takV (ua fq 11 ((fq 11) + 1)) 1) rfl ?_
                    refine x_mem (V' := (up (up (up (up (up (up V 277 (takF (ua fq 11 ((fq 11) + 1)) (V 280) 1 1)) 282 clq) 283 cdq) 284 (ua (V 284) (wd - 16) (V 277 13))) 285 (ua (V 285) (wd - 16) (fq 13))) 286 myq)) (up_k (by decide) (up_k (by decide) (up_k (by decide) (up_k (by decide) (up_k (by decide) (up_up _ _ _ _)))))) ?_
                    refine x_pop dX3_readClause_216 ?_
                    exact x_vret hQ ⟨takF (ua fq 11 ((fq 11) + 1)) (V 280) 1 1, clq, cdq, ua (V 284) (wd - 16) (V 277 13), ua (V 285) (wd - 16) (fq 13), myq, ClC_end (sr := V 280) hTp hN hp.2 hI hs hs0 hnt hl24 hiN hF1 hB ⟨fun z => ⟨by rw [show wd - 16 = s by omega], by rw [show wd - 16 = s by omega]⟩, fun z => absurd z (by omega)⟩ (fun k hk => (hK.2.1 k hk).2.1) (fun j hj e => by have q := TkQ_mk (show V 279 (fq 8) = cTk T n (pos T n j) by rw [e]; exact (hK.2.1 j hj).1); first | exact Or.inl ⟨rfl, q.a3 (by omega), TkR_lt hK hj (by have := q.a3 (by omega); omega)⟩ | exact Or.inr ⟨rfl, q.b3 (by omega)⟩), rfl, rfl, rfl⟩ dX3_readClause_217
              refine x_bipush dX3_readClause_117 ?_
              refine x_icmp_ne (tgt := 130) dX3_readClause_119 (inr (by omega)) (inr (by decide)) (fun c119_9 => ?_) (fun c119_9 => ?_)
              · -- 119 ne -> 130
                refine x_il1 dX3_readClause_130 ?_
                refine x_bipush dX3_readClause_131 ?_
                refine x_icmp_gt (tgt := 143) dX3_readClause_133 (inr (by omega)) (inr (by decide)) (fun c133_10 => ?_) (fun c133_10 => ?_)
                · -- 133 gt -> 143
                  refine x_al0 dX3_readClause_143 ?_
                  refine x_il1 dX3_readClause_144 ?_
                  refine x_al0 dX3_readClause_145 ?_
                  refine x_getI fl_X3_55 (sh_277 hS) (lq_277 hS) dX3_readClause_146 ?_
                  refine x_topI (a' := F1 11) rfl ?_
                  refine x_iconst dX3_readClause_149 ?_
                  refine x_imul dX3_readClause_150 ?_
                  refine x_topI (a' := 4 * (cs.length : Int)) (by rw [hF11]; omega) ?_
                  refine x_cVnc mm_X3_readNumbers ml_X3_140 dX3_readClause_151 (c_X3_readNumbers (V := (up (up V 277 F1) 282 (ua (V 282) (4 * (cs.length : Int)) (16 + s)))) wd (4 * (cs.length : Int)) T n N (i + 1) (kTold cs) hS (RdH_c hH rfl rfl rfl (hF1 7 (by decide) (by decide))) (fun v v0 v1 => (CsI_my hI v0 v1).1) (fun v v0 v1 => (CsI_my hI v0 v1).2) ((hF1 2 (by decide) (by decide)).trans r2) ((hF1 3 (by decide) (by decide)).trans r33) hF8 (by omega) (by omega) (by omega)) (sh_277 hS) (lq_277 hS) (fun fq clq myq hcq => ?_)
                  have hcq2 : NuC T n N (i + 1) (kTold cs) s (4 * (cs.length : Int)) F1 (ua (V 282) (4 * (cs.length : Int)) (16 + s)) (V 286) fq clq myq := by have z : NuC T n N (i + 1) (kTold cs) (wd - 16) (4 * (cs.length : Int)) F1 (ua (V 282) (4 * (cs.length : Int)) (16 + s)) (V 286) fq clq myq := hcq; rw [show wd - 16 = s by omega] at z; exact z
                  have hBo : BdC T n N cs s (4 * (cs.length : Int)) (i + 1) F1 (ua (V 282) (4 * (cs.length : Int)) (16 + s)) (V 283) (V 286) fq clq (V 283) myq := BdC_nu (by omega) (by rw [hF1 13 (by decide) (by decide)]; omega) hcq2 ((hF1 3 (by decide) (by decide)).trans r33)
                  refine x_mem (V' := (up (up (up V 277 fq) 282 clq) 286 myq)) (Eq.trans (congrArg (fun z => up z 286 _) (congrArg (fun z => up z 282 _) (up_k (by decide) (up_up _ _ _ _)))) (congrArg (fun z => up z 286 _) (up_up _ _ _ _))) ?_
                  refine x_mem (V' := (up (up (up (up V 277 fq) 282 clq) 283 (V 283)) 286 myq)) (show _ = (up (up (up (up V 277 fq) 282 clq) 283 (V 283)) 286 myq) from (Eq.trans (Eq.symm (up_self _ 283)) (up_k (by decide) rfl))) ?_
                  exact x_fg (ct154 fq clq (V 283) myq hBo) (And.intro rfl (And.intro rfl (And.intro rfl trivial)))
                · -- 133 gt -> 136
                  refine x_al0 dX3_readClause_136 ?_
                  refine x_cVcp mm_X3_readEither ml_X3_137 dX3_readClause_137 (c_X3_readEither (V := (up (up V 277 F1) 282 (ua (V 282) (4 * (cs.length : Int)) (16 + s)))) hS T n s N (i + 1) (RdH_c hH rfl rfl rfl (hF1 7 (by decide) (by decide))) (show RdS F1 (i + 1) N s from ⟨(hF1 2 (by decide) (by decide)).trans r2, hF8, by omega, (by rw [hF1 13 (by decide) (by decide)]; omega), UQ_un hF9⟩)) (sh_277 hS) (lq_277 hS) (fun fq cdq hcq => ?_)
                  have hBo : BdC T n N cs s (4 * (cs.length : Int)) (i + 1) F1 (ua (V 282) (4 * (cs.length : Int)) (16 + s)) (V 283) (V 286) fq (ua (V 282) (4 * (cs.length : Int)) (16 + s)) cdq (V 286) := BdC_cp (by omega) (fun r q em h => Or.inr (Or.inl ⟨by omega, h, rfl⟩)) (show CP T n N (i + 1) (Eith T n s 0 (pos T n (i + 1))) F1 (V 283) fq cdq from hcq)
                  refine x_mem (V' := (up (up (up V 277 fq) 282 (ua (V 282) (4 * (cs.length : Int)) (16 + s))) 283 cdq)) (congrArg (fun z => up z 283 _) (up_k (by decide) (up_up _ _ _ _))) ?_
                  refine x_goto (tgt := 154) dX3_readClause_140 ?_
                  refine x_mem (V' := (up (up (up (up V 277 fq) 282 (ua (V 282) (4 * (cs.length : Int)) (16 + s))) 283 cdq) 286 (V 286))) (show _ = (up (up (up (up V 277 fq) 282 (ua (V 282) (4 * (cs.length : Int)) (16 + s))) 283 cdq) 286 (V 286)) from (Eq.symm (up_self _ 286))) ?_
                  exact x_fg (ct154 fq (ua (V 282) (4 * (cs.length : Int)) (16 + s)) cdq (V 286) hBo) (And.intro rfl (And.intro rfl (And.intro rfl trivial)))
              · -- 119 ne -> 122
                refine x_al0 dX3_readClause_122 ?_
                refine x_iconst dX3_readClause_123 ?_
                have hSu := (c_X3_rs (B := B) hS T n s N 8 (by decide)).2
                unfold SumC at hSu
                rw [show (8 : Int) - ((8 : Nat) : Int) = 0 by decide] at hSu
                refine x_cVcp mm_X3_readSum ml_X3_133 dX3_readClause_124 (hSu (up (up V 277 F1) 282 (ua (V 282) (4 * (cs.length : Int)) (16 + s))) (i + 1) (RdH_c hH rfl rfl rfl (hF1 7 (by decide) (by decide))) (show RdS F1 (i + 1) N s from ⟨(hF1 2 (by decide) (by decide)).trans r2, hF8, by omega, (by rw [hF1 13 (by decide) (by decide)]; omega), UQ_un hF9⟩)) (sh_277 hS) (lq_277 hS) (fun fq cdq hcq => ?_)
                have hBo : BdC T n N cs s (4 * (cs.length : Int)) (i + 1) F1 (ua (V 282) (4 * (cs.length : Int)) (16 + s)) (V 283) (V 286) fq (ua (V 282) (4 * (cs.length : Int)) (16 + s)) cdq (V 286) := BdC_cp (by omega) (fun r q em h => Or.inl ⟨by omega, by rw [show s = 0 by omega] at h ⊢; exact h, rfl⟩) (show CP T n N (i + 1) (G T n s 1 0 0 (pos T n (i + 1))) F1 (V 283) fq cdq from hcq)
                refine x_mem (V' := (up (up (up V 277 fq) 282 (ua (V 282) (4 * (cs.length : Int)) (16 + s))) 283 cdq)) (congrArg (fun z => up z 283 _) (up_k (by decide) (up_up _ _ _ _))) ?_
                refine x_goto (tgt := 154) dX3_readClause_127 ?_
                refine x_mem (V' := (up (up (up (up V 277 fq) 282 (ua (V 282) (4 * (cs.length : Int)) (16 + s))) 283 cdq) 286 (V 286))) (show _ = (up (up (up (up V 277 fq) 282 (ua (V 282) (4 * (cs.length : Int)) (16 + s))) 283 cdq) 286 (V 286)) from (Eq.symm (up_self _ 286))) ?_
                exact x_fg (ct154 fq (ua (V 282) (4 * (cs.length : Int)) (16 + s)) cdq (V 286) hBo) (And.intro rfl (And.intro rfl (And.intro rfl trivial)))
            refine x_al0 dX3_readClause_88 ?_
            refine x_getI fl_X3_55 (sh_277 hS) (lq_277 hS) dX3_readClause_89 ?_
            refine x_topI (a' := V 277 11) (show (ua (V 277) 8 (V 277 8 + 1)) 11 = V 277 11 from (ua_ne (by decide))) ?_
            refine x_iconst dX3_readClause_92 ?_
            refine x_imul dX3_readClause_93 ?_
            refine x_il1 dX3_readClause_94 ?_
            refine x_iast (sh_282 hS) (lq_282 hS) (by omega) (by omega) dX3_readClause_95 ?_
            refine x_mem (V' := (up (up V 277 (ua (V 277) 8 (V 277 8 + 1))) 282 (ua (V 282) ((V 277 11) * 4) wd))) rfl ?_
            refine x_al0 dX3_readClause_96 ?_
            refine x_getI fl_X3_58 (sh_277 hS) (lq_277 hS) dX3_readClause_97 ?_
            refine x_topI (a' := V 277 13) (show (ua (V 277) 8 (V 277 8 + 1)) 13 = V 277 13 from (ua_ne (by decide))) ?_
            refine x_is2 dX3_readClause_100 ?_
            refine x_al0 dX3_readClause_101 ?_
            refine x_il1 dX3_readClause_102 ?_
            refine x_bipush dX3_readClause_103 ?_
            refine x_icmp_ne (tgt := 112) dX3_readClause_105 (inr (by omega)) (inr (by decide)) (fun c105_11 => ?_) (fun c105_11 => ?_)
            · -- 105 ne -> 112
              refine x_iconst dX3_readClause_112 ?_
              refine x_putZ fl_X3_129 (sh_277 hS) (lq_277 hS) (by decide) dX3_readClause_113 ?_
              refine x_mem (V' := (up (up V 277 (ua (ua (V 277) 8 (V 277 8 + 1)) 9 0)) 282 (ua (V 282) ((V 277 11) * 4) wd))) (st2_c (by decide) (st2_up _ _ _ _ _)) ?_
              refine x_mem (V' := (up (up V 277 (ua (ua (V 277) 8 (V 277 8 + 1)) 9 0)) 282 (ua (V 282) (4 * (cs.length : Int)) (16 + s)))) (upE (upE rfl rfl) (by rw [show V 277 11 * 4 = 4 * (cs.length : Int) by omega, hse])) ?_
              exact x_fg (ct116 (ua (ua (V 277) 8 (V 277 8 + 1)) 9 0) (fun k k8 k9 => by rw [ua_ne k9, ua_ne k8]) (by rw [ua_ne (by decide), ua_same]; omega) (show UQ (ua (ua (V 277) 8 (V 277 8 + 1)) 9 0 9) s by rw [ua_same]; show _ = _; first | (rw [if_pos (by omega)]) | (rw [if_neg (by omega)]))) (And.intro rfl (And.intro rfl (And.intro rfl trivial)))
            · -- 105 ne -> 108
              refine x_iconst dX3_readClause_108 ?_
              refine x_goto (tgt := 113) dX3_readClause_109 ?_
              refine x_putZ fl_X3_129 (sh_277 hS) (lq_277 hS) (by decide) dX3_readClause_113 ?_
              refine x_mem (V' := (up (up V 277 (ua (ua (V 277) 8 (V 277 8 + 1)) 9 1)) 282 (ua (V 282) ((V 277 11) * 4) wd))) (st2_c (by decide) (st2_up _ _ _ _ _)) ?_
              refine x_mem (V' := (up (up V 277 (ua (ua (V 277) 8 (V 277 8 + 1)) 9 1)) 282 (ua (V 282) (4 * (cs.length : Int)) (16 + s)))) (upE (upE rfl rfl) (by rw [show V 277 11 * 4 = 4 * (cs.length : Int) by omega, hse])) ?_
              exact x_fg (ct116 (ua (ua (V 277) 8 (V 277 8 + 1)) 9 1) (fun k k8 k9 => by rw [ua_ne k9, ua_ne k8]) (by rw [ua_ne (by decide), ua_same]; omega) (show UQ (ua (ua (V 277) 8 (V 277 8 + 1)) 9 1 9) s by rw [ua_same]; show _ = _; first | (rw [if_pos (by omega)]) | (rw [if_neg (by omega)]))) (And.intro rfl (And.intro rfl (And.intro rfl trivial)))
      refine x_bipush dX3_readClause_33 ?_
      refine x_icmp_gt (tgt := 61) dX3_readClause_35 (inr (by omega)) (inr (by decide)) (fun c35_12 => ?_) (fun c35_12 => ?_)
      · -- 35 gt -> 61
        exact x_fg (ct61  (fun z => by first | (have := z.1; omega) | exact hfr1 (by omega) z.2)) (And.intro rfl (And.intro rfl trivial))
      · -- 35 gt -> 38
        have hfr := CsI_fr hI (s := wd - 16) (by omega) (by omega)
        have hfr1 : V 284 (wd - 16) = -1 → ¬ told cs s := fun z => by have y := hfr.2.1.mp z; rw [show wd - 16 = s by omega] at y; exact y
        have hfr2 : V 284 (wd - 16) ≠ -1 → told cs s := fun z => Classical.byContradiction fun y => z (hfr.2.1.mpr (by rw [show wd - 16 = s by omega]; exact y))
        have hfr3 : InR (V 284 (wd - 16)) := CsI_frr hN hI (by omega) (by omega)
        clear hfr
        refine x_al0 dX3_readClause_38 ?_
        refine x_getR fl_X3_37 (sh_277 hS) (lq_277 hS) (rf_277_14 hS) dX3_readClause_39 ?_
        refine x_il1 dX3_readClause_42 ?_
        refine x_bipush dX3_readClause_43 ?_
        refine x_isub dX3_readClause_45 ?_
        refine x_iald (sh_284 hS) (lq_284 hS) (by omega) (by omega) dX3_readClause_46 ?_
        refine x_topI (a' := V 284 (wd - 16)) rfl ?_
        refine x_iconst dX3_readClause_47 ?_
        refine x_icmp_eq (tgt := 61) dX3_readClause_48 hfr3 (inr (by decide)) (fun c48_13 => ?_) (fun c48_13 => ?_)
        · -- 48 eq -> 61
          exact x_fg (ct61  (fun z => by first | (have := z.1; omega) | exact hfr1 (by omega) z.2)) (And.intro rfl (And.intro rfl trivial))
        · -- 48 eq -> 51
          have hto := hfr2 (by omega)
          refine x_al0 dX3_readClause_51 ?_
          refine x_iconst dX3_readClause_52 ?_
          refine x_iconst dX3_readClause_53 ?_
          refine x_cVi mm_X3_take ml_X3_125 dX3_readClause_54 (c_X3_take 0 4 hS (by omega) (by omega) (inr (by omega)) (inr (by omega)) (inr (by decide))) (sh_277 hS) (lq_277 hS) ?_
          refine x_mem (V' := (up V 277 (ua (ua (V 277) 2 4) 3 (V 280 (V 277 8))))) (upE rfl (takF_0 (show (V 277) 2 = 0 by omega))) ?_
          refine x_topI (a' := 0) (takV_1 (show (V 277) 2 = 0 by omega)) ?_
          refine x_pop dX3_readClause_57 ?_
          refine x_goto (tgt := 217) dX3_readClause_58 ?_
          exact x_vret hQ ⟨ua (ua (V 277) 2 4) 3 (V 280 (V 277 8)), V 282, V 283, V 284, V 285, V 286, ClC_f (sr := V 280) ⟨r8, r3⟩ (by decide) hsrt (Or.inr (Or.inl ⟨⟨by omega, by omega, by rw [← hs]; exact hto⟩, rfl, rfl⟩)), rfl, rfl, (by funext zz; simp only [up]; (repeat' split) <;> first | rfl | (subst_vars; rfl) | omega)⟩ dX3_readClause_217
    · -- 19 le -> 22
      refine x_al0 dX3_readClause_22 ?_
      refine x_iconst dX3_readClause_23 ?_
      refine x_iconst dX3_readClause_24 ?_
      refine x_cVi mm_X3_take ml_X3_125 dX3_readClause_25 (c_X3_take 0 1 hS (by omega) (by omega) (inr (by omega)) (inr (by omega)) (inr (by decide))) (sh_277 hS) (lq_277 hS) ?_
      refine x_mem (V' := (up V 277 (ua (ua (V 277) 2 1) 3 (V 280 (V 277 8))))) (upE rfl (takF_0 (show (V 277) 2 = 0 by omega))) ?_
      refine x_topI (a' := 0) (takV_1 (show (V 277) 2 = 0 by omega)) ?_
      refine x_pop dX3_readClause_28 ?_
      refine x_goto (tgt := 217) dX3_readClause_29 ?_
      exact x_vret hQ ⟨ua (ua (V 277) 2 1) 3 (V 280 (V 277 8)), V 282, V 283, V 284, V 285, V 286, ClC_f (sr := V 280) ⟨r8, r3⟩ (by decide) hsrt (Or.inl ⟨hs4 (by omega), rfl, rfl⟩), rfl, rfl, (by funext zz; simp only [up]; (repeat' split) <;> first | rfl | (subst_vars; rfl) | omega)⟩ dX3_readClause_217
