set_option maxRecDepth 100000 in
set_option maxHeartbeats 4000000 in
theorem c_X11_either {B : Bs} {S : Stt} {V : Va} (p0 : Int) (hS : Stat S) (hTn : (V 308 4) ≤ 300) (hTp : ∀ k, 0 ≤ (V 312) k ∧ (V 312) k < 256) (h12 : 0 ≤ (V 308 12) ∧ (V 308 12) ≤ 2100) (h20 : InR (V 308 20)) (hwr : 0 ≤ (V 308 14) ∧ (V 308 14) ≤ p0) (h18 : 0 ≤ (V 308 18) ∧ (V 308 18) ≤ 8) (hPb : AB (V 313)) (hPS : PS (V 312) (V 308 4) p0 (V 308)) : C B yX11_either cX11_either 6 (some .int) 8 0 0 [vR B 308] S V (rP3 S V (RsP (V 312) (V 308 4) p0 (V 308 18) (V 308 12) (V 308 14) (V 311) (V 308) (Eith (V 312) (V 308 4) (V 308 20) (V 308 18) p0))) := by
  refine C.of [some (vR B 308), none, none, none, none, none] ?_
  intro Γ hQ
  refine x_iconst dX11_either_0 ?_
  refine x_is1 dX11_either_1 ?_
  refine x_iconst dX11_either_2 ?_
  refine x_is2 dX11_either_3 ?_
  refine x_iconst dX11_either_4 ?_
  refine x_is3 dX11_either_5 ?_
  have lp6 : ∀ (N6 : Nat) (a : Int) (b : Int) (more : Int) (f : Int → Int) (tx : Int → Int) (pl : Int → Int) (p : Int) (em : List (Int × Int)), (EiI (V 312) (V 308 4) (V 308 20) p0 (V 308 18) (V 308 12) (V 308 14) (V 311) (V 308) a b more p em f tx pl) → (V 308 4 - p).toNat * 2 + more.toNat < N6 → X Γ B RX11 "either" cX11_either 6 (some .int) 8 0 0 6 [some (vR B 308), some (vI a), some (vI b), some (vI more), none, none] [] 0 0 S (up (up (up V 308 f) 311 tx) 313 pl) := by
    intro N6
    induction N6 with
    | zero => intro a b more f tx pl p em hE hN; exact absurd hN (Nat.not_lt_zero _)
    | succ N6 ih6 =>
      intro a b more f tx pl p em hE hN6
      have hmo := b01 hE.2.2.1
      have hpa := b01 hE.1
      have hpb := b01 hE.2.1
      have hpp := hE.2.2.2.1.1
      refine x_il3 dX11_either_6 ?_
      refine x_if_eq (tgt := 119) dX11_either_7 (inr (by omega)) (fun c7_1 => ?_) (fun c7_1 => ?_)
      · -- 7 eq -> 119
        refine x_iconst dX11_either_119 ?_
        exact x_iret hQ ⟨0, f, tx, pl, (by have hm0 : more = 0 := (by omega); have hE1 := hE; rw [hm0] at hE1; obtain ⟨_, _, _, a4, a5, a6, a7, a8, a9, a10, a11, a12, a13⟩ := hE1; exact Or.inl ⟨rfl, p, em, a13 rfl, a4, a5, a6, a7, a8, by omega, a10, a11⟩), rfl, rfl, rfl⟩ dX11_either_120
      · -- 7 eq -> 10
        refine x_al0 dX11_either_10 ?_
        have hm1 : more = 1 := by omega
        have hE1 := hE
        rw [hm1] at hE1
        obtain ⟨_, _, _, a4, a5, a6, a7, a8, a9, a10, a11, a12, a13⟩ := id hE1
        have ea4 : f 4 = V 308 4 := a4.2.1
        have ea12 : f 12 = V 308 12 := a10 12 (by omega)
        have ea20 : f 20 = V 308 20 := a10 20 (by omega)
        have ha9 : (em.length : Int) + (a + b) ≤ p - p0 := by omega
        have hpn := a4.1.2
        refine x_cVi3 mm_X11_asks ml_X11_226 dX11_either_11 (c_X11_asks p hS (show f 4 ≤ 300 by omega) hTp (show 0 ≤ f 12 ∧ f 12 ≤ 2100 by omega) (show InR (f 20) by rw [ea20]; exact h20) (show 0 ≤ f 14 ∧ f 14 ≤ p by omega) (show 0 ≤ f 18 ∧ f 18 ≤ 8 by omega) a11 (show PS (V 312) (f 4) p f by rw [ea4]; exact a4)) (sh_308 hS) (lq_308 hS) (fun ra fa txa pla hqa => ?_)
        have hza : RsP (V 312) (f 4) p (f 18) (f 12) (f 14) tx f (Ask (V 312) (f 4) (f 20) (f 18) p) ra fa txa pla := hqa
        rw [ea4, ea20, ea12, a6] at hza
        have hra : 0 ≤ ra ∧ ra < 10 := by rcases hza with z | z; (have := z.1; omega); exact ⟨z.2.2.1, z.2.1⟩
        refine x_mem (V' := (up (up (up V 308 fa) 311 txa) 313 pla)) (Eq.trans (Eq.trans (congrArg (fun z => up z 313 _) (congrArg (fun z => up z 311 _) (up_k (by decide) (up_k (by decide) (up_up _ _ _ _))))) (congrArg (fun z => up z 313 _) (up_k (by decide) (up_up _ _ _ _)))) (up_up _ _ _ _)) ?_
        refine x_is4 dX11_either_14 ?_
        refine x_il4 dX11_either_16 ?_
        refine x_if_eq (tgt := 24) dX11_either_18 (inr (by omega)) (fun c18_2 => ?_) (fun c18_2 => ?_)
        · -- 18 eq -> 24
          have hza0 := hza.resolve_right (fun z => absurd z.1 (by omega))
          obtain ⟨_, q1, em1, s1, s2, s3, s4, s5, s6, s7, s8, s9⟩ := hza0
          have hnq0 := tok_r hTp s2.1.2
          have hnq1 := hnq0.2.2.2.1
          have hnq2 := hnq0.1
          have hnq3 := hnq0.2.2.1
          have hnt0 := hnq0.2.2.2.2.2.1
          have hnt1 := hnq0.2.2.2.2.2.2.1
          clear hnq0
          have hc9 := s2.2.2.2.2.1
          have hc11r := s2.2.2.2.2.2.2.2.2
          have hc7 := s2.2.2.1
          have hc4 := s2.2.1
          have es12 : fa 12 = V 308 12 := (s8 12 (by omega)).trans ea12
          have hq1 := s2.1
          have ct75 : ∀ (F : Int → Int) (tX : Int → Int) (a2 : Int) (nx : Int), (F 14 = fa 14 + a) → (∀ k, k ≠ 14 → F k = fa k) → (tX = emL txa (V 308 12) (fa 14) (wlL (21 * a))) → (Sel a2 (isAnd (V 312) (V 308 4) q1)) → (Sel nx (isOr (V 312) (V 308 4) q1)) → X Γ B RX11 "either" cX11_either 6 (some .int) 8 0 0 75 [some (vR B 308), some (vI a2), some (vI b), none, none, some (vI nx)] [] 0 0 S (up (up (up V 308 F) 311 tX) 313 pla) := by
            intro F tX a2 nx hF14 hFk htX hA2 hN
            have hF9 := hFk 9 (by decide)
            have hF11 := hFk 11 (by decide)
            have hF7 := hFk 7 (by decide)
            have hF4 := hFk 4 (by decide)
            have hF12 := hFk 12 (by decide)
            have hPF : PS (V 312) (V 308 4) q1 F := PS_c14 s2 hFk
            have hFr : 0 ≤ F 11 ∧ F 11 < 72057594037927936 := by rw [hF11]; exact hc11r
            have hA2r := Sel_r hA2
            have hNr := Sel_r hN
            refine x_il1 dX11_either_75 ?_
            refine x_if_ne (tgt := 93) dX11_either_76 (inr (by omega)) (fun c76_3 => ?_) (fun c76_3 => ?_)
            · -- 76 ne -> 93
              refine x_il1 dX11_either_93 ?_
              refine x_if_ne (tgt := 102) dX11_either_94 (inr (by omega)) (fun c94_4 => ?_) (fun c94_4 => ?_)
              · -- 94 ne -> 102
                refine x_iconst dX11_either_102 ?_
                refine x_goto (tgt := 107) dX11_either_103 ?_
                refine x_is3 dX11_either_107 ?_
                refine x_il3 dX11_either_108 ?_
                refine x_if_eq (tgt := 116) dX11_either_109 (inr (by decide)) (fun c109_5 => ?_) (fun c109_5 => ?_)
                · exact absurd c109_5 (by decide)
                · -- 109 eq -> 112
                  refine x_al0 dX11_either_112 ?_
                  refine x_cVv mm_X11_nextToken ml_X11_184 dX11_either_113 (c_X11_nextToken hS (show 0 ≤ (F 4) ∧ (F 4) ≤ 300 from (by omega)) (show 0 ≤ (F 7) ∧ (F 7) ≤ (F 4) from (by omega)) (show ∀ k, 0 ≤ (V 312) k ∧ (V 312) k < 256 from hTp)) (sh_308 hS) (lq_308 hS) ?_
                  refine x_mem (V' := (up (up (up V 308 (mTok F (V 312))) 311 tX) 313 pla)) (up_k (by decide) (up_k (by decide) (up_up _ _ _ _))) ?_
                  refine x_goto (tgt := 6) dX11_either_116 ?_
                  exact x_fg (ih6 a2 b 1 (mTok F (V 312)) tX pla (tNx (V 312) (V 308 4) q1) (em ++ em1 ++ wlL (21 * a)) (by rw [show a2 = 1 by omega]; exact EiI_and hTp hE1 s1 s2 s3 s4 s5 s6 s7 s8 s9 (Sel_1 hA2 (by omega)) hF14 hFk hPF htX) (by first | omega | (have y := (Sel_1 hA2 (by omega)).1; have z := (tok_r hTp s2.1.2).2.2.2.2.1 (by omega); omega) | (have y := (Sel_1 hN (by omega)).1; have z := (tok_r hTp s2.1.2).2.2.2.2.1 (by omega); omega))) (And.intro rfl (And.intro rfl (And.intro rfl (And.intro rfl trivial))))
              · -- 94 ne -> 97
                refine x_il5 dX11_either_97 ?_
                refine x_if_eq (tgt := 106) dX11_either_99 (inr (by omega)) (fun c99_6 => ?_) (fun c99_6 => ?_)
                · -- 99 eq -> 106
                  refine x_iconst dX11_either_106 ?_
                  refine x_is3 dX11_either_107 ?_
                  refine x_il3 dX11_either_108 ?_
                  refine x_if_eq (tgt := 116) dX11_either_109 (inr (by decide)) (fun c109_7 => ?_) (fun c109_7 => ?_)
                  · -- 109 eq -> 116
                    refine x_goto (tgt := 6) dX11_either_116 ?_
                    exact x_fg (ih6 a2 b 0 F tX pla q1 (em ++ em1 ++ wlL (21 * a)) (by exfalso; omega) (by first | omega | (have y := (Sel_1 hA2 (by omega)).1; have z := (tok_r hTp s2.1.2).2.2.2.2.1 (by omega); omega) | (have y := (Sel_1 hN (by omega)).1; have z := (tok_r hTp s2.1.2).2.2.2.2.1 (by omega); omega))) (And.intro rfl (And.intro rfl (And.intro rfl (And.intro rfl trivial))))
                  · exact absurd c109_7 (by decide)
                · -- 99 eq -> 102
                  refine x_iconst dX11_either_102 ?_
                  refine x_goto (tgt := 107) dX11_either_103 ?_
                  refine x_is3 dX11_either_107 ?_
                  refine x_il3 dX11_either_108 ?_
                  refine x_if_eq (tgt := 116) dX11_either_109 (inr (by decide)) (fun c109_8 => ?_) (fun c109_8 => ?_)
                  · exact absurd c109_8 (by decide)
                  · -- 109 eq -> 112
                    refine x_al0 dX11_either_112 ?_
                    refine x_cVv mm_X11_nextToken ml_X11_184 dX11_either_113 (c_X11_nextToken hS (show 0 ≤ (F 4) ∧ (F 4) ≤ 300 from (by omega)) (show 0 ≤ (F 7) ∧ (F 7) ≤ (F 4) from (by omega)) (show ∀ k, 0 ≤ (V 312) k ∧ (V 312) k < 256 from hTp)) (sh_308 hS) (lq_308 hS) ?_
                    refine x_mem (V' := (up (up (up V 308 (mTok F (V 312))) 311 tX) 313 pla)) (up_k (by decide) (up_k (by decide) (up_up _ _ _ _))) ?_
                    refine x_goto (tgt := 6) dX11_either_116 ?_
                    exact x_fg (ih6 a2 b 1 (mTok F (V 312)) tX pla (tNx (V 312) (V 308 4) q1) (em ++ em1 ++ wlL (21 * a)) (by rw [show a2 = 1 by omega]; exact EiI_and hTp hE1 s1 s2 s3 s4 s5 s6 s7 s8 s9 (Sel_1 hA2 (by omega)) hF14 hFk hPF htX) (by first | omega | (have y := (Sel_1 hA2 (by omega)).1; have z := (tok_r hTp s2.1.2).2.2.2.2.1 (by omega); omega) | (have y := (Sel_1 hN (by omega)).1; have z := (tok_r hTp s2.1.2).2.2.2.2.1 (by omega); omega))) (And.intro rfl (And.intro rfl (And.intro rfl (And.intro rfl trivial))))
            · -- 76 ne -> 79
              refine x_il2 dX11_either_79 ?_
              refine x_if_eq (tgt := 90) dX11_either_80 (inr (by omega)) (fun c80_9 => ?_) (fun c80_9 => ?_)
              · -- 80 eq -> 90
                refine x_il5 dX11_either_90 ?_
                refine x_is2 dX11_either_92 ?_
                refine x_il1 dX11_either_93 ?_
                refine x_if_ne (tgt := 102) dX11_either_94 (inr (by omega)) (fun c94_10 => ?_) (fun c94_10 => ?_)
                · -- 94 ne -> 102
                  refine x_iconst dX11_either_102 ?_
                  refine x_goto (tgt := 107) dX11_either_103 ?_
                  refine x_is3 dX11_either_107 ?_
                  refine x_il3 dX11_either_108 ?_
                  refine x_if_eq (tgt := 116) dX11_either_109 (inr (by decide)) (fun c109_11 => ?_) (fun c109_11 => ?_)
                  · exact absurd c109_11 (by decide)
                  · -- 109 eq -> 112
                    refine x_al0 dX11_either_112 ?_
                    refine x_cVv mm_X11_nextToken ml_X11_184 dX11_either_113 (c_X11_nextToken hS (show 0 ≤ (F 4) ∧ (F 4) ≤ 300 from (by omega)) (show 0 ≤ (F 7) ∧ (F 7) ≤ (F 4) from (by omega)) (show ∀ k, 0 ≤ (V 312) k ∧ (V 312) k < 256 from hTp)) (sh_308 hS) (lq_308 hS) ?_
                    refine x_mem (V' := (up (up (up V 308 (mTok F (V 312))) 311 tX) 313 pla)) (up_k (by decide) (up_k (by decide) (up_up _ _ _ _))) ?_
                    refine x_goto (tgt := 6) dX11_either_116 ?_
                    exact x_fg (ih6 a2 nx 1 (mTok F (V 312)) tX pla (tNx (V 312) (V 308 4) q1) (em ++ em1 ++ (wlL (21 * a) ++ wlL (22 * b))) (by rw [show a2 = 0 by omega, show nx = 1 by omega]; exact EiI_or hTp hE1 s1 s2 s3 s4 s5 s6 s7 s8 s9 (Sel_0 hA2 (by omega)) (Sel_1 hN (by omega)) (by omega) hFk hPF (by rw [show b = 0 by omega]; exact htX.trans ei_b0)) (by first | omega | (have y := (Sel_1 hA2 (by omega)).1; have z := (tok_r hTp s2.1.2).2.2.2.2.1 (by omega); omega) | (have y := (Sel_1 hN (by omega)).1; have z := (tok_r hTp s2.1.2).2.2.2.2.1 (by omega); omega))) (And.intro rfl (And.intro rfl (And.intro rfl (And.intro rfl trivial))))
                · -- 94 ne -> 97
                  refine x_il5 dX11_either_97 ?_
                  refine x_if_eq (tgt := 106) dX11_either_99 (inr (by omega)) (fun c99_12 => ?_) (fun c99_12 => ?_)
                  · -- 99 eq -> 106
                    refine x_iconst dX11_either_106 ?_
                    refine x_is3 dX11_either_107 ?_
                    refine x_il3 dX11_either_108 ?_
                    refine x_if_eq (tgt := 116) dX11_either_109 (inr (by decide)) (fun c109_13 => ?_) (fun c109_13 => ?_)
                    · -- 109 eq -> 116
                      refine x_goto (tgt := 6) dX11_either_116 ?_
                      exact x_fg (ih6 a2 nx 0 F tX pla q1 (em ++ em1 ++ (wlL (21 * a) ++ wlL (22 * b))) (by rw [show a2 = 0 by omega, show nx = 0 by omega]; exact EiI_end hE1 s1 s3 s4 s5 s6 s7 s8 s9 (Sel_0 hA2 (by omega)) (Sel_0 hN (by omega)) (by omega) hFk hPF (by rw [show b = 0 by omega]; exact htX.trans ei_b0)) (by first | omega | (have y := (Sel_1 hA2 (by omega)).1; have z := (tok_r hTp s2.1.2).2.2.2.2.1 (by omega); omega) | (have y := (Sel_1 hN (by omega)).1; have z := (tok_r hTp s2.1.2).2.2.2.2.1 (by omega); omega))) (And.intro rfl (And.intro rfl (And.intro rfl (And.intro rfl trivial))))
                    · exact absurd c109_13 (by decide)
                  · -- 99 eq -> 102
                    refine x_iconst dX11_either_102 ?_
                    refine x_goto (tgt := 107) dX11_either_103 ?_
                    refine x_is3 dX11_either_107 ?_
                    refine x_il3 dX11_either_108 ?_
                    refine x_if_eq (tgt := 116) dX11_either_109 (inr (by decide)) (fun c109_14 => ?_) (fun c109_14 => ?_)
                    · exact absurd c109_14 (by decide)
                    · -- 109 eq -> 112
                      refine x_al0 dX11_either_112 ?_
                      refine x_cVv mm_X11_nextToken ml_X11_184 dX11_either_113 (c_X11_nextToken hS (show 0 ≤ (F 4) ∧ (F 4) ≤ 300 from (by omega)) (show 0 ≤ (F 7) ∧ (F 7) ≤ (F 4) from (by omega)) (show ∀ k, 0 ≤ (V 312) k ∧ (V 312) k < 256 from hTp)) (sh_308 hS) (lq_308 hS) ?_
                      refine x_mem (V' := (up (up (up V 308 (mTok F (V 312))) 311 tX) 313 pla)) (up_k (by decide) (up_k (by decide) (up_up _ _ _ _))) ?_
                      refine x_goto (tgt := 6) dX11_either_116 ?_
                      exact x_fg (ih6 a2 nx 1 (mTok F (V 312)) tX pla (tNx (V 312) (V 308 4) q1) (em ++ em1 ++ (wlL (21 * a) ++ wlL (22 * b))) (by rw [show a2 = 0 by omega, show nx = 1 by omega]; exact EiI_or hTp hE1 s1 s2 s3 s4 s5 s6 s7 s8 s9 (Sel_0 hA2 (by omega)) (Sel_1 hN (by omega)) (by omega) hFk hPF (by rw [show b = 0 by omega]; exact htX.trans ei_b0)) (by first | omega | (have y := (Sel_1 hA2 (by omega)).1; have z := (tok_r hTp s2.1.2).2.2.2.2.1 (by omega); omega) | (have y := (Sel_1 hN (by omega)).1; have z := (tok_r hTp s2.1.2).2.2.2.2.1 (by omega); omega))) (And.intro rfl (And.intro rfl (And.intro rfl (And.intro rfl trivial))))
              · -- 80 eq -> 83
                refine x_al0 dX11_either_83 ?_
                refine x_bipush dX11_either_84 ?_
                refine x_iconst dX11_either_86 ?_
                refine x_cVv mm_X11_emit ml_X11_170 dX11_either_87 (c_X11_emit 22 0 hS (show 0 ≤ (F 12) ∧ (F 12) ≤ 2100 from (by omega)) (show 0 ≤ (F 14) ∧ (F 14) < 300 from (by omega))) (sh_308 hS) (lq_308 hS) ?_
                refine x_mem (V' := (up (up (up V 308 (ua F 14 ((F 14) + 1))) 311 (ua (ua tX ((F 12) + 100 + 2 * (F 14)) 22) ((F 12) + 100 + 2 * (F 14) + 1) 0)) 313 pla)) (Eq.trans (congrArg (fun z => up z 311 _) (up_k (by decide) (up_k (by decide) (up_up _ _ _ _)))) (up_k (by decide) (up_up _ _ _ _))) ?_
                refine x_il5 dX11_either_90 ?_
                refine x_is2 dX11_either_92 ?_
                refine x_il1 dX11_either_93 ?_
                refine x_if_ne (tgt := 102) dX11_either_94 (inr (by omega)) (fun c94_15 => ?_) (fun c94_15 => ?_)
                · -- 94 ne -> 102
                  refine x_iconst dX11_either_102 ?_
                  refine x_goto (tgt := 107) dX11_either_103 ?_
                  refine x_is3 dX11_either_107 ?_
                  refine x_il3 dX11_either_108 ?_
                  refine x_if_eq (tgt := 116) dX11_either_109 (inr (by decide)) (fun c109_16 => ?_) (fun c109_16 => ?_)
                  · exact absurd c109_16 (by decide)
                  · -- 109 eq -> 112
                    refine x_al0 dX11_either_112 ?_
                    refine x_cVv mm_X11_nextToken ml_X11_184 dX11_either_113 (c_X11_nextToken hS (show 0 ≤ (F 4) ∧ (F 4) ≤ 300 from (by omega)) (show 0 ≤ (F 7) ∧ (F 7) ≤ (F 4) from (by omega)) (show ∀ k, 0 ≤ (V 312) k ∧ (V 312) k < 256 from hTp)) (sh_308 hS) (lq_308 hS) ?_
                    refine x_mem (V' := (up (up (up V 308 (mTok (ua F 14 ((F 14) + 1)) (V 312))) 311 (ua (ua tX ((F 12) + 100 + 2 * (F 14)) 22) ((F 12) + 100 + 2 * (F 14) + 1) 0)) 313 pla)) (up_k (by decide) (up_k (by decide) (up_up _ _ _ _))) ?_
                    refine x_goto (tgt := 6) dX11_either_116 ?_
                    exact x_fg (ih6 a2 nx 1 (mTok (ua F 14 ((F 14) + 1)) (V 312)) (ua (ua tX ((F 12) + 100 + 2 * (F 14)) 22) ((F 12) + 100 + 2 * (F 14) + 1) 0) pla (tNx (V 312) (V 308 4) q1) (em ++ em1 ++ (wlL (21 * a) ++ wlL (22 * b))) (by rw [show a2 = 0 by omega, show nx = 1 by omega]; exact EiI_or hTp hE1 s1 s2 s3 s4 s5 s6 s7 s8 s9 (Sel_0 hA2 (by omega)) (Sel_1 hN (by omega)) (by show F 14 + 1 = _; omega) (fun z hz => (ua_ne hz).trans (hFk z hz)) (PS_ua hPF (by decide)) (by rw [show b = 1 by omega]; exact ei_b1 (i01 hpa) (hF12.trans es12) hF14 htX)) (by first | omega | (have y := (Sel_1 hA2 (by omega)).1; have z := (tok_r hTp s2.1.2).2.2.2.2.1 (by omega); omega) | (have y := (Sel_1 hN (by omega)).1; have z := (tok_r hTp s2.1.2).2.2.2.2.1 (by omega); omega))) (And.intro rfl (And.intro rfl (And.intro rfl (And.intro rfl trivial))))
                · -- 94 ne -> 97
                  refine x_il5 dX11_either_97 ?_
                  refine x_if_eq (tgt := 106) dX11_either_99 (inr (by omega)) (fun c99_17 => ?_) (fun c99_17 => ?_)
                  · -- 99 eq -> 106
                    refine x_iconst dX11_either_106 ?_
                    refine x_is3 dX11_either_107 ?_
                    refine x_il3 dX11_either_108 ?_
                    refine x_if_eq (tgt := 116) dX11_either_109 (inr (by decide)) (fun c109_18 => ?_) (fun c109_18 => ?_)
                    · -- 109 eq -> 116
                      refine x_goto (tgt := 6) dX11_either_116 ?_
                      exact x_fg (ih6 a2 nx 0 (ua F 14 ((F 14) + 1)) (ua (ua tX ((F 12) + 100 + 2 * (F 14)) 22) ((F 12) + 100 + 2 * (F 14) + 1) 0) pla q1 (em ++ em1 ++ (wlL (21 * a) ++ wlL (22 * b))) (by rw [show a2 = 0 by omega, show nx = 0 by omega]; exact EiI_end hE1 s1 s3 s4 s5 s6 s7 s8 s9 (Sel_0 hA2 (by omega)) (Sel_0 hN (by omega)) (by show F 14 + 1 = _; omega) (fun z hz => (ua_ne hz).trans (hFk z hz)) (PS_ua hPF (by decide)) (by rw [show b = 1 by omega]; exact ei_b1 (i01 hpa) (hF12.trans es12) hF14 htX)) (by first | omega | (have y := (Sel_1 hA2 (by omega)).1; have z := (tok_r hTp s2.1.2).2.2.2.2.1 (by omega); omega) | (have y := (Sel_1 hN (by omega)).1; have z := (tok_r hTp s2.1.2).2.2.2.2.1 (by omega); omega))) (And.intro rfl (And.intro rfl (And.intro rfl (And.intro rfl trivial))))
                    · exact absurd c109_18 (by decide)
                  · -- 99 eq -> 102
                    refine x_iconst dX11_either_102 ?_
                    refine x_goto (tgt := 107) dX11_either_103 ?_
                    refine x_is3 dX11_either_107 ?_
                    refine x_il3 dX11_either_108 ?_
                    refine x_if_eq (tgt := 116) dX11_either_109 (inr (by decide)) (fun c109_19 => ?_) (fun c109_19 => ?_)
                    · exact absurd c109_19 (by decide)
                    · -- 109 eq -> 112
                      refine x_al0 dX11_either_112 ?_
                      refine x_cVv mm_X11_nextToken ml_X11_184 dX11_either_113 (c_X11_nextToken hS (show 0 ≤ (F 4) ∧ (F 4) ≤ 300 from (by omega)) (show 0 ≤ (F 7) ∧ (F 7) ≤ (F 4) from (by omega)) (show ∀ k, 0 ≤ (V 312) k ∧ (V 312) k < 256 from hTp)) (sh_308 hS) (lq_308 hS) ?_
                      refine x_mem (V' := (up (up (up V 308 (mTok (ua F 14 ((F 14) + 1)) (V 312))) 311 (ua (ua tX ((F 12) + 100 + 2 * (F 14)) 22) ((F 12) + 100 + 2 * (F 14) + 1) 0)) 313 pla)) (up_k (by decide) (up_k (by decide) (up_up _ _ _ _))) ?_
                      refine x_goto (tgt := 6) dX11_either_116 ?_
                      exact x_fg (ih6 a2 nx 1 (mTok (ua F 14 ((F 14) + 1)) (V 312)) (ua (ua tX ((F 12) + 100 + 2 * (F 14)) 22) ((F 12) + 100 + 2 * (F 14) + 1) 0) pla (tNx (V 312) (V 308 4) q1) (em ++ em1 ++ (wlL (21 * a) ++ wlL (22 * b))) (by rw [show a2 = 0 by omega, show nx = 1 by omega]; exact EiI_or hTp hE1 s1 s2 s3 s4 s5 s6 s7 s8 s9 (Sel_0 hA2 (by omega)) (Sel_1 hN (by omega)) (by show F 14 + 1 = _; omega) (fun z hz => (ua_ne hz).trans (hFk z hz)) (PS_ua hPF (by decide)) (by rw [show b = 1 by omega]; exact ei_b1 (i01 hpa) (hF12.trans es12) hF14 htX)) (by first | omega | (have y := (Sel_1 hA2 (by omega)).1; have z := (tok_r hTp s2.1.2).2.2.2.2.1 (by omega); omega) | (have y := (Sel_1 hN (by omega)).1; have z := (tok_r hTp s2.1.2).2.2.2.2.1 (by omega); omega))) (And.intro rfl (And.intro rfl (And.intro rfl (And.intro rfl trivial))))
          have ct35 : ∀ (F : Int → Int) (tX : Int → Int), (F 14 = fa 14 + a) → (∀ k, k ≠ 14 → F k = fa k) → (tX = emL txa (V 308 12) (fa 14) (wlL (21 * a))) → X Γ B RX11 "either" cX11_either 6 (some .int) 8 0 0 35 [some (vR B 308), none, some (vI b), none, none, none] [] 0 0 S (up (up (up V 308 F) 311 tX) 313 pla) := by
            intro F tX hF14 hFk htX
            have hF9 := hFk 9 (by decide)
            have hF11 := hFk 11 (by decide)
            have hF7 := hFk 7 (by decide)
            have hF4 := hFk 4 (by decide)
            have hF12 := hFk 12 (by decide)
            have hPF : PS (V 312) (V 308 4) q1 F := PS_c14 s2 hFk
            have hFr : 0 ≤ F 11 ∧ F 11 < 72057594037927936 := by rw [hF11]; exact hc11r
            refine x_al0 dX11_either_35 ?_
            refine x_bipush dX11_either_36 ?_
            refine x_bipush dX11_either_38 ?_
            refine x_bipush dX11_either_40 ?_
            refine x_cSl mm_X11_w3 ml_X11_146 dX11_either_42 (c_X11_w3 97 110 100 (by first | decide | omega) (by first | decide | omega) (by first | decide | omega)) ?_
            refine x_cVi mm_X11_isWord ml_X11_216 dX11_either_45 (c_X11_isWord ((97 * 256 + 110) * 256 + 100) hS (show 0 ≤ (F 9) ∧ (F 9) < 256 from (by omega)) (show 0 ≤ (F 11) ∧ (F 11) < 72057594037927936 from hFr) (by omega)) (sh_308 hS) (lq_308 hS) ?_
            refine x_top (v' := vI (if (F 9) = 2 ∧ (F 11) = ((97 * 256 + 110) * 256 + 100) then 1 else 0)) rfl ?_
            obtain ⟨a2, ha2⟩ : ∃ z : Int, z = if (F 9) = 2 ∧ (F 11) = ((97 * 256 + 110) * 256 + 100) then 1 else 0 := ⟨_, rfl⟩
            refine x_topI (a' := a2) ha2.symm ?_
            have hA2 : Sel a2 (isAnd (V 312) (V 308 4) q1) := by rw [ha2]; exact Sel_if (And_iff hPF)
            clear ha2
            have hA2r := Sel_r hA2
            refine x_is1 dX11_either_48 ?_
            refine x_al0 dX11_either_49 ?_
            refine x_getI fl_X11_129 (sh_308 hS) (lq_308 hS) dX11_either_50 ?_
            refine x_topI (a' := F 9) rfl ?_
            refine x_iconst dX11_either_53 ?_
            refine x_icmp_ne (tgt := 72) dX11_either_54 (inr (by omega)) (inr (by decide)) (fun c54_20 => ?_) (fun c54_20 => ?_)
            · -- 54 ne -> 72
              refine x_iconst dX11_either_72 ?_
              refine x_is5 dX11_either_73 ?_
              exact x_fg (ct75 F tX a2 0 hF14 hFk htX hA2 (Or.inr ⟨rfl, fun z => by have := (And_iff hPF).mpr z; omega⟩)) (And.intro rfl (And.intro rfl (And.intro rfl (And.intro rfl trivial))))
            · -- 54 ne -> 57
              refine x_al0 dX11_either_57 ?_
              refine x_getL fl_X11_142 (sh_308 hS) (lq_308 hS) dX11_either_58 ?_
              refine x_topL (a' := F 11) rfl ?_
              refine x_ldc2 (a := 28530) kl_X11_229 (by decide) dX11_either_61 ?_
              refine x_lcmp_ne (tgt := 72) dX11_either_64 dX11_either_65 (inl_ (by omega)) (inl_ (by decide)) (fun c64_21 => ?_) (fun c64_21 => ?_)
              · -- 64 ne -> 72
                refine x_iconst dX11_either_72 ?_
                refine x_is5 dX11_either_73 ?_
                exact x_fg (ct75 F tX a2 0 hF14 hFk htX hA2 (Or.inr ⟨rfl, fun z => by have := (And_iff hPF).mpr z; omega⟩)) (And.intro rfl (And.intro rfl (And.intro rfl (And.intro rfl trivial))))
              · -- 64 ne -> 68
                refine x_iconst dX11_either_68 ?_
                refine x_goto (tgt := 73) dX11_either_69 ?_
                refine x_is5 dX11_either_73 ?_
                exact x_fg (ct75 F tX a2 1 hF14 hFk htX hA2 (Or.inl ⟨rfl, (And_iff hPF).mp ⟨by omega, by omega⟩⟩)) (And.intro rfl (And.intro rfl (And.intro rfl (And.intro rfl trivial))))
          refine x_il1 dX11_either_24 ?_
          refine x_if_eq (tgt := 35) dX11_either_25 (inr (by omega)) (fun c25_22 => ?_) (fun c25_22 => ?_)
          · -- 25 eq -> 35
            exact x_fg (ct35 fa txa (by omega) (fun _ _ => rfl) (by rw [show a = 0 by omega]; rfl)) (And.intro rfl (And.intro rfl trivial))
          · -- 25 eq -> 28
            refine x_al0 dX11_either_28 ?_
            refine x_bipush dX11_either_29 ?_
            refine x_iconst dX11_either_31 ?_
            refine x_cVv mm_X11_emit ml_X11_170 dX11_either_32 (c_X11_emit 21 0 hS (show 0 ≤ (fa 12) ∧ (fa 12) ≤ 2100 from (by omega)) (show 0 ≤ (fa 14) ∧ (fa 14) < 300 from (by omega))) (sh_308 hS) (lq_308 hS) ?_
            refine x_mem (V' := (up (up (up V 308 (ua fa 14 ((fa 14) + 1))) 311 (ua (ua txa ((fa 12) + 100 + 2 * (fa 14)) 21) ((fa 12) + 100 + 2 * (fa 14) + 1) 0)) 313 pla)) (Eq.trans (congrArg (fun z => up z 311 _) (up_k (by decide) (up_k (by decide) (up_up _ _ _ _)))) (up_k (by decide) (up_up _ _ _ _))) ?_
            exact x_fg (ct35 (ua fa 14 ((fa 14) + 1)) (ua (ua txa ((fa 12) + 100 + 2 * (fa 14)) 21) ((fa 12) + 100 + 2 * (fa 14) + 1) 0) (by show fa 14 + 1 = _; omega) (fun z hz => ua_ne hz) (by rw [show a = 1 by omega, es12]; rfl)) (And.intro rfl (And.intro rfl trivial))
        · -- 18 eq -> 21
          refine x_il4 dX11_either_21 ?_
          exact x_iret hQ ⟨ra, fa, txa, pla, (by have z := hza.resolve_left (fun z => absurd z.1 (by omega)); obtain ⟨z1, z2, z3, qq, ee, z4, z5, z6, z7, z8, z9, z10⟩ := z; rw [a7, a5, ← emL_app] at z6; refine Or.inr ⟨z1, z2, z3, qq, em ++ ee, ?_, z5, z6, by omega, by rw [List.length_append]; omega, fun j hj => (z9 j hj).trans (a10 j hj), z10⟩; have y := a12 rfl 1 (ra, qq, []) ⟨_, z4, by rw [if_pos z1]⟩; rw [preR_f z1] at y; exact y), rfl, rfl, rfl⟩ dX11_either_23
  refine x_mem (V' := (up (up (up V 308 (V 308)) 311 (V 311)) 313 (V 313))) (Eq.trans (Eq.trans (show _ = (up V 308 (V 308)) from (Eq.symm (up_self _ 308))) (show _ = (up (up V 308 (V 308)) 311 (V 311)) from (Eq.symm (up_self _ 311)))) (show _ = (up (up (up V 308 (V 308)) 311 (V 311)) 313 (V 313)) from (Eq.symm (up_self _ 313)))) ?_
  exact x_fg (lp6 _ 0 0 1 (V 308) (V 311) (V 313) p0 ([]) (EiI_0 hPS hPb) (Nat.lt_succ_self _)) (And.intro rfl (And.intro rfl (And.intro rfl (And.intro rfl trivial))))
