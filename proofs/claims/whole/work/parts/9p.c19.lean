set_option maxRecDepth 100000 in
set_option maxHeartbeats 4000000 in
theorem c_X1_solve {B : Bs} {S : Stt} {V : Va} (a : Int → Int) (hS : Stat S) (hW : WSim V 1 a) (hB : WB V 1) (hM : MIv a) (hch : 0 ≤ (V 1 10) ∧ (V 1 10) ≤ 1000000) (h37 : InR (V 297 7)) (hCB : CB18 (V 301)) (hPC : PsC a V) : C B yX1_solve cX1_solve 4 none 4 0 0 [vR B 297] S V (rVR S (fun VN => FrP V VN ∧ CB18 (VN 301) ∧ PsE a (VN 301 0) (VN 302 0) ∧ VN 297 7 = VN 1 10)) := by
  refine C.of [some (vR B 297), none, none, none] ?_
  intro Γ hQ
  have s4 : V 134 4 = a 6 := hW.2.2.2.2.2.1
  have i6 := hM.2.2.1
  have hq4 : 0 ≤ V 134 4 ∧ V 134 4 ≤ 12 := by omega
  obtain ⟨n, hn⟩ : ∃ n : Nat, V 134 4 = n := ⟨(V 134 4).toNat, by omega⟩
  have hyr := hB.2.2.2.2.2.2.2.2.2.2.1
  refine x_al0 dX1_solve_0 ?_
  refine x_getI fl_X1_28 (sh_297 hS) (lq_297 hS) dX1_solve_1 ?_
  refine x_topI (a' := V 297 7) rfl ?_
  refine x_al0 dX1_solve_4 ?_
  refine x_getR fl_X1_32 (sh_297 hS) (lq_297 hS) (rf_297_0 hS) dX1_solve_5 ?_
  refine x_getI fl_X1_45 (sh_1 hS) (lq_1 hS) dX1_solve_8 ?_
  refine x_topI (a' := V 1 10) rfl ?_
  refine x_icmp_ne (tgt := 15) dX1_solve_11 (inr (by omega)) (inr (by omega)) (fun c11_1 => ?_) (fun c11_1 => ?_)
  · -- 11 ne -> 15
    refine x_al0 dX1_solve_15 ?_
    refine x_al0 dX1_solve_16 ?_
    refine x_getR fl_X1_32 (sh_297 hS) (lq_297 hS) (rf_297_0 hS) dX1_solve_17 ?_
    refine x_getI fl_X1_45 (sh_1 hS) (lq_1 hS) dX1_solve_20 ?_
    refine x_topI (a' := V 1 10) rfl ?_
    refine x_putI fl_X1_28 (sh_297 hS) (lq_297 hS) dX1_solve_23 ?_
    refine x_mem (V' := (up V 297 (ua (V 297) 7 (V 1 10)))) rfl ?_
    obtain ⟨V0, hV0⟩ : ∃ z : Va, z = (up V 297 (ua (V 297) 7 (V 1 10))) := ⟨_, rfl⟩
    refine x_mem (V' := V0) hV0.symm ?_
    refine x_al0 dX1_solve_26 ?_
    refine x_cVvR mm_X1_sortByYear ml_X1_48 dX1_solve_27 (c_X1_sortByYear hS (by rw [hV0]; exact hq4) (by rw [hV0]; exact hyr)) (sh_297 hS) (lq_297 hS) (fun W2 hw2 => ?_)
    obtain ⟨o, ea, pa, pb⟩ := hw2
    have w134 : W2 134 4 = n := by rw [ea]; show V0 134 4 = _; rw [hV0]; exact hn
    have e298 : W2 298 = o := by rw [ea]; rfl
    have pA : PmS (W2 298) n := by rw [e298]; have q := pa; rw [hV0] at q; rw [← hn]; exact q
    have e138 : W2 138 = V 138 := by rw [ea, hV0]; rfl
    have pB : Srt (W2 138) (W2 298) n := by rw [e298, e138, ← hn]; have q := pb; rw [hV0] at q; exact q
    have hW2 : WSim W2 1 a := WSim_c (fun q q0 q1 => by rw [ea, up_ne (by omega), hV0, up_ne (by omega)]) hW
    have hB2 : WB W2 1 := WB_c (fun q q0 q1 => by rw [ea, up_ne (by omega), hV0, up_ne (by omega)]) hB
    have h6 : a 6 = n := by omega
    have hn12 : n ≤ 12 := by omega
    have e11 : p2 11 = 2048 := by decide
    have hSS := p2_le (t := W2 134 4 - 1) (u := if W2 134 4 - 1 < 0 then 0 else W2 134 4 - 1) (by split <;> omega)
    have hSb := p2_le (t := if W2 134 4 - 1 < 0 then 0 else W2 134 4 - 1) (u := 11) (by split <;> omega)
    have hSp := p2_pos (if W2 134 4 - 1 < 0 then 0 else W2 134 4 - 1)
    have hsx : 0 ≤ (if W2 134 4 - 1 < 0 then 0 else W2 134 4 - 1) ∧ (if W2 134 4 - 1 < 0 then 0 else W2 134 4 - 1) ≤ 11 := by split <;> omega
    have h134 : 0 ≤ W2 134 4 ∧ W2 134 4 ≤ 12 ∧ 0 ≤ W2 134 5 ∧ W2 134 5 ≤ 9 ∧ 1 ≤ W2 134 6 ∧ W2 134 6 ≤ 99 := by have m4 := hM.2.2.2.1; have z := hW2.2.2.2.2.2; have z5 : W2 134 5 = a 7 := z.2.1; have z6 : W2 134 6 = a 8 := z.2.2.1; omega
    have h135 : ∀ s, 0 ≤ s → s < W2 134 4 → 0 ≤ W2 135 s ∧ W2 135 s < 10 := fun s s0 s1 => by have z : W2 135 s = a (126 + 4 * s) := (hW2.2.2.2.2.2.2.2.2 s s0 (by omega)).1; have y := (hM.2.2.2.2.2.2.2.2.2 s s0 (by omega)).1; have i0 := hM.1.2.1; omega
    refine x_iconst dX1_solve_30 ?_
    refine x_al0 dX1_solve_31 ?_
    refine x_getR fl_X1_32 (sh_297 hS) (lq_297 hS) (rf_297_0 hS) dX1_solve_32 ?_
    refine x_getR fl_X1_51 (sh_1 hS) (lq_1 hS) (rf_1_6 hS) dX1_solve_35 ?_
    refine x_getI fl_X1_55 (sh_134 hS) (lq_134 hS) dX1_solve_38 ?_
    refine x_topI (a' := W2 134 4) rfl ?_
    refine x_iconst dX1_solve_41 ?_
    refine x_isub dX1_solve_42 ?_
    refine x_iconst dX1_solve_43 ?_
    refine x_mmax ml_X1_60 dX1_solve_44 (inr (by omega)) (inr (by decide)) ?_
    refine x_shl1 hsx.1 (by omega) dX1_solve_47 ?_
    refine x_is1 dX1_solve_48 ?_
    refine x_iconst dX1_solve_49 ?_
    refine x_is2 dX1_solve_50 ?_
    have lp51 : ∀ (N51 : Nat) (A : Int) (cs : Int → Int) (ws : Int → Int), (0 ≤ A ∧ A ≤ p2 (if W2 134 4 - 1 < 0 then 0 else W2 134 4 - 1)) → (∀ x, 0 ≤ x → x < A → cs x = 0 ∧ ws x = 1) → (CB18 cs) → (p2 (if W2 134 4 - 1 < 0 then 0 else W2 134 4 - 1) - A).toNat < N51 → X Γ B RX1 "solve" cX1_solve 4 none 4 0 0 51 [some (vR B 297), some (vI (p2 (if (W2 134 4) - 1 < 0 then 0 else (W2 134 4) - 1))), some (vI A), none] [] 0 0 S (up (up W2 301 cs) 302 ws) := by
      intro N51
      induction N51 with
      | zero => intro A cs ws hA hz hcb hN; exact absurd hN (Nat.not_lt_zero _)
      | succ N51 ih51 =>
        intro A cs ws hA hz hcb hN51
        refine x_il2 dX1_solve_51 ?_
        refine x_il1 dX1_solve_52 ?_
        refine x_icmp_ge (tgt := 76) dX1_solve_53 (inr (by omega)) (inr (by omega)) (fun c53_3 => ?_) (fun c53_3 => ?_)
        · -- 53 ge -> 76
          refine x_al0 dX1_solve_76 ?_
          refine x_getR fl_X1_32 (sh_297 hS) (lq_297 hS) (rf_297_0 hS) dX1_solve_77 ?_
          refine x_getR fl_X1_51 (sh_1 hS) (lq_1 hS) (rf_1_6 hS) dX1_solve_80 ?_
          refine x_getI fl_X1_55 (sh_134 hS) (lq_134 hS) dX1_solve_83 ?_
          refine x_topI (a' := W2 134 4) rfl ?_
          refine x_iconst dX1_solve_86 ?_
          refine x_isub dX1_solve_87 ?_
          refine x_is2 dX1_solve_88 ?_
          have lp89 : ∀ (N89 : Nat) (q : Int) (c : Int) (bt : Int → Int) (pc : Int → Int) (cs : Int → Int) (ws : Int → Int), (-1 ≤ q ∧ q < n) → (CB18 cs) → (TbL a (W2 298) n ((n : Int) - (q + 1)).toNat (p2 q) cs ws) → (q + 1).toNat < N89 → X Γ B RX1 "solve" cX1_solve 4 none 4 0 0 89 [some (vR B 297), some (vI (p2 (if (W2 134 4) - 1 < 0 then 0 else (W2 134 4) - 1))), some (vI q), none] [] 0 0 S (up (up (up (up (up W2 297 (ua (W2 297) 4 c)) 299 bt) 300 pc) 301 cs) 302 ws) := by
            intro N89
            induction N89 with
            | zero => intro q c bt pc cs ws hq hcb hT hN; exact absurd hN (Nat.not_lt_zero _)
            | succ N89 ih89 =>
              intro q c bt pc cs ws hq hcb hT hN89
              refine x_il2 dX1_solve_89 ?_
              refine x_if_lt (tgt := 124) dX1_solve_90 (inr (by omega)) (fun c90_4 => ?_) (fun c90_4 => ?_)
              · -- 90 lt -> 124
                exact x_vret hQ ⟨rfl, rfl, (fun j hj => by rw [up_ne (by omega), up_ne (by omega), up_ne (by omega), up_ne (by omega), up_ne (by omega), ea, up_ne (by omega), hV0, up_ne (by omega)]), hcb, (by have z := hT; rw [show q = -1 by omega, show ((n : Int) - (-1 + 1)).toNat = n by omega] at z; exact TbL_fin hn12 h6 pA pB.1 (p2_pos _) z), (by show W2 297 7 = W2 1 10; rw [ea, hV0]; rfl)⟩ dX1_solve_124
              · -- 90 lt -> 93
                refine x_al0 dX1_solve_93 ?_
                refine x_il2 dX1_solve_94 ?_
                refine x_cVvR mm_X1_link ml_X1_66 dX1_solve_95 (c_X1_link q hS (show 0 ≤ (W2 134 4) ∧ (W2 134 4) ≤ 12 ∧ 0 ≤ (W2 134 5) ∧ (W2 134 5) ≤ 9 ∧ 1 ≤ (W2 134 6) ∧ (W2 134 6) ≤ 99 from h134) (show AB (W2 2) from hB2.1) (show AB (W2 3) from hB2.2.1) (show AB (W2 136) from hB2.2.2.2.2.2.2.2.2.1) (show ∀ s, 0 ≤ (W2 138) s ∧ (W2 138) s ≤ 999 from hB2.2.2.2.2.2.2.2.2.2.2.1) (show ∀ s, 0 ≤ (W2 137) s ∧ (W2 137) s ≤ 999 from hB2.2.2.2.2.2.2.2.2.2.1) (show ∀ s, 0 ≤ s → s < (W2 134 4) → 0 ≤ (W2 135) s ∧ (W2 135) s < 10 from h135) (show 0 ≤ q ∧ q < (W2 134 4) from (by omega)) (show Srt (W2 138) (W2 298) (W2 134 4) from (by rw [w134]; exact pB))) (sh_297 hS) (lq_297 hS) (fun W5 hw5 => ?_)
                have hpq := p2_le (t := q) (u := 11) (by omega)
                have hpp := p2_pos q
                obtain ⟨c', sel, bt', pc', el, hLk⟩ := hw5
                refine x_mem (V' := (up (up (up (up (up W2 297 (ua (ua (W2 297) 4 c) 4 c')) 299 bt') 300 pc') 301 cs) 302 ws)) (el.trans (Eq.trans (Eq.trans (congrArg (fun z => up z 300 _) (congrArg (fun z => up z 299 _) (up_k (by decide) (up_k (by decide) (up_k (by decide) (up_k (by decide) (up_up _ _ _ _))))))) (congrArg (fun z => up z 300 _) (up_k (by decide) (up_k (by decide) (up_k (by decide) (up_up _ _ _ _)))))) (up_k (by decide) (up_k (by decide) (up_up _ _ _ _))))) ?_
                have hLw : LkI W2 (W2 298 q) q c' sel bt' pc' := hLk
                refine x_iconst dX1_solve_98 ?_
                refine x_is3 dX1_solve_99 ?_
                have lp100 : ∀ (N100 : Nat) (x : Int) (cs : Int → Int) (ws : Int → Int), (0 ≤ x ∧ x ≤ p2 q) → (CB18 cs) → (TbI a (W2 298) n ((n : Int) - (q + 1)).toNat q x cs ws) → (p2 q - x).toNat < N100 → X Γ B RX1 "solve" cX1_solve 4 none 4 0 0 100 [some (vR B 297), some (vI (p2 (if (W2 134 4) - 1 < 0 then 0 else (W2 134 4) - 1))), some (vI q), some (vI x)] [] 0 0 S (up (up (up (up (up W2 297 (ua (ua (W2 297) 4 c) 4 c')) 299 bt') 300 pc') 301 cs) 302 ws) := by
                  intro N100
                  induction N100 with
                  | zero => intro x cs ws hx hcb2 hI hN; exact absurd hN (Nat.not_lt_zero _)
                  | succ N100 ih100 =>
                    intro x cs ws hx hcb2 hI hN100
                    refine x_il3 dX1_solve_100 ?_
                    refine x_iconst dX1_solve_101 ?_
                    refine x_il2 dX1_solve_102 ?_
                    refine x_shl1 (by omega) (by omega) dX1_solve_103 ?_
                    refine x_icmp_ge (tgt := 118) dX1_solve_104 (inr (by omega)) (inr (by omega)) (fun c104_6 => ?_) (fun c104_6 => ?_)
                    · -- 104 ge -> 118
                      refine x_dec2 dX1_solve_118 ?_
                      refine x_goto (tgt := 89) dX1_solve_121 ?_
                      refine x_mem (V' := (up (up (up (up (up W2 297 (ua (W2 297) 4 c')) 299 bt') 300 pc') 301 cs) 302 ws)) (upE (upE (upE (upE (upE rfl (ua_ua _ _ _ _)) rfl) rfl) rfl) rfl) ?_
                      exact x_fg (ih89 (q - 1) c' bt' pc' cs ws (by omega) hcb2 (by rw [show ((n : Int) - (q - 1 + 1)).toNat = ((n : Int) - (q + 1)).toNat + 1 by omega]; exact fun A A0 A1 => TbI_e hI (by omega) A A0 (by have := p2_le (t := q - 1) (u := q) (by omega); omega)) (by omega)) (And.intro rfl (And.intro rfl (And.intro rfl trivial)))
                    · -- 104 ge -> 107
                      refine x_al0 dX1_solve_107 ?_
                      refine x_il3 dX1_solve_108 ?_
                      refine x_cVv mm_X1_choose ml_X1_70 dX1_solve_109 (c_X1_choose x hS (by omega) (show ∀ s, 0 ≤ s → s < 2048 → 0 ≤ cs s ∧ cs s ≤ 1000000000000000000 from (fun s _ _ => hcb2 s)) (show 0 ≤ c' ∧ c' ≤ 12 from (by have z := hLw.1; show 0 ≤ c' ∧ c' ≤ 12; omega)) (show ∀ k, 0 ≤ k → k < c' → 0 ≤ bt' k ∧ bt' k < 2048 from (fun k k0 k1 => by have z := hLw.2.1 k k0 k1; show 0 ≤ bt' k ∧ bt' k < 2048; rw [z.2.2.1]; have y := p2_pos (sel k); have y2 := p2_lt z.1 (show sel k < 11 by omega); omega)) (show ∀ k, 0 ≤ k → k < c' → 0 ≤ pc' k ∧ pc' k ≤ 1000000000000000000 from (fun k k0 k1 => by have z := hLw.2.1 k k0 k1; show 0 ≤ pc' k ∧ pc' k ≤ 1000000000000000000; rw [z.2.2.2]; have y := pB.1 (sel k) z.1 (by omega); have y2 := pB.1 q (by omega) (by omega); exact lkP_r (by omega) (by omega) (by omega) (by omega)))) (sh_297 hS) (lq_297 hS) ?_
                      refine x_mem (V' := (up (up (up (up (up W2 297 (ua (ua (W2 297) 4 c) 4 c')) 299 bt') 300 pc') 301 (ua cs x ((chF cs ws bt' pc' x (c').toNat).1))) 302 (ua ws x ((chF cs ws bt' pc' x (c').toNat).2)))) (Eq.trans (congrArg (fun z => up z 302 _) (up_k (by decide) (up_up _ _ _ _))) (up_up _ _ _ _)) ?_
                      refine x_inc3 dX1_solve_112 ?_
                      refine x_goto (tgt := 100) dX1_solve_115 ?_
                      exact x_fg (ih100 (x + 1) (ua cs x ((chF cs ws bt' pc' x (c').toNat).1)) (ua ws x ((chF cs ws bt' pc' x (c').toNat).2)) (by omega) (CB18_u hcb2 x (by have z := TbI_C hn12 (by omega) pA hx.1 (TbI_s hW2 hM h6 hn12 pA pB (by omega) (by omega) hx.1 (by omega) hLw hI); rw [ua_same] at z; exact z)) (TbI_s hW2 hM h6 hn12 pA pB (by omega) (by omega) hx.1 (by omega) hLw hI) (by omega)) (And.intro rfl (And.intro rfl (And.intro rfl (And.intro rfl trivial))))
                exact x_fg (lp100 _ 0 cs ws (by omega) hcb (TbI_0 hT (Int.le_refl _)) (Nat.lt_succ_self _)) (And.intro rfl (And.intro rfl (And.intro rfl (And.intro rfl trivial))))
          refine x_mem (V' := (up (up (up (up (up W2 297 (ua (W2 297) 4 (W2 297 4))) 299 (W2 299)) 300 (W2 300)) 301 cs) 302 ws)) (Eq.trans (Eq.trans (Eq.trans (show _ = (up (up (up W2 297 (W2 297)) 301 cs) 302 ws) from (Eq.trans (Eq.symm (up_self _ 297)) (up_k (by decide) (up_k (by decide) rfl)))) (show _ = (up (up (up (up W2 297 (W2 297)) 299 (W2 299)) 301 cs) 302 ws) from (Eq.trans (Eq.symm (up_self _ 299)) (up_k (by decide) (up_k (by decide) rfl))))) (show _ = (up (up (up (up (up W2 297 (W2 297)) 299 (W2 299)) 300 (W2 300)) 301 cs) 302 ws) from (Eq.trans (Eq.symm (up_self _ 300)) (up_k (by decide) (up_k (by decide) rfl))))) (show (up (up (up (up (up W2 297 (W2 297)) 299 (W2 299)) 300 (W2 300)) 301 cs) 302 ws) = (up (up (up (up (up W2 297 (ua (W2 297) 4 (W2 297 4))) 299 (W2 299)) 300 (W2 300)) 301 cs) 302 ws) from (upE (upE (upE (upE (upE rfl (by funext z; simp only [ua]; split <;> first | rfl | (rename_i e; rw [e]))) rfl) rfl) rfl) rfl))) ?_
          exact x_fg (lp89 _ ((W2 134 4) - 1) (W2 297 4) (W2 299) (W2 300) cs ws (by omega) (by omega) (by rw [show ((n : Int) - (W2 134 4 - 1 + 1)).toNat = 0 by omega]; exact TbL_0 hn12 (fun x x0 x1 => hz x x0 (by omega))) (Nat.lt_succ_self _)) (And.intro rfl (And.intro rfl (And.intro rfl trivial)))
        · -- 53 ge -> 56
          refine x_al0 dX1_solve_56 ?_
          refine x_getR fl_X1_22 (sh_297 hS) (lq_297 hS) (rf_297_5 hS) dX1_solve_57 ?_
          refine x_il2 dX1_solve_60 ?_
          refine x_lconst0 dX1_solve_61 ?_
          refine x_last (sh_301 hS) (lq_301 hS) (by omega) (by omega) dX1_solve_62 ?_
          refine x_mem (V' := (up (up W2 301 (ua cs A 0)) 302 ws)) (st2_c (by decide) (st2_up _ _ _ _ _)) ?_
          refine x_al0 dX1_solve_63 ?_
          refine x_getR fl_X1_25 (sh_297 hS) (lq_297 hS) (rf_297_6 hS) dX1_solve_64 ?_
          refine x_il2 dX1_solve_67 ?_
          refine x_lconst1 dX1_solve_68 ?_
          refine x_last (sh_302 hS) (lq_302 hS) (by omega) (by omega) dX1_solve_69 ?_
          refine x_mem (V' := (up (up W2 301 (ua cs A 0)) 302 (ua ws A 1))) (st2_up _ _ _ _ _) ?_
          refine x_inc2 dX1_solve_70 ?_
          refine x_goto (tgt := 51) dX1_solve_73 ?_
          exact x_fg (ih51 (A + 1) (ua cs A 0) (ua ws A 1) (by omega) (fun x x0 x1 => by by_cases e : x = A; (rw [e, ua_same, ua_same]; exact ⟨rfl, rfl⟩); (rw [ua_ne e, ua_ne e]; exact hz x x0 (by omega))) (CB18_u hcb A (by omega)) (by omega)) (And.intro rfl (And.intro rfl (And.intro rfl trivial)))
    refine x_mem (V' := (up (up W2 301 (W2 301)) 302 (W2 302))) (Eq.trans (show _ = (up W2 301 (W2 301)) from (Eq.symm (up_self _ 301))) (show _ = (up (up W2 301 (W2 301)) 302 (W2 302)) from (Eq.symm (up_self _ 302)))) ?_
    exact x_fg (lp51 _ 0 (W2 301) (W2 302) (by omega) (fun x x0 x1 => by omega) (by rw [show W2 301 = V 301 by rw [ea, hV0]; rfl]; exact hCB) (Nat.lt_succ_self _)) (And.intro rfl (And.intro rfl (And.intro rfl trivial)))
  · -- 11 ne -> 14
    exact x_vret hQ ⟨rfl, rfl, fun q _ => rfl, hCB, hPC (by omega), (by omega)⟩ dX1_solve_14
