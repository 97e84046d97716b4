set_option maxRecDepth 100000 in
set_option maxHeartbeats 4000000 in
theorem c_X6_compare {B : Bs} {S : Stt} {V : Va} (a : Int → Int) (tx : Int → Int) (hS : Stat S) (hW : WSim V 1 a) (hB : WB V 1) (hM : MIv a) (hTx : TSim S V 133 a tx) (hn9 : 0 ≤ (V 289 9) ∧ (V 289 9) ≤ 12) (hbo : ∀ i, 0 ≤ i → i < (V 289 9) → 0 ≤ (V 290) i ∧ (V 290) i < a 1) : C B yX6_compare cX6_compare 4 none 6 0 0 [vR B 289] S V (rVR S (fun VN => (∀ q : Nat, q < 287 ∨ 294 < q ∨ q = 289 ∨ q = 290 → VN q = V q) ∧ CmI (VN 291) (fun x y => x ≠ y ∧ ClV V a tx x y) False (V 289 9) 0 ∧ CmI (VN 292) (fun x y => V 4 (V 290 x) = V 4 (V 290 y)) False (V 289 9) 0 ∧ (∀ x, 0 ≤ x → x < (V 289 9) → VN 294 x = mMany a tx (V 4 (V 290 x))) ∧ ∀ s, 0 ≤ s → s < 12 → VN 293 s = 0)) := by
  refine C.of [some (vR B 289), none, none, none] ?_
  intro Γ hQ
  have w7 : V 1 7 = a 0 := hW.1.1
  have w8 : V 1 8 = a 3 := hW.1.2.1
  have w9 : V 1 9 = a 4 := hW.1.2.2
  have w55 : V 5 5 = a 1 := hW.2.2.2.1.1
  have i0 := hM.1.2.1
  have i1 := hM.1.2.2.1
  have i2 := hM.1.2.2.2.1
  have i4 := hM.1.2.2.2.2.1
  have i3 := hM.2.1
  have e12 : p2 12 = 4096 := by decide
  have hkd : ∀ i, 0 ≤ i → i < V 289 9 → V 4 (V 290 i) = a (30 + 6 * V 290 i) ∧ 0 ≤ V 4 (V 290 i) ∧ V 4 (V 290 i) ≤ 19 := fun i j0 j1 => by have k1 := hW.2.2.1 (V 290 i) (hbo i j0 j1).1 (hbo i j0 j1).2; have k2 := hM.2.2.2.2.2.1 (V 290 i) (hbo i j0 j1).1 (hbo i j0 j1).2; have k3 : V 4 (V 290 i) = a (30 + 6 * V 290 i) := k1; exact ⟨k3, by omega, by omega⟩
  refine x_al0 dX6_compare_0 ?_
  refine x_getR fl_X6_15 (sh_289 hS) (lq_289 hS) (rf_289_3 hS) dX6_compare_1 ?_
  refine x_iconst dX6_compare_4 ?_
  refine x_cSv mm_J7_fill_53178 ml_X6_88 dX6_compare_5 (c_J7_fill_291 0 hS) ?_
  refine x_al0 dX6_compare_8 ?_
  refine x_getR fl_X6_18 (sh_289 hS) (lq_289 hS) (rf_289_4 hS) dX6_compare_9 ?_
  refine x_iconst dX6_compare_12 ?_
  refine x_cSv mm_J7_fill_53178 ml_X6_88 dX6_compare_13 (c_J7_fill_292 0 hS) ?_
  refine x_mem (V' := (up (up V 291 (filK (V 291) (fun _ => 0) 12)) 292 (filK (V 292) (fun _ => 0) 12))) rfl ?_
  refine x_al0 dX6_compare_16 ?_
  refine x_getR fl_X6_21 (sh_289 hS) (lq_289 hS) (rf_289_5 hS) dX6_compare_17 ?_
  refine x_iconst dX6_compare_20 ?_
  refine x_cSv mm_J7_fill_53178 ml_X6_88 dX6_compare_21 (c_J7_fill_293 0 hS) ?_
  refine x_mem (V' := (up (up (up V 291 (filK (V 291) (fun _ => 0) 12)) 292 (filK (V 292) (fun _ => 0) 12)) 293 (filK (V 293) (fun _ => 0) 12))) rfl ?_
  refine x_iconst dX6_compare_24 ?_
  refine x_is1 dX6_compare_25 ?_
  have lp26 : ∀ (N26 : Nat) (i : Int) (c1 : Int → Int) (c2 : Int → Int) (rm : Int → Int) (f : Int → Int) (g : Int → Int), (0 ≤ i ∧ i ≤ V 289 9) → (CmI c1 (fun x y => x ≠ y ∧ ClV V a tx x y) False i 0) → (CmI c2 (fun x y => V 4 (V 290 x) = V 4 (V 290 y)) False i 0) → (∀ x, 0 ≤ x → x < i → rm x = mMany a tx (V 4 (V 290 x))) → (V 289 9 - i).toNat < N26 → X Γ B RX6 "compare" cX6_compare 4 none 6 0 0 26 [some (vR B 289), some (vI i), none, none] [] 0 0 S (up (up (up (up (up (up V 287 f) 288 g) 291 c1) 292 c2) 293 (filK (V 293) (fun _ => 0) 12)) 294 rm) := by
    intro N26
    induction N26 with
    | zero => intro i c1 c2 rm f g hi h1 h2 hr hN; exact absurd hN (Nat.not_lt_zero _)
    | succ N26 ih26 =>
      intro i c1 c2 rm f g hi h1 h2 hr hN26
      refine x_il1 dX6_compare_26 ?_
      refine x_al0 dX6_compare_27 ?_
      refine x_getI fl_X6_68 (sh_289 hS) (lq_289 hS) dX6_compare_28 ?_
      refine x_topI (a' := V 289 9) rfl ?_
      refine x_icmp_ge (tgt := 214) dX6_compare_31 (inr (by omega)) (inr (by omega)) (fun c31_1 => ?_) (fun c31_1 => ?_)
      · -- 31 ge -> 214
        exact x_vret hQ ⟨rfl, rfl, (fun q hq => by rw [up_ne (by omega), up_ne (by omega), up_ne (by omega), up_ne (by omega), up_ne (by omega), up_ne (by omega)]), (by have q := h1; rw [show i = V 289 9 by omega] at q; exact q), (by have q := h2; rw [show i = V 289 9 by omega] at q; exact q), (fun x x0 x1 => hr x x0 (by omega)), fun s s0 s1 => (show filK (V 293) (fun _ => 0) 12 s = 0 from filK_rd s0 s1)⟩ dX6_compare_214
      · -- 31 ge -> 34
        have hki := hkd i hi.1 (by omega)
        have hbi := hbo i hi.1 (by omega)
        have r0 := h2.2 i hi.1 (by omega)
        have hmm := mMany_9 hTx i3.2.2 hki.2
        refine x_al0 dX6_compare_34 ?_
        refine x_getR fl_X6_24 (sh_289 hS) (lq_289 hS) (rf_289_6 hS) dX6_compare_35 ?_
        refine x_il1 dX6_compare_38 ?_
        refine x_al0 dX6_compare_39 ?_
        refine x_getR fl_X6_41 (sh_289 hS) (lq_289 hS) (rf_289_1 hS) dX6_compare_40 ?_
        refine x_al0 dX6_compare_43 ?_
        refine x_getR fl_X6_37 (sh_289 hS) (lq_289 hS) (rf_289_0 hS) dX6_compare_44 ?_
        refine x_getR fl_X6_94 (sh_1 hS) (lq_1 hS) (rf_1_2 hS) dX6_compare_47 ?_
        refine x_al0 dX6_compare_50 ?_
        refine x_getR fl_X6_9 (sh_289 hS) (lq_289 hS) (rf_289_2 hS) dX6_compare_51 ?_
        refine x_il1 dX6_compare_54 ?_
        refine x_iald (sh_290 hS) (lq_290 hS) (by omega) (by omega) dX6_compare_55 ?_
        refine x_topI (a' := V 290 i) rfl ?_
        refine x_iald (sh_4 hS) (lq_4 hS) (by omega) (by omega) dX6_compare_56 ?_
        refine x_topI (a' := V 4 (V 290 i)) rfl ?_
        refine x_cVi mm_X2_manyOf ml_X6_97 dX6_compare_57 (c_X2_manyOf (V 4 (V 290 i)) a tx hS (WSim_c (fun q q0 q1 => by rw [up_ne (by omega), up_ne (by omega), up_ne (by omega), up_ne (by omega), up_ne (by omega), up_ne (by omega)]) hW) (WB_c (fun q q0 q1 => by rw [up_ne (by omega), up_ne (by omega), up_ne (by omega), up_ne (by omega), up_ne (by omega), up_ne (by omega)]) hB) hM (TSim_c (fun q q0 => by rw [up_ne (by omega), up_ne (by omega), up_ne (by omega), up_ne (by omega), up_ne (by omega), up_ne (by omega)]) rfl hTx) hki.2) (sh_287 hS) (lq_287 hS) ?_
        refine x_iast (sh_294 hS) (lq_294 hS) (by omega) (by omega) dX6_compare_60 ?_
        refine x_mem (V' := (up (up (up (up (up (up V 287 f) 288 g) 291 c1) 292 c2) 293 (filK (V 293) (fun _ => 0) 12)) 294 (ua rm i (mMany a tx (V 4 (V 290 i)))))) (st2_up _ _ _ _ _) ?_
        refine x_al0 dX6_compare_61 ?_
        refine x_getR fl_X6_18 (sh_289 hS) (lq_289 hS) (rf_289_4 hS) dX6_compare_62 ?_
        refine x_il1 dX6_compare_65 ?_
        refine x_dup2 dX6_compare_66 ?_
        refine x_iald (sh_292 hS) (lq_292 hS) (by omega) (by omega) dX6_compare_67 ?_
        refine x_topI (a' := c2 i) rfl ?_
        refine x_iconst dX6_compare_68 ?_
        refine x_il1 dX6_compare_69 ?_
        refine x_shl1 (by omega) (by omega) dX6_compare_70 ?_
        refine x_ior (by omega) (Int.le_of_lt (p2_pos _)) dX6_compare_71 ?_
        refine x_iast (sh_292 hS) (lq_292 hS) (by omega) (by omega) dX6_compare_72 ?_
        refine x_mem (V' := (up (up (up (up (up (up V 287 f) 288 g) 291 c1) 292 (ua c2 i (bor (c2 i) (p2 i)))) 293 (filK (V 293) (fun _ => 0) 12)) 294 (ua rm i (mMany a tx (V 4 (V 290 i)))))) (st2_c (by decide) (st2_c (by decide) (st2_up _ _ _ _ _))) ?_
        refine x_iconst dX6_compare_73 ?_
        refine x_is2 dX6_compare_74 ?_
        have lp75 : ∀ (N75 : Nat) (j : Int) (c1 : Int → Int) (c2 : Int → Int) (f : Int → Int) (g : Int → Int), (0 ≤ j ∧ j ≤ i) → (CmI c1 (fun x y => x ≠ y ∧ ClV V a tx x y) False i j) → (CmI c2 (fun x y => V 4 (V 290 x) = V 4 (V 290 y)) True i j) → (i - j).toNat < N75 → X Γ B RX6 "compare" cX6_compare 4 none 6 0 0 75 [some (vR B 289), some (vI i), some (vI j), none] [] 0 0 S (up (up (up (up (up (up V 287 f) 288 g) 291 c1) 292 c2) 293 (filK (V 293) (fun _ => 0) 12)) 294 (ua rm i (mMany a tx (V 4 (V 290 i))))) := by
          intro N75
          induction N75 with
          | zero => intro j c1 c2 f g hj g1 g2 hN; exact absurd hN (Nat.not_lt_zero _)
          | succ N75 ih75 =>
            intro j c1 c2 f g hj g1 g2 hN75
            have r1 := g1.2 i hi.1 (by omega)
            have r2 := g2.2 i hi.1 (by omega)
            have r3 := g1.2 j hj.1 (by omega)
            have r4 := g2.2 j hj.1 (by omega)
            have p_i := p2_pos i
            have p_j := p2_pos j
            refine x_il2 dX6_compare_75 ?_
            refine x_il1 dX6_compare_76 ?_
            refine x_icmp_ge (tgt := 208) dX6_compare_77 (inr (by omega)) (inr (by omega)) (fun c77_2 => ?_) (fun c77_2 => ?_)
            · -- 77 ge -> 208
              refine x_inc1 dX6_compare_208 ?_
              refine x_goto (tgt := 26) dX6_compare_211 ?_
              exact x_fg (ih26 (i + 1) c1 c2 (ua rm i (mMany a tx (V 4 (V 290 i)))) f g (by omega) (CmI_e1 (by have q := g1; rw [show j = i by omega] at q; exact q) (fun z => absurd rfl z.1)) (CmI_e2 (by have q := g2; rw [show j = i by omega] at q; exact q)) (fun x x0 x1 => by by_cases e : x = i; (rw [e, ua_same]); (rw [ua_ne e]; exact hr x x0 (by omega))) (by omega)) (And.intro rfl (And.intro rfl trivial))
            · -- 77 ge -> 80
              have hkj := hkd j hj.1 (by omega)
              have hbj := hbo j hj.1 (by omega)
              refine x_al0 dX6_compare_80 ?_
              refine x_getR fl_X6_37 (sh_289 hS) (lq_289 hS) (rf_289_0 hS) dX6_compare_81 ?_
              refine x_getR fl_X6_94 (sh_1 hS) (lq_1 hS) (rf_1_2 hS) dX6_compare_84 ?_
              refine x_al0 dX6_compare_87 ?_
              refine x_getR fl_X6_9 (sh_289 hS) (lq_289 hS) (rf_289_2 hS) dX6_compare_88 ?_
              refine x_il1 dX6_compare_91 ?_
              refine x_iald (sh_290 hS) (lq_290 hS) (by omega) (by omega) dX6_compare_92 ?_
              refine x_topI (a' := V 290 i) rfl ?_
              refine x_iald (sh_4 hS) (lq_4 hS) (by omega) (by omega) dX6_compare_93 ?_
              refine x_topI (a' := V 4 (V 290 i)) rfl ?_
              refine x_al0 dX6_compare_94 ?_
              refine x_getR fl_X6_37 (sh_289 hS) (lq_289 hS) (rf_289_0 hS) dX6_compare_95 ?_
              refine x_getR fl_X6_94 (sh_1 hS) (lq_1 hS) (rf_1_2 hS) dX6_compare_98 ?_
              refine x_al0 dX6_compare_101 ?_
              refine x_getR fl_X6_9 (sh_289 hS) (lq_289 hS) (rf_289_2 hS) dX6_compare_102 ?_
              refine x_il2 dX6_compare_105 ?_
              refine x_iald (sh_290 hS) (lq_290 hS) (by omega) (by omega) dX6_compare_106 ?_
              refine x_topI (a' := V 290 j) rfl ?_
              refine x_iald (sh_4 hS) (lq_4 hS) (by omega) (by omega) dX6_compare_107 ?_
              refine x_topI (a' := V 4 (V 290 j)) rfl ?_
              refine x_icmp_ne (tgt := 115) dX6_compare_108 (inr (by omega)) (inr (by omega)) (fun c108_3 => ?_) (fun c108_3 => ?_)
              · -- 108 ne -> 115
                refine x_iconst dX6_compare_115 ?_
                refine x_is3 dX6_compare_116 ?_
                have hsk := c108_3
                refine x_il3 dX6_compare_117 ?_
                refine x_if_eq (tgt := 145) dX6_compare_118 (inr (by decide)) (fun c118_4 => ?_) (fun c118_4 => ?_)
                · -- 118 eq -> 145
                  refine x_il3 dX6_compare_145 ?_
                  refine x_if_eq (tgt := 159) dX6_compare_146 (inr (by decide)) (fun c146_5 => ?_) (fun c146_5 => ?_)
                  · -- 146 eq -> 159
                    refine x_al0 dX6_compare_159 ?_
                    refine x_al0 dX6_compare_160 ?_
                    refine x_getR fl_X6_9 (sh_289 hS) (lq_289 hS) (rf_289_2 hS) dX6_compare_161 ?_
                    refine x_il1 dX6_compare_164 ?_
                    refine x_iald (sh_290 hS) (lq_290 hS) (by omega) (by omega) dX6_compare_165 ?_
                    refine x_topI (a' := V 290 i) rfl ?_
                    refine x_al0 dX6_compare_166 ?_
                    refine x_getR fl_X6_9 (sh_289 hS) (lq_289 hS) (rf_289_2 hS) dX6_compare_167 ?_
                    refine x_il2 dX6_compare_170 ?_
                    refine x_iald (sh_290 hS) (lq_290 hS) (by omega) (by omega) dX6_compare_171 ?_
                    refine x_topI (a' := V 290 j) rfl ?_
                    refine x_cVic mm_X6_areUnlike ml_X6_101 dX6_compare_172 (c_X6_areUnlike (V 290 i) (V 290 j) a tx hS (WSim_c (fun q q0 q1 => by rw [up_ne (by omega), up_ne (by omega), up_ne (by omega), up_ne (by omega), up_ne (by omega), up_ne (by omega)]) hW) (WB_c (fun q q0 q1 => by rw [up_ne (by omega), up_ne (by omega), up_ne (by omega), up_ne (by omega), up_ne (by omega), up_ne (by omega)]) hB) hM (TSim_c (fun q q0 => by rw [up_ne (by omega), up_ne (by omega), up_ne (by omega), up_ne (by omega), up_ne (by omega), up_ne (by omega)]) rfl hTx) (hbo i (by omega) (by omega)) (hbo j (by omega) (by omega))) (sh_289 hS) (lq_289 hS) (fun f6 g6 => ?_)
                    refine x_mem (V' := (up (up (up (up (up (up V 287 f6) 288 g6) 291 c1) 292 c2) 293 (filK (V 293) (fun _ => 0) 12)) 294 (ua rm i (mMany a tx (V 4 (V 290 i)))))) (Eq.trans (congrArg (fun z => up z 288 _) (up_k (by decide) (up_k (by decide) (up_k (by decide) (up_k (by decide) (up_k (by decide) (up_up _ _ _ _))))))) (up_k (by decide) (up_k (by decide) (up_k (by decide) (up_k (by decide) (up_up _ _ _ _)))))) ?_
                    refine x_ifb_eq (tgt := 202) dX6_compare_175 (fun c175_7 => ?_) (fun c175_7 => ?_)
                    · -- 175 eq -> 202
                      have hncl : ¬ ClV V a tx i j := fun z => by rcases z with z | z; (first | exact absurd z.1 hsk | exact absurd z.2 (by assumption)); exact absurd z (by assumption)
                      refine x_inc2 dX6_compare_202 ?_
                      refine x_goto (tgt := 75) dX6_compare_205 ?_
                      exact x_fg (ih75 (j + 1) c1 c2 f6 g6 (by omega) (CmI_no g1 hj.1 (by omega) (fun z => hncl z.2) (fun z => hncl (ClV_sy z.2))) (CmI_no g2 hj.1 (by omega) hsk (fun z => hsk z.symm)) (by omega)) (And.intro rfl (And.intro rfl (And.intro rfl trivial)))
                    · -- 175 eq -> 178
                      have hcl : ClV V a tx i j := by first | exact Or.inr c175_7 | exact Or.inl ⟨hsk, by assumption⟩
                      refine x_al0 dX6_compare_178 ?_
                      refine x_getR fl_X6_15 (sh_289 hS) (lq_289 hS) (rf_289_3 hS) dX6_compare_179 ?_
                      refine x_il1 dX6_compare_182 ?_
                      refine x_dup2 dX6_compare_183 ?_
                      refine x_iald (sh_291 hS) (lq_291 hS) (by omega) (by omega) dX6_compare_184 ?_
                      refine x_topI (a' := c1 i) rfl ?_
                      refine x_iconst dX6_compare_185 ?_
                      refine x_il2 dX6_compare_186 ?_
                      refine x_shl1 (by omega) (by omega) dX6_compare_187 ?_
                      refine x_ior (by omega) (Int.le_of_lt (p2_pos _)) dX6_compare_188 ?_
                      refine x_iast (sh_291 hS) (lq_291 hS) (by omega) (by omega) dX6_compare_189 ?_
                      refine x_mem (V' := (up (up (up (up (up (up V 287 f6) 288 g6) 291 (ua c1 i (bor (c1 i) (p2 j)))) 292 c2) 293 (filK (V 293) (fun _ => 0) 12)) 294 (ua rm i (mMany a tx (V 4 (V 290 i)))))) (st2_c (by decide) (st2_c (by decide) (st2_c (by decide) (st2_up _ _ _ _ _)))) ?_
                      refine x_al0 dX6_compare_190 ?_
                      refine x_getR fl_X6_15 (sh_289 hS) (lq_289 hS) (rf_289_3 hS) dX6_compare_191 ?_
                      refine x_il2 dX6_compare_194 ?_
                      refine x_dup2 dX6_compare_195 ?_
                      refine x_iald (sh_291 hS) (lq_291 hS) (by omega) (by omega) dX6_compare_196 ?_
                      refine x_topI (a' := c1 j) (show (ua c1 i (bor (c1 i) (p2 j))) j = c1 j from (ua_ne (by omega))) ?_
                      refine x_iconst dX6_compare_197 ?_
                      refine x_il1 dX6_compare_198 ?_
                      refine x_shl1 (by omega) (by omega) dX6_compare_199 ?_
                      refine x_ior (by omega) (Int.le_of_lt (p2_pos _)) dX6_compare_200 ?_
                      refine x_iast (sh_291 hS) (lq_291 hS) (by omega) (by omega) dX6_compare_201 ?_
                      refine x_mem (V' := (up (up (up (up (up (up V 287 f6) 288 g6) 291 (ua (ua c1 i (bor (c1 i) (p2 j))) j (bor (c1 j) (p2 i)))) 292 c2) 293 (filK (V 293) (fun _ => 0) 12)) 294 (ua rm i (mMany a tx (V 4 (V 290 i)))))) (st2_c (by decide) (st2_c (by decide) (st2_c (by decide) (st2_up _ _ _ _ _)))) ?_
                      refine x_inc2 dX6_compare_202 ?_
                      refine x_goto (tgt := 75) dX6_compare_205 ?_
                      exact x_fg (ih75 (j + 1) (ua (ua c1 i (bor (c1 i) (p2 j))) j (bor (c1 j) (p2 i))) c2 f6 g6 (by omega) (CmI_on g1 hj.1 (by omega) (by omega) ⟨by omega, hcl⟩ ⟨by omega, ClV_sy hcl⟩) (CmI_no g2 hj.1 (by omega) hsk (fun z => hsk z.symm)) (by omega)) (And.intro rfl (And.intro rfl (And.intro rfl trivial)))
                  · exact absurd c146_5 (by decide)
                · exact absurd c118_4 (by decide)
              · -- 108 ne -> 111
                refine x_iconst dX6_compare_111 ?_
                refine x_goto (tgt := 116) dX6_compare_112 ?_
                refine x_is3 dX6_compare_116 ?_
                have hsk := c108_3
                refine x_il3 dX6_compare_117 ?_
                refine x_if_eq (tgt := 145) dX6_compare_118 (inr (by decide)) (fun c118_8 => ?_) (fun c118_8 => ?_)
                · exact absurd c118_8 (by decide)
                · -- 118 eq -> 121
                  refine x_al0 dX6_compare_121 ?_
                  refine x_getR fl_X6_18 (sh_289 hS) (lq_289 hS) (rf_289_4 hS) dX6_compare_122 ?_
                  refine x_il1 dX6_compare_125 ?_
                  refine x_dup2 dX6_compare_126 ?_
                  refine x_iald (sh_292 hS) (lq_292 hS) (by omega) (by omega) dX6_compare_127 ?_
                  refine x_topI (a' := c2 i) rfl ?_
                  refine x_iconst dX6_compare_128 ?_
                  refine x_il2 dX6_compare_129 ?_
                  refine x_shl1 (by omega) (by omega) dX6_compare_130 ?_
                  refine x_ior (by omega) (Int.le_of_lt (p2_pos _)) dX6_compare_131 ?_
                  refine x_iast (sh_292 hS) (lq_292 hS) (by omega) (by omega) dX6_compare_132 ?_
                  refine x_mem (V' := (up (up (up (up (up (up V 287 f) 288 g) 291 c1) 292 (ua c2 i (bor (c2 i) (p2 j)))) 293 (filK (V 293) (fun _ => 0) 12)) 294 (ua rm i (mMany a tx (V 4 (V 290 i)))))) (st2_c (by decide) (st2_c (by decide) (st2_up _ _ _ _ _))) ?_
                  refine x_al0 dX6_compare_133 ?_
                  refine x_getR fl_X6_18 (sh_289 hS) (lq_289 hS) (rf_289_4 hS) dX6_compare_134 ?_
                  refine x_il2 dX6_compare_137 ?_
                  refine x_dup2 dX6_compare_138 ?_
                  refine x_iald (sh_292 hS) (lq_292 hS) (by omega) (by omega) dX6_compare_139 ?_
                  refine x_topI (a' := c2 j) (show (ua c2 i (bor (c2 i) (p2 j))) j = c2 j from (ua_ne (by omega))) ?_
                  refine x_iconst dX6_compare_140 ?_
                  refine x_il1 dX6_compare_141 ?_
                  refine x_shl1 (by omega) (by omega) dX6_compare_142 ?_
                  refine x_ior (by omega) (Int.le_of_lt (p2_pos _)) dX6_compare_143 ?_
                  refine x_iast (sh_292 hS) (lq_292 hS) (by omega) (by omega) dX6_compare_144 ?_
                  refine x_mem (V' := (up (up (up (up (up (up V 287 f) 288 g) 291 c1) 292 (ua (ua c2 i (bor (c2 i) (p2 j))) j (bor (c2 j) (p2 i)))) 293 (filK (V 293) (fun _ => 0) 12)) 294 (ua rm i (mMany a tx (V 4 (V 290 i)))))) (st2_c (by decide) (st2_c (by decide) (st2_up _ _ _ _ _))) ?_
                  refine x_il3 dX6_compare_145 ?_
                  refine x_if_eq (tgt := 159) dX6_compare_146 (inr (by decide)) (fun c146_9 => ?_) (fun c146_9 => ?_)
                  · exact absurd c146_9 (by decide)
                  · -- 146 eq -> 149
                    refine x_al0 dX6_compare_149 ?_
                    refine x_getR fl_X6_24 (sh_289 hS) (lq_289 hS) (rf_289_6 hS) dX6_compare_150 ?_
                    refine x_il1 dX6_compare_153 ?_
                    refine x_iald (sh_294 hS) (lq_294 hS) (by omega) (by omega) dX6_compare_154 ?_
                    refine x_topI (a' := mMany a tx (V 4 (V 290 i))) (show (ua rm i (mMany a tx (V 4 (V 290 i)))) i = mMany a tx (V 4 (V 290 i)) from (ua_same _ _ _)) ?_
                    refine x_iconst dX6_compare_155 ?_
                    refine x_icmp_eq (tgt := 178) dX6_compare_156 (inr (by omega)) (inr (by decide)) (fun c156_10 => ?_) (fun c156_10 => ?_)
                    · -- 156 eq -> 178
                      have hcl : ClV V a tx i j := by first | exact Or.inr c175_7 | exact Or.inl ⟨hsk, by assumption⟩
                      refine x_al0 dX6_compare_178 ?_
                      refine x_getR fl_X6_15 (sh_289 hS) (lq_289 hS) (rf_289_3 hS) dX6_compare_179 ?_
                      refine x_il1 dX6_compare_182 ?_
                      refine x_dup2 dX6_compare_183 ?_
                      refine x_iald (sh_291 hS) (lq_291 hS) (by omega) (by omega) dX6_compare_184 ?_
                      refine x_topI (a' := c1 i) rfl ?_
                      refine x_iconst dX6_compare_185 ?_
                      refine x_il2 dX6_compare_186 ?_
                      refine x_shl1 (by omega) (by omega) dX6_compare_187 ?_
                      refine x_ior (by omega) (Int.le_of_lt (p2_pos _)) dX6_compare_188 ?_
                      refine x_iast (sh_291 hS) (lq_291 hS) (by omega) (by omega) dX6_compare_189 ?_
                      refine x_mem (V' := (up (up (up (up (up (up V 287 f) 288 g) 291 (ua c1 i (bor (c1 i) (p2 j)))) 292 (ua (ua c2 i (bor (c2 i) (p2 j))) j (bor (c2 j) (p2 i)))) 293 (filK (V 293) (fun _ => 0) 12)) 294 (ua rm i (mMany a tx (V 4 (V 290 i)))))) (st2_c (by decide) (st2_c (by decide) (st2_c (by decide) (st2_up _ _ _ _ _)))) ?_
                      refine x_al0 dX6_compare_190 ?_
                      refine x_getR fl_X6_15 (sh_289 hS) (lq_289 hS) (rf_289_3 hS) dX6_compare_191 ?_
                      refine x_il2 dX6_compare_194 ?_
                      refine x_dup2 dX6_compare_195 ?_
                      refine x_iald (sh_291 hS) (lq_291 hS) (by omega) (by omega) dX6_compare_196 ?_
                      refine x_topI (a' := c1 j) (show (ua c1 i (bor (c1 i) (p2 j))) j = c1 j from (ua_ne (by omega))) ?_
                      refine x_iconst dX6_compare_197 ?_
                      refine x_il1 dX6_compare_198 ?_
                      refine x_shl1 (by omega) (by omega) dX6_compare_199 ?_
                      refine x_ior (by omega) (Int.le_of_lt (p2_pos _)) dX6_compare_200 ?_
                      refine x_iast (sh_291 hS) (lq_291 hS) (by omega) (by omega) dX6_compare_201 ?_
                      refine x_mem (V' := (up (up (up (up (up (up V 287 f) 288 g) 291 (ua (ua c1 i (bor (c1 i) (p2 j))) j (bor (c1 j) (p2 i)))) 292 (ua (ua c2 i (bor (c2 i) (p2 j))) j (bor (c2 j) (p2 i)))) 293 (filK (V 293) (fun _ => 0) 12)) 294 (ua rm i (mMany a tx (V 4 (V 290 i)))))) (st2_c (by decide) (st2_c (by decide) (st2_c (by decide) (st2_up _ _ _ _ _)))) ?_
                      refine x_inc2 dX6_compare_202 ?_
                      refine x_goto (tgt := 75) dX6_compare_205 ?_
                      exact x_fg (ih75 (j + 1) (ua (ua c1 i (bor (c1 i) (p2 j))) j (bor (c1 j) (p2 i))) (ua (ua c2 i (bor (c2 i) (p2 j))) j (bor (c2 j) (p2 i))) f g (by omega) (CmI_on g1 hj.1 (by omega) (by omega) ⟨by omega, hcl⟩ ⟨by omega, ClV_sy hcl⟩) (CmI_on g2 hj.1 (by omega) (by omega) hsk hsk.symm) (by omega)) (And.intro rfl (And.intro rfl (And.intro rfl trivial)))
                    · -- 156 eq -> 159
                      refine x_al0 dX6_compare_159 ?_
                      refine x_al0 dX6_compare_160 ?_
                      refine x_getR fl_X6_9 (sh_289 hS) (lq_289 hS) (rf_289_2 hS) dX6_compare_161 ?_
                      refine x_il1 dX6_compare_164 ?_
                      refine x_iald (sh_290 hS) (lq_290 hS) (by omega) (by omega) dX6_compare_165 ?_
                      refine x_topI (a' := V 290 i) rfl ?_
                      refine x_al0 dX6_compare_166 ?_
                      refine x_getR fl_X6_9 (sh_289 hS) (lq_289 hS) (rf_289_2 hS) dX6_compare_167 ?_
                      refine x_il2 dX6_compare_170 ?_
                      refine x_iald (sh_290 hS) (lq_290 hS) (by omega) (by omega) dX6_compare_171 ?_
                      refine x_topI (a' := V 290 j) rfl ?_
                      refine x_cVic mm_X6_areUnlike ml_X6_101 dX6_compare_172 (c_X6_areUnlike (V 290 i) (V 290 j) a tx hS (WSim_c (fun q q0 q1 => by rw [up_ne (by omega), up_ne (by omega), up_ne (by omega), up_ne (by omega), up_ne (by omega), up_ne (by omega)]) hW) (WB_c (fun q q0 q1 => by rw [up_ne (by omega), up_ne (by omega), up_ne (by omega), up_ne (by omega), up_ne (by omega), up_ne (by omega)]) hB) hM (TSim_c (fun q q0 => by rw [up_ne (by omega), up_ne (by omega), up_ne (by omega), up_ne (by omega), up_ne (by omega), up_ne (by omega)]) rfl hTx) (hbo i (by omega) (by omega)) (hbo j (by omega) (by omega))) (sh_289 hS) (lq_289 hS) (fun f11 g11 => ?_)
                      refine x_mem (V' := (up (up (up (up (up (up V 287 f11) 288 g11) 291 c1) 292 (ua (ua c2 i (bor (c2 i) (p2 j))) j (bor (c2 j) (p2 i)))) 293 (filK (V 293) (fun _ => 0) 12)) 294 (ua rm i (mMany a tx (V 4 (V 290 i)))))) (Eq.trans (congrArg (fun z => up z 288 _) (up_k (by decide) (up_k (by decide) (up_k (by decide) (up_k (by decide) (up_k (by decide) (up_up _ _ _ _))))))) (up_k (by decide) (up_k (by decide) (up_k (by decide) (up_k (by decide) (up_up _ _ _ _)))))) ?_
                      refine x_ifb_eq (tgt := 202) dX6_compare_175 (fun c175_12 => ?_) (fun c175_12 => ?_)
                      · -- 175 eq -> 202
                        have hncl : ¬ ClV V a tx i j := fun z => by rcases z with z | z; (first | exact absurd z.1 hsk | exact absurd z.2 (by assumption)); exact absurd z (by assumption)
                        refine x_inc2 dX6_compare_202 ?_
                        refine x_goto (tgt := 75) dX6_compare_205 ?_
                        exact x_fg (ih75 (j + 1) c1 (ua (ua c2 i (bor (c2 i) (p2 j))) j (bor (c2 j) (p2 i))) f11 g11 (by omega) (CmI_no g1 hj.1 (by omega) (fun z => hncl z.2) (fun z => hncl (ClV_sy z.2))) (CmI_on g2 hj.1 (by omega) (by omega) hsk hsk.symm) (by omega)) (And.intro rfl (And.intro rfl (And.intro rfl trivial)))
                      · -- 175 eq -> 178
                        have hcl : ClV V a tx i j := by first | exact Or.inr c175_12 | exact Or.inl ⟨hsk, by assumption⟩
                        refine x_al0 dX6_compare_178 ?_
                        refine x_getR fl_X6_15 (sh_289 hS) (lq_289 hS) (rf_289_3 hS) dX6_compare_179 ?_
                        refine x_il1 dX6_compare_182 ?_
                        refine x_dup2 dX6_compare_183 ?_
                        refine x_iald (sh_291 hS) (lq_291 hS) (by omega) (by omega) dX6_compare_184 ?_
                        refine x_topI (a' := c1 i) rfl ?_
                        refine x_iconst dX6_compare_185 ?_
                        refine x_il2 dX6_compare_186 ?_
                        refine x_shl1 (by omega) (by omega) dX6_compare_187 ?_
                        refine x_ior (by omega) (Int.le_of_lt (p2_pos _)) dX6_compare_188 ?_
                        refine x_iast (sh_291 hS) (lq_291 hS) (by omega) (by omega) dX6_compare_189 ?_
                        refine x_mem (V' := (up (up (up (up (up (up V 287 f11) 288 g11) 291 (ua c1 i (bor (c1 i) (p2 j)))) 292 (ua (ua c2 i (bor (c2 i) (p2 j))) j (bor (c2 j) (p2 i)))) 293 (filK (V 293) (fun _ => 0) 12)) 294 (ua rm i (mMany a tx (V 4 (V 290 i)))))) (st2_c (by decide) (st2_c (by decide) (st2_c (by decide) (st2_up _ _ _ _ _)))) ?_
                        refine x_al0 dX6_compare_190 ?_
                        refine x_getR fl_X6_15 (sh_289 hS) (lq_289 hS) (rf_289_3 hS) dX6_compare_191 ?_
                        refine x_il2 dX6_compare_194 ?_
                        refine x_dup2 dX6_compare_195 ?_
                        refine x_iald (sh_291 hS) (lq_291 hS) (by omega) (by omega) dX6_compare_196 ?_
                        refine x_topI (a' := c1 j) (show (ua c1 i (bor (c1 i) (p2 j))) j = c1 j from (ua_ne (by omega))) ?_
                        refine x_iconst dX6_compare_197 ?_
                        refine x_il1 dX6_compare_198 ?_
                        refine x_shl1 (by omega) (by omega) dX6_compare_199 ?_
                        refine x_ior (by omega) (Int.le_of_lt (p2_pos _)) dX6_compare_200 ?_
                        refine x_iast (sh_291 hS) (lq_291 hS) (by omega) (by omega) dX6_compare_201 ?_
                        refine x_mem (V' := (up (up (up (up (up (up V 287 f11) 288 g11) 291 (ua (ua c1 i (bor (c1 i) (p2 j))) j (bor (c1 j) (p2 i)))) 292 (ua (ua c2 i (bor (c2 i) (p2 j))) j (bor (c2 j) (p2 i)))) 293 (filK (V 293) (fun _ => 0) 12)) 294 (ua rm i (mMany a tx (V 4 (V 290 i)))))) (st2_c (by decide) (st2_c (by decide) (st2_c (by decide) (st2_up _ _ _ _ _)))) ?_
                        refine x_inc2 dX6_compare_202 ?_
                        refine x_goto (tgt := 75) dX6_compare_205 ?_
                        exact x_fg (ih75 (j + 1) (ua (ua c1 i (bor (c1 i) (p2 j))) j (bor (c1 j) (p2 i))) (ua (ua c2 i (bor (c2 i) (p2 j))) j (bor (c2 j) (p2 i))) f11 g11 (by omega) (CmI_on g1 hj.1 (by omega) (by omega) ⟨by omega, hcl⟩ ⟨by omega, ClV_sy hcl⟩) (CmI_on g2 hj.1 (by omega) (by omega) hsk hsk.symm) (by omega)) (And.intro rfl (And.intro rfl (And.intro rfl trivial)))
        exact x_fg (lp75 _ 0 c1 (ua c2 i (bor (c2 i) (p2 i))) f g (by omega) h1 (CmI_dg h2 hi.1 (by omega) rfl) (Nat.lt_succ_self _)) (And.intro rfl (And.intro rfl (And.intro rfl trivial)))
  refine x_mem (V' := (up (up (up (up (up (up V 287 (V 287)) 288 (V 288)) 291 (filK (V 291) (fun _ => 0) 12)) 292 (filK (V 292) (fun _ => 0) 12)) 293 (filK (V 293) (fun _ => 0) 12)) 294 (V 294))) (Eq.trans (Eq.trans (show _ = (up (up (up (up V 287 (V 287)) 291 (filK (V 291) (fun _ => 0) 12)) 292 (filK (V 292) (fun _ => 0) 12)) 293 (filK (V 293) (fun _ => 0) 12)) from (Eq.trans (Eq.symm (up_self _ 287)) (up_k (by decide) (up_k (by decide) (up_k (by decide) rfl))))) (show _ = (up (up (up (up (up V 287 (V 287)) 288 (V 288)) 291 (filK (V 291) (fun _ => 0) 12)) 292 (filK (V 292) (fun _ => 0) 12)) 293 (filK (V 293) (fun _ => 0) 12)) from (Eq.trans (Eq.symm (up_self _ 288)) (up_k (by decide) (up_k (by decide) (up_k (by decide) rfl)))))) (show _ = (up (up (up (up (up (up V 287 (V 287)) 288 (V 288)) 291 (filK (V 291) (fun _ => 0) 12)) 292 (filK (V 292) (fun _ => 0) 12)) 293 (filK (V 293) (fun _ => 0) 12)) 294 (V 294)) from (Eq.symm (up_self _ 294)))) ?_
  exact x_fg (lp26 _ 0 (filK (V 291) (fun _ => 0) 12) (filK (V 292) (fun _ => 0) 12) (V 294) (V 287) (V 288) (by omega) (CmI_0 (fun x x0 x1 => filK_rd x0 x1)) (CmI_0 (fun x x0 x1 => filK_rd x0 x1)) (fun x x0 x1 => by omega) (Nat.lt_succ_self _)) (And.intro rfl (And.intro rfl trivial))
