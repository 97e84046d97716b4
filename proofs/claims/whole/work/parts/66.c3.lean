set_option maxRecDepth 100000 in
set_option maxHeartbeats 4000000 in
theorem c_X2_reckon {B : Bs} {S : Stt} {V : Va} (cid : Nat) (fr : Int) (to : Int) (cd : Nat) (nm : Int → Int) (op : Int → Int) (ag : Int → Int) (N : Int) (T : Int) (hS : Stat S) (hcs : S.1 cid = (0, cd)) (hcl : cid < S.2.2) (hc3 : 326 ≤ cid ∧ cd ≤ 300) (hft : 0 ≤ fr ∧ fr ≤ to ∧ to ≤ cd) (hco : ∀ i, fr ≤ i → i < to → (V (cid)) i = encO (op i) (ag i)) (hd : dOK2 op ag N T (to - fr).toNat fr 0 0) (hNT : (N = 1 ∧ T = 0) ∨ (N = 0 ∧ T = 1)) (hnm : ∀ k, 0 ≤ k → k ≤ 7 → cName V (32 + k) = nm k) (hnb : ∀ k, 0 ≤ k → k ≤ 7 → -1 ≤ nm k ∧ nm k < 65536) (h287 : (0 ≤ (V 287 2) ∧ (V 287 2) < 16) ∧ 0 ≤ (V 287 3) ∧ (V 287 3) < 16) (h17 : 0 ≤ (V 1 7) ∧ (V 1 7) ≤ 10) (h10 : ∀ t, 0 ≤ (V 10) t ∧ (V 10) t < 65536) : C B yX2_reckon cX2_reckon 7 (some .int) 3 0 0 [vR B 287, vR B cid, vI fr, vI to] S V (rIh S V 288 (fun r _ => r = (if N = 1 then (mRun nm op ag (to - fr).toNat fr (zf, zf, 0, 0)).1 0 else (mRun nm op ag (to - fr).toNat fr (zf, zf, 0, 0)).2.1 0))) := by
  refine C.of [some (vR B 287), some (vR B cid), some (vI fr), some (vI to), none, none, none] ?_
  intro Γ hQ
  refine x_iconst dX2_reckon_0 ?_
  refine x_is4 dX2_reckon_1 ?_
  refine x_il2 dX2_reckon_3 ?_
  refine x_is5 dX2_reckon_4 ?_
  have lp6 : ∀ (N6 : Nat) (i : Int) (top : Int) (g : Int → Int), (fr ≤ i ∧ i ≤ to) → (RkI nm op ag N T fr to i top g) → (to - i).toNat < N6 → X Γ B RX2 "reckon" cX2_reckon 7 (some .int) 3 0 0 6 [some (vR B 287), some (vR B cid), some (vI fr), some (vI to), some (vI top), some (vI i), none] [] 0 0 S (up V 288 g) := by
    intro N6
    induction N6 with
    | zero => intro i top g hi hI hN; exact absurd hN (Nat.not_lt_zero _)
    | succ N6 ih6 =>
      intro i top g hi hI hN6
      have ht := RkI_t hI
      refine x_il5 dX2_reckon_6 ?_
      refine x_il3 dX2_reckon_8 ?_
      refine x_icmp_ge (tgt := 192) dX2_reckon_9 (inr (by omega)) (inr (by omega)) (fun c9_1 => ?_) (fun c9_1 => ?_)
      · -- 9 ge -> 192
        refine x_al0 dX2_reckon_192 ?_
        refine x_getR fl_X2_9 (sh_287 hS) (lq_287 hS) (rf_287_1 hS) dX2_reckon_193 ?_
        refine x_iconst dX2_reckon_196 ?_
        refine x_iald (sh_288 hS) (lq_288 hS) (by omega) (by omega) dX2_reckon_197 ?_
        refine x_topI (a' := g 0) rfl ?_
        exact x_iret hQ ⟨_, g, RkI_end hI (by omega) hNT, rfl, rfl, rfl⟩ dX2_reckon_198
      · -- 9 ge -> 12
        refine x_il5 dX2_reckon_12 ?_
        refine x_al1 dX2_reckon_14 ?_
        refine x_alen (by decide) (hcs) (hcl) dX2_reckon_15 ?_
        refine x_icmp_ge (tgt := 192) dX2_reckon_16 (inr (by omega)) (inr (by omega)) (fun c16_2 => ?_) (fun c16_2 => ?_)
        · -- 16 ge -> 192
          refine x_al0 dX2_reckon_192 ?_
          refine x_getR fl_X2_9 (sh_287 hS) (lq_287 hS) (rf_287_1 hS) dX2_reckon_193 ?_
          refine x_iconst dX2_reckon_196 ?_
          refine x_iald (sh_288 hS) (lq_288 hS) (by omega) (by omega) dX2_reckon_197 ?_
          refine x_topI (a' := g 0) rfl ?_
          exact x_iret hQ ⟨_, g, RkI_end hI (by omega) hNT, rfl, rfl, rfl⟩ dX2_reckon_198
        · -- 16 ge -> 19
          have hlt : i < to := by omega
          have he := hco i (by omega) (by omega)
          have her := RkI_er hI hlt he
          have hN := fun h => RkI_num (e := V cid i) hI hlt he h
          have hM := fun h => RkI_name (e := V cid i) hnb hI hlt he h
          have hG := fun h => RkI_neg (e := V cid i) hI hlt he h
          have hO := fun h => RkI_not (e := V cid i) hI hlt he h
          have hJ := fun a b c d => RkI_join (e := V cid i) hI hlt he a b c d
          refine x_al1 dX2_reckon_19 ?_
          refine x_il5 dX2_reckon_20 ?_
          refine x_iald (hcs) (hcl) (by omega) (by omega) dX2_reckon_22 ?_ (by omega)
          refine x_topI (a' := V cid i) (congrFun (up_ne (by omega)) i) ?_
          refine x_ineg dX2_reckon_23 ?_
          refine x_is6 dX2_reckon_24 ?_
          refine x_il6 dX2_reckon_26 ?_
          refine x_if_le (tgt := 45) dX2_reckon_28 (inr (by omega)) (fun c28_3 => ?_) (fun c28_3 => ?_)
          · -- 28 le -> 45
            refine x_il4 dX2_reckon_45 ?_
            refine x_al0 dX2_reckon_47 ?_
            refine x_getR fl_X2_9 (sh_287 hS) (lq_287 hS) (rf_287_1 hS) dX2_reckon_48 ?_
            refine x_alen (by decide) (sh_288 hS) (lq_288 hS) dX2_reckon_51 ?_
            refine x_topI (a' := 301) rfl ?_
            refine x_icmp_ge (tgt := 186) dX2_reckon_52 (inr (by omega)) (inr (by decide)) (fun c52_4 => ?_) (fun c52_4 => ?_)
            · -- 52 ge -> 186
              refine x_inc5 dX2_reckon_186 ?_
              refine x_goto (tgt := 6) dX2_reckon_189 ?_
              exact x_fg (ih6 (i + 1) top g (by omega) (by exfalso; first | omega | (have := (hG (by omega)).1; omega) | (have := (hO (by omega)).1; omega) | (have := (hJ (by omega) (by omega) (by omega) (by omega)).1; omega)) (by omega)) (And.intro rfl (And.intro rfl (And.intro rfl (And.intro rfl (And.intro rfl (And.intro rfl trivial))))))
            · -- 52 ge -> 55
              refine x_al0 dX2_reckon_55 ?_
              refine x_getR fl_X2_9 (sh_287 hS) (lq_287 hS) (rf_287_1 hS) dX2_reckon_56 ?_
              refine x_il4 dX2_reckon_59 ?_
              refine x_il6 dX2_reckon_61 ?_
              refine x_if_gt (tgt := 72) dX2_reckon_63 (inr (by omega)) (fun c63_5 => ?_) (fun c63_5 => ?_)
              · -- 63 gt -> 72
                refine x_al0 dX2_reckon_72 ?_
                refine x_il6 dX2_reckon_73 ?_
                refine x_cVi mm_X2_nameOf ml_X2_70 dX2_reckon_75 (c_X2_nameOf (-(V cid i)) hS (show (0 ≤ (V 287 2) ∧ (V 287 2) < 16) ∧ 0 ≤ (V 287 3) ∧ (V 287 3) < 16 from h287) (show 0 ≤ (V 1 7) ∧ (V 1 7) ≤ 10 from h17) (show ∀ t, 0 ≤ (V 10) t ∧ (V 10) t < 65536 from h10) (by omega)) (sh_287 hS) (lq_287 hS) ?_
                refine x_iast (sh_288 hS) (lq_288 hS) (by omega) (by omega) dX2_reckon_78 ?_
                refine x_mem (V' := (up V 288 (ua g top (cName (up V 288 g) (-(V cid i)))))) (st2_up _ _ _ _ _) ?_
                refine x_inc4 dX2_reckon_79 ?_
                refine x_goto (tgt := 186) dX2_reckon_82 ?_
                refine x_inc5 dX2_reckon_186 ?_
                refine x_goto (tgt := 6) dX2_reckon_189 ?_
                exact x_fg (ih6 (i + 1) (top + 1) (ua g top (cName (up V 288 g) (-(V cid i)))) (by omega) (by first | (exfalso; omega) | (have q := (hM ⟨by omega, by omega⟩).2.2; have z := hnm (-(V cid i) - 32) (by omega) (by omega); rw [show 32 + (-(V cid i) - 32) = -(V cid i) by omega] at z; rw [← z] at q; exact q)) (by omega)) (And.intro rfl (And.intro rfl (And.intro rfl (And.intro rfl (And.intro rfl (And.intro rfl trivial))))))
              · -- 63 gt -> 66
                refine x_il6 dX2_reckon_66 ?_
                refine x_ineg dX2_reckon_68 ?_
                refine x_goto (tgt := 78) dX2_reckon_69 ?_
                refine x_iast (sh_288 hS) (lq_288 hS) (by omega) (by omega) dX2_reckon_78 ?_
                refine x_mem (V' := (up V 288 (ua g top (-(-(V cid i)))))) (st2_up _ _ _ _ _) ?_
                refine x_inc4 dX2_reckon_79 ?_
                refine x_goto (tgt := 186) dX2_reckon_82 ?_
                refine x_inc5 dX2_reckon_186 ?_
                refine x_goto (tgt := 6) dX2_reckon_189 ?_
                exact x_fg (ih6 (i + 1) (top + 1) (ua g top (-(-(V cid i)))) (by omega) (by first | (exfalso; omega) | exact (hN (by omega)).2.2) (by omega)) (And.intro rfl (And.intro rfl (And.intro rfl (And.intro rfl (And.intro rfl (And.intro rfl trivial))))))
          · -- 28 le -> 31
            refine x_il6 dX2_reckon_31 ?_
            refine x_bipush dX2_reckon_33 ?_
            refine x_icmp_lt (tgt := 85) dX2_reckon_35 (inr (by omega)) (inr (by decide)) (fun c35_6 => ?_) (fun c35_6 => ?_)
            · -- 35 lt -> 85
              refine x_il6 dX2_reckon_85 ?_
              refine x_bipush dX2_reckon_87 ?_
              refine x_icmp_eq (tgt := 99) dX2_reckon_89 (inr (by omega)) (inr (by decide)) (fun c89_7 => ?_) (fun c89_7 => ?_)
              · -- 89 eq -> 99
                refine x_il4 dX2_reckon_99 ?_
                refine x_if_le (tgt := 186) dX2_reckon_101 (inr (by omega)) (fun c101_8 => ?_) (fun c101_8 => ?_)
                · -- 101 le -> 186
                  refine x_inc5 dX2_reckon_186 ?_
                  refine x_goto (tgt := 6) dX2_reckon_189 ?_
                  exact x_fg (ih6 (i + 1) top g (by omega) (by exfalso; first | omega | (have := (hG (by omega)).1; omega) | (have := (hO (by omega)).1; omega) | (have := (hJ (by omega) (by omega) (by omega) (by omega)).1; omega)) (by omega)) (And.intro rfl (And.intro rfl (And.intro rfl (And.intro rfl (And.intro rfl (And.intro rfl trivial))))))
                · -- 101 le -> 104
                  refine x_al0 dX2_reckon_104 ?_
                  refine x_getR fl_X2_9 (sh_287 hS) (lq_287 hS) (rf_287_1 hS) dX2_reckon_105 ?_
                  refine x_il4 dX2_reckon_108 ?_
                  refine x_iconst dX2_reckon_110 ?_
                  refine x_isub dX2_reckon_111 ?_
                  refine x_il6 dX2_reckon_112 ?_
                  refine x_bipush dX2_reckon_114 ?_
                  refine x_icmp_ne (tgt := 133) dX2_reckon_116 (inr (by omega)) (inr (by decide)) (fun c116_9 => ?_) (fun c116_9 => ?_)
                  · -- 116 ne -> 133
                    refine x_al0 dX2_reckon_133 ?_
                    refine x_getR fl_X2_9 (sh_287 hS) (lq_287 hS) (rf_287_1 hS) dX2_reckon_134 ?_
                    refine x_il4 dX2_reckon_137 ?_
                    refine x_iconst dX2_reckon_139 ?_
                    refine x_isub dX2_reckon_140 ?_
                    refine x_iald (sh_288 hS) (lq_288 hS) (by omega) (by omega) dX2_reckon_141 ?_
                    refine x_topI (a' := g (top - 1)) rfl ?_
                    refine x_ineg dX2_reckon_142 ?_
                    refine x_iast (sh_288 hS) (lq_288 hS) (by omega) (by omega) dX2_reckon_143 ?_
                    refine x_mem (V' := (up V 288 (ua g (top - 1) (-(g (top - 1)))))) (st2_up _ _ _ _ _) ?_
                    refine x_goto (tgt := 186) dX2_reckon_144 ?_
                    refine x_inc5 dX2_reckon_186 ?_
                    refine x_goto (tgt := 6) dX2_reckon_189 ?_
                    exact x_fg (ih6 (i + 1) top (ua g (top - 1) (-(g (top - 1)))) (by omega) (hG (by omega)).2.2 (by omega)) (And.intro rfl (And.intro rfl (And.intro rfl (And.intro rfl (And.intro rfl (And.intro rfl trivial))))))
                  · -- 116 ne -> 119
                    refine x_iconst dX2_reckon_119 ?_
                    refine x_al0 dX2_reckon_120 ?_
                    refine x_getR fl_X2_9 (sh_287 hS) (lq_287 hS) (rf_287_1 hS) dX2_reckon_121 ?_
                    refine x_il4 dX2_reckon_124 ?_
                    refine x_iconst dX2_reckon_126 ?_
                    refine x_isub dX2_reckon_127 ?_
                    refine x_iald (sh_288 hS) (lq_288 hS) (by omega) (by omega) dX2_reckon_128 ?_
                    refine x_topI (a' := g (top - 1)) rfl ?_
                    refine x_isub dX2_reckon_129 ?_
                    refine x_goto (tgt := 143) dX2_reckon_130 ?_
                    refine x_iast (sh_288 hS) (lq_288 hS) (by omega) (by omega) dX2_reckon_143 ?_
                    refine x_mem (V' := (up V 288 (ua g (top - 1) (1 - (g (top - 1)))))) (st2_up _ _ _ _ _) ?_
                    refine x_goto (tgt := 186) dX2_reckon_144 ?_
                    refine x_inc5 dX2_reckon_186 ?_
                    refine x_goto (tgt := 6) dX2_reckon_189 ?_
                    exact x_fg (ih6 (i + 1) top (ua g (top - 1) (1 - (g (top - 1)))) (by omega) (hO (by omega)).2.2 (by omega)) (And.intro rfl (And.intro rfl (And.intro rfl (And.intro rfl (And.intro rfl (And.intro rfl trivial))))))
              · -- 89 eq -> 92
                refine x_il6 dX2_reckon_92 ?_
                refine x_bipush dX2_reckon_94 ?_
                refine x_icmp_ne (tgt := 147) dX2_reckon_96 (inr (by omega)) (inr (by decide)) (fun c96_10 => ?_) (fun c96_10 => ?_)
                · -- 96 ne -> 147
                  refine x_il4 dX2_reckon_147 ?_
                  refine x_iconst dX2_reckon_149 ?_
                  refine x_icmp_le (tgt := 186) dX2_reckon_150 (inr (by omega)) (inr (by decide)) (fun c150_11 => ?_) (fun c150_11 => ?_)
                  · -- 150 le -> 186
                    refine x_inc5 dX2_reckon_186 ?_
                    refine x_goto (tgt := 6) dX2_reckon_189 ?_
                    exact x_fg (ih6 (i + 1) top g (by omega) (by exfalso; first | omega | (have := (hG (by omega)).1; omega) | (have := (hO (by omega)).1; omega) | (have := (hJ (by omega) (by omega) (by omega) (by omega)).1; omega)) (by omega)) (And.intro rfl (And.intro rfl (And.intro rfl (And.intro rfl (And.intro rfl (And.intro rfl trivial))))))
                  · -- 150 le -> 153
                    obtain ⟨j1, j2, j3, j4, j5, j6⟩ := hJ (by omega) (by omega) (by omega) (by omega)
                    refine x_dec4 dX2_reckon_153 ?_
                    refine x_al0 dX2_reckon_156 ?_
                    refine x_getR fl_X2_9 (sh_287 hS) (lq_287 hS) (rf_287_1 hS) dX2_reckon_157 ?_
                    refine x_il4 dX2_reckon_160 ?_
                    refine x_iconst dX2_reckon_162 ?_
                    refine x_isub dX2_reckon_163 ?_
                    refine x_il6 dX2_reckon_164 ?_
                    refine x_al0 dX2_reckon_166 ?_
                    refine x_getR fl_X2_9 (sh_287 hS) (lq_287 hS) (rf_287_1 hS) dX2_reckon_167 ?_
                    refine x_il4 dX2_reckon_170 ?_
                    refine x_iconst dX2_reckon_172 ?_
                    refine x_isub dX2_reckon_173 ?_
                    refine x_iald (sh_288 hS) (lq_288 hS) (by omega) (by omega) dX2_reckon_174 ?_
                    refine x_topI (a' := g ((top - 1) - 1)) rfl ?_
                    refine x_al0 dX2_reckon_175 ?_
                    refine x_getR fl_X2_9 (sh_287 hS) (lq_287 hS) (rf_287_1 hS) dX2_reckon_176 ?_
                    refine x_il4 dX2_reckon_179 ?_
                    refine x_iald (sh_288 hS) (lq_288 hS) (by omega) (by omega) dX2_reckon_181 ?_
                    refine x_topI (a' := g (top - 1)) rfl ?_
                    refine x_cSi mm_X2_join ml_X2_74 dX2_reckon_182 (c_X2_join (-(V cid i)) (g ((top - 1) - 1)) (g (top - 1)) j3 j4 j5) ?_
                    refine x_iast (sh_288 hS) (lq_288 hS) (by omega) (by omega) dX2_reckon_185 ?_
                    refine x_mem (V' := (up V 288 (ua g ((top - 1) - 1) (cJoin (-(V cid i)) (g ((top - 1) - 1)) (g (top - 1)))))) (st2_up _ _ _ _ _) ?_
                    refine x_inc5 dX2_reckon_186 ?_
                    refine x_goto (tgt := 6) dX2_reckon_189 ?_
                    exact x_fg (ih6 (i + 1) (top - 1) (ua g ((top - 1) - 1) (cJoin (-(V cid i)) (g ((top - 1) - 1)) (g (top - 1)))) (by omega) j6 (by omega)) (And.intro rfl (And.intro rfl (And.intro rfl (And.intro rfl (And.intro rfl (And.intro rfl trivial))))))
                · -- 96 ne -> 99
                  refine x_il4 dX2_reckon_99 ?_
                  refine x_if_le (tgt := 186) dX2_reckon_101 (inr (by omega)) (fun c101_12 => ?_) (fun c101_12 => ?_)
                  · -- 101 le -> 186
                    refine x_inc5 dX2_reckon_186 ?_
                    refine x_goto (tgt := 6) dX2_reckon_189 ?_
                    exact x_fg (ih6 (i + 1) top g (by omega) (by exfalso; first | omega | (have := (hG (by omega)).1; omega) | (have := (hO (by omega)).1; omega) | (have := (hJ (by omega) (by omega) (by omega) (by omega)).1; omega)) (by omega)) (And.intro rfl (And.intro rfl (And.intro rfl (And.intro rfl (And.intro rfl (And.intro rfl trivial))))))
                  · -- 101 le -> 104
                    refine x_al0 dX2_reckon_104 ?_
                    refine x_getR fl_X2_9 (sh_287 hS) (lq_287 hS) (rf_287_1 hS) dX2_reckon_105 ?_
                    refine x_il4 dX2_reckon_108 ?_
                    refine x_iconst dX2_reckon_110 ?_
                    refine x_isub dX2_reckon_111 ?_
                    refine x_il6 dX2_reckon_112 ?_
                    refine x_bipush dX2_reckon_114 ?_
                    refine x_icmp_ne (tgt := 133) dX2_reckon_116 (inr (by omega)) (inr (by decide)) (fun c116_13 => ?_) (fun c116_13 => ?_)
                    · -- 116 ne -> 133
                      refine x_al0 dX2_reckon_133 ?_
                      refine x_getR fl_X2_9 (sh_287 hS) (lq_287 hS) (rf_287_1 hS) dX2_reckon_134 ?_
                      refine x_il4 dX2_reckon_137 ?_
                      refine x_iconst dX2_reckon_139 ?_
                      refine x_isub dX2_reckon_140 ?_
                      refine x_iald (sh_288 hS) (lq_288 hS) (by omega) (by omega) dX2_reckon_141 ?_
                      refine x_topI (a' := g (top - 1)) rfl ?_
                      refine x_ineg dX2_reckon_142 ?_
                      refine x_iast (sh_288 hS) (lq_288 hS) (by omega) (by omega) dX2_reckon_143 ?_
                      refine x_mem (V' := (up V 288 (ua g (top - 1) (-(g (top - 1)))))) (st2_up _ _ _ _ _) ?_
                      refine x_goto (tgt := 186) dX2_reckon_144 ?_
                      refine x_inc5 dX2_reckon_186 ?_
                      refine x_goto (tgt := 6) dX2_reckon_189 ?_
                      exact x_fg (ih6 (i + 1) top (ua g (top - 1) (-(g (top - 1)))) (by omega) (hG (by omega)).2.2 (by omega)) (And.intro rfl (And.intro rfl (And.intro rfl (And.intro rfl (And.intro rfl (And.intro rfl trivial))))))
                    · -- 116 ne -> 119
                      refine x_iconst dX2_reckon_119 ?_
                      refine x_al0 dX2_reckon_120 ?_
                      refine x_getR fl_X2_9 (sh_287 hS) (lq_287 hS) (rf_287_1 hS) dX2_reckon_121 ?_
                      refine x_il4 dX2_reckon_124 ?_
                      refine x_iconst dX2_reckon_126 ?_
                      refine x_isub dX2_reckon_127 ?_
                      refine x_iald (sh_288 hS) (lq_288 hS) (by omega) (by omega) dX2_reckon_128 ?_
                      refine x_topI (a' := g (top - 1)) rfl ?_
                      refine x_isub dX2_reckon_129 ?_
                      refine x_goto (tgt := 143) dX2_reckon_130 ?_
                      refine x_iast (sh_288 hS) (lq_288 hS) (by omega) (by omega) dX2_reckon_143 ?_
                      refine x_mem (V' := (up V 288 (ua g (top - 1) (1 - (g (top - 1)))))) (st2_up _ _ _ _ _) ?_
                      refine x_goto (tgt := 186) dX2_reckon_144 ?_
                      refine x_inc5 dX2_reckon_186 ?_
                      refine x_goto (tgt := 6) dX2_reckon_189 ?_
                      exact x_fg (ih6 (i + 1) top (ua g (top - 1) (1 - (g (top - 1)))) (by omega) (hO (by omega)).2.2 (by omega)) (And.intro rfl (And.intro rfl (And.intro rfl (And.intro rfl (And.intro rfl (And.intro rfl trivial))))))
            · -- 35 lt -> 38
              refine x_il6 dX2_reckon_38 ?_
              refine x_bipush dX2_reckon_40 ?_
              refine x_icmp_gt (tgt := 85) dX2_reckon_42 (inr (by omega)) (inr (by decide)) (fun c42_14 => ?_) (fun c42_14 => ?_)
              · -- 42 gt -> 85
                refine x_il6 dX2_reckon_85 ?_
                refine x_bipush dX2_reckon_87 ?_
                refine x_icmp_eq (tgt := 99) dX2_reckon_89 (inr (by omega)) (inr (by decide)) (fun c89_15 => ?_) (fun c89_15 => ?_)
                · -- 89 eq -> 99
                  refine x_il4 dX2_reckon_99 ?_
                  refine x_if_le (tgt := 186) dX2_reckon_101 (inr (by omega)) (fun c101_16 => ?_) (fun c101_16 => ?_)
                  · -- 101 le -> 186
                    refine x_inc5 dX2_reckon_186 ?_
                    refine x_goto (tgt := 6) dX2_reckon_189 ?_
                    exact x_fg (ih6 (i + 1) top g (by omega) (by exfalso; first | omega | (have := (hG (by omega)).1; omega) | (have := (hO (by omega)).1; omega) | (have := (hJ (by omega) (by omega) (by omega) (by omega)).1; omega)) (by omega)) (And.intro rfl (And.intro rfl (And.intro rfl (And.intro rfl (And.intro rfl (And.intro rfl trivial))))))
                  · -- 101 le -> 104
                    refine x_al0 dX2_reckon_104 ?_
                    refine x_getR fl_X2_9 (sh_287 hS) (lq_287 hS) (rf_287_1 hS) dX2_reckon_105 ?_
                    refine x_il4 dX2_reckon_108 ?_
                    refine x_iconst dX2_reckon_110 ?_
                    refine x_isub dX2_reckon_111 ?_
                    refine x_il6 dX2_reckon_112 ?_
                    refine x_bipush dX2_reckon_114 ?_
                    refine x_icmp_ne (tgt := 133) dX2_reckon_116 (inr (by omega)) (inr (by decide)) (fun c116_17 => ?_) (fun c116_17 => ?_)
                    · -- 116 ne -> 133
                      refine x_al0 dX2_reckon_133 ?_
                      refine x_getR fl_X2_9 (sh_287 hS) (lq_287 hS) (rf_287_1 hS) dX2_reckon_134 ?_
                      refine x_il4 dX2_reckon_137 ?_
                      refine x_iconst dX2_reckon_139 ?_
                      refine x_isub dX2_reckon_140 ?_
                      refine x_iald (sh_288 hS) (lq_288 hS) (by omega) (by omega) dX2_reckon_141 ?_
                      refine x_topI (a' := g (top - 1)) rfl ?_
                      refine x_ineg dX2_reckon_142 ?_
                      refine x_iast (sh_288 hS) (lq_288 hS) (by omega) (by omega) dX2_reckon_143 ?_
                      refine x_mem (V' := (up V 288 (ua g (top - 1) (-(g (top - 1)))))) (st2_up _ _ _ _ _) ?_
                      refine x_goto (tgt := 186) dX2_reckon_144 ?_
                      refine x_inc5 dX2_reckon_186 ?_
                      refine x_goto (tgt := 6) dX2_reckon_189 ?_
                      exact x_fg (ih6 (i + 1) top (ua g (top - 1) (-(g (top - 1)))) (by omega) (hG (by omega)).2.2 (by omega)) (And.intro rfl (And.intro rfl (And.intro rfl (And.intro rfl (And.intro rfl (And.intro rfl trivial))))))
                    · -- 116 ne -> 119
                      refine x_iconst dX2_reckon_119 ?_
                      refine x_al0 dX2_reckon_120 ?_
                      refine x_getR fl_X2_9 (sh_287 hS) (lq_287 hS) (rf_287_1 hS) dX2_reckon_121 ?_
                      refine x_il4 dX2_reckon_124 ?_
                      refine x_iconst dX2_reckon_126 ?_
                      refine x_isub dX2_reckon_127 ?_
                      refine x_iald (sh_288 hS) (lq_288 hS) (by omega) (by omega) dX2_reckon_128 ?_
                      refine x_topI (a' := g (top - 1)) rfl ?_
                      refine x_isub dX2_reckon_129 ?_
                      refine x_goto (tgt := 143) dX2_reckon_130 ?_
                      refine x_iast (sh_288 hS) (lq_288 hS) (by omega) (by omega) dX2_reckon_143 ?_
                      refine x_mem (V' := (up V 288 (ua g (top - 1) (1 - (g (top - 1)))))) (st2_up _ _ _ _ _) ?_
                      refine x_goto (tgt := 186) dX2_reckon_144 ?_
                      refine x_inc5 dX2_reckon_186 ?_
                      refine x_goto (tgt := 6) dX2_reckon_189 ?_
                      exact x_fg (ih6 (i + 1) top (ua g (top - 1) (1 - (g (top - 1)))) (by omega) (hO (by omega)).2.2 (by omega)) (And.intro rfl (And.intro rfl (And.intro rfl (And.intro rfl (And.intro rfl (And.intro rfl trivial))))))
                · -- 89 eq -> 92
                  refine x_il6 dX2_reckon_92 ?_
                  refine x_bipush dX2_reckon_94 ?_
                  refine x_icmp_ne (tgt := 147) dX2_reckon_96 (inr (by omega)) (inr (by decide)) (fun c96_18 => ?_) (fun c96_18 => ?_)
                  · -- 96 ne -> 147
                    refine x_il4 dX2_reckon_147 ?_
                    refine x_iconst dX2_reckon_149 ?_
                    refine x_icmp_le (tgt := 186) dX2_reckon_150 (inr (by omega)) (inr (by decide)) (fun c150_19 => ?_) (fun c150_19 => ?_)
                    · -- 150 le -> 186
                      refine x_inc5 dX2_reckon_186 ?_
                      refine x_goto (tgt := 6) dX2_reckon_189 ?_
                      exact x_fg (ih6 (i + 1) top g (by omega) (by exfalso; first | omega | (have := (hG (by omega)).1; omega) | (have := (hO (by omega)).1; omega) | (have := (hJ (by omega) (by omega) (by omega) (by omega)).1; omega)) (by omega)) (And.intro rfl (And.intro rfl (And.intro rfl (And.intro rfl (And.intro rfl (And.intro rfl trivial))))))
                    · -- 150 le -> 153
                      obtain ⟨j1, j2, j3, j4, j5, j6⟩ := hJ (by omega) (by omega) (by omega) (by omega)
                      refine x_dec4 dX2_reckon_153 ?_
                      refine x_al0 dX2_reckon_156 ?_
                      refine x_getR fl_X2_9 (sh_287 hS) (lq_287 hS) (rf_287_1 hS) dX2_reckon_157 ?_
                      refine x_il4 dX2_reckon_160 ?_
                      refine x_iconst dX2_reckon_162 ?_
                      refine x_isub dX2_reckon_163 ?_
                      refine x_il6 dX2_reckon_164 ?_
                      refine x_al0 dX2_reckon_166 ?_
                      refine x_getR fl_X2_9 (sh_287 hS) (lq_287 hS) (rf_287_1 hS) dX2_reckon_167 ?_
                      refine x_il4 dX2_reckon_170 ?_
                      refine x_iconst dX2_reckon_172 ?_
                      refine x_isub dX2_reckon_173 ?_
                      refine x_iald (sh_288 hS) (lq_288 hS) (by omega) (by omega) dX2_reckon_174 ?_
                      refine x_topI (a' := g ((top - 1) - 1)) rfl ?_
                      refine x_al0 dX2_reckon_175 ?_
                      refine x_getR fl_X2_9 (sh_287 hS) (lq_287 hS) (rf_287_1 hS) dX2_reckon_176 ?_
                      refine x_il4 dX2_reckon_179 ?_
                      refine x_iald (sh_288 hS) (lq_288 hS) (by omega) (by omega) dX2_reckon_181 ?_
                      refine x_topI (a' := g (top - 1)) rfl ?_
                      refine x_cSi mm_X2_join ml_X2_74 dX2_reckon_182 (c_X2_join (-(V cid i)) (g ((top - 1) - 1)) (g (top - 1)) j3 j4 j5) ?_
                      refine x_iast (sh_288 hS) (lq_288 hS) (by omega) (by omega) dX2_reckon_185 ?_
                      refine x_mem (V' := (up V 288 (ua g ((top - 1) - 1) (cJoin (-(V cid i)) (g ((top - 1) - 1)) (g (top - 1)))))) (st2_up _ _ _ _ _) ?_
                      refine x_inc5 dX2_reckon_186 ?_
                      refine x_goto (tgt := 6) dX2_reckon_189 ?_
                      exact x_fg (ih6 (i + 1) (top - 1) (ua g ((top - 1) - 1) (cJoin (-(V cid i)) (g ((top - 1) - 1)) (g (top - 1)))) (by omega) j6 (by omega)) (And.intro rfl (And.intro rfl (And.intro rfl (And.intro rfl (And.intro rfl (And.intro rfl trivial))))))
                  · -- 96 ne -> 99
                    refine x_il4 dX2_reckon_99 ?_
                    refine x_if_le (tgt := 186) dX2_reckon_101 (inr (by omega)) (fun c101_20 => ?_) (fun c101_20 => ?_)
                    · -- 101 le -> 186
                      refine x_inc5 dX2_reckon_186 ?_
                      refine x_goto (tgt := 6) dX2_reckon_189 ?_
                      exact x_fg (ih6 (i + 1) top g (by omega) (by exfalso; first | omega | (have := (hG (by omega)).1; omega) | (have := (hO (by omega)).1; omega) | (have := (hJ (by omega) (by omega) (by omega) (by omega)).1; omega)) (by omega)) (And.intro rfl (And.intro rfl (And.intro rfl (And.intro rfl (And.intro rfl (And.intro rfl trivial))))))
                    · -- 101 le -> 104
                      refine x_al0 dX2_reckon_104 ?_
                      refine x_getR fl_X2_9 (sh_287 hS) (lq_287 hS) (rf_287_1 hS) dX2_reckon_105 ?_
                      refine x_il4 dX2_reckon_108 ?_
                      refine x_iconst dX2_reckon_110 ?_
                      refine x_isub dX2_reckon_111 ?_
                      refine x_il6 dX2_reckon_112 ?_
                      refine x_bipush dX2_reckon_114 ?_
                      refine x_icmp_ne (tgt := 133) dX2_reckon_116 (inr (by omega)) (inr (by decide)) (fun c116_21 => ?_) (fun c116_21 => ?_)
                      · -- 116 ne -> 133
                        refine x_al0 dX2_reckon_133 ?_
                        refine x_getR fl_X2_9 (sh_287 hS) (lq_287 hS) (rf_287_1 hS) dX2_reckon_134 ?_
                        refine x_il4 dX2_reckon_137 ?_
                        refine x_iconst dX2_reckon_139 ?_
                        refine x_isub dX2_reckon_140 ?_
                        refine x_iald (sh_288 hS) (lq_288 hS) (by omega) (by omega) dX2_reckon_141 ?_
                        refine x_topI (a' := g (top - 1)) rfl ?_
                        refine x_ineg dX2_reckon_142 ?_
                        refine x_iast (sh_288 hS) (lq_288 hS) (by omega) (by omega) dX2_reckon_143 ?_
                        refine x_mem (V' := (up V 288 (ua g (top - 1) (-(g (top - 1)))))) (st2_up _ _ _ _ _) ?_
                        refine x_goto (tgt := 186) dX2_reckon_144 ?_
                        refine x_inc5 dX2_reckon_186 ?_
                        refine x_goto (tgt := 6) dX2_reckon_189 ?_
                        exact x_fg (ih6 (i + 1) top (ua g (top - 1) (-(g (top - 1)))) (by omega) (hG (by omega)).2.2 (by omega)) (And.intro rfl (And.intro rfl (And.intro rfl (And.intro rfl (And.intro rfl (And.intro rfl trivial))))))
                      · -- 116 ne -> 119
                        refine x_iconst dX2_reckon_119 ?_
                        refine x_al0 dX2_reckon_120 ?_
                        refine x_getR fl_X2_9 (sh_287 hS) (lq_287 hS) (rf_287_1 hS) dX2_reckon_121 ?_
                        refine x_il4 dX2_reckon_124 ?_
                        refine x_iconst dX2_reckon_126 ?_
                        refine x_isub dX2_reckon_127 ?_
                        refine x_iald (sh_288 hS) (lq_288 hS) (by omega) (by omega) dX2_reckon_128 ?_
                        refine x_topI (a' := g (top - 1)) rfl ?_
                        refine x_isub dX2_reckon_129 ?_
                        refine x_goto (tgt := 143) dX2_reckon_130 ?_
                        refine x_iast (sh_288 hS) (lq_288 hS) (by omega) (by omega) dX2_reckon_143 ?_
                        refine x_mem (V' := (up V 288 (ua g (top - 1) (1 - (g (top - 1)))))) (st2_up _ _ _ _ _) ?_
                        refine x_goto (tgt := 186) dX2_reckon_144 ?_
                        refine x_inc5 dX2_reckon_186 ?_
                        refine x_goto (tgt := 6) dX2_reckon_189 ?_
                        exact x_fg (ih6 (i + 1) top (ua g (top - 1) (1 - (g (top - 1)))) (by omega) (hO (by omega)).2.2 (by omega)) (And.intro rfl (And.intro rfl (And.intro rfl (And.intro rfl (And.intro rfl (And.intro rfl trivial))))))
              · -- 42 gt -> 45
                refine x_il4 dX2_reckon_45 ?_
                refine x_al0 dX2_reckon_47 ?_
                refine x_getR fl_X2_9 (sh_287 hS) (lq_287 hS) (rf_287_1 hS) dX2_reckon_48 ?_
                refine x_alen (by decide) (sh_288 hS) (lq_288 hS) dX2_reckon_51 ?_
                refine x_topI (a' := 301) rfl ?_
                refine x_icmp_ge (tgt := 186) dX2_reckon_52 (inr (by omega)) (inr (by decide)) (fun c52_22 => ?_) (fun c52_22 => ?_)
                · -- 52 ge -> 186
                  refine x_inc5 dX2_reckon_186 ?_
                  refine x_goto (tgt := 6) dX2_reckon_189 ?_
                  exact x_fg (ih6 (i + 1) top g (by omega) (by exfalso; first | omega | (have := (hG (by omega)).1; omega) | (have := (hO (by omega)).1; omega) | (have := (hJ (by omega) (by omega) (by omega) (by omega)).1; omega)) (by omega)) (And.intro rfl (And.intro rfl (And.intro rfl (And.intro rfl (And.intro rfl (And.intro rfl trivial))))))
                · -- 52 ge -> 55
                  refine x_al0 dX2_reckon_55 ?_
                  refine x_getR fl_X2_9 (sh_287 hS) (lq_287 hS) (rf_287_1 hS) dX2_reckon_56 ?_
                  refine x_il4 dX2_reckon_59 ?_
                  refine x_il6 dX2_reckon_61 ?_
                  refine x_if_gt (tgt := 72) dX2_reckon_63 (inr (by omega)) (fun c63_23 => ?_) (fun c63_23 => ?_)
                  · -- 63 gt -> 72
                    refine x_al0 dX2_reckon_72 ?_
                    refine x_il6 dX2_reckon_73 ?_
                    refine x_cVi mm_X2_nameOf ml_X2_70 dX2_reckon_75 (c_X2_nameOf (-(V cid i)) hS (show (0 ≤ (V 287 2) ∧ (V 287 2) < 16) ∧ 0 ≤ (V 287 3) ∧ (V 287 3) < 16 from h287) (show 0 ≤ (V 1 7) ∧ (V 1 7) ≤ 10 from h17) (show ∀ t, 0 ≤ (V 10) t ∧ (V 10) t < 65536 from h10) (by omega)) (sh_287 hS) (lq_287 hS) ?_
                    refine x_iast (sh_288 hS) (lq_288 hS) (by omega) (by omega) dX2_reckon_78 ?_
                    refine x_mem (V' := (up V 288 (ua g top (cName (up V 288 g) (-(V cid i)))))) (st2_up _ _ _ _ _) ?_
                    refine x_inc4 dX2_reckon_79 ?_
                    refine x_goto (tgt := 186) dX2_reckon_82 ?_
                    refine x_inc5 dX2_reckon_186 ?_
                    refine x_goto (tgt := 6) dX2_reckon_189 ?_
                    exact x_fg (ih6 (i + 1) (top + 1) (ua g top (cName (up V 288 g) (-(V cid i)))) (by omega) (by first | (exfalso; omega) | (have q := (hM ⟨by omega, by omega⟩).2.2; have z := hnm (-(V cid i) - 32) (by omega) (by omega); rw [show 32 + (-(V cid i) - 32) = -(V cid i) by omega] at z; rw [← z] at q; exact q)) (by omega)) (And.intro rfl (And.intro rfl (And.intro rfl (And.intro rfl (And.intro rfl (And.intro rfl trivial))))))
                  · -- 63 gt -> 66
                    refine x_il6 dX2_reckon_66 ?_
                    refine x_ineg dX2_reckon_68 ?_
                    refine x_goto (tgt := 78) dX2_reckon_69 ?_
                    refine x_iast (sh_288 hS) (lq_288 hS) (by omega) (by omega) dX2_reckon_78 ?_
                    refine x_mem (V' := (up V 288 (ua g top (-(-(V cid i)))))) (st2_up _ _ _ _ _) ?_
                    refine x_inc4 dX2_reckon_79 ?_
                    refine x_goto (tgt := 186) dX2_reckon_82 ?_
                    refine x_inc5 dX2_reckon_186 ?_
                    refine x_goto (tgt := 6) dX2_reckon_189 ?_
                    exact x_fg (ih6 (i + 1) (top + 1) (ua g top (-(-(V cid i)))) (by omega) (by first | (exfalso; omega) | exact (hN (by omega)).2.2) (by omega)) (And.intro rfl (And.intro rfl (And.intro rfl (And.intro rfl (And.intro rfl (And.intro rfl trivial))))))
  refine x_mem (V' := (up V 288 (V 288))) (show _ = (up V 288 (V 288)) from (Eq.symm (up_self _ 288))) ?_
  exact x_fg (lp6 _ fr 0 (V 288) (by omega) (RkI_0 hd) (Nat.lt_succ_self _)) (And.intro rfl (And.intro rfl (And.intro rfl (And.intro rfl (And.intro rfl (And.intro rfl trivial))))))
