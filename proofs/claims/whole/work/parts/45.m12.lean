set_option maxRecDepth 100000 in
set_option maxHeartbeats 4000000 in
theorem c_X11_isWord {B : Bs} {S : Stt} {V : Va} (w : Int) (hS : Stat S) (h9 : 0 ≤ (V 308 9) ∧ (V 308 9) < 256) (h11 : 0 ≤ (V 308 11) ∧ (V 308 11) < 72057594037927936) (hw : 0 ≤ w ∧ w < 72057594037927936) : C B yX11_isWord cX11_isWord 3 (some .boolean) 1 0 0 [vR B 308, vL w] S V (rI S V (if (V 308 9) = 2 ∧ (V 308 11) = w then 1 else 0)) := by
  refine C.of [some (vR B 308), some (vL w), none] ?_
  intro Γ hQ
  refine x_al0 dX11_isWord_0 ?_
  refine x_getI fl_X11_129 (sh_308 hS) (lq_308 hS) dX11_isWord_1 ?_
  refine x_topI (a' := V 308 9) rfl ?_
  refine x_iconst dX11_isWord_4 ?_
  refine x_icmp_ne (tgt := 21) dX11_isWord_5 (inr (by omega)) (inr (by decide)) (fun c5_1 => ?_) (fun c5_1 => ?_)
  · -- 5 ne -> 21
    refine x_iconst dX11_isWord_21 ?_
    exact x_zret hQ (rI.mk (by first | rfl | omega | (rw [if_pos (by omega)]) | (rw [if_neg (by omega)])) rfl) (by decide) dX11_isWord_22
  · -- 5 ne -> 8
    refine x_al0 dX11_isWord_8 ?_
    refine x_getL fl_X11_142 (sh_308 hS) (lq_308 hS) dX11_isWord_9 ?_
    refine x_topL (a' := V 308 11) rfl ?_
    refine x_ll1 dX11_isWord_12 ?_
    refine x_lcmp_ne (tgt := 21) dX11_isWord_13 dX11_isWord_14 (inl_ (by omega)) (inl_ (by omega)) (fun c13_2 => ?_) (fun c13_2 => ?_)
    · -- 13 ne -> 21
      refine x_iconst dX11_isWord_21 ?_
      exact x_zret hQ (rI.mk (by first | rfl | omega | (rw [if_pos (by omega)]) | (rw [if_neg (by omega)])) rfl) (by decide) dX11_isWord_22
    · -- 13 ne -> 17
      refine x_iconst dX11_isWord_17 ?_
      refine x_goto (tgt := 22) dX11_isWord_18 ?_
      exact x_zret hQ (rI.mk (by first | rfl | omega | (rw [if_pos (by omega)]) | (rw [if_neg (by omega)])) rfl) (by decide) dX11_isWord_22
set_option maxRecDepth 100000 in
set_option maxHeartbeats 4000000 in
theorem c_X11_emit {B : Bs} {S : Stt} {V : Va} (o : Int) (v : Int) (hS : Stat S) (h12 : 0 ≤ (V 308 12) ∧ (V 308 12) ≤ 2100) (h14 : 0 ≤ (V 308 14) ∧ (V 308 14) < 300) : C B yX11_emit cX11_emit 3 none 1 0 0 [vR B 308, vI o, vI v] S V (rV S (up (up V 308 (ua (V 308) 14 ((V 308 14) + 1))) 311 (ua (ua (V 311) ((V 308 12) + 100 + 2 * (V 308 14)) o) ((V 308 12) + 100 + 2 * (V 308 14) + 1) v))) := by
  refine C.of [some (vR B 308), some (vI o), some (vI v)] ?_
  intro Γ hQ
  refine x_al0 dX11_emit_0 ?_
  refine x_getR fl_X11_16 (sh_308 hS) (lq_308 hS) (rf_308_2 hS) dX11_emit_1 ?_
  refine x_al0 dX11_emit_4 ?_
  refine x_getI fl_X11_154 (sh_308 hS) (lq_308 hS) dX11_emit_5 ?_
  refine x_topI (a' := V 308 12) rfl ?_
  refine x_bipush dX11_emit_8 ?_
  refine x_iadd dX11_emit_10 ?_
  refine x_iconst dX11_emit_11 ?_
  refine x_al0 dX11_emit_12 ?_
  refine x_getI fl_X11_157 (sh_308 hS) (lq_308 hS) dX11_emit_13 ?_
  refine x_topI (a' := V 308 14) rfl ?_
  refine x_imul dX11_emit_16 ?_
  refine x_iadd dX11_emit_17 ?_
  refine x_il1 dX11_emit_18 ?_
  refine x_iast (sh_311 hS) (lq_311 hS) (by omega) (by omega) dX11_emit_19 ?_
  refine x_mem (V' := (up V 311 (ua (V 311) (((V 308 12) + 100) + (2 * (V 308 14))) o))) rfl ?_
  refine x_al0 dX11_emit_20 ?_
  refine x_getR fl_X11_16 (sh_308 hS) (lq_308 hS) (rf_308_2 hS) dX11_emit_21 ?_
  refine x_al0 dX11_emit_24 ?_
  refine x_getI fl_X11_154 (sh_308 hS) (lq_308 hS) dX11_emit_25 ?_
  refine x_topI (a' := V 308 12) rfl ?_
  refine x_bipush dX11_emit_28 ?_
  refine x_iadd dX11_emit_30 ?_
  refine x_iconst dX11_emit_31 ?_
  refine x_al0 dX11_emit_32 ?_
  refine x_getI fl_X11_157 (sh_308 hS) (lq_308 hS) dX11_emit_33 ?_
  refine x_topI (a' := V 308 14) rfl ?_
  refine x_imul dX11_emit_36 ?_
  refine x_iadd dX11_emit_37 ?_
  refine x_iconst dX11_emit_38 ?_
  refine x_iadd dX11_emit_39 ?_
  refine x_il2 dX11_emit_40 ?_
  refine x_iast (sh_311 hS) (lq_311 hS) (by omega) (by omega) dX11_emit_41 ?_
  refine x_mem (V' := (up V 311 (ua (ua (V 311) (((V 308 12) + 100) + (2 * (V 308 14))) o) ((((V 308 12) + 100) + (2 * (V 308 14))) + 1) v))) (st2_up _ _ _ _ _) ?_
  refine x_al0 dX11_emit_42 ?_
  refine x_dup dX11_emit_43 ?_
  refine x_getI fl_X11_157 (sh_308 hS) (lq_308 hS) dX11_emit_44 ?_
  refine x_topI (a' := V 308 14) rfl ?_
  refine x_iconst dX11_emit_47 ?_
  refine x_iadd dX11_emit_48 ?_
  refine x_putI fl_X11_157 (sh_308 hS) (lq_308 hS) dX11_emit_49 ?_
  refine x_mem (V' := (up (up V 308 (ua (V 308) 14 ((V 308 14) + 1))) 311 (ua (ua (V 311) (((V 308 12) + 100) + (2 * (V 308 14))) o) ((((V 308 12) + 100) + (2 * (V 308 14))) + 1) v))) (st2_c (by decide) rfl) ?_
  exact x_vret hQ (rV.mk rfl) dX11_emit_52
set_option maxRecDepth 100000 in
set_option maxHeartbeats 4000000 in
theorem c_X11_push {B : Bs} {S : Stt} {V : Va} (o : Int) (hS : Stat S) (h17 : 0 ≤ (V 308 17) ∧ (V 308 17) < 160) : C B yX11_push cX11_push 2 none 1 0 0 [vR B 308, vI o] S V (rV S (up (up V 308 (ua (V 308) 17 ((V 308 17) + 1))) 313 (ua (V 313) (V 308 17) o))) := by
  refine C.of [some (vR B 308), some (vI o)] ?_
  intro Γ hQ
  refine x_al0 dX11_push_0 ?_
  refine x_getR fl_X11_29 (sh_308 hS) (lq_308 hS) (rf_308_16 hS) dX11_push_1 ?_
  refine x_al0 dX11_push_4 ?_
  refine x_getI fl_X11_160 (sh_308 hS) (lq_308 hS) dX11_push_5 ?_
  refine x_topI (a' := V 308 17) rfl ?_
  refine x_il1 dX11_push_8 ?_
  refine x_iast (sh_313 hS) (lq_313 hS) (by omega) (by omega) dX11_push_9 ?_
  refine x_mem (V' := (up V 313 (ua (V 313) (V 308 17) o))) rfl ?_
  refine x_al0 dX11_push_10 ?_
  refine x_dup dX11_push_11 ?_
  refine x_getI fl_X11_160 (sh_308 hS) (lq_308 hS) dX11_push_12 ?_
  refine x_topI (a' := V 308 17) rfl ?_
  refine x_iconst dX11_push_15 ?_
  refine x_iadd dX11_push_16 ?_
  refine x_putI fl_X11_160 (sh_308 hS) (lq_308 hS) dX11_push_17 ?_
  refine x_mem (V' := (up (up V 308 (ua (V 308) 17 ((V 308 17) + 1))) 313 (ua (V 313) (V 308 17) o))) (st2_c (by decide) rfl) ?_
  exact x_vret hQ (rV.mk rfl) dX11_push_20
set_option maxRecDepth 100000 in
set_option maxHeartbeats 4000000 in
theorem c_X11_nameOf {B : Bs} {S : Stt} {V : Va} (hS : Stat S) (h9 : 0 ≤ (V 308 9) ∧ (V 308 9) < 256) (h11 : 0 ≤ (V 308 11) ∧ (V 308 11) < 72057594037927936) : C B yX11_nameOf cX11_nameOf 1 (some .int) 4 0 0 [vR B 308] S V (rI S V (nmOf (V 308 9) (V 308 11))) := by
  refine C.of [some (vR B 308)] ?_
  intro Γ hQ
  refine x_al0 dX11_nameOf_0 ?_
  refine x_getI fl_X11_129 (sh_308 hS) (lq_308 hS) dX11_nameOf_1 ?_
  refine x_topI (a' := V 308 9) rfl ?_
  refine x_iconst dX11_nameOf_4 ?_
  refine x_icmp_eq (tgt := 10) dX11_nameOf_5 (inr (by omega)) (inr (by decide)) (fun c5_1 => ?_) (fun c5_1 => ?_)
  · -- 5 eq -> 10
    refine x_al0 dX11_nameOf_10 ?_
    refine x_getL fl_X11_142 (sh_308 hS) (lq_308 hS) dX11_nameOf_11 ?_
    refine x_topL (a' := V 308 11) rfl ?_
    refine x_bipush dX11_nameOf_14 ?_
    refine x_bipush dX11_nameOf_16 ?_
    refine x_bipush dX11_nameOf_18 ?_
    refine x_bipush dX11_nameOf_20 ?_
    refine x_cSl mm_X11_w4 ml_X11_173 dX11_nameOf_22 (c_X11_w4 115 111 114 116 (by first | decide | omega) (by first | decide | omega) (by first | decide | omega) (by first | decide | omega)) ?_
    refine x_lcmp_ne (tgt := 31) dX11_nameOf_25 dX11_nameOf_26 (inl_ (by omega)) (inl_ (by omega)) (fun c25_2 => ?_) (fun c25_2 => ?_)
    · -- 25 ne -> 31
      refine x_al0 dX11_nameOf_31 ?_
      refine x_getL fl_X11_142 (sh_308 hS) (lq_308 hS) dX11_nameOf_32 ?_
      refine x_topL (a' := V 308 11) rfl ?_
      refine x_bipush dX11_nameOf_35 ?_
      refine x_bipush dX11_nameOf_37 ?_
      refine x_bipush dX11_nameOf_39 ?_
      refine x_bipush dX11_nameOf_41 ?_
      refine x_bipush dX11_nameOf_43 ?_
      refine x_bipush dX11_nameOf_45 ?_
      refine x_cSl mm_X11_w6 ml_X11_177 dX11_nameOf_47 (c_X11_w6 119 101 105 103 104 116 (by first | decide | omega) (by first | decide | omega) (by first | decide | omega) (by first | decide | omega) (by first | decide | omega) (by first | decide | omega)) ?_
      refine x_lcmp_ne (tgt := 56) dX11_nameOf_50 dX11_nameOf_51 (inl_ (by omega)) (inl_ (by omega)) (fun c50_3 => ?_) (fun c50_3 => ?_)
      · -- 50 ne -> 56
        refine x_al0 dX11_nameOf_56 ?_
        refine x_getL fl_X11_142 (sh_308 hS) (lq_308 hS) dX11_nameOf_57 ?_
        refine x_topL (a' := V 308 11) rfl ?_
        refine x_bipush dX11_nameOf_60 ?_
        refine x_bipush dX11_nameOf_62 ?_
        refine x_bipush dX11_nameOf_64 ?_
        refine x_bipush dX11_nameOf_66 ?_
        refine x_cSl mm_X11_w4 ml_X11_173 dX11_nameOf_68 (c_X11_w4 116 111 119 110 (by first | decide | omega) (by first | decide | omega) (by first | decide | omega) (by first | decide | omega)) ?_
        refine x_lcmp_ne (tgt := 77) dX11_nameOf_71 dX11_nameOf_72 (inl_ (by omega)) (inl_ (by omega)) (fun c71_4 => ?_) (fun c71_4 => ?_)
        · -- 71 ne -> 77
          refine x_al0 dX11_nameOf_77 ?_
          refine x_getL fl_X11_142 (sh_308 hS) (lq_308 hS) dX11_nameOf_78 ?_
          refine x_topL (a' := V 308 11) rfl ?_
          refine x_bipush dX11_nameOf_81 ?_
          refine x_bipush dX11_nameOf_83 ?_
          refine x_bipush dX11_nameOf_85 ?_
          refine x_bipush dX11_nameOf_87 ?_
          refine x_bipush dX11_nameOf_89 ?_
          refine x_bipush dX11_nameOf_91 ?_
          refine x_cSl mm_X11_w6 ml_X11_177 dX11_nameOf_93 (c_X11_w6 112 114 111 111 102 115 (by first | decide | omega) (by first | decide | omega) (by first | decide | omega) (by first | decide | omega) (by first | decide | omega) (by first | decide | omega)) ?_
          refine x_lcmp_ne (tgt := 102) dX11_nameOf_96 dX11_nameOf_97 (inl_ (by omega)) (inl_ (by omega)) (fun c96_5 => ?_) (fun c96_5 => ?_)
          · -- 96 ne -> 102
            refine x_al0 dX11_nameOf_102 ?_
            refine x_getL fl_X11_142 (sh_308 hS) (lq_308 hS) dX11_nameOf_103 ?_
            refine x_topL (a' := V 308 11) rfl ?_
            refine x_bipush dX11_nameOf_106 ?_
            refine x_bipush dX11_nameOf_108 ?_
            refine x_bipush dX11_nameOf_110 ?_
            refine x_bipush dX11_nameOf_112 ?_
            refine x_cSl mm_X11_w4 ml_X11_173 dX11_nameOf_114 (c_X11_w4 121 101 97 114 (by first | decide | omega) (by first | decide | omega) (by first | decide | omega) (by first | decide | omega)) ?_
            refine x_lcmp_ne (tgt := 123) dX11_nameOf_117 dX11_nameOf_118 (inl_ (by omega)) (inl_ (by omega)) (fun c117_6 => ?_) (fun c117_6 => ?_)
            · -- 117 ne -> 123
              refine x_al0 dX11_nameOf_123 ?_
              refine x_getL fl_X11_142 (sh_308 hS) (lq_308 hS) dX11_nameOf_124 ?_
              refine x_topL (a' := V 308 11) rfl ?_
              refine x_bipush dX11_nameOf_127 ?_
              refine x_bipush dX11_nameOf_129 ?_
              refine x_bipush dX11_nameOf_131 ?_
              refine x_bipush dX11_nameOf_133 ?_
              refine x_bipush dX11_nameOf_135 ?_
              refine x_cSl mm_X11_w5 ml_X11_150 dX11_nameOf_137 (c_X11_w5 111 115 111 114 116 (by first | decide | omega) (by first | decide | omega) (by first | decide | omega) (by first | decide | omega) (by first | decide | omega)) ?_
              refine x_lcmp_ne (tgt := 146) dX11_nameOf_140 dX11_nameOf_141 (inl_ (by omega)) (inl_ (by omega)) (fun c140_7 => ?_) (fun c140_7 => ?_)
              · -- 140 ne -> 146
                refine x_al0 dX11_nameOf_146 ?_
                refine x_getL fl_X11_142 (sh_308 hS) (lq_308 hS) dX11_nameOf_147 ?_
                refine x_topL (a' := V 308 11) rfl ?_
                refine x_bipush dX11_nameOf_150 ?_
                refine x_bipush dX11_nameOf_152 ?_
                refine x_bipush dX11_nameOf_154 ?_
                refine x_cSl mm_X11_w3 ml_X11_146 dX11_nameOf_156 (c_X11_w3 111 119 101 (by first | decide | omega) (by first | decide | omega) (by first | decide | omega)) ?_
                refine x_bipush dX11_nameOf_159 ?_
                refine x_lshl (by decide) (by decide) dX11_nameOf_161 ?_
                refine x_bipush dX11_nameOf_162 ?_
                refine x_bipush dX11_nameOf_164 ?_
                refine x_bipush dX11_nameOf_166 ?_
                refine x_bipush dX11_nameOf_168 ?_
                refine x_cSl mm_X11_w4 ml_X11_173 dX11_nameOf_170 (c_X11_w4 105 103 104 116 (by first | decide | omega) (by first | decide | omega) (by first | decide | omega) (by first | decide | omega)) ?_
                refine x_lor (by decide) (by decide) dX11_nameOf_173 ?_
                refine x_topL (a' := (((((111 * 256 + 119) * 256 + 101) * 256 + 105) * 256 + 103) * 256 + 104) * 256 + 116) (by decide) ?_
                refine x_lcmp_ne (tgt := 183) dX11_nameOf_174 dX11_nameOf_175 (inl_ (by omega)) (inl_ (by omega)) (fun c174_8 => ?_) (fun c174_8 => ?_)
                · -- 174 ne -> 183
                  refine x_al0 dX11_nameOf_183 ?_
                  refine x_getL fl_X11_142 (sh_308 hS) (lq_308 hS) dX11_nameOf_184 ?_
                  refine x_topL (a' := V 308 11) rfl ?_
                  refine x_bipush dX11_nameOf_187 ?_
                  refine x_bipush dX11_nameOf_189 ?_
                  refine x_bipush dX11_nameOf_191 ?_
                  refine x_bipush dX11_nameOf_193 ?_
                  refine x_bipush dX11_nameOf_195 ?_
                  refine x_cSl mm_X11_w5 ml_X11_150 dX11_nameOf_197 (c_X11_w5 111 116 111 119 110 (by first | decide | omega) (by first | decide | omega) (by first | decide | omega) (by first | decide | omega) (by first | decide | omega)) ?_
                  refine x_lcmp_ne (tgt := 209) dX11_nameOf_200 dX11_nameOf_201 (inl_ (by omega)) (inl_ (by omega)) (fun c200_9 => ?_) (fun c200_9 => ?_)
                  · -- 200 ne -> 209
                    refine x_iconst dX11_nameOf_209 ?_
                    exact x_iret hQ (rI.mk (by simp only [nmOf]; first | (rw [if_pos (by omega)]) | (rw [if_neg (by omega), if_pos (by omega)]) | (rw [if_neg (by omega), if_neg (by omega), if_pos (by omega)]) | (rw [if_neg (by omega), if_neg (by omega), if_neg (by omega), if_pos (by omega)]) | (rw [if_neg (by omega), if_neg (by omega), if_neg (by omega), if_neg (by omega), if_pos (by omega)]) | (rw [if_neg (by omega), if_neg (by omega), if_neg (by omega), if_neg (by omega), if_neg (by omega), if_pos (by omega)]) | (rw [if_neg (by omega), if_neg (by omega), if_neg (by omega), if_neg (by omega), if_neg (by omega), if_neg (by omega), if_pos (by omega)]) | (rw [if_neg (by omega), if_neg (by omega), if_neg (by omega), if_neg (by omega), if_neg (by omega), if_neg (by omega), if_neg (by omega), if_pos (by omega)]) | (rw [if_neg (by omega), if_neg (by omega), if_neg (by omega), if_neg (by omega), if_neg (by omega), if_neg (by omega), if_neg (by omega), if_neg (by omega), if_pos (by omega)]) | (rw [if_neg (by omega), if_neg (by omega), if_neg (by omega), if_neg (by omega), if_neg (by omega), if_neg (by omega), if_neg (by omega), if_neg (by omega), if_neg (by omega)])) rfl) dX11_nameOf_210
                  · -- 200 ne -> 204
                    refine x_bipush dX11_nameOf_204 ?_
                    refine x_goto (tgt := 210) dX11_nameOf_206 ?_
                    exact x_iret hQ (rI.mk (by simp only [nmOf]; first | (rw [if_pos (by omega)]) | (rw [if_neg (by omega), if_pos (by omega)]) | (rw [if_neg (by omega), if_neg (by omega), if_pos (by omega)]) | (rw [if_neg (by omega), if_neg (by omega), if_neg (by omega), if_pos (by omega)]) | (rw [if_neg (by omega), if_neg (by omega), if_neg (by omega), if_neg (by omega), if_pos (by omega)]) | (rw [if_neg (by omega), if_neg (by omega), if_neg (by omega), if_neg (by omega), if_neg (by omega), if_pos (by omega)]) | (rw [if_neg (by omega), if_neg (by omega), if_neg (by omega), if_neg (by omega), if_neg (by omega), if_neg (by omega), if_pos (by omega)]) | (rw [if_neg (by omega), if_neg (by omega), if_neg (by omega), if_neg (by omega), if_neg (by omega), if_neg (by omega), if_neg (by omega), if_pos (by omega)]) | (rw [if_neg (by omega), if_neg (by omega), if_neg (by omega), if_neg (by omega), if_neg (by omega), if_neg (by omega), if_neg (by omega), if_neg (by omega), if_pos (by omega)]) | (rw [if_neg (by omega), if_neg (by omega), if_neg (by omega), if_neg (by omega), if_neg (by omega), if_neg (by omega), if_neg (by omega), if_neg (by omega), if_neg (by omega)])) rfl) dX11_nameOf_210
                · -- 174 ne -> 178
                  refine x_bipush dX11_nameOf_178 ?_
                  refine x_goto (tgt := 210) dX11_nameOf_180 ?_
                  exact x_iret hQ (rI.mk (by simp only [nmOf]; first | (rw [if_pos (by omega)]) | (rw [if_neg (by omega), if_pos (by omega)]) | (rw [if_neg (by omega), if_neg (by omega), if_pos (by omega)]) | (rw [if_neg (by omega), if_neg (by omega), if_neg (by omega), if_pos (by omega)]) | (rw [if_neg (by omega), if_neg (by omega), if_neg (by omega), if_neg (by omega), if_pos (by omega)]) | (rw [if_neg (by omega), if_neg (by omega), if_neg (by omega), if_neg (by omega), if_neg (by omega), if_pos (by omega)]) | (rw [if_neg (by omega), if_neg (by omega), if_neg (by omega), if_neg (by omega), if_neg (by omega), if_neg (by omega), if_pos (by omega)]) | (rw [if_neg (by omega), if_neg (by omega), if_neg (by omega), if_neg (by omega), if_neg (by omega), if_neg (by omega), if_neg (by omega), if_pos (by omega)]) | (rw [if_neg (by omega), if_neg (by omega), if_neg (by omega), if_neg (by omega), if_neg (by omega), if_neg (by omega), if_neg (by omega), if_neg (by omega), if_pos (by omega)]) | (rw [if_neg (by omega), if_neg (by omega), if_neg (by omega), if_neg (by omega), if_neg (by omega), if_neg (by omega), if_neg (by omega), if_neg (by omega), if_neg (by omega)])) rfl) dX11_nameOf_210
              · -- 140 ne -> 144
                refine x_iconst dX11_nameOf_144 ?_
                exact x_iret hQ (rI.mk (by simp only [nmOf]; first | (rw [if_pos (by omega)]) | (rw [if_neg (by omega), if_pos (by omega)]) | (rw [if_neg (by omega), if_neg (by omega), if_pos (by omega)]) | (rw [if_neg (by omega), if_neg (by omega), if_neg (by omega), if_pos (by omega)]) | (rw [if_neg (by omega), if_neg (by omega), if_neg (by omega), if_neg (by omega), if_pos (by omega)]) | (rw [if_neg (by omega), if_neg (by omega), if_neg (by omega), if_neg (by omega), if_neg (by omega), if_pos (by omega)]) | (rw [if_neg (by omega), if_neg (by omega), if_neg (by omega), if_neg (by omega), if_neg (by omega), if_neg (by omega), if_pos (by omega)]) | (rw [if_neg (by omega), if_neg (by omega), if_neg (by omega), if_neg (by omega), if_neg (by omega), if_neg (by omega), if_neg (by omega), if_pos (by omega)]) | (rw [if_neg (by omega), if_neg (by omega), if_neg (by omega), if_neg (by omega), if_neg (by omega), if_neg (by omega), if_neg (by omega), if_neg (by omega), if_pos (by omega)]) | (rw [if_neg (by omega), if_neg (by omega), if_neg (by omega), if_neg (by omega), if_neg (by omega), if_neg (by omega), if_neg (by omega), if_neg (by omega), if_neg (by omega)])) rfl) dX11_nameOf_145
            · -- 117 ne -> 121
              refine x_iconst dX11_nameOf_121 ?_
              exact x_iret hQ (rI.mk (by simp only [nmOf]; first | (rw [if_pos (by omega)]) | (rw [if_neg (by omega), if_pos (by omega)]) | (rw [if_neg (by omega), if_neg (by omega), if_pos (by omega)]) | (rw [if_neg (by omega), if_neg (by omega), if_neg (by omega), if_pos (by omega)]) | (rw [if_neg (by omega), if_neg (by omega), if_neg (by omega), if_neg (by omega), if_pos (by omega)]) | (rw [if_neg (by omega), if_neg (by omega), if_neg (by omega), if_neg (by omega), if_neg (by omega), if_pos (by omega)]) | (rw [if_neg (by omega), if_neg (by omega), if_neg (by omega), if_neg (by omega), if_neg (by omega), if_neg (by omega), if_pos (by omega)]) | (rw [if_neg (by omega), if_neg (by omega), if_neg (by omega), if_neg (by omega), if_neg (by omega), if_neg (by omega), if_neg (by omega), if_pos (by omega)]) | (rw [if_neg (by omega), if_neg (by omega), if_neg (by omega), if_neg (by omega), if_neg (by omega), if_neg (by omega), if_neg (by omega), if_neg (by omega), if_pos (by omega)]) | (rw [if_neg (by omega), if_neg (by omega), if_neg (by omega), if_neg (by omega), if_neg (by omega), if_neg (by omega), if_neg (by omega), if_neg (by omega), if_neg (by omega)])) rfl) dX11_nameOf_122
          · -- 96 ne -> 100
            refine x_iconst dX11_nameOf_100 ?_
            exact x_iret hQ (rI.mk (by simp only [nmOf]; first | (rw [if_pos (by omega)]) | (rw [if_neg (by omega), if_pos (by omega)]) | (rw [if_neg (by omega), if_neg (by omega), if_pos (by omega)]) | (rw [if_neg (by omega), if_neg (by omega), if_neg (by omega), if_pos (by omega)]) | (rw [if_neg (by omega), if_neg (by omega), if_neg (by omega), if_neg (by omega), if_pos (by omega)]) | (rw [if_neg (by omega), if_neg (by omega), if_neg (by omega), if_neg (by omega), if_neg (by omega), if_pos (by omega)]) | (rw [if_neg (by omega), if_neg (by omega), if_neg (by omega), if_neg (by omega), if_neg (by omega), if_neg (by omega), if_pos (by omega)]) | (rw [if_neg (by omega), if_neg (by omega), if_neg (by omega), if_neg (by omega), if_neg (by omega), if_neg (by omega), if_neg (by omega), if_pos (by omega)]) | (rw [if_neg (by omega), if_neg (by omega), if_neg (by omega), if_neg (by omega), if_neg (by omega), if_neg (by omega), if_neg (by omega), if_neg (by omega), if_pos (by omega)]) | (rw [if_neg (by omega), if_neg (by omega), if_neg (by omega), if_neg (by omega), if_neg (by omega), if_neg (by omega), if_neg (by omega), if_neg (by omega), if_neg (by omega)])) rfl) dX11_nameOf_101
        · -- 71 ne -> 75
          refine x_iconst dX11_nameOf_75 ?_
          exact x_iret hQ (rI.mk (by simp only [nmOf]; first | (rw [if_pos (by omega)]) | (rw [if_neg (by omega), if_pos (by omega)]) | (rw [if_neg (by omega), if_neg (by omega), if_pos (by omega)]) | (rw [if_neg (by omega), if_neg (by omega), if_neg (by omega), if_pos (by omega)]) | (rw [if_neg (by omega), if_neg (by omega), if_neg (by omega), if_neg (by omega), if_pos (by omega)]) | (rw [if_neg (by omega), if_neg (by omega), if_neg (by omega), if_neg (by omega), if_neg (by omega), if_pos (by omega)]) | (rw [if_neg (by omega), if_neg (by omega), if_neg (by omega), if_neg (by omega), if_neg (by omega), if_neg (by omega), if_pos (by omega)]) | (rw [if_neg (by omega), if_neg (by omega), if_neg (by omega), if_neg (by omega), if_neg (by omega), if_neg (by omega), if_neg (by omega), if_pos (by omega)]) | (rw [if_neg (by omega), if_neg (by omega), if_neg (by omega), if_neg (by omega), if_neg (by omega), if_neg (by omega), if_neg (by omega), if_neg (by omega), if_pos (by omega)]) | (rw [if_neg (by omega), if_neg (by omega), if_neg (by omega), if_neg (by omega), if_neg (by omega), if_neg (by omega), if_neg (by omega), if_neg (by omega), if_neg (by omega)])) rfl) dX11_nameOf_76
      · -- 50 ne -> 54
        refine x_iconst dX11_nameOf_54 ?_
        exact x_iret hQ (rI.mk (by simp only [nmOf]; first | (rw [if_pos (by omega)]) | (rw [if_neg (by omega), if_pos (by omega)]) | (rw [if_neg (by omega), if_neg (by omega), if_pos (by omega)]) | (rw [if_neg (by omega), if_neg (by omega), if_neg (by omega), if_pos (by omega)]) | (rw [if_neg (by omega), if_neg (by omega), if_neg (by omega), if_neg (by omega), if_pos (by omega)]) | (rw [if_neg (by omega), if_neg (by omega), if_neg (by omega), if_neg (by omega), if_neg (by omega), if_pos (by omega)]) | (rw [if_neg (by omega), if_neg (by omega), if_neg (by omega), if_neg (by omega), if_neg (by omega), if_neg (by omega), if_pos (by omega)]) | (rw [if_neg (by omega), if_neg (by omega), if_neg (by omega), if_neg (by omega), if_neg (by omega), if_neg (by omega), if_neg (by omega), if_pos (by omega)]) | (rw [if_neg (by omega), if_neg (by omega), if_neg (by omega), if_neg (by omega), if_neg (by omega), if_neg (by omega), if_neg (by omega), if_neg (by omega), if_pos (by omega)]) | (rw [if_neg (by omega), if_neg (by omega), if_neg (by omega), if_neg (by omega), if_neg (by omega), if_neg (by omega), if_neg (by omega), if_neg (by omega), if_neg (by omega)])) rfl) dX11_nameOf_55
    · -- 25 ne -> 29
      refine x_iconst dX11_nameOf_29 ?_
      exact x_iret hQ (rI.mk (by simp only [nmOf]; first | (rw [if_pos (by omega)]) | (rw [if_neg (by omega), if_pos (by omega)]) | (rw [if_neg (by omega), if_neg (by omega), if_pos (by omega)]) | (rw [if_neg (by omega), if_neg (by omega), if_neg (by omega), if_pos (by omega)]) | (rw [if_neg (by omega), if_neg (by omega), if_neg (by omega), if_neg (by omega), if_pos (by omega)]) | (rw [if_neg (by omega), if_neg (by omega), if_neg (by omega), if_neg (by omega), if_neg (by omega), if_pos (by omega)]) | (rw [if_neg (by omega), if_neg (by omega), if_neg (by omega), if_neg (by omega), if_neg (by omega), if_neg (by omega), if_pos (by omega)]) | (rw [if_neg (by omega), if_neg (by omega), if_neg (by omega), if_neg (by omega), if_neg (by omega), if_neg (by omega), if_neg (by omega), if_pos (by omega)]) | (rw [if_neg (by omega), if_neg (by omega), if_neg (by omega), if_neg (by omega), if_neg (by omega), if_neg (by omega), if_neg (by omega), if_neg (by omega), if_pos (by omega)]) | (rw [if_neg (by omega), if_neg (by omega), if_neg (by omega), if_neg (by omega), if_neg (by omega), if_neg (by omega), if_neg (by omega), if_neg (by omega), if_neg (by omega)])) rfl) dX11_nameOf_30
  · -- 5 eq -> 8
    refine x_iconst dX11_nameOf_8 ?_
    exact x_iret hQ (rI.mk (by simp only [nmOf]; first | (rw [if_pos (by omega)]) | (rw [if_neg (by omega), if_pos (by omega)]) | (rw [if_neg (by omega), if_neg (by omega), if_pos (by omega)]) | (rw [if_neg (by omega), if_neg (by omega), if_neg (by omega), if_pos (by omega)]) | (rw [if_neg (by omega), if_neg (by omega), if_neg (by omega), if_neg (by omega), if_pos (by omega)]) | (rw [if_neg (by omega), if_neg (by omega), if_neg (by omega), if_neg (by omega), if_neg (by omega), if_pos (by omega)]) | (rw [if_neg (by omega), if_neg (by omega), if_neg (by omega), if_neg (by omega), if_neg (by omega), if_neg (by omega), if_pos (by omega)]) | (rw [if_neg (by omega), if_neg (by omega), if_neg (by omega), if_neg (by omega), if_neg (by omega), if_neg (by omega), if_neg (by omega), if_pos (by omega)]) | (rw [if_neg (by omega), if_neg (by omega), if_neg (by omega), if_neg (by omega), if_neg (by omega), if_neg (by omega), if_neg (by omega), if_neg (by omega), if_pos (by omega)]) | (rw [if_neg (by omega), if_neg (by omega), if_neg (by omega), if_neg (by omega), if_neg (by omega), if_neg (by omega), if_neg (by omega), if_neg (by omega), if_neg (by omega)])) rfl) dX11_nameOf_9
set_option maxRecDepth 100000 in
set_option maxHeartbeats 4000000 in
theorem c_X11_isBarred {B : Bs} {S : Stt} {V : Va} (name : Int) (hS : Stat S) (hname : InR name) (h20 : InR (V 308 20)) : C B yX11_isBarred cX11_isBarred 2 (some .boolean) 1 0 0 [vR B 308, vI name] S V (rI S V (if 4 < name ∧ (V 308 20) ≠ 2 then 1 else 0)) := by
  refine C.of [some (vR B 308), some (vI name)] ?_
  intro Γ hQ
  refine x_il1 dX11_isBarred_0 ?_
  refine x_iconst dX11_isBarred_1 ?_
  refine x_icmp_le (tgt := 17) dX11_isBarred_2 (inr (by omega)) (inr (by decide)) (fun c2_1 => ?_) (fun c2_1 => ?_)
  · -- 2 le -> 17
    refine x_iconst dX11_isBarred_17 ?_
    exact x_zret hQ (rI.mk (by first | rfl | omega | (rw [if_pos (by omega)]) | (rw [if_neg (by omega)])) rfl) (by decide) dX11_isBarred_18
  · -- 2 le -> 5
    refine x_al0 dX11_isBarred_5 ?_
    refine x_getI fl_X11_181 (sh_308 hS) (lq_308 hS) dX11_isBarred_6 ?_
    refine x_topI (a' := V 308 20) rfl ?_
    refine x_iconst dX11_isBarred_9 ?_
    refine x_icmp_eq (tgt := 17) dX11_isBarred_10 (inr (by omega)) (inr (by decide)) (fun c10_2 => ?_) (fun c10_2 => ?_)
    · -- 10 eq -> 17
      refine x_iconst dX11_isBarred_17 ?_
      exact x_zret hQ (rI.mk (by first | rfl | omega | (rw [if_pos (by omega)]) | (rw [if_neg (by omega)])) rfl) (by decide) dX11_isBarred_18
    · -- 10 eq -> 13
      refine x_iconst dX11_isBarred_13 ?_
      refine x_goto (tgt := 18) dX11_isBarred_14 ?_
      exact x_zret hQ (rI.mk (by first | rfl | omega | (rw [if_pos (by omega)]) | (rw [if_neg (by omega)])) rfl) (by decide) dX11_isBarred_18
set_option maxRecDepth 100000 in
set_option maxHeartbeats 4000000 in
theorem c_X11_whole {B : Bs} {S : Stt} {V : Va} (m : Nat) (L : List Int) (hS : Stat S) (h12 : 0 ≤ (V 308 12) ∧ (V 308 12) ≤ 2100) (hPb : AB (V 313)) (h14 : 0 ≤ (V 308 14) ∧ (V 308 14) + m ≤ 300) (hpd : (V 308 17) ≤ 160) (hP : Pile (V 313) (List.replicate m 2 ++ L) (V 308 17)) (hL : ∀ L2, L ≠ 2 :: L2) (hop : InR (V 308 18)) : C B yX11_whole cX11_whole 1 none 2 0 0 [vR B 308] S V (rV S (up (up V 308 (ua (ua (ua (ua (V 308) 19 1) 17 ((V 308 17) - m)) 18 ((V 308 18) - m)) 14 ((V 308 14) + m))) 311 (emL (V 311) (V 308 12) (V 308 14) (repN m)))) := by
  refine C.of [some (vR B 308)] ?_
  intro Γ hQ
  obtain ⟨hPL, hrep⟩ := Pile_rep hP
  have hlen := Pile_len hPL
  refine x_al0 dX11_whole_0 ?_
  refine x_iconst dX11_whole_1 ?_
  refine x_putZ fl_X11_163 (sh_308 hS) (lq_308 hS) (by decide) dX11_whole_2 ?_
  refine x_mem (V' := (up V 308 (ua (V 308) 19 1))) rfl ?_
  have lp5 : ∀ (N5 : Nat) (j : Int), (0 ≤ j ∧ j ≤ m) → ((m : Int) - j).toNat < N5 → X Γ B RX11 "whole" cX11_whole 1 none 2 0 0 5 [some (vR B 308)] [] 0 0 S (up (up V 308 (ua (ua (ua (ua (V 308) 19 1) 17 (V 308 17 - j)) 18 (V 308 18 - j)) 14 (V 308 14 + j))) 311 (emL (V 311) (V 308 12) (V 308 14) (repN (Int.toNat j)))) := by
    intro N5
    induction N5 with
    | zero => intro j hj hN; exact absurd hN (Nat.not_lt_zero _)
    | succ N5 ih5 =>
      intro j hj hN5
      refine x_al0 dX11_whole_5 ?_
      refine x_getI fl_X11_160 (sh_308 hS) (lq_308 hS) dX11_whole_6 ?_
      refine x_topI (a' := V 308 17 - j) (show (ua (ua (ua (ua (V 308) 19 1) 17 (V 308 17 - j)) 18 (V 308 18 - j)) 14 (V 308 14 + j)) 17 = V 308 17 - j from ((ua_ne (by decide)).trans ((ua_ne (by decide)).trans (ua_same _ _ _)))) ?_
      refine x_if_le (tgt := 56) dX11_whole_9 (inr (by omega)) (fun c9_1 => ?_) (fun c9_1 => ?_)
      · -- 9 le -> 56
        have hjm : j = m := by
          by_cases q : j < m
          · have := hrep j hj.1 q; rw [show V 308 17 - 1 - j = V 308 17 - j - 1 by omega] at this; omega
          · omega
        exact x_vret hQ (rV.mk (upE (upE rfl (by rw [hjm])) (by rw [show m = j.toNat by omega]))) dX11_whole_56
      · -- 9 le -> 12
        refine x_al0 dX11_whole_12 ?_
        refine x_getR fl_X11_29 (sh_308 hS) (lq_308 hS) (rf_308_16 hS) dX11_whole_13 ?_
        refine x_al0 dX11_whole_16 ?_
        refine x_getI fl_X11_160 (sh_308 hS) (lq_308 hS) dX11_whole_17 ?_
        refine x_topI (a' := V 308 17 - j) (show (ua (ua (ua (ua (V 308) 19 1) 17 (V 308 17 - j)) 18 (V 308 18 - j)) 14 (V 308 14 + j)) 17 = V 308 17 - j from ((ua_ne (by decide)).trans ((ua_ne (by decide)).trans (ua_same _ _ _)))) ?_
        refine x_iconst dX11_whole_20 ?_
        refine x_isub dX11_whole_21 ?_
        have hb2 := hPb ((V 308 17 - j) - 1)
        refine x_iald (sh_313 hS) (lq_313 hS) (by omega) (by omega) dX11_whole_22 ?_
        refine x_topI (a' := V 313 ((V 308 17 - j) - 1)) rfl ?_
        refine x_iconst dX11_whole_23 ?_
        refine x_icmp_ne (tgt := 56) dX11_whole_24 (inr (by omega)) (inr (by decide)) (fun c24_3 => ?_) (fun c24_3 => ?_)
        · -- 24 ne -> 56
          have hjm : j = m := by
            by_cases q : j < m
            · have := hrep j hj.1 q; rw [show V 308 17 - 1 - j = V 308 17 - j - 1 by omega] at this; omega
            · omega
          exact x_vret hQ (rV.mk (upE (upE rfl (by rw [hjm])) (by rw [show m = j.toNat by omega]))) dX11_whole_56
        · -- 24 ne -> 27
          have hjm : j < m := by
            by_cases q : j < m
            · exact q
            · obtain ⟨L2, e2⟩ := Pile_top hPL (by omega)
              rw [show V 308 17 - (m : Int) - 1 = V 308 17 - j - 1 by omega] at e2
              exact absurd (e2.trans (by congr 1)) (hL L2)
          refine x_al0 dX11_whole_27 ?_
          refine x_dup dX11_whole_28 ?_
          refine x_getI fl_X11_160 (sh_308 hS) (lq_308 hS) dX11_whole_29 ?_
          refine x_topI (a' := V 308 17 - j) (show (ua (ua (ua (ua (V 308) 19 1) 17 (V 308 17 - j)) 18 (V 308 18 - j)) 14 (V 308 14 + j)) 17 = V 308 17 - j from ((ua_ne (by decide)).trans ((ua_ne (by decide)).trans (ua_same _ _ _)))) ?_
          refine x_iconst dX11_whole_32 ?_
          refine x_isub dX11_whole_33 ?_
          refine x_putI fl_X11_160 (sh_308 hS) (lq_308 hS) dX11_whole_34 ?_
          refine x_mem (V' := (up (up V 308 (ua (ua (ua (ua (ua (V 308) 19 1) 17 (V 308 17 - j)) 18 (V 308 18 - j)) 14 (V 308 14 + j)) 17 ((V 308 17 - j) - 1))) 311 (emL (V 311) (V 308 12) (V 308 14) (repN (Int.toNat j))))) (st2_c (by decide) (st2_up _ _ _ _ _)) ?_
          refine x_al0 dX11_whole_37 ?_
          refine x_dup dX11_whole_38 ?_
          refine x_getI fl_X11_167 (sh_308 hS) (lq_308 hS) dX11_whole_39 ?_
          refine x_topI (a' := V 308 18 - j) (show (ua (ua (ua (ua (ua (V 308) 19 1) 17 (V 308 17 - j)) 18 (V 308 18 - j)) 14 (V 308 14 + j)) 17 ((V 308 17 - j) - 1)) 18 = V 308 18 - j from ((ua_ne (by decide)).trans ((ua_ne (by decide)).trans (ua_same _ _ _)))) ?_
          refine x_iconst dX11_whole_42 ?_
          refine x_isub dX11_whole_43 ?_
          refine x_putI fl_X11_167 (sh_308 hS) (lq_308 hS) dX11_whole_44 ?_
          refine x_mem (V' := (up (up V 308 (ua (ua (ua (ua (ua (ua (V 308) 19 1) 17 (V 308 17 - j)) 18 (V 308 18 - j)) 14 (V 308 14 + j)) 17 ((V 308 17 - j) - 1)) 18 ((V 308 18 - j) - 1))) 311 (emL (V 311) (V 308 12) (V 308 14) (repN (Int.toNat j))))) (st2_c (by decide) (st2_up _ _ _ _ _)) ?_
          refine x_al0 dX11_whole_47 ?_
          refine x_iconst dX11_whole_48 ?_
          refine x_iconst dX11_whole_49 ?_
          refine x_cVv mm_X11_emit ml_X11_170 dX11_whole_50 (c_X11_emit 2 0 hS (show 0 ≤ (V 308 12) ∧ (V 308 12) ≤ 2100 from h12) (show 0 ≤ (V 308 14 + j) ∧ (V 308 14 + j) < 300 from (by omega))) (sh_308 hS) (lq_308 hS) ?_
          refine x_mem (V' := (up (up V 308 (ua (ua (ua (ua (ua (ua (ua (V 308) 19 1) 17 (V 308 17 - j)) 18 (V 308 18 - j)) 14 (V 308 14 + j)) 17 ((V 308 17 - j) - 1)) 18 ((V 308 18 - j) - 1)) 14 ((V 308 14 + j) + 1))) 311 (ua (ua (emL (V 311) (V 308 12) (V 308 14) (repN (Int.toNat j))) ((V 308 12) + 100 + 2 * (V 308 14 + j)) 2) ((V 308 12) + 100 + 2 * (V 308 14 + j) + 1) 0))) (Eq.trans (congrArg (fun z => up z 311 _) (up_k (by decide) (up_up _ _ _ _))) (up_up _ _ _ _)) ?_
          refine x_goto (tgt := 5) dX11_whole_53 ?_
          refine x_mem (V' := (up (up V 308 (ua (ua (ua (ua (V 308) 19 1) 17 (V 308 17 - (j + 1))) 18 (V 308 18 - (j + 1))) 14 (V 308 14 + (j + 1)))) 311 (emL (V 311) (V 308 12) (V 308 14) (repN (Int.toNat (j + 1)))))) (upE (upE rfl (by funext z; simp only [ua]; (repeat' split) <;> first | rfl | omega | (subst_vars; omega) | (rename_i h; rw [h]; omega))) (by rw [show (j + 1).toNat = j.toNat + 1 by omega, repN_s, emL_app, repN_len, emL_1 _ _ _ _ _ (by decide) (by decide), show ((j.toNat : Nat) : Int) = j by omega])) ?_
          exact x_fg (ih5 (j + 1) (by omega) (by omega)) (And.intro rfl trivial)
  refine x_mem (V' := (up (up V 308 (ua (ua (ua (ua (V 308) 19 1) 17 (V 308 17 - 0)) 18 (V 308 18 - 0)) 14 (V 308 14 + 0))) 311 (emL (V 311) (V 308 12) (V 308 14) (repN (Int.toNat 0))))) (Eq.trans (show _ = (up (up V 308 (ua (V 308) 19 1)) 311 (V 311)) from (Eq.symm (up_self _ 311))) (show (up (up V 308 (ua (V 308) 19 1)) 311 (V 311)) = (up (up V 308 (ua (ua (ua (ua (V 308) 19 1) 17 (V 308 17 - 0)) 18 (V 308 18 - 0)) 14 (V 308 14 + 0))) 311 (emL (V 311) (V 308 12) (V 308 14) (repN (Int.toNat 0)))) from (upE (upE rfl (by funext z; simp only [ua]; (repeat' split) <;> first | rfl | omega | (subst_vars; omega) | (rename_i h; rw [h]; omega))) rfl))) ?_
  exact x_fg (lp5 _ 0 (by omega) (Nat.lt_succ_self _)) (And.intro rfl trivial)
set_option maxRecDepth 100000 in
set_option maxHeartbeats 4000000 in
theorem c_X11_settle {B : Bs} {S : Stt} {V : Va} (least : Int) (c : List Int) (L : List Int) (hS : Stat S) (h12 : 0 ≤ (V 308 12) ∧ (V 308 12) ≤ 2100) (hPb : AB (V 313)) (hleast : InR least) (h14 : 0 ≤ (V 308 14) ∧ (V 308 14) + c.length ≤ 300) (hpd : (V 308 17) ≤ 160) (hP : Pile (V 313) (c ++ L) (V 308 17)) (hc : ∀ x, x ∈ c → least ≤ x ∧ x < 40) (hL : ∀ x L2, L = x :: L2 → ¬ (least ≤ x ∧ x < 40)) : C B yX11_settle cX11_settle 2 none 2 0 0 [vR B 308, vI least] S V (rV S (up (up V 308 (ua (ua (V 308) 17 ((V 308 17) - c.length)) 14 ((V 308 14) + c.length))) 311 (emL (V 311) (V 308 12) (V 308 14) (c.map fun zz => (zz, 0))))) := by
  refine C.of [some (vR B 308), some (vI least)] ?_
  intro Γ hQ
  have hPd := Pile_len hP
  have lp0 : ∀ (N0 : Nat) (d : List Int) (e : List Int), (c = d ++ e) → e.length < N0 → X Γ B RX11 "settle" cX11_settle 2 none 2 0 0 0 [some (vR B 308), some (vI least)] [] 0 0 S (up (up V 308 (ua (ua (V 308) 17 (V 308 17 - d.length)) 14 (V 308 14 + d.length))) 311 (emL (V 311) (V 308 12) (V 308 14) (d.map fun zz => (zz, 0)))) := by
    intro N0
    induction N0 with
    | zero => intro d e hde hN; exact absurd hN (Nat.not_lt_zero _)
    | succ N0 ih0 =>
      intro d e hde hN0
      have hcl : c.length = d.length + e.length := by rw [hde, List.length_append]
      have hPe : Pile (V 313) (e ++ L) (V 308 17 - d.length) := Pile_drop (c := d) (by rw [← List.append_assoc, ← hde]; exact hP)
      have hPel := Pile_len hPe
      refine x_al0 dX11_settle_0 ?_
      refine x_getI fl_X11_160 (sh_308 hS) (lq_308 hS) dX11_settle_1 ?_
      refine x_topI (a' := V 308 17 - d.length) (show (ua (ua (V 308) 17 (V 308 17 - d.length)) 14 (V 308 14 + d.length)) 17 = V 308 17 - d.length from ((ua_ne (by decide)).trans (ua_same _ _ _))) ?_
      refine x_if_le (tgt := 65) dX11_settle_4 (inr (by omega)) (fun c4_1 => ?_) (fun c4_1 => ?_)
      · -- 4 le -> 65
        have hen : e = [] := by
          cases e with
          | nil => rfl
          | cons x e2 =>
            have h1 := hPe.2.1
            have h2 := hPe.1
            have h3 := hc x (by rw [hde]; simp)
            omega
        exact x_vret hQ (rV.mk (upE (upE rfl (by rw [hcl, hen]; simp)) (by rw [hde, hen, List.append_nil]))) dX11_settle_65
      · -- 4 le -> 7
        refine x_al0 dX11_settle_7 ?_
        refine x_getR fl_X11_29 (sh_308 hS) (lq_308 hS) (rf_308_16 hS) dX11_settle_8 ?_
        refine x_al0 dX11_settle_11 ?_
        refine x_getI fl_X11_160 (sh_308 hS) (lq_308 hS) dX11_settle_12 ?_
        refine x_topI (a' := V 308 17 - d.length) (show (ua (ua (V 308) 17 (V 308 17 - d.length)) 14 (V 308 14 + d.length)) 17 = V 308 17 - d.length from ((ua_ne (by decide)).trans (ua_same _ _ _))) ?_
        refine x_iconst dX11_settle_15 ?_
        refine x_isub dX11_settle_16 ?_
        have hb2 := hPb ((V 308 17 - d.length) - 1)
        refine x_iald (sh_313 hS) (lq_313 hS) (by omega) (by omega) dX11_settle_17 ?_
        refine x_topI (a' := V 313 ((V 308 17 - d.length) - 1)) rfl ?_
        refine x_bipush dX11_settle_18 ?_
        refine x_icmp_ge (tgt := 65) dX11_settle_20 (inr (by omega)) (inr (by decide)) (fun c20_3 => ?_) (fun c20_3 => ?_)
        · -- 20 ge -> 65
          have hen : e = [] := by
            cases e with
            | nil => rfl
            | cons x e2 =>
              have h1 := hPe.2.1
              have h2 := hPe.1
              have h3 := hc x (by rw [hde]; simp)
              omega
          exact x_vret hQ (rV.mk (upE (upE rfl (by rw [hcl, hen]; simp)) (by rw [hde, hen, List.append_nil]))) dX11_settle_65
        · -- 20 ge -> 23
          refine x_al0 dX11_settle_23 ?_
          refine x_getR fl_X11_29 (sh_308 hS) (lq_308 hS) (rf_308_16 hS) dX11_settle_24 ?_
          refine x_al0 dX11_settle_27 ?_
          refine x_getI fl_X11_160 (sh_308 hS) (lq_308 hS) dX11_settle_28 ?_
          refine x_topI (a' := V 308 17 - d.length) (show (ua (ua (V 308) 17 (V 308 17 - d.length)) 14 (V 308 14 + d.length)) 17 = V 308 17 - d.length from ((ua_ne (by decide)).trans (ua_same _ _ _))) ?_
          refine x_iconst dX11_settle_31 ?_
          refine x_isub dX11_settle_32 ?_
          have hb4 := hPb ((V 308 17 - d.length) - 1)
          refine x_iald (sh_313 hS) (lq_313 hS) (by omega) (by omega) dX11_settle_33 ?_
          refine x_topI (a' := V 313 ((V 308 17 - d.length) - 1)) rfl ?_
          refine x_il1 dX11_settle_34 ?_
          refine x_icmp_lt (tgt := 65) dX11_settle_35 (inr (by omega)) (inr (by omega)) (fun c35_5 => ?_) (fun c35_5 => ?_)
          · -- 35 lt -> 65
            have hen : e = [] := by
              cases e with
              | nil => rfl
              | cons x e2 =>
                have h1 := hPe.2.1
                have h2 := hPe.1
                have h3 := hc x (by rw [hde]; simp)
                omega
            exact x_vret hQ (rV.mk (upE (upE rfl (by rw [hcl, hen]; simp)) (by rw [hde, hen, List.append_nil]))) dX11_settle_65
          · -- 35 lt -> 38
            have hee : ∃ e2, e = V 313 (V 308 17 - d.length - 1) :: e2 := by
              cases e with
              | nil =>
                obtain ⟨L2, e2⟩ := Pile_top hPe (by omega)
                exact absurd ⟨by omega, by omega⟩ (hL _ L2 e2)
              | cons x e2 => exact ⟨e2, by rw [hPe.2.1]⟩
            obtain ⟨e2, hee⟩ := hee
            have hel : e.length = e2.length + 1 := by rw [hee]; rfl
            refine x_al0 dX11_settle_38 ?_
            refine x_dup dX11_settle_39 ?_
            refine x_getI fl_X11_160 (sh_308 hS) (lq_308 hS) dX11_settle_40 ?_
            refine x_topI (a' := V 308 17 - d.length) (show (ua (ua (V 308) 17 (V 308 17 - d.length)) 14 (V 308 14 + d.length)) 17 = V 308 17 - d.length from ((ua_ne (by decide)).trans (ua_same _ _ _))) ?_
            refine x_iconst dX11_settle_43 ?_
            refine x_isub dX11_settle_44 ?_
            refine x_putI fl_X11_160 (sh_308 hS) (lq_308 hS) dX11_settle_45 ?_
            refine x_mem (V' := (up (up V 308 (ua (ua (ua (V 308) 17 (V 308 17 - d.length)) 14 (V 308 14 + d.length)) 17 ((V 308 17 - d.length) - 1))) 311 (emL (V 311) (V 308 12) (V 308 14) (d.map fun zz => (zz, 0))))) (st2_c (by decide) (st2_up _ _ _ _ _)) ?_
            refine x_al0 dX11_settle_48 ?_
            refine x_al0 dX11_settle_49 ?_
            refine x_getR fl_X11_29 (sh_308 hS) (lq_308 hS) (rf_308_16 hS) dX11_settle_50 ?_
            refine x_al0 dX11_settle_53 ?_
            refine x_getI fl_X11_160 (sh_308 hS) (lq_308 hS) dX11_settle_54 ?_
            refine x_topI (a' := (V 308 17 - d.length) - 1) (show (ua (ua (ua (V 308) 17 (V 308 17 - d.length)) 14 (V 308 14 + d.length)) 17 ((V 308 17 - d.length) - 1)) 17 = (V 308 17 - d.length) - 1 from (ua_same _ _ _)) ?_
            have hb6 := hPb ((V 308 17 - d.length) - 1)
            refine x_iald (sh_313 hS) (lq_313 hS) (by omega) (by omega) dX11_settle_57 ?_
            refine x_topI (a' := V 313 ((V 308 17 - d.length) - 1)) rfl ?_
            refine x_iconst dX11_settle_58 ?_
            refine x_cVv mm_X11_emit ml_X11_170 dX11_settle_59 (c_X11_emit (V 313 ((V 308 17 - d.length) - 1)) 0 hS (show 0 ≤ (V 308 12) ∧ (V 308 12) ≤ 2100 from h12) (show 0 ≤ (V 308 14 + d.length) ∧ (V 308 14 + d.length) < 300 from (by omega))) (sh_308 hS) (lq_308 hS) ?_
            refine x_mem (V' := (up (up V 308 (ua (ua (ua (ua (V 308) 17 (V 308 17 - d.length)) 14 (V 308 14 + d.length)) 17 ((V 308 17 - d.length) - 1)) 14 ((V 308 14 + d.length) + 1))) 311 (ua (ua (emL (V 311) (V 308 12) (V 308 14) (d.map fun zz => (zz, 0))) ((V 308 12) + 100 + 2 * (V 308 14 + d.length)) (V 313 ((V 308 17 - d.length) - 1))) ((V 308 12) + 100 + 2 * (V 308 14 + d.length) + 1) 0))) (Eq.trans (congrArg (fun z => up z 311 _) (up_k (by decide) (up_up _ _ _ _))) (up_up _ _ _ _)) ?_
            refine x_goto (tgt := 0) dX11_settle_62 ?_
            refine x_mem (V' := (up (up V 308 (ua (ua (V 308) 17 (V 308 17 - (d ++ [V 313 (V 308 17 - d.length - 1)]).length)) 14 (V 308 14 + (d ++ [V 313 (V 308 17 - d.length - 1)]).length))) 311 (emL (V 311) (V 308 12) (V 308 14) ((d ++ [V 313 (V 308 17 - d.length - 1)]).map fun zz => (zz, 0))))) (upE (upE rfl (by rw [List.length_append]; funext z; simp only [ua, List.length_cons, List.length_nil]; (repeat' split) <;> first | rfl | omega)) (by rw [List.map_append, emL_app, List.length_map, List.map_cons, List.map_nil, emL_1 _ _ _ _ _ (hPb _) (by decide)])) ?_
            exact x_fg (ih0 (d ++ [V 313 (V 308 17 - d.length - 1)]) e.tail (by rw [hde, hee]; simp) (by rw [hee] at hN0 ⊢; simp only [List.tail_cons, List.length_cons] at *; omega)) (And.intro rfl (And.intro rfl trivial))
  refine x_mem (V' := (up (up V 308 (ua (ua (V 308) 17 (V 308 17 - ([] : List Int).length)) 14 (V 308 14 + ([] : List Int).length))) 311 (emL (V 311) (V 308 12) (V 308 14) (([] : List Int).map fun zz => (zz, 0))))) (Eq.trans (Eq.trans (show _ = (up V 308 (V 308)) from (Eq.symm (up_self _ 308))) (show _ = (up (up V 308 (V 308)) 311 (V 311)) from (Eq.symm (up_self _ 311)))) (show (up (up V 308 (V 308)) 311 (V 311)) = (up (up V 308 (ua (ua (V 308) 17 (V 308 17 - ([] : List Int).length)) 14 (V 308 14 + ([] : List Int).length))) 311 (emL (V 311) (V 308 12) (V 308 14) (([] : List Int).map fun zz => (zz, 0)))) from (upE (upE rfl (by simp only [List.length_nil]; funext z; simp only [ua]; (repeat' split) <;> first | rfl | omega | (subst_vars; omega))) rfl))) ?_
  exact x_fg (lp0 _ ([] : List Int) c rfl (Nat.lt_succ_self _)) (And.intro rfl (And.intro rfl trivial))
