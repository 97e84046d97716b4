set_option maxRecDepth 100000 in
set_option maxHeartbeats 4000000 in
theorem c_X11_sortOf {B : Bs} {S : Stt} {V : Va} (hS : Stat S) (h9 : 0 ≤ (V 308 9) ∧ (V 308 9) < 256) (h11 : 0 ≤ (V 308 11) ∧ (V 308 11) < 72057594037927936) : C B yX11_sortOf cX11_sortOf 1 (some .int) 4 0 0 [vR B 308] S V (rI S V (srtOf (V 308 9) (V 308 11))) := by
  refine C.of [some (vR B 308)] ?_
  intro Γ hQ
  refine x_al0 dX11_sortOf_0 ?_
  refine x_bipush dX11_sortOf_1 ?_
  refine x_bipush dX11_sortOf_3 ?_
  refine x_bipush dX11_sortOf_5 ?_
  refine x_bipush dX11_sortOf_7 ?_
  refine x_cSl mm_X11_w4 ml_X11_173 dX11_sortOf_9 (c_X11_w4 119 111 114 110 (by first | decide | omega) (by first | decide | omega) (by first | decide | omega) (by first | decide | omega)) ?_
  refine x_cVi mm_X11_isWord ml_X11_216 dX11_sortOf_12 (c_X11_isWord (((119 * 256 + 111) * 256 + 114) * 256 + 110) hS h9 h11 (by omega)) (sh_308 hS) (lq_308 hS) ?_
  refine x_ifb_eq (tgt := 20) dX11_sortOf_15 (fun c15_1 => ?_) (fun c15_1 => ?_)
  · -- 15 eq -> 20
    refine x_al0 dX11_sortOf_20 ?_
    refine x_bipush dX11_sortOf_21 ?_
    refine x_bipush dX11_sortOf_23 ?_
    refine x_bipush dX11_sortOf_25 ?_
    refine x_bipush dX11_sortOf_27 ?_
    refine x_cSl mm_X11_w4 ml_X11_173 dX11_sortOf_29 (c_X11_w4 104 111 108 121 (by first | decide | omega) (by first | decide | omega) (by first | decide | omega) (by first | decide | omega)) ?_
    refine x_cVi mm_X11_isWord ml_X11_216 dX11_sortOf_32 (c_X11_isWord (((104 * 256 + 111) * 256 + 108) * 256 + 121) hS h9 h11 (by omega)) (sh_308 hS) (lq_308 hS) ?_
    refine x_ifb_eq (tgt := 40) dX11_sortOf_35 (fun c35_2 => ?_) (fun c35_2 => ?_)
    · -- 35 eq -> 40
      refine x_al0 dX11_sortOf_40 ?_
      refine x_bipush dX11_sortOf_41 ?_
      refine x_bipush dX11_sortOf_43 ?_
      refine x_bipush dX11_sortOf_45 ?_
      refine x_bipush dX11_sortOf_47 ?_
      refine x_bipush dX11_sortOf_49 ?_
      refine x_bipush dX11_sortOf_51 ?_
      refine x_cSl mm_X11_w6 ml_X11_177 dX11_sortOf_53 (c_X11_w6 117 110 108 105 107 101 (by first | decide | omega) (by first | decide | omega) (by first | decide | omega) (by first | decide | omega) (by first | decide | omega) (by first | decide | omega)) ?_
      refine x_cVi mm_X11_isWord ml_X11_216 dX11_sortOf_56 (c_X11_isWord (((((117 * 256 + 110) * 256 + 108) * 256 + 105) * 256 + 107) * 256 + 101) hS h9 h11 (by omega)) (sh_308 hS) (lq_308 hS) ?_
      refine x_ifb_eq (tgt := 64) dX11_sortOf_59 (fun c59_3 => ?_) (fun c59_3 => ?_)
      · -- 59 eq -> 64
        refine x_al0 dX11_sortOf_64 ?_
        refine x_bipush dX11_sortOf_65 ?_
        refine x_bipush dX11_sortOf_67 ?_
        refine x_bipush dX11_sortOf_69 ?_
        refine x_bipush dX11_sortOf_71 ?_
        refine x_cSl mm_X11_w4 ml_X11_173 dX11_sortOf_73 (c_X11_w4 107 105 110 100 (by first | decide | omega) (by first | decide | omega) (by first | decide | omega) (by first | decide | omega)) ?_
        refine x_cVi mm_X11_isWord ml_X11_216 dX11_sortOf_76 (c_X11_isWord (((107 * 256 + 105) * 256 + 110) * 256 + 100) hS h9 h11 (by omega)) (sh_308 hS) (lq_308 hS) ?_
        refine x_ifb_eq (tgt := 84) dX11_sortOf_79 (fun c79_4 => ?_) (fun c79_4 => ?_)
        · -- 79 eq -> 84
          refine x_al0 dX11_sortOf_84 ?_
          refine x_bipush dX11_sortOf_85 ?_
          refine x_bipush dX11_sortOf_87 ?_
          refine x_bipush dX11_sortOf_89 ?_
          refine x_bipush dX11_sortOf_91 ?_
          refine x_cSl mm_X11_w4 ml_X11_173 dX11_sortOf_93 (c_X11_w4 108 101 110 100 (by first | decide | omega) (by first | decide | omega) (by first | decide | omega) (by first | decide | omega)) ?_
          refine x_cVi mm_X11_isWord ml_X11_216 dX11_sortOf_96 (c_X11_isWord (((108 * 256 + 101) * 256 + 110) * 256 + 100) hS h9 h11 (by omega)) (sh_308 hS) (lq_308 hS) ?_
          refine x_ifb_eq (tgt := 104) dX11_sortOf_99 (fun c99_5 => ?_) (fun c99_5 => ?_)
          · -- 99 eq -> 104
            refine x_al0 dX11_sortOf_104 ?_
            refine x_bipush dX11_sortOf_105 ?_
            refine x_bipush dX11_sortOf_107 ?_
            refine x_bipush dX11_sortOf_109 ?_
            refine x_bipush dX11_sortOf_111 ?_
            refine x_cSl mm_X11_w4 ml_X11_173 dX11_sortOf_113 (c_X11_w4 115 119 97 112 (by first | decide | omega) (by first | decide | omega) (by first | decide | omega) (by first | decide | omega)) ?_
            refine x_cVi mm_X11_isWord ml_X11_216 dX11_sortOf_116 (c_X11_isWord (((115 * 256 + 119) * 256 + 97) * 256 + 112) hS h9 h11 (by omega)) (sh_308 hS) (lq_308 hS) ?_
            refine x_ifb_eq (tgt := 124) dX11_sortOf_119 (fun c119_6 => ?_) (fun c119_6 => ?_)
            · -- 119 eq -> 124
              refine x_al0 dX11_sortOf_124 ?_
              refine x_bipush dX11_sortOf_125 ?_
              refine x_bipush dX11_sortOf_127 ?_
              refine x_bipush dX11_sortOf_129 ?_
              refine x_bipush dX11_sortOf_131 ?_
              refine x_bipush dX11_sortOf_133 ?_
              refine x_cSl mm_X11_w5 ml_X11_150 dX11_sortOf_135 (c_X11_w5 115 116 101 97 108 (by first | decide | omega) (by first | decide | omega) (by first | decide | omega) (by first | decide | omega) (by first | decide | omega)) ?_
              refine x_cVi mm_X11_isWord ml_X11_216 dX11_sortOf_138 (c_X11_isWord ((((115 * 256 + 116) * 256 + 101) * 256 + 97) * 256 + 108) hS h9 h11 (by omega)) (sh_308 hS) (lq_308 hS) ?_
              refine x_ifb_eq (tgt := 147) dX11_sortOf_141 (fun c141_7 => ?_) (fun c141_7 => ?_)
              · -- 141 eq -> 147
                refine x_al0 dX11_sortOf_147 ?_
                refine x_bipush dX11_sortOf_148 ?_
                refine x_bipush dX11_sortOf_150 ?_
                refine x_bipush dX11_sortOf_152 ?_
                refine x_bipush dX11_sortOf_154 ?_
                refine x_cSl mm_X11_w4 ml_X11_173 dX11_sortOf_156 (c_X11_w4 98 117 114 110 (by first | decide | omega) (by first | decide | omega) (by first | decide | omega) (by first | decide | omega)) ?_
                refine x_cVi mm_X11_isWord ml_X11_216 dX11_sortOf_159 (c_X11_isWord (((98 * 256 + 117) * 256 + 114) * 256 + 110) hS h9 h11 (by omega)) (sh_308 hS) (lq_308 hS) ?_
                refine x_ifb_eq (tgt := 170) dX11_sortOf_162 (fun c162_8 => ?_) (fun c162_8 => ?_)
                · -- 162 eq -> 170
                  refine x_al0 dX11_sortOf_170 ?_
                  refine x_bipush dX11_sortOf_171 ?_
                  refine x_bipush dX11_sortOf_173 ?_
                  refine x_bipush dX11_sortOf_175 ?_
                  refine x_bipush dX11_sortOf_177 ?_
                  refine x_cSl mm_X11_w4 ml_X11_173 dX11_sortOf_179 (c_X11_w4 112 97 115 115 (by first | decide | omega) (by first | decide | omega) (by first | decide | omega) (by first | decide | omega)) ?_
                  refine x_cVi mm_X11_isWord ml_X11_216 dX11_sortOf_182 (c_X11_isWord (((112 * 256 + 97) * 256 + 115) * 256 + 115) hS h9 h11 (by omega)) (sh_308 hS) (lq_308 hS) ?_
                  refine x_ifb_eq (tgt := 193) dX11_sortOf_185 (fun c185_9 => ?_) (fun c185_9 => ?_)
                  · -- 185 eq -> 193
                    refine x_iconst dX11_sortOf_193 ?_
                    exact x_iret hQ (rI.mk (by simp only [srtOf]; first | (rw [if_pos (by omega)]) | (rw [if_neg (by omega), if_pos (by omega)]) | (rw [if_neg (by omega), if_neg (by omega), if_pos (by omega)]) | (rw [if_neg (by omega), if_neg (by omega), if_neg (by omega), if_pos (by omega)]) | (rw [if_neg (by omega), if_neg (by omega), if_neg (by omega), if_neg (by omega), if_pos (by omega)]) | (rw [if_neg (by omega), if_neg (by omega), if_neg (by omega), if_neg (by omega), if_neg (by omega), if_pos (by omega)]) | (rw [if_neg (by omega), if_neg (by omega), if_neg (by omega), if_neg (by omega), if_neg (by omega), if_neg (by omega), if_pos (by omega)]) | (rw [if_neg (by omega), if_neg (by omega), if_neg (by omega), if_neg (by omega), if_neg (by omega), if_neg (by omega), if_neg (by omega), if_pos (by omega)]) | (rw [if_neg (by omega), if_neg (by omega), if_neg (by omega), if_neg (by omega), if_neg (by omega), if_neg (by omega), if_neg (by omega), if_neg (by omega), if_pos (by omega)]) | (rw [if_neg (by omega), if_neg (by omega), if_neg (by omega), if_neg (by omega), if_neg (by omega), if_neg (by omega), if_neg (by omega), if_neg (by omega), if_neg (by omega)])) rfl) dX11_sortOf_194
                  · -- 185 eq -> 188
                    refine x_bipush dX11_sortOf_188 ?_
                    refine x_goto (tgt := 194) dX11_sortOf_190 ?_
                    exact x_iret hQ (rI.mk (by simp only [srtOf]; first | (rw [if_pos (by omega)]) | (rw [if_neg (by omega), if_pos (by omega)]) | (rw [if_neg (by omega), if_neg (by omega), if_pos (by omega)]) | (rw [if_neg (by omega), if_neg (by omega), if_neg (by omega), if_pos (by omega)]) | (rw [if_neg (by omega), if_neg (by omega), if_neg (by omega), if_neg (by omega), if_pos (by omega)]) | (rw [if_neg (by omega), if_neg (by omega), if_neg (by omega), if_neg (by omega), if_neg (by omega), if_pos (by omega)]) | (rw [if_neg (by omega), if_neg (by omega), if_neg (by omega), if_neg (by omega), if_neg (by omega), if_neg (by omega), if_pos (by omega)]) | (rw [if_neg (by omega), if_neg (by omega), if_neg (by omega), if_neg (by omega), if_neg (by omega), if_neg (by omega), if_neg (by omega), if_pos (by omega)]) | (rw [if_neg (by omega), if_neg (by omega), if_neg (by omega), if_neg (by omega), if_neg (by omega), if_neg (by omega), if_neg (by omega), if_neg (by omega), if_pos (by omega)]) | (rw [if_neg (by omega), if_neg (by omega), if_neg (by omega), if_neg (by omega), if_neg (by omega), if_neg (by omega), if_neg (by omega), if_neg (by omega), if_neg (by omega)])) rfl) dX11_sortOf_194
                · -- 162 eq -> 165
                  refine x_bipush dX11_sortOf_165 ?_
                  refine x_goto (tgt := 194) dX11_sortOf_167 ?_
                  exact x_iret hQ (rI.mk (by simp only [srtOf]; first | (rw [if_pos (by omega)]) | (rw [if_neg (by omega), if_pos (by omega)]) | (rw [if_neg (by omega), if_neg (by omega), if_pos (by omega)]) | (rw [if_neg (by omega), if_neg (by omega), if_neg (by omega), if_pos (by omega)]) | (rw [if_neg (by omega), if_neg (by omega), if_neg (by omega), if_neg (by omega), if_pos (by omega)]) | (rw [if_neg (by omega), if_neg (by omega), if_neg (by omega), if_neg (by omega), if_neg (by omega), if_pos (by omega)]) | (rw [if_neg (by omega), if_neg (by omega), if_neg (by omega), if_neg (by omega), if_neg (by omega), if_neg (by omega), if_pos (by omega)]) | (rw [if_neg (by omega), if_neg (by omega), if_neg (by omega), if_neg (by omega), if_neg (by omega), if_neg (by omega), if_neg (by omega), if_pos (by omega)]) | (rw [if_neg (by omega), if_neg (by omega), if_neg (by omega), if_neg (by omega), if_neg (by omega), if_neg (by omega), if_neg (by omega), if_neg (by omega), if_pos (by omega)]) | (rw [if_neg (by omega), if_neg (by omega), if_neg (by omega), if_neg (by omega), if_neg (by omega), if_neg (by omega), if_neg (by omega), if_neg (by omega), if_neg (by omega)])) rfl) dX11_sortOf_194
              · -- 141 eq -> 144
                refine x_bipush dX11_sortOf_144 ?_
                exact x_iret hQ (rI.mk (by simp only [srtOf]; first | (rw [if_pos (by omega)]) | (rw [if_neg (by omega), if_pos (by omega)]) | (rw [if_neg (by omega), if_neg (by omega), if_pos (by omega)]) | (rw [if_neg (by omega), if_neg (by omega), if_neg (by omega), if_pos (by omega)]) | (rw [if_neg (by omega), if_neg (by omega), if_neg (by omega), if_neg (by omega), if_pos (by omega)]) | (rw [if_neg (by omega), if_neg (by omega), if_neg (by omega), if_neg (by omega), if_neg (by omega), if_pos (by omega)]) | (rw [if_neg (by omega), if_neg (by omega), if_neg (by omega), if_neg (by omega), if_neg (by omega), if_neg (by omega), if_pos (by omega)]) | (rw [if_neg (by omega), if_neg (by omega), if_neg (by omega), if_neg (by omega), if_neg (by omega), if_neg (by omega), if_neg (by omega), if_pos (by omega)]) | (rw [if_neg (by omega), if_neg (by omega), if_neg (by omega), if_neg (by omega), if_neg (by omega), if_neg (by omega), if_neg (by omega), if_neg (by omega), if_pos (by omega)]) | (rw [if_neg (by omega), if_neg (by omega), if_neg (by omega), if_neg (by omega), if_neg (by omega), if_neg (by omega), if_neg (by omega), if_neg (by omega), if_neg (by omega)])) rfl) dX11_sortOf_146
            · -- 119 eq -> 122
              refine x_iconst dX11_sortOf_122 ?_
              exact x_iret hQ (rI.mk (by simp only [srtOf]; first | (rw [if_pos (by omega)]) | (rw [if_neg (by omega), if_pos (by omega)]) | (rw [if_neg (by omega), if_neg (by omega), if_pos (by omega)]) | (rw [if_neg (by omega), if_neg (by omega), if_neg (by omega), if_pos (by omega)]) | (rw [if_neg (by omega), if_neg (by omega), if_neg (by omega), if_neg (by omega), if_pos (by omega)]) | (rw [if_neg (by omega), if_neg (by omega), if_neg (by omega), if_neg (by omega), if_neg (by omega), if_pos (by omega)]) | (rw [if_neg (by omega), if_neg (by omega), if_neg (by omega), if_neg (by omega), if_neg (by omega), if_neg (by omega), if_pos (by omega)]) | (rw [if_neg (by omega), if_neg (by omega), if_neg (by omega), if_neg (by omega), if_neg (by omega), if_neg (by omega), if_neg (by omega), if_pos (by omega)]) | (rw [if_neg (by omega), if_neg (by omega), if_neg (by omega), if_neg (by omega), if_neg (by omega), if_neg (by omega), if_neg (by omega), if_neg (by omega), if_pos (by omega)]) | (rw [if_neg (by omega), if_neg (by omega), if_neg (by omega), if_neg (by omega), if_neg (by omega), if_neg (by omega), if_neg (by omega), if_neg (by omega), if_neg (by omega)])) rfl) dX11_sortOf_123
          · -- 99 eq -> 102
            refine x_iconst dX11_sortOf_102 ?_
            exact x_iret hQ (rI.mk (by simp only [srtOf]; first | (rw [if_pos (by omega)]) | (rw [if_neg (by omega), if_pos (by omega)]) | (rw [if_neg (by omega), if_neg (by omega), if_pos (by omega)]) | (rw [if_neg (by omega), if_neg (by omega), if_neg (by omega), if_pos (by omega)]) | (rw [if_neg (by omega), if_neg (by omega), if_neg (by omega), if_neg (by omega), if_pos (by omega)]) | (rw [if_neg (by omega), if_neg (by omega), if_neg (by omega), if_neg (by omega), if_neg (by omega), if_pos (by omega)]) | (rw [if_neg (by omega), if_neg (by omega), if_neg (by omega), if_neg (by omega), if_neg (by omega), if_neg (by omega), if_pos (by omega)]) | (rw [if_neg (by omega), if_neg (by omega), if_neg (by omega), if_neg (by omega), if_neg (by omega), if_neg (by omega), if_neg (by omega), if_pos (by omega)]) | (rw [if_neg (by omega), if_neg (by omega), if_neg (by omega), if_neg (by omega), if_neg (by omega), if_neg (by omega), if_neg (by omega), if_neg (by omega), if_pos (by omega)]) | (rw [if_neg (by omega), if_neg (by omega), if_neg (by omega), if_neg (by omega), if_neg (by omega), if_neg (by omega), if_neg (by omega), if_neg (by omega), if_neg (by omega)])) rfl) dX11_sortOf_103
        · -- 79 eq -> 82
          refine x_iconst dX11_sortOf_82 ?_
          exact x_iret hQ (rI.mk (by simp only [srtOf]; first | (rw [if_pos (by omega)]) | (rw [if_neg (by omega), if_pos (by omega)]) | (rw [if_neg (by omega), if_neg (by omega), if_pos (by omega)]) | (rw [if_neg (by omega), if_neg (by omega), if_neg (by omega), if_pos (by omega)]) | (rw [if_neg (by omega), if_neg (by omega), if_neg (by omega), if_neg (by omega), if_pos (by omega)]) | (rw [if_neg (by omega), if_neg (by omega), if_neg (by omega), if_neg (by omega), if_neg (by omega), if_pos (by omega)]) | (rw [if_neg (by omega), if_neg (by omega), if_neg (by omega), if_neg (by omega), if_neg (by omega), if_neg (by omega), if_pos (by omega)]) | (rw [if_neg (by omega), if_neg (by omega), if_neg (by omega), if_neg (by omega), if_neg (by omega), if_neg (by omega), if_neg (by omega), if_pos (by omega)]) | (rw [if_neg (by omega), if_neg (by omega), if_neg (by omega), if_neg (by omega), if_neg (by omega), if_neg (by omega), if_neg (by omega), if_neg (by omega), if_pos (by omega)]) | (rw [if_neg (by omega), if_neg (by omega), if_neg (by omega), if_neg (by omega), if_neg (by omega), if_neg (by omega), if_neg (by omega), if_neg (by omega), if_neg (by omega)])) rfl) dX11_sortOf_83
      · -- 59 eq -> 62
        refine x_iconst dX11_sortOf_62 ?_
        exact x_iret hQ (rI.mk (by simp only [srtOf]; first | (rw [if_pos (by omega)]) | (rw [if_neg (by omega), if_pos (by omega)]) | (rw [if_neg (by omega), if_neg (by omega), if_pos (by omega)]) | (rw [if_neg (by omega), if_neg (by omega), if_neg (by omega), if_pos (by omega)]) | (rw [if_neg (by omega), if_neg (by omega), if_neg (by omega), if_neg (by omega), if_pos (by omega)]) | (rw [if_neg (by omega), if_neg (by omega), if_neg (by omega), if_neg (by omega), if_neg (by omega), if_pos (by omega)]) | (rw [if_neg (by omega), if_neg (by omega), if_neg (by omega), if_neg (by omega), if_neg (by omega), if_neg (by omega), if_pos (by omega)]) | (rw [if_neg (by omega), if_neg (by omega), if_neg (by omega), if_neg (by omega), if_neg (by omega), if_neg (by omega), if_neg (by omega), if_pos (by omega)]) | (rw [if_neg (by omega), if_neg (by omega), if_neg (by omega), if_neg (by omega), if_neg (by omega), if_neg (by omega), if_neg (by omega), if_neg (by omega), if_pos (by omega)]) | (rw [if_neg (by omega), if_neg (by omega), if_neg (by omega), if_neg (by omega), if_neg (by omega), if_neg (by omega), if_neg (by omega), if_neg (by omega), if_neg (by omega)])) rfl) dX11_sortOf_63
    · -- 35 eq -> 38
      refine x_iconst dX11_sortOf_38 ?_
      exact x_iret hQ (rI.mk (by simp only [srtOf]; first | (rw [if_pos (by omega)]) | (rw [if_neg (by omega), if_pos (by omega)]) | (rw [if_neg (by omega), if_neg (by omega), if_pos (by omega)]) | (rw [if_neg (by omega), if_neg (by omega), if_neg (by omega), if_pos (by omega)]) | (rw [if_neg (by omega), if_neg (by omega), if_neg (by omega), if_neg (by omega), if_pos (by omega)]) | (rw [if_neg (by omega), if_neg (by omega), if_neg (by omega), if_neg (by omega), if_neg (by omega), if_pos (by omega)]) | (rw [if_neg (by omega), if_neg (by omega), if_neg (by omega), if_neg (by omega), if_neg (by omega), if_neg (by omega), if_pos (by omega)]) | (rw [if_neg (by omega), if_neg (by omega), if_neg (by omega), if_neg (by omega), if_neg (by omega), if_neg (by omega), if_neg (by omega), if_pos (by omega)]) | (rw [if_neg (by omega), if_neg (by omega), if_neg (by omega), if_neg (by omega), if_neg (by omega), if_neg (by omega), if_neg (by omega), if_neg (by omega), if_pos (by omega)]) | (rw [if_neg (by omega), if_neg (by omega), if_neg (by omega), if_neg (by omega), if_neg (by omega), if_neg (by omega), if_neg (by omega), if_neg (by omega), if_neg (by omega)])) rfl) dX11_sortOf_39
  · -- 15 eq -> 18
    refine x_iconst dX11_sortOf_18 ?_
    exact x_iret hQ (rI.mk (by simp only [srtOf]; first | (rw [if_pos (by omega)]) | (rw [if_neg (by omega), if_pos (by omega)]) | (rw [if_neg (by omega), if_neg (by omega), if_pos (by omega)]) | (rw [if_neg (by omega), if_neg (by omega), if_neg (by omega), if_pos (by omega)]) | (rw [if_neg (by omega), if_neg (by omega), if_neg (by omega), if_neg (by omega), if_pos (by omega)]) | (rw [if_neg (by omega), if_neg (by omega), if_neg (by omega), if_neg (by omega), if_neg (by omega), if_pos (by omega)]) | (rw [if_neg (by omega), if_neg (by omega), if_neg (by omega), if_neg (by omega), if_neg (by omega), if_neg (by omega), if_pos (by omega)]) | (rw [if_neg (by omega), if_neg (by omega), if_neg (by omega), if_neg (by omega), if_neg (by omega), if_neg (by omega), if_neg (by omega), if_pos (by omega)]) | (rw [if_neg (by omega), if_neg (by omega), if_neg (by omega), if_neg (by omega), if_neg (by omega), if_neg (by omega), if_neg (by omega), if_neg (by omega), if_pos (by omega)]) | (rw [if_neg (by omega), if_neg (by omega), if_neg (by omega), if_neg (by omega), if_neg (by omega), if_neg (by omega), if_neg (by omega), if_neg (by omega), if_neg (by omega)])) rfl) dX11_sortOf_19
set_option maxRecDepth 100000 in
set_option maxHeartbeats 4000000 in
theorem c_X11_isTo {B : Bs} {S : Stt} {V : Va} (hS : Stat S) (h9 : 0 ≤ (V 308 9) ∧ (V 308 9) < 256) (h11 : 0 ≤ (V 308 11) ∧ (V 308 11) < 72057594037927936) : C B yX11_isTo cX11_isTo 1 (some .boolean) 1 0 0 [vR B 308] S V (rI S V (if (V 308 9) = 2 ∧ (V 308 11) = 29807 then 1 else 0)) := by
  refine C.of [some (vR B 308)] ?_
  intro Γ hQ
  refine x_al0 dX11_isTo_0 ?_
  refine x_getI fl_X11_129 (sh_308 hS) (lq_308 hS) dX11_isTo_1 ?_
  refine x_topI (a' := V 308 9) rfl ?_
  refine x_iconst dX11_isTo_4 ?_
  refine x_icmp_ne (tgt := 23) dX11_isTo_5 (inr (by omega)) (inr (by decide)) (fun c5_1 => ?_) (fun c5_1 => ?_)
  · -- 5 ne -> 23
    refine x_iconst dX11_isTo_23 ?_
    exact x_zret hQ (rI.mk (by first | rfl | omega | (rw [if_pos (by omega)]) | (rw [if_neg (by omega)])) rfl) (by decide) dX11_isTo_24
  · -- 5 ne -> 8
    refine x_al0 dX11_isTo_8 ?_
    refine x_getL fl_X11_142 (sh_308 hS) (lq_308 hS) dX11_isTo_9 ?_
    refine x_topL (a' := V 308 11) rfl ?_
    refine x_ldc2 (a := 29807) kl_X11_231 (by decide) dX11_isTo_12 ?_
    refine x_lcmp_ne (tgt := 23) dX11_isTo_15 dX11_isTo_16 (inl_ (by omega)) (inl_ (by decide)) (fun c15_2 => ?_) (fun c15_2 => ?_)
    · -- 15 ne -> 23
      refine x_iconst dX11_isTo_23 ?_
      exact x_zret hQ (rI.mk (by first | rfl | omega | (rw [if_pos (by omega)]) | (rw [if_neg (by omega)])) rfl) (by decide) dX11_isTo_24
    · -- 15 ne -> 19
      refine x_iconst dX11_isTo_19 ?_
      refine x_goto (tgt := 24) dX11_isTo_20 ?_
      exact x_zret hQ (rI.mk (by first | rfl | omega | (rw [if_pos (by omega)]) | (rw [if_neg (by omega)])) rfl) (by decide) dX11_isTo_24
set_option maxRecDepth 100000 in
set_option maxHeartbeats 4000000 in
theorem c_X11_figure {B : Bs} {S : Stt} {V : Va} (x : Int) (low : Int) (top : Int) (hS : Stat S) (hT : 0 ≤ (V 308 4) ∧ (V 308 4) ≤ 300) (hat : 0 ≤ (V 308 7) ∧ (V 308 7) ≤ (V 308 4)) (hTp : ∀ k, 0 ≤ (V 312) k ∧ (V 312) k < 256) (h9 : 0 ≤ (V 308 9) ∧ (V 308 9) < 256) (h10 : InR (V 308 10)) (hx : 0 ≤ x ∧ x < 2800) (hlow : InR low) (htop : InR top) : C B yX11_figure cX11_figure 4 (some .int) 4 0 0 [vR B 308, vI x, vI low, vI top] S V (rI S (up (up V 308 (if figC (V 308) low top then mTok (V 308) (V 312) else (V 308))) 311 (if figC (V 308) low top then ua (V 311) x (V 308 10) else (V 311))) (figV (V 308) low top)) := by
  refine C.of [some (vR B 308), some (vI x), some (vI low), some (vI top)] ?_
  intro Γ hQ
  refine x_al0 dX11_figure_0 ?_
  refine x_getI fl_X11_129 (sh_308 hS) (lq_308 hS) dX11_figure_1 ?_
  refine x_topI (a' := V 308 9) rfl ?_
  refine x_iconst dX11_figure_4 ?_
  refine x_icmp_eq (tgt := 10) dX11_figure_5 (inr (by omega)) (inr (by decide)) (fun c5_1 => ?_) (fun c5_1 => ?_)
  · -- 5 eq -> 10
    refine x_al0 dX11_figure_10 ?_
    refine x_getI fl_X11_135 (sh_308 hS) (lq_308 hS) dX11_figure_11 ?_
    refine x_topI (a' := V 308 10) rfl ?_
    refine x_il2 dX11_figure_14 ?_
    refine x_il3 dX11_figure_15 ?_
    refine x_cSi mm_X11_isIn ml_X11_75 dX11_figure_16 (c_X11_isIn (V 308 10) low top (inr (by omega)) (inr (by omega)) (inr (by omega))) ?_
    refine x_ifb_ne (tgt := 24) dX11_figure_19 (fun c19_2 => ?_) (fun c19_2 => ?_)
    · -- 19 ne -> 24
      refine x_al0 dX11_figure_24 ?_
      refine x_getR fl_X11_16 (sh_308 hS) (lq_308 hS) (rf_308_2 hS) dX11_figure_25 ?_
      refine x_il1 dX11_figure_28 ?_
      refine x_al0 dX11_figure_29 ?_
      refine x_getI fl_X11_135 (sh_308 hS) (lq_308 hS) dX11_figure_30 ?_
      refine x_topI (a' := V 308 10) rfl ?_
      refine x_iast (sh_311 hS) (lq_311 hS) (by omega) (by omega) dX11_figure_33 ?_
      refine x_mem (V' := (up V 311 (ua (V 311) x (V 308 10)))) rfl ?_
      refine x_al0 dX11_figure_34 ?_
      refine x_cVv mm_X11_nextToken ml_X11_184 dX11_figure_35 (c_X11_nextToken hS (show 0 ≤ (V 308 4) ∧ (V 308 4) ≤ 300 from hT) (show 0 ≤ (V 308 7) ∧ (V 308 7) ≤ (V 308 4) from hat) (show ∀ k, 0 ≤ (V 312) k ∧ (V 312) k < 256 from hTp)) (sh_308 hS) (lq_308 hS) ?_
      refine x_mem (V' := (up (up V 308 (mTok (V 308) (V 312))) 311 (ua (V 311) x (V 308 10)))) (up_k (by decide) rfl) ?_
      refine x_iconst dX11_figure_38 ?_
      exact x_iret hQ (rI.mk (by simp only [figV]; rw [if_neg (by omega), if_pos (by omega)]) (by rw [if_pos (by omega), if_pos (by omega)])) dX11_figure_39
    · -- 19 ne -> 22
      refine x_iconst dX11_figure_22 ?_
      exact x_iret hQ (rI.mk (by simp only [figV]; rw [if_neg (by omega), if_neg (by omega)]) (by rw [if_neg (by omega), if_neg (by omega), up_self, up_self])) dX11_figure_23
  · -- 5 eq -> 8
    refine x_iconst dX11_figure_8 ?_
    exact x_iret hQ (rI.mk (by simp only [figV]; rw [if_pos (by omega)]) (by rw [if_neg (by omega), if_neg (by omega), up_self, up_self])) dX11_figure_9
set_option maxRecDepth 100000 in
set_option maxHeartbeats 4000000 in
theorem c_X11_step {B : Bs} {S : Stt} {V : Va} (is : Int) (hS : Stat S) (hT : 0 ≤ (V 308 4) ∧ (V 308 4) ≤ 300) (hat : 0 ≤ (V 308 7) ∧ (V 308 7) ≤ (V 308 4)) (hTp : ∀ k, 0 ≤ (V 312) k ∧ (V 312) k < 256) (hi : is = 0 ∨ is = 1) : C B yX11_step cX11_step 2 (some .int) 4 0 0 [vR B 308, vI is] S V (rI S (up V 308 (if is = 0 then (V 308) else mTok (V 308) (V 312))) (if is = 0 then 1 else 0)) := by
  refine C.of [some (vR B 308), some (vI is)] ?_
  intro Γ hQ
  refine x_il1 dX11_step_0 ?_
  refine x_if_ne (tgt := 6) dX11_step_1 (inr (by omega)) (fun c1_1 => ?_) (fun c1_1 => ?_)
  · -- 1 ne -> 6
    refine x_al0 dX11_step_6 ?_
    refine x_cVv mm_X11_nextToken ml_X11_184 dX11_step_7 (c_X11_nextToken hS hT hat hTp) (sh_308 hS) (lq_308 hS) ?_
    refine x_iconst dX11_step_10 ?_
    exact x_iret hQ (rI.mk (by rw [if_neg (by omega)]) (by rw [if_neg (by omega)])) dX11_step_11
  · -- 1 ne -> 4
    refine x_iconst dX11_step_4 ?_
    exact x_iret hQ (rI.mk (by rw [if_pos (by omega)]) (by rw [if_pos (by omega), up_self])) dX11_step_5
