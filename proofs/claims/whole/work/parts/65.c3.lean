theorem cJ_6 (a b : Int) : cJoin 6 a b = clip (a + b) := if_pos rfl
theorem cJ_7 (a b : Int) : cJoin 7 a b = clip (a - b) := (if_neg (by decide)).trans (if_pos rfl)
theorem cJ_8 (a b : Int) : cJoin 8 a b = clip (a * b) := (if_neg (by decide)).trans ((if_neg (by decide)).trans (if_pos rfl))
theorem cJ_9 (a b : Int) : cJoin 9 a b = if b = 0 then 0 else a.tdiv b := (if_neg (by decide)).trans ((if_neg (by decide)).trans ((if_neg (by decide)).trans (if_pos rfl)))
theorem cJ_10 (a b : Int) : cJoin 10 a b = if a < b then 1 else 0 := (if_neg (by decide)).trans ((if_neg (by decide)).trans ((if_neg (by decide)).trans ((if_neg (by decide)).trans (if_pos rfl))))
theorem cJ_11 (a b : Int) : cJoin 11 a b = if b < a then 1 else 0 := (if_neg (by decide)).trans ((if_neg (by decide)).trans ((if_neg (by decide)).trans ((if_neg (by decide)).trans ((if_neg (by decide)).trans (if_pos rfl)))))
theorem cJ_12 (a b : Int) : cJoin 12 a b = if a = b then 1 else 0 := (if_neg (by decide)).trans ((if_neg (by decide)).trans ((if_neg (by decide)).trans ((if_neg (by decide)).trans ((if_neg (by decide)).trans ((if_neg (by decide)).trans (if_pos rfl))))))
theorem cJ_13 (a b : Int) : cJoin 13 a b = if a ≠ b then 1 else 0 := (if_neg (by decide)).trans ((if_neg (by decide)).trans ((if_neg (by decide)).trans ((if_neg (by decide)).trans ((if_neg (by decide)).trans ((if_neg (by decide)).trans ((if_neg (by decide)).trans (if_pos rfl)))))))
theorem cJ_14 (a b : Int) : cJoin 14 a b = if a ≤ b then 1 else 0 := (if_neg (by decide)).trans ((if_neg (by decide)).trans ((if_neg (by decide)).trans ((if_neg (by decide)).trans ((if_neg (by decide)).trans ((if_neg (by decide)).trans ((if_neg (by decide)).trans ((if_neg (by decide)).trans (if_pos rfl))))))))
theorem cJ_15 (a b : Int) : cJoin 15 a b = if b ≤ a then 1 else 0 := (if_neg (by decide)).trans ((if_neg (by decide)).trans ((if_neg (by decide)).trans ((if_neg (by decide)).trans ((if_neg (by decide)).trans ((if_neg (by decide)).trans ((if_neg (by decide)).trans ((if_neg (by decide)).trans ((if_neg (by decide)).trans (if_pos rfl)))))))))
theorem cJ_30 (a b : Int) : cJoin 30 a b = band a b := (if_neg (by decide)).trans ((if_neg (by decide)).trans ((if_neg (by decide)).trans ((if_neg (by decide)).trans ((if_neg (by decide)).trans ((if_neg (by decide)).trans ((if_neg (by decide)).trans ((if_neg (by decide)).trans ((if_neg (by decide)).trans ((if_neg (by decide)).trans (if_pos rfl))))))))))
theorem cJ_31 (a b : Int) : cJoin 31 a b = bor a b := (if_neg (by decide)).trans ((if_neg (by decide)).trans ((if_neg (by decide)).trans ((if_neg (by decide)).trans ((if_neg (by decide)).trans ((if_neg (by decide)).trans ((if_neg (by decide)).trans ((if_neg (by decide)).trans ((if_neg (by decide)).trans ((if_neg (by decide)).trans (if_neg (by decide)))))))))))

set_option maxRecDepth 100000 in
set_option maxHeartbeats 4000000 in
theorem c_X2_limited {B : Bs} {S : Stt} {V : Va} (value : Int) (hvalue : InL value) : C B yX2_limited cX2_limited 2 (some .int) 1 0 0 [vL value] S V (rI S V (clip value)) := by
  refine C.of [some (vL value), none] ?_
  intro Γ hQ
  refine x_ll0 dX2_limited_0 ?_
  refine x_ldc2 (a := 1000000) kl_X2_94 (by decide) dX2_limited_1 ?_
  refine x_lcmp_le (tgt := 11) dX2_limited_4 dX2_limited_5 (inl_ (by omega)) (inl_ (by decide)) (fun c4_1 => ?_) (fun c4_1 => ?_)
  · -- 4 le -> 11
    refine x_ll0 dX2_limited_11 ?_
    refine x_ldc2 (a := (-1000000)) kl_X2_97 (by decide) dX2_limited_12 ?_
    refine x_lcmp_ge (tgt := 24) dX2_limited_15 dX2_limited_16 (inl_ (by omega)) (inl_ (by decide)) (fun c15_2 => ?_) (fun c15_2 => ?_)
    · -- 15 ge -> 24
      refine x_ll0 dX2_limited_24 ?_
      refine x_l2i dX2_limited_25 ?_
      exact x_iret hQ (rI.mk (by simp only [clip]; first | (rw [if_pos (by omega)]) | (rw [if_neg (by omega), if_pos (by omega)]) | (rw [if_neg (by omega), if_neg (by omega)])) rfl) dX2_limited_26
    · -- 15 ge -> 19
      refine x_ldc (a := (-1000000)) ki_X2_99 (by decide) dX2_limited_19 ?_
      refine x_goto (tgt := 26) dX2_limited_21 ?_
      exact x_iret hQ (rI.mk (by simp only [clip]; first | (rw [if_pos (by omega)]) | (rw [if_neg (by omega), if_pos (by omega)]) | (rw [if_neg (by omega), if_neg (by omega)])) rfl) dX2_limited_26
  · -- 4 le -> 8
    refine x_ldc (a := 1000000) ki_X2_96 (by decide) dX2_limited_8 ?_
    exact x_iret hQ (rI.mk (by simp only [clip]; first | (rw [if_pos (by omega)]) | (rw [if_neg (by omega), if_pos (by omega)]) | (rw [if_neg (by omega), if_neg (by omega)])) rfl) dX2_limited_10
set_option maxRecDepth 100000 in
set_option maxHeartbeats 4000000 in
theorem c_X2_join {B : Bs} {S : Stt} {V : Va} (o : Int) (a : Int) (b : Int) (ho : (6 ≤ o ∧ o ≤ 15) ∨ o = 30 ∨ o = 31) (hab : -1000000 ≤ a ∧ a ≤ 1000000 ∧ -1000000 ≤ b ∧ b ≤ 1000000) (hp : 16 ≤ o → 0 ≤ a ∧ 0 ≤ b) : C B yX2_join cX2_join 3 (some .int) 2 0 0 [vI o, vI a, vI b] S V (rI S V (cJoin o a b)) := by
  refine C.of [some (vI o), some (vI a), some (vI b)] ?_
  intro Γ hQ
  refine x_il0 dX2_join_0 ?_
  by_cases hs1 : o = 6
  · refine x_tswIn (tgt := 116) (off := 115) dX2_join_1 6 hs1 ?_
    refine x_il1 dX2_join_116 ?_
    refine x_i2l (inr (by omega)) dX2_join_117 ?_
    refine x_il2 dX2_join_118 ?_
    refine x_i2l (inr (by omega)) dX2_join_119 ?_
    refine x_ladd dX2_join_120 ?_
    refine x_cSi mm_X2_limited ml_X2_90 dX2_join_121 (c_X2_limited (a + b) (inl_ (by omega))) ?_
    exact x_iret hQ (rI.mk (by rw [show o = 6 by omega, cJ_6]) rfl) dX2_join_124
  by_cases hs2 : o = 7
  · refine x_tswIn (tgt := 125) (off := 124) dX2_join_1 7 hs2 ?_
    refine x_il1 dX2_join_125 ?_
    refine x_i2l (inr (by omega)) dX2_join_126 ?_
    refine x_il2 dX2_join_127 ?_
    refine x_i2l (inr (by omega)) dX2_join_128 ?_
    refine x_lsub dX2_join_129 ?_
    refine x_cSi mm_X2_limited ml_X2_90 dX2_join_130 (c_X2_limited (a - b) (inl_ (by omega))) ?_
    exact x_iret hQ (rI.mk (by rw [show o = 7 by omega, cJ_7]) rfl) dX2_join_133
  by_cases hs3 : o = 8
  · refine x_tswIn (tgt := 134) (off := 133) dX2_join_1 8 hs3 ?_
    have hm := mul_r (x := a) (y := b) ⟨by omega, by omega⟩ ⟨by omega, by omega⟩
    refine x_il1 dX2_join_134 ?_
    refine x_i2l (inr (by omega)) dX2_join_135 ?_
    refine x_il2 dX2_join_136 ?_
    refine x_i2l (inr (by omega)) dX2_join_137 ?_
    refine x_lmul dX2_join_138 ?_
    refine x_cSi mm_X2_limited ml_X2_90 dX2_join_139 (c_X2_limited (a * b) (inl_ (by omega))) ?_
    exact x_iret hQ (rI.mk (by rw [show o = 8 by omega, cJ_8]) rfl) dX2_join_142
  by_cases hs4 : o = 9
  · refine x_tswIn (tgt := 143) (off := 142) dX2_join_1 9 hs4 ?_
    refine x_il2 dX2_join_143 ?_
    refine x_if_ne (tgt := 151) dX2_join_144 (inr (by omega)) (fun c144_5 => ?_) (fun c144_5 => ?_)
    · -- 144 ne -> 151
      refine x_il1 dX2_join_151 ?_
      refine x_il2 dX2_join_152 ?_
      refine x_idiv (inr (by omega)) (inr (by omega)) (by omega) dX2_join_153 ?_
      exact x_iret hQ (rI.mk (by rw [show o = 9 by omega, cJ_9]; first | exact if_pos (by omega) | exact if_neg (by omega)) rfl) dX2_join_154
    · -- 144 ne -> 147
      refine x_iconst dX2_join_147 ?_
      refine x_goto (tgt := 154) dX2_join_148 ?_
      exact x_iret hQ (rI.mk (by rw [show o = 9 by omega, cJ_9]; first | exact if_pos (by omega) | exact if_neg (by omega)) rfl) dX2_join_154
  by_cases hs6 : o = 10
  · refine x_tswIn (tgt := 155) (off := 154) dX2_join_1 10 hs6 ?_
    refine x_il1 dX2_join_155 ?_
    refine x_il2 dX2_join_156 ?_
    refine x_icmp_ge (tgt := 164) dX2_join_157 (inr (by omega)) (inr (by omega)) (fun c157_7 => ?_) (fun c157_7 => ?_)
    · -- 157 ge -> 164
      refine x_iconst dX2_join_164 ?_
      exact x_iret hQ (rI.mk (by rw [show o = 10 by omega]; rw [cJ_10]; first | exact if_pos (by omega) | exact if_neg (by omega)) rfl) dX2_join_165
    · -- 157 ge -> 160
      refine x_iconst dX2_join_160 ?_
      refine x_goto (tgt := 165) dX2_join_161 ?_
      exact x_iret hQ (rI.mk (by rw [show o = 10 by omega]; rw [cJ_10]; first | exact if_pos (by omega) | exact if_neg (by omega)) rfl) dX2_join_165
  by_cases hs8 : o = 11
  · refine x_tswIn (tgt := 177) (off := 176) dX2_join_1 11 hs8 ?_
    refine x_il1 dX2_join_177 ?_
    refine x_il2 dX2_join_178 ?_
    refine x_icmp_le (tgt := 186) dX2_join_179 (inr (by omega)) (inr (by omega)) (fun c179_9 => ?_) (fun c179_9 => ?_)
    · -- 179 le -> 186
      refine x_iconst dX2_join_186 ?_
      exact x_iret hQ (rI.mk (by rw [show o = 11 by omega]; rw [cJ_11]; first | exact if_pos (by omega) | exact if_neg (by omega)) rfl) dX2_join_187
    · -- 179 le -> 182
      refine x_iconst dX2_join_182 ?_
      refine x_goto (tgt := 187) dX2_join_183 ?_
      exact x_iret hQ (rI.mk (by rw [show o = 11 by omega]; rw [cJ_11]; first | exact if_pos (by omega) | exact if_neg (by omega)) rfl) dX2_join_187
  by_cases hs10 : o = 12
  · refine x_tswIn (tgt := 199) (off := 198) dX2_join_1 12 hs10 ?_
    refine x_il1 dX2_join_199 ?_
    refine x_il2 dX2_join_200 ?_
    refine x_icmp_ne (tgt := 208) dX2_join_201 (inr (by omega)) (inr (by omega)) (fun c201_11 => ?_) (fun c201_11 => ?_)
    · -- 201 ne -> 208
      refine x_iconst dX2_join_208 ?_
      exact x_iret hQ (rI.mk (by rw [show o = 12 by omega]; rw [cJ_12]; first | exact if_pos (by omega) | exact if_neg (by omega)) rfl) dX2_join_209
    · -- 201 ne -> 204
      refine x_iconst dX2_join_204 ?_
      refine x_goto (tgt := 209) dX2_join_205 ?_
      exact x_iret hQ (rI.mk (by rw [show o = 12 by omega]; rw [cJ_12]; first | exact if_pos (by omega) | exact if_neg (by omega)) rfl) dX2_join_209
  by_cases hs12 : o = 13
  · refine x_tswIn (tgt := 210) (off := 209) dX2_join_1 13 hs12 ?_
    refine x_il1 dX2_join_210 ?_
    refine x_il2 dX2_join_211 ?_
    refine x_icmp_eq (tgt := 219) dX2_join_212 (inr (by omega)) (inr (by omega)) (fun c212_13 => ?_) (fun c212_13 => ?_)
    · -- 212 eq -> 219
      refine x_iconst dX2_join_219 ?_
      exact x_iret hQ (rI.mk (by rw [show o = 13 by omega]; rw [cJ_13]; first | exact if_pos (by omega) | exact if_neg (by omega)) rfl) dX2_join_220
    · -- 212 eq -> 215
      refine x_iconst dX2_join_215 ?_
      refine x_goto (tgt := 220) dX2_join_216 ?_
      exact x_iret hQ (rI.mk (by rw [show o = 13 by omega]; rw [cJ_13]; first | exact if_pos (by omega) | exact if_neg (by omega)) rfl) dX2_join_220
  by_cases hs14 : o = 14
  · refine x_tswIn (tgt := 166) (off := 165) dX2_join_1 14 hs14 ?_
    refine x_il1 dX2_join_166 ?_
    refine x_il2 dX2_join_167 ?_
    refine x_icmp_gt (tgt := 175) dX2_join_168 (inr (by omega)) (inr (by omega)) (fun c168_15 => ?_) (fun c168_15 => ?_)
    · -- 168 gt -> 175
      refine x_iconst dX2_join_175 ?_
      exact x_iret hQ (rI.mk (by rw [show o = 14 by omega]; rw [cJ_14]; first | exact if_pos (by omega) | exact if_neg (by omega)) rfl) dX2_join_176
    · -- 168 gt -> 171
      refine x_iconst dX2_join_171 ?_
      refine x_goto (tgt := 176) dX2_join_172 ?_
      exact x_iret hQ (rI.mk (by rw [show o = 14 by omega]; rw [cJ_14]; first | exact if_pos (by omega) | exact if_neg (by omega)) rfl) dX2_join_176
  by_cases hs16 : o = 15
  · refine x_tswIn (tgt := 188) (off := 187) dX2_join_1 15 hs16 ?_
    refine x_il1 dX2_join_188 ?_
    refine x_il2 dX2_join_189 ?_
    refine x_icmp_lt (tgt := 197) dX2_join_190 (inr (by omega)) (inr (by omega)) (fun c190_17 => ?_) (fun c190_17 => ?_)
    · -- 190 lt -> 197
      refine x_iconst dX2_join_197 ?_
      exact x_iret hQ (rI.mk (by rw [show o = 15 by omega]; rw [cJ_15]; first | exact if_pos (by omega) | exact if_neg (by omega)) rfl) dX2_join_198
    · -- 190 lt -> 193
      refine x_iconst dX2_join_193 ?_
      refine x_goto (tgt := 198) dX2_join_194 ?_
      exact x_iret hQ (rI.mk (by rw [show o = 15 by omega]; rw [cJ_15]; first | exact if_pos (by omega) | exact if_neg (by omega)) rfl) dX2_join_198
  by_cases hs18 : o = 30
  · refine x_tswIn (tgt := 221) (off := 220) dX2_join_1 30 hs18 ?_
    refine x_il1 dX2_join_221 ?_
    refine x_il2 dX2_join_222 ?_
    refine x_iand (by omega) (by omega) dX2_join_223 ?_
    exact x_iret hQ (rI.mk (by rw [show o = 30 by omega, cJ_30]) rfl) dX2_join_224
  by_cases hs19 : o = 16
  · refine x_tswIn (tgt := 225) (off := 224) dX2_join_1 16 hs19 ?_
    refine x_il1 dX2_join_225 ?_
    refine x_il2 dX2_join_226 ?_
    refine x_ior (by omega) (by omega) dX2_join_227 ?_
    exact x_iret hQ (rI.mk (by first | (exfalso; omega) | (rw [show o = 31 by omega, cJ_31])) rfl) dX2_join_228
  by_cases hs20 : o = 17
  · refine x_tswIn (tgt := 225) (off := 224) dX2_join_1 17 hs20 ?_
    refine x_il1 dX2_join_225 ?_
    refine x_il2 dX2_join_226 ?_
    refine x_ior (by omega) (by omega) dX2_join_227 ?_
    exact x_iret hQ (rI.mk (by first | (exfalso; omega) | (rw [show o = 31 by omega, cJ_31])) rfl) dX2_join_228
  by_cases hs21 : o = 18
  · refine x_tswIn (tgt := 225) (off := 224) dX2_join_1 18 hs21 ?_
    refine x_il1 dX2_join_225 ?_
    refine x_il2 dX2_join_226 ?_
    refine x_ior (by omega) (by omega) dX2_join_227 ?_
    exact x_iret hQ (rI.mk (by first | (exfalso; omega) | (rw [show o = 31 by omega, cJ_31])) rfl) dX2_join_228
  by_cases hs22 : o = 19
  · refine x_tswIn (tgt := 225) (off := 224) dX2_join_1 19 hs22 ?_
    refine x_il1 dX2_join_225 ?_
    refine x_il2 dX2_join_226 ?_
    refine x_ior (by omega) (by omega) dX2_join_227 ?_
    exact x_iret hQ (rI.mk (by first | (exfalso; omega) | (rw [show o = 31 by omega, cJ_31])) rfl) dX2_join_228
  by_cases hs23 : o = 20
  · refine x_tswIn (tgt := 225) (off := 224) dX2_join_1 20 hs23 ?_
    refine x_il1 dX2_join_225 ?_
    refine x_il2 dX2_join_226 ?_
    refine x_ior (by omega) (by omega) dX2_join_227 ?_
    exact x_iret hQ (rI.mk (by first | (exfalso; omega) | (rw [show o = 31 by omega, cJ_31])) rfl) dX2_join_228
  by_cases hs24 : o = 21
  · refine x_tswIn (tgt := 225) (off := 224) dX2_join_1 21 hs24 ?_
    refine x_il1 dX2_join_225 ?_
    refine x_il2 dX2_join_226 ?_
    refine x_ior (by omega) (by omega) dX2_join_227 ?_
    exact x_iret hQ (rI.mk (by first | (exfalso; omega) | (rw [show o = 31 by omega, cJ_31])) rfl) dX2_join_228
  by_cases hs25 : o = 22
  · refine x_tswIn (tgt := 225) (off := 224) dX2_join_1 22 hs25 ?_
    refine x_il1 dX2_join_225 ?_
    refine x_il2 dX2_join_226 ?_
    refine x_ior (by omega) (by omega) dX2_join_227 ?_
    exact x_iret hQ (rI.mk (by first | (exfalso; omega) | (rw [show o = 31 by omega, cJ_31])) rfl) dX2_join_228
  by_cases hs26 : o = 23
  · refine x_tswIn (tgt := 225) (off := 224) dX2_join_1 23 hs26 ?_
    refine x_il1 dX2_join_225 ?_
    refine x_il2 dX2_join_226 ?_
    refine x_ior (by omega) (by omega) dX2_join_227 ?_
    exact x_iret hQ (rI.mk (by first | (exfalso; omega) | (rw [show o = 31 by omega, cJ_31])) rfl) dX2_join_228
  by_cases hs27 : o = 24
  · refine x_tswIn (tgt := 225) (off := 224) dX2_join_1 24 hs27 ?_
    refine x_il1 dX2_join_225 ?_
    refine x_il2 dX2_join_226 ?_
    refine x_ior (by omega) (by omega) dX2_join_227 ?_
    exact x_iret hQ (rI.mk (by first | (exfalso; omega) | (rw [show o = 31 by omega, cJ_31])) rfl) dX2_join_228
  by_cases hs28 : o = 25
  · refine x_tswIn (tgt := 225) (off := 224) dX2_join_1 25 hs28 ?_
    refine x_il1 dX2_join_225 ?_
    refine x_il2 dX2_join_226 ?_
    refine x_ior (by omega) (by omega) dX2_join_227 ?_
    exact x_iret hQ (rI.mk (by first | (exfalso; omega) | (rw [show o = 31 by omega, cJ_31])) rfl) dX2_join_228
  by_cases hs29 : o = 26
  · refine x_tswIn (tgt := 225) (off := 224) dX2_join_1 26 hs29 ?_
    refine x_il1 dX2_join_225 ?_
    refine x_il2 dX2_join_226 ?_
    refine x_ior (by omega) (by omega) dX2_join_227 ?_
    exact x_iret hQ (rI.mk (by first | (exfalso; omega) | (rw [show o = 31 by omega, cJ_31])) rfl) dX2_join_228
  by_cases hs30 : o = 27
  · refine x_tswIn (tgt := 225) (off := 224) dX2_join_1 27 hs30 ?_
    refine x_il1 dX2_join_225 ?_
    refine x_il2 dX2_join_226 ?_
    refine x_ior (by omega) (by omega) dX2_join_227 ?_
    exact x_iret hQ (rI.mk (by first | (exfalso; omega) | (rw [show o = 31 by omega, cJ_31])) rfl) dX2_join_228
  by_cases hs31 : o = 28
  · refine x_tswIn (tgt := 225) (off := 224) dX2_join_1 28 hs31 ?_
    refine x_il1 dX2_join_225 ?_
    refine x_il2 dX2_join_226 ?_
    refine x_ior (by omega) (by omega) dX2_join_227 ?_
    exact x_iret hQ (rI.mk (by first | (exfalso; omega) | (rw [show o = 31 by omega, cJ_31])) rfl) dX2_join_228
  by_cases hs32 : o = 29
  · refine x_tswIn (tgt := 225) (off := 224) dX2_join_1 29 hs32 ?_
    refine x_il1 dX2_join_225 ?_
    refine x_il2 dX2_join_226 ?_
    refine x_ior (by omega) (by omega) dX2_join_227 ?_
    exact x_iret hQ (rI.mk (by first | (exfalso; omega) | (rw [show o = 31 by omega, cJ_31])) rfl) dX2_join_228
  refine x_tswOut (tgt := 225) dX2_join_1 (inr (by omega)) (by omega) ?_
  refine x_il1 dX2_join_225 ?_
  refine x_il2 dX2_join_226 ?_
  refine x_ior (by omega) (by omega) dX2_join_227 ?_
  exact x_iret hQ (rI.mk (by first | (exfalso; omega) | (rw [show o = 31 by omega, cJ_31])) rfl) dX2_join_228
set_option maxRecDepth 100000 in
set_option maxHeartbeats 4000000 in
theorem c_X2_nameOf {B : Bs} {S : Stt} {V : Va} (name : Int) (hS : Stat S) (h287 : (0 ≤ (V 287 2) ∧ (V 287 2) < 16) ∧ 0 ≤ (V 287 3) ∧ (V 287 3) < 16) (h17 : 0 ≤ (V 1 7) ∧ (V 1 7) ≤ 10) (h10 : ∀ t, 0 ≤ (V 10) t ∧ (V 10) t < 65536) (hn : 32 ≤ name ∧ name ≤ 39) : C B yX2_nameOf cX2_nameOf 2 (some .int) 2 0 0 [vR B 287, vI name] S V (rI S V (cName V name)) := by
  refine C.of [some (vR B 287), some (vI name)] ?_
  intro Γ hQ
  refine x_il1 dX2_nameOf_0 ?_
  by_cases hs1 : name = 32
  · refine x_tswIn (tgt := 44) (off := 43) dX2_nameOf_1 32 hs1 ?_
    refine x_al0 dX2_nameOf_44 ?_
    refine x_getR fl_X2_15 (sh_287 hS) (lq_287 hS) (rf_287_0 hS) dX2_nameOf_45 ?_
    refine x_getR fl_X2_78 (sh_1 hS) (lq_1 hS) (rf_1_2 hS) dX2_nameOf_48 ?_
    refine x_al0 dX2_nameOf_51 ?_
    refine x_getI fl_X2_54 (sh_287 hS) (lq_287 hS) dX2_nameOf_52 ?_
    refine x_topI (a' := V 287 2) rfl ?_
    refine x_iald (sh_4 hS) (lq_4 hS) (by omega) (by omega) dX2_nameOf_55 ?_
    refine x_topI (a' := V 4 (V 287 2)) rfl ?_
    exact x_iret hQ (rI.mk (by rw [show name = 32 by omega]; rfl) rfl) dX2_nameOf_56
  by_cases hs2 : name = 33
  · refine x_tswIn (tgt := 57) (off := 56) dX2_nameOf_1 33 hs2 ?_
    refine x_al0 dX2_nameOf_57 ?_
    refine x_getR fl_X2_15 (sh_287 hS) (lq_287 hS) (rf_287_0 hS) dX2_nameOf_58 ?_
    refine x_getR fl_X2_34 (sh_1 hS) (lq_1 hS) (rf_1_3 hS) dX2_nameOf_61 ?_
    refine x_getR fl_X2_81 (sh_5 hS) (lq_5 hS) (rf_5_0 hS) dX2_nameOf_64 ?_
    refine x_al0 dX2_nameOf_67 ?_
    refine x_getI fl_X2_54 (sh_287 hS) (lq_287 hS) dX2_nameOf_68 ?_
    refine x_topI (a' := V 287 2) rfl ?_
    refine x_iald (sh_6 hS) (lq_6 hS) (by omega) (by omega) dX2_nameOf_71 ?_
    refine x_topI (a' := V 6 (V 287 2)) rfl ?_
    exact x_iret hQ (rI.mk (by rw [show name = 33 by omega]; rfl) rfl) dX2_nameOf_72
  by_cases hs3 : name = 34
  · refine x_tswIn (tgt := 73) (off := 72) dX2_nameOf_1 34 hs3 ?_
    refine x_al0 dX2_nameOf_73 ?_
    refine x_getR fl_X2_15 (sh_287 hS) (lq_287 hS) (rf_287_0 hS) dX2_nameOf_74 ?_
    refine x_getR fl_X2_34 (sh_1 hS) (lq_1 hS) (rf_1_3 hS) dX2_nameOf_77 ?_
    refine x_getR fl_X2_48 (sh_5 hS) (lq_5 hS) (rf_5_2 hS) dX2_nameOf_80 ?_
    refine x_al0 dX2_nameOf_83 ?_
    refine x_getI fl_X2_54 (sh_287 hS) (lq_287 hS) dX2_nameOf_84 ?_
    refine x_topI (a' := V 287 2) rfl ?_
    refine x_iald (sh_8 hS) (lq_8 hS) (by omega) (by omega) dX2_nameOf_87 ?_
    refine x_topI (a' := V 8 (V 287 2)) rfl ?_
    exact x_iret hQ (rI.mk (by rw [show name = 34 by omega]; rfl) rfl) dX2_nameOf_88
  by_cases hs4 : name = 35
  · refine x_tswIn (tgt := 89) (off := 88) dX2_nameOf_1 35 hs4 ?_
    refine x_al0 dX2_nameOf_89 ?_
    refine x_getR fl_X2_15 (sh_287 hS) (lq_287 hS) (rf_287_0 hS) dX2_nameOf_90 ?_
    refine x_al0 dX2_nameOf_93 ?_
    refine x_getI fl_X2_54 (sh_287 hS) (lq_287 hS) dX2_nameOf_94 ?_
    refine x_topI (a' := V 287 2) rfl ?_
    refine x_cVi mm_X9_proofsOf ml_X2_84 dX2_nameOf_97 (c_X9_proofsOf (V 287 2) hS h17 h10 (by omega)) (sh_1 hS) (lq_1 hS) ?_
    exact x_iret hQ (rI.mk (by rw [show name = 35 by omega]; rfl) rfl) dX2_nameOf_100
  by_cases hs5 : name = 36
  · refine x_tswIn (tgt := 101) (off := 100) dX2_nameOf_1 36 hs5 ?_
    refine x_al0 dX2_nameOf_101 ?_
    refine x_getR fl_X2_15 (sh_287 hS) (lq_287 hS) (rf_287_0 hS) dX2_nameOf_102 ?_
    refine x_getR fl_X2_34 (sh_1 hS) (lq_1 hS) (rf_1_3 hS) dX2_nameOf_105 ?_
    refine x_getI fl_X2_87 (sh_5 hS) (lq_5 hS) dX2_nameOf_108 ?_
    refine x_topI (a' := V 5 6) rfl ?_
    exact x_iret hQ (rI.mk (by rw [show name = 36 by omega]; rfl) rfl) dX2_nameOf_111
  by_cases hs6 : name = 37
  · refine x_tswIn (tgt := 112) (off := 111) dX2_nameOf_1 37 hs6 ?_
    refine x_al0 dX2_nameOf_112 ?_
    refine x_getR fl_X2_15 (sh_287 hS) (lq_287 hS) (rf_287_0 hS) dX2_nameOf_113 ?_
    refine x_getR fl_X2_78 (sh_1 hS) (lq_1 hS) (rf_1_2 hS) dX2_nameOf_116 ?_
    refine x_al0 dX2_nameOf_119 ?_
    refine x_getI fl_X2_57 (sh_287 hS) (lq_287 hS) dX2_nameOf_120 ?_
    refine x_topI (a' := V 287 3) rfl ?_
    refine x_iald (sh_4 hS) (lq_4 hS) (by omega) (by omega) dX2_nameOf_123 ?_
    refine x_topI (a' := V 4 (V 287 3)) rfl ?_
    exact x_iret hQ (rI.mk (by rw [show name = 37 by omega]; rfl) rfl) dX2_nameOf_124
  by_cases hs7 : name = 38
  · refine x_tswIn (tgt := 125) (off := 124) dX2_nameOf_1 38 hs7 ?_
    refine x_al0 dX2_nameOf_125 ?_
    refine x_getR fl_X2_15 (sh_287 hS) (lq_287 hS) (rf_287_0 hS) dX2_nameOf_126 ?_
    refine x_getR fl_X2_34 (sh_1 hS) (lq_1 hS) (rf_1_3 hS) dX2_nameOf_129 ?_
    refine x_getR fl_X2_81 (sh_5 hS) (lq_5 hS) (rf_5_0 hS) dX2_nameOf_132 ?_
    refine x_al0 dX2_nameOf_135 ?_
    refine x_getI fl_X2_57 (sh_287 hS) (lq_287 hS) dX2_nameOf_136 ?_
    refine x_topI (a' := V 287 3) rfl ?_
    refine x_iald (sh_6 hS) (lq_6 hS) (by omega) (by omega) dX2_nameOf_139 ?_
    refine x_topI (a' := V 6 (V 287 3)) rfl ?_
    exact x_iret hQ (rI.mk (by rw [show name = 38 by omega]; rfl) rfl) dX2_nameOf_140
  refine x_tswOut (tgt := 141) dX2_nameOf_1 (inr (by omega)) (by omega) ?_
  refine x_al0 dX2_nameOf_141 ?_
  refine x_getR fl_X2_15 (sh_287 hS) (lq_287 hS) (rf_287_0 hS) dX2_nameOf_142 ?_
  refine x_getR fl_X2_34 (sh_1 hS) (lq_1 hS) (rf_1_3 hS) dX2_nameOf_145 ?_
  refine x_getR fl_X2_48 (sh_5 hS) (lq_5 hS) (rf_5_2 hS) dX2_nameOf_148 ?_
  refine x_al0 dX2_nameOf_151 ?_
  refine x_getI fl_X2_57 (sh_287 hS) (lq_287 hS) dX2_nameOf_152 ?_
  refine x_topI (a' := V 287 3) rfl ?_
  refine x_iald (sh_8 hS) (lq_8 hS) (by omega) (by omega) dX2_nameOf_155 ?_
  refine x_topI (a' := V 8 (V 287 3)) rfl ?_
  exact x_iret hQ (rI.mk (by rw [show name = 39 by omega]; rfl) rfl) dX2_nameOf_156
