set_option maxRecDepth 100000 in
set_option maxHeartbeats 4000000 in
theorem law_0 {Γ : Ctx} {B : Bs} {nm : String} {b n : Nat} {xs : Nat → Int32} {N i : Int} {kc ks : Nat} {S : Stt} {V : Va} (hc : Scp Γ B b n xs) (h : INV N S V) (hN : 0 ≤ N ∧ N ≤ 512) (hi : 0 ≤ i ∧ i + 6 ≤ n) (hkc : kc ≤ 5000 ∧ ks ≤ 1000000) (K : ∀ (S' : Stt) (V' : Va) (kc' ks' : Nat), INV (N + 1) S' V' → kc' ≤ kc + 6 → ks' ≤ ks + 428 → X Γ B RL nm cL_law 4 (some .boolean) 26 600000 7302250 1060 [some (.ref b), some (vR B 0), some (vR B 308), some (vI i)] [] kc' ks' S' V') : X Γ B RL nm cL_law 4 (some .boolean) 26 600000 7302250 168 [some (.ref b), some (vR B 0), some (vR B 308), some (vI i)] [] kc ks S V := by
  obtain ⟨hW, hB, hM⟩ := h.now
  have hd := Hd1_of hW hM
  have hS := h.st
  have hA : AB (V 309) := hM.1.1
  have hX : AB (V 311) := h.ab.1
  have hNm : AB (V 314) := h.ab.2.2.1
  have hTr : TRb (V 316) := h.ab.2.2.2.1
  have hz : TRb (V 323) := h.ab.2.2.2.2
  have hch : 0 ≤ V 1 10 ∧ V 1 10 ≤ 900000 := by have := h.ch; omega
  have hch2 : 0 ≤ V 1 10 ∧ V 1 10 ≤ 1000000 := by omega
  have h17 : 0 ≤ V 1 7 ∧ V 1 7 ≤ 10 := by rw [hd.w7]; exact hd.i0
  have h18 : 0 ≤ V 1 8 ∧ V 1 8 ≤ 4 := by rw [hd.w8]; exact hd.i3
  have h55 : 0 ≤ V 5 5 ∧ V 5 5 ≤ 16 := by rw [hd.w55]; exact hd.i1
  have h56 : 0 ≤ V 5 6 ∧ V 5 6 ≤ 999 := by rw [hd.w56]; exact hd.i2
  have h11 : 0 ≤ V 11 1 ∧ V 11 1 < 20 ∧ 0 ≤ V 11 2 ∧ V 11 2 ≤ 20 := ⟨hd.w111.1, hd.w111.2, by rw [hd.w112]; exact hd.i5.1, by rw [hd.w112]; exact hd.i5.2⟩
  have h10 : ∀ t, 0 ≤ V 10 t ∧ V 10 t < 65536 := hB.2.2.2.1
  have h134 : 0 ≤ V 134 4 ∧ V 134 4 ≤ 12 ∧ 0 ≤ V 134 5 ∧ V 134 5 ≤ 9 ∧ 1 ≤ V 134 6 ∧ V 134 6 ≤ 99 := by rw [hd.w134.1, hd.w134.2.1, hd.w134.2.2]; exact ⟨hd.i6.1, hd.i6.2, hd.i7⟩
  have hP : ∀ b, 0 ≤ b → b < 16 → 0 ≤ V 309 (30 + 6 * b + 5) := hM.1.2.2.2.2.2.2
  have hQt : ∀ s, 0 ≤ s → s < V 309 6 → 0 ≤ V 309 (126 + 4 * s) ∧ V 309 (126 + 4 * s) < 10 ∧ 0 ≤ V 309 (126 + 4 * s + 2) ∧ V 309 (126 + 4 * s + 2) ≤ 999 ∧ 0 ≤ V 309 (126 + 4 * s + 3) ∧ V 309 (126 + 4 * s + 3) ≤ 999 := fun s s0 s1 => by
    have z := hM.2.2.2.2.2.2.2.2.2 s s0 s1
    have := hd.i0
    omega
  refine x_al1 dL_law_168 ?_
  refine x_arg hc dL_law_169 dL_law_170 dL_law_171 dL_law_172 dL_law_173 (by omega) (by omega) ?_
  refine x_arg hc dL_law_174 dL_law_175 dL_law_176 dL_law_177 dL_law_178 (by omega) (by omega) ?_
  refine x_cVi mm_X10_town ml_L_13 dL_law_179 (c_X10_town (xv xs (i + 1)) (xv xs (i + 2)) hS h17 hch2 (xv_r _ _) (xv_r _ _)) (sh_0 hS) (lq_0 hS) ?_ (hf := ⟨by omega, by omega⟩)
  have s := town_s hW hB hM (xv xs (i + 1)) (xv xs (i + 2))
  have r : ChR (V 309) (mTownF (V 309) (xv xs (i + 1)) (xv xs (i + 2))) V (cTownF V (xv xs (i + 1)) (xv xs (i + 2))) := ChR_o s.2.1 (fun c => if_neg c)
  generalize hV1 : cTownF V (xv xs (i + 1)) (xv xs (i + 2)) = V1 at r ⊢
  have e := ChR_hi r
  have e9 := e 309 (by decide)
  have e11 := e 311 (by decide)
  have e14 := e 314 (by decide)
  have e16 := e 316 (by decide)
  have e23 := e 323 (by decide)
  refine x_al2 dL_law_182 ?_
  refine x_arg hc dL_law_183 dL_law_184 dL_law_185 dL_law_186 dL_law_187 (by omega) (by omega) ?_
  refine x_arg hc dL_law_188 dL_law_189 dL_law_190 dL_law_191 dL_law_192 (by omega) (by omega) ?_
  refine x_cVi mm_X11_town ml_L_17 dL_law_193 (c_X11_town (xv xs (i + 1)) (xv xs (i + 2)) hS (by rw [e9]; exact hA) (by rw [e9]; exact hd.i0) (xv_r _ _) (xv_r _ _)) (sh_308 hS) (lq_308 hS) ?_ (hf := ⟨by omega, by omega⟩)
  rw [e9]
  refine x_icmpS (tgt := 1060) dL_law_196 (if_cg s.1 hd.w7) ?_
  exact K _ _ _ _ (INV_o1 h r s.2.2 (mTownF_3 hM _ _)) (by omega) (by omega)
set_option maxRecDepth 100000 in
set_option maxHeartbeats 4000000 in
theorem law_1 {Γ : Ctx} {B : Bs} {nm : String} {b n : Nat} {xs : Nat → Int32} {N i : Int} {kc ks : Nat} {S : Stt} {V : Va} (hc : Scp Γ B b n xs) (h : INV N S V) (hN : 0 ≤ N ∧ N ≤ 512) (hi : 0 ≤ i ∧ i + 6 ≤ n) (hkc : kc ≤ 5000 ∧ ks ≤ 1000000) (K : ∀ (S' : Stt) (V' : Va) (kc' ks' : Nat), INV (N + 1) S' V' → kc' ≤ kc + 6 → ks' ≤ ks + 428 → X Γ B RL nm cL_law 4 (some .boolean) 26 600000 7302250 1060 [some (.ref b), some (vR B 0), some (vR B 308), some (vI i)] [] kc' ks' S' V') : X Γ B RL nm cL_law 4 (some .boolean) 26 600000 7302250 201 [some (.ref b), some (vR B 0), some (vR B 308), some (vI i)] [] kc ks S V := by
  obtain ⟨hW, hB, hM⟩ := h.now
  have hd := Hd1_of hW hM
  have hS := h.st
  have hA : AB (V 309) := hM.1.1
  have hX : AB (V 311) := h.ab.1
  have hNm : AB (V 314) := h.ab.2.2.1
  have hTr : TRb (V 316) := h.ab.2.2.2.1
  have hz : TRb (V 323) := h.ab.2.2.2.2
  have hch : 0 ≤ V 1 10 ∧ V 1 10 ≤ 900000 := by have := h.ch; omega
  have hch2 : 0 ≤ V 1 10 ∧ V 1 10 ≤ 1000000 := by omega
  have h17 : 0 ≤ V 1 7 ∧ V 1 7 ≤ 10 := by rw [hd.w7]; exact hd.i0
  have h18 : 0 ≤ V 1 8 ∧ V 1 8 ≤ 4 := by rw [hd.w8]; exact hd.i3
  have h55 : 0 ≤ V 5 5 ∧ V 5 5 ≤ 16 := by rw [hd.w55]; exact hd.i1
  have h56 : 0 ≤ V 5 6 ∧ V 5 6 ≤ 999 := by rw [hd.w56]; exact hd.i2
  have h11 : 0 ≤ V 11 1 ∧ V 11 1 < 20 ∧ 0 ≤ V 11 2 ∧ V 11 2 ≤ 20 := ⟨hd.w111.1, hd.w111.2, by rw [hd.w112]; exact hd.i5.1, by rw [hd.w112]; exact hd.i5.2⟩
  have h10 : ∀ t, 0 ≤ V 10 t ∧ V 10 t < 65536 := hB.2.2.2.1
  have h134 : 0 ≤ V 134 4 ∧ V 134 4 ≤ 12 ∧ 0 ≤ V 134 5 ∧ V 134 5 ≤ 9 ∧ 1 ≤ V 134 6 ∧ V 134 6 ≤ 99 := by rw [hd.w134.1, hd.w134.2.1, hd.w134.2.2]; exact ⟨hd.i6.1, hd.i6.2, hd.i7⟩
  have hP : ∀ b, 0 ≤ b → b < 16 → 0 ≤ V 309 (30 + 6 * b + 5) := hM.1.2.2.2.2.2.2
  have hQt : ∀ s, 0 ≤ s → s < V 309 6 → 0 ≤ V 309 (126 + 4 * s) ∧ V 309 (126 + 4 * s) < 10 ∧ 0 ≤ V 309 (126 + 4 * s + 2) ∧ V 309 (126 + 4 * s + 2) ≤ 999 ∧ 0 ≤ V 309 (126 + 4 * s + 3) ∧ V 309 (126 + 4 * s + 3) ≤ 999 := fun s s0 s1 => by
    have z := hM.2.2.2.2.2.2.2.2.2 s s0 s1
    have := hd.i0
    omega
  refine x_al1 dL_law_201 ?_
  refine x_arg hc dL_law_202 dL_law_203 dL_law_204 dL_law_205 dL_law_206 (by omega) (by omega) ?_
  refine x_arg hc dL_law_207 dL_law_208 dL_law_209 dL_law_210 dL_law_211 (by omega) (by omega) ?_
  refine x_arg hc dL_law_212 dL_law_213 dL_law_214 dL_law_215 dL_law_216 (by omega) (by omega) ?_
  refine x_cVi mm_X10_bone ml_L_18 dL_law_217 (c_X10_bone (xv xs (i + 1)) (xv xs (i + 2)) (xv xs (i + 3)) hS h17 h55 hch2 (xv_r _ _) (xv_r _ _) (xv_r _ _)) (sh_0 hS) (lq_0 hS) ?_ (hf := ⟨by omega, by omega⟩)
  have s := bone_s hW hB hM (xv xs (i + 1)) (xv xs (i + 2)) (xv xs (i + 3))
  have r : ChR (V 309) (mBoneF (V 309) (xv xs (i + 1)) (xv xs (i + 2)) (xv xs (i + 3))) V (cBoneF V (xv xs (i + 1)) (xv xs (i + 2)) (xv xs (i + 3))) := ChR_o s.2.1 (fun c => if_neg c)
  generalize hV1 : cBoneF V (xv xs (i + 1)) (xv xs (i + 2)) (xv xs (i + 3)) = V1 at r ⊢
  have e := ChR_hi r
  have e9 := e 309 (by decide)
  have e11 := e 311 (by decide)
  have e14 := e 314 (by decide)
  have e16 := e 316 (by decide)
  have e23 := e 323 (by decide)
  refine x_al2 dL_law_220 ?_
  refine x_arg hc dL_law_221 dL_law_222 dL_law_223 dL_law_224 dL_law_225 (by omega) (by omega) ?_
  refine x_arg hc dL_law_226 dL_law_227 dL_law_228 dL_law_229 dL_law_230 (by omega) (by omega) ?_
  refine x_arg hc dL_law_231 dL_law_232 dL_law_233 dL_law_234 dL_law_235 (by omega) (by omega) ?_
  refine x_cVi mm_X11_bone ml_L_22 dL_law_236 (c_X11_bone (xv xs (i + 1)) (xv xs (i + 2)) (xv xs (i + 3)) hS (by rw [e9]; exact hA) (by rw [e9]; exact hd.i0) (by rw [e9]; exact hd.i1) (xv_r _ _) (xv_r _ _) (xv_r _ _)) (sh_308 hS) (lq_308 hS) ?_ (hf := ⟨by omega, by omega⟩)
  rw [e9]
  refine x_icmpS (tgt := 1060) dL_law_239 (if_cg s.1 hd.w55) ?_
  exact K _ _ _ _ (INV_o1 h r s.2.2 (mBoneF_3 hM _ _ _)) (by omega) (by omega)
set_option maxRecDepth 100000 in
set_option maxHeartbeats 4000000 in
theorem law_2 {Γ : Ctx} {B : Bs} {nm : String} {b n : Nat} {xs : Nat → Int32} {N i : Int} {kc ks : Nat} {S : Stt} {V : Va} (hc : Scp Γ B b n xs) (h : INV N S V) (hN : 0 ≤ N ∧ N ≤ 512) (hi : 0 ≤ i ∧ i + 6 ≤ n) (hkc : kc ≤ 5000 ∧ ks ≤ 1000000) (K : ∀ (S' : Stt) (V' : Va) (kc' ks' : Nat), INV (N + 1) S' V' → kc' ≤ kc + 6 → ks' ≤ ks + 428 → X Γ B RL nm cL_law 4 (some .boolean) 26 600000 7302250 1060 [some (.ref b), some (vR B 0), some (vR B 308), some (vI i)] [] kc' ks' S' V') : X Γ B RL nm cL_law 4 (some .boolean) 26 600000 7302250 244 [some (.ref b), some (vR B 0), some (vR B 308), some (vI i)] [] kc ks S V := by
  obtain ⟨hW, hB, hM⟩ := h.now
  have hd := Hd1_of hW hM
  have hS := h.st
  have hA : AB (V 309) := hM.1.1
  have hX : AB (V 311) := h.ab.1
  have hNm : AB (V 314) := h.ab.2.2.1
  have hTr : TRb (V 316) := h.ab.2.2.2.1
  have hz : TRb (V 323) := h.ab.2.2.2.2
  have hch : 0 ≤ V 1 10 ∧ V 1 10 ≤ 900000 := by have := h.ch; omega
  have hch2 : 0 ≤ V 1 10 ∧ V 1 10 ≤ 1000000 := by omega
  have h17 : 0 ≤ V 1 7 ∧ V 1 7 ≤ 10 := by rw [hd.w7]; exact hd.i0
  have h18 : 0 ≤ V 1 8 ∧ V 1 8 ≤ 4 := by rw [hd.w8]; exact hd.i3
  have h55 : 0 ≤ V 5 5 ∧ V 5 5 ≤ 16 := by rw [hd.w55]; exact hd.i1
  have h56 : 0 ≤ V 5 6 ∧ V 5 6 ≤ 999 := by rw [hd.w56]; exact hd.i2
  have h11 : 0 ≤ V 11 1 ∧ V 11 1 < 20 ∧ 0 ≤ V 11 2 ∧ V 11 2 ≤ 20 := ⟨hd.w111.1, hd.w111.2, by rw [hd.w112]; exact hd.i5.1, by rw [hd.w112]; exact hd.i5.2⟩
  have h10 : ∀ t, 0 ≤ V 10 t ∧ V 10 t < 65536 := hB.2.2.2.1
  have h134 : 0 ≤ V 134 4 ∧ V 134 4 ≤ 12 ∧ 0 ≤ V 134 5 ∧ V 134 5 ≤ 9 ∧ 1 ≤ V 134 6 ∧ V 134 6 ≤ 99 := by rw [hd.w134.1, hd.w134.2.1, hd.w134.2.2]; exact ⟨hd.i6.1, hd.i6.2, hd.i7⟩
  have hP : ∀ b, 0 ≤ b → b < 16 → 0 ≤ V 309 (30 + 6 * b + 5) := hM.1.2.2.2.2.2.2
  have hQt : ∀ s, 0 ≤ s → s < V 309 6 → 0 ≤ V 309 (126 + 4 * s) ∧ V 309 (126 + 4 * s) < 10 ∧ 0 ≤ V 309 (126 + 4 * s + 2) ∧ V 309 (126 + 4 * s + 2) ≤ 999 ∧ 0 ≤ V 309 (126 + 4 * s + 3) ∧ V 309 (126 + 4 * s + 3) ≤ 999 := fun s s0 s1 => by
    have z := hM.2.2.2.2.2.2.2.2.2 s s0 s1
    have := hd.i0
    omega
  refine x_al1 dL_law_244 ?_
  refine x_arg hc dL_law_245 dL_law_246 dL_law_247 dL_law_248 dL_law_249 (by omega) (by omega) ?_
  refine x_arg hc dL_law_250 dL_law_251 dL_law_252 dL_law_253 dL_law_254 (by omega) (by omega) ?_
  refine x_cVi mm_X10_prove ml_L_23 dL_law_255 (c_X10_prove (xv xs (i + 1)) (xv xs (i + 2)) hS h17 h55 h11 hch2 h10 (xv_r _ _) (xv_r _ _)) (sh_0 hS) (lq_0 hS) ?_ (hf := ⟨by omega, by omega⟩)
  have s := prove_s hW hB hM (xv xs (i + 1)) (xv xs (i + 2))
  have r : ChR (V 309) (mProveF (V 309) (xv xs (i + 1)) (xv xs (i + 2))) V (cProveF V (xv xs (i + 1)) (xv xs (i + 2))) := ChR_s s.1 (fun c => if_neg c)
  generalize hV1 : cProveF V (xv xs (i + 1)) (xv xs (i + 2)) = V1 at r ⊢
  have e := ChR_hi r
  have e9 := e 309 (by decide)
  have e11 := e 311 (by decide)
  have e14 := e 314 (by decide)
  have e16 := e 316 (by decide)
  have e23 := e 323 (by decide)
  refine x_al2 dL_law_258 ?_
  refine x_arg hc dL_law_259 dL_law_260 dL_law_261 dL_law_262 dL_law_263 (by omega) (by omega) ?_
  refine x_arg hc dL_law_264 dL_law_265 dL_law_266 dL_law_267 dL_law_268 (by omega) (by omega) ?_
  refine x_cVi mm_X11_prove ml_L_27 dL_law_269 (c_X11_prove (xv xs (i + 1)) (xv xs (i + 2)) hS (by rw [e9]; exact hA) (by rw [e9]; exact hd.i0) (by rw [e9]; exact hd.i1) (by rw [e9]; exact hd.i5) (by rw [e9]; exact hP) (xv_r _ _) (xv_r _ _)) (sh_308 hS) (lq_308 hS) ?_ (hf := ⟨by omega, by omega⟩)
  rw [e9]
  refine x_icmpS (tgt := 1060) dL_law_272 (if_cg (prove_c hW hM _ _) rfl) ?_
  exact K _ _ _ _ (INV_o1 h r s.2 (mProveF_3 hM _ _)) (by omega) (by omega)
set_option maxRecDepth 100000 in
set_option maxHeartbeats 4000000 in
theorem law_8 {Γ : Ctx} {B : Bs} {nm : String} {b n : Nat} {xs : Nat → Int32} {N i : Int} {kc ks : Nat} {S : Stt} {V : Va} (hc : Scp Γ B b n xs) (h : INV N S V) (hN : 0 ≤ N ∧ N ≤ 512) (hi : 0 ≤ i ∧ i + 6 ≤ n) (hkc : kc ≤ 5000 ∧ ks ≤ 1000000) (K : ∀ (S' : Stt) (V' : Va) (kc' ks' : Nat), INV (N + 1) S' V' → kc' ≤ kc + 6 → ks' ≤ ks + 428 → X Γ B RL nm cL_law 4 (some .boolean) 26 600000 7302250 1060 [some (.ref b), some (vR B 0), some (vR B 308), some (vI i)] [] kc' ks' S' V') : X Γ B RL nm cL_law 4 (some .boolean) 26 600000 7302250 422 [some (.ref b), some (vR B 0), some (vR B 308), some (vI i)] [] kc ks S V := by
  obtain ⟨hW, hB, hM⟩ := h.now
  have hd := Hd1_of hW hM
  have hS := h.st
  have hA : AB (V 309) := hM.1.1
  have hX : AB (V 311) := h.ab.1
  have hNm : AB (V 314) := h.ab.2.2.1
  have hTr : TRb (V 316) := h.ab.2.2.2.1
  have hz : TRb (V 323) := h.ab.2.2.2.2
  have hch : 0 ≤ V 1 10 ∧ V 1 10 ≤ 900000 := by have := h.ch; omega
  have hch2 : 0 ≤ V 1 10 ∧ V 1 10 ≤ 1000000 := by omega
  have h17 : 0 ≤ V 1 7 ∧ V 1 7 ≤ 10 := by rw [hd.w7]; exact hd.i0
  have h18 : 0 ≤ V 1 8 ∧ V 1 8 ≤ 4 := by rw [hd.w8]; exact hd.i3
  have h55 : 0 ≤ V 5 5 ∧ V 5 5 ≤ 16 := by rw [hd.w55]; exact hd.i1
  have h56 : 0 ≤ V 5 6 ∧ V 5 6 ≤ 999 := by rw [hd.w56]; exact hd.i2
  have h11 : 0 ≤ V 11 1 ∧ V 11 1 < 20 ∧ 0 ≤ V 11 2 ∧ V 11 2 ≤ 20 := ⟨hd.w111.1, hd.w111.2, by rw [hd.w112]; exact hd.i5.1, by rw [hd.w112]; exact hd.i5.2⟩
  have h10 : ∀ t, 0 ≤ V 10 t ∧ V 10 t < 65536 := hB.2.2.2.1
  have h134 : 0 ≤ V 134 4 ∧ V 134 4 ≤ 12 ∧ 0 ≤ V 134 5 ∧ V 134 5 ≤ 9 ∧ 1 ≤ V 134 6 ∧ V 134 6 ≤ 99 := by rw [hd.w134.1, hd.w134.2.1, hd.w134.2.2]; exact ⟨hd.i6.1, hd.i6.2, hd.i7⟩
  have hP : ∀ b, 0 ≤ b → b < 16 → 0 ≤ V 309 (30 + 6 * b + 5) := hM.1.2.2.2.2.2.2
  have hQt : ∀ s, 0 ≤ s → s < V 309 6 → 0 ≤ V 309 (126 + 4 * s) ∧ V 309 (126 + 4 * s) < 10 ∧ 0 ≤ V 309 (126 + 4 * s + 2) ∧ V 309 (126 + 4 * s + 2) ≤ 999 ∧ 0 ≤ V 309 (126 + 4 * s + 3) ∧ V 309 (126 + 4 * s + 3) ≤ 999 := fun s s0 s1 => by
    have z := hM.2.2.2.2.2.2.2.2.2 s s0 s1
    have := hd.i0
    omega
  refine x_al1 dL_law_422 ?_
  refine x_arg hc dL_law_423 dL_law_424 dL_law_425 dL_law_426 dL_law_427 (by omega) (by omega) ?_
  refine x_arg hc dL_law_428 dL_law_429 dL_law_430 dL_law_431 dL_law_432 (by omega) (by omega) ?_
  refine x_arg hc dL_law_433 dL_law_434 dL_law_435 dL_law_436 dL_law_437 (by omega) (by omega) ?_
  refine x_cVi mm_X10_lend ml_L_52 dL_law_438 (c_X10_lend (xv xs (i + 1)) (xv xs (i + 2)) (xv xs (i + 3)) hS h17 h55 h56 h11 hch2 hB.2.2.2.2.2.1 hB.2.2.2.2.2.2.1 hB.2.2.2.2.2.2.2.1 (xv_r _ _) (xv_r _ _) (xv_r _ _)) (sh_0 hS) (lq_0 hS) ?_ (hf := ⟨by omega, by omega⟩)
  have s := lend_s hW hB hM (xv xs (i + 1)) (xv xs (i + 2)) (xv xs (i + 3))
  have r : ChR (V 309) (mLendF (V 309) (xv xs (i + 1)) (xv xs (i + 2)) (xv xs (i + 3))) V (cLendF V (xv xs (i + 1)) (xv xs (i + 2)) (xv xs (i + 3))) := ChR_s s.1 (fun c => if_neg c)
  generalize hV1 : cLendF V (xv xs (i + 1)) (xv xs (i + 2)) (xv xs (i + 3)) = V1 at r ⊢
  have e := ChR_hi r
  have e9 := e 309 (by decide)
  have e11 := e 311 (by decide)
  have e14 := e 314 (by decide)
  have e16 := e 316 (by decide)
  have e23 := e 323 (by decide)
  refine x_al2 dL_law_441 ?_
  refine x_arg hc dL_law_442 dL_law_443 dL_law_444 dL_law_445 dL_law_446 (by omega) (by omega) ?_
  refine x_arg hc dL_law_447 dL_law_448 dL_law_449 dL_law_450 dL_law_451 (by omega) (by omega) ?_
  refine x_arg hc dL_law_452 dL_law_453 dL_law_454 dL_law_455 dL_law_456 (by omega) (by omega) ?_
  refine x_cVi mm_X11_lend ml_L_55 dL_law_457 (c_X11_lend (xv xs (i + 1)) (xv xs (i + 2)) (xv xs (i + 3)) hS (by rw [e9]; exact hA) (by rw [e9]; exact hd.i0) (by rw [e9]; exact hd.i1) (by rw [e9]; exact hd.i2) (by rw [e9]; exact hd.i5) (xv_r _ _) (xv_r _ _) (xv_r _ _)) (sh_308 hS) (lq_308 hS) ?_ (hf := ⟨by omega, by omega⟩)
  rw [e9]
  refine x_icmpS (tgt := 1060) dL_law_460 (if_cg (lend_c hW hM _ _ _) (by rw [hd.w56])) ?_
  exact K _ _ _ _ (INV_o1 h r s.2 (mLendF_3 hM _ _ _)) (by omega) (by omega)
set_option maxRecDepth 100000 in
set_option maxHeartbeats 4000000 in
theorem law_9 {Γ : Ctx} {B : Bs} {nm : String} {b n : Nat} {xs : Nat → Int32} {N i : Int} {kc ks : Nat} {S : Stt} {V : Va} (hc : Scp Γ B b n xs) (h : INV N S V) (hN : 0 ≤ N ∧ N ≤ 512) (hi : 0 ≤ i ∧ i + 6 ≤ n) (hkc : kc ≤ 5000 ∧ ks ≤ 1000000) (K : ∀ (S' : Stt) (V' : Va) (kc' ks' : Nat), INV (N + 1) S' V' → kc' ≤ kc + 6 → ks' ≤ ks + 428 → X Γ B RL nm cL_law 4 (some .boolean) 26 600000 7302250 1060 [some (.ref b), some (vR B 0), some (vR B 308), some (vI i)] [] kc' ks' S' V') : X Γ B RL nm cL_law 4 (some .boolean) 26 600000 7302250 465 [some (.ref b), some (vR B 0), some (vR B 308), some (vI i)] [] kc ks S V := by
  obtain ⟨hW, hB, hM⟩ := h.now
  have hd := Hd1_of hW hM
  have hS := h.st
  have hA : AB (V 309) := hM.1.1
  have hX : AB (V 311) := h.ab.1
  have hNm : AB (V 314) := h.ab.2.2.1
  have hTr : TRb (V 316) := h.ab.2.2.2.1
  have hz : TRb (V 323) := h.ab.2.2.2.2
  have hch : 0 ≤ V 1 10 ∧ V 1 10 ≤ 900000 := by have := h.ch; omega
  have hch2 : 0 ≤ V 1 10 ∧ V 1 10 ≤ 1000000 := by omega
  have h17 : 0 ≤ V 1 7 ∧ V 1 7 ≤ 10 := by rw [hd.w7]; exact hd.i0
  have h18 : 0 ≤ V 1 8 ∧ V 1 8 ≤ 4 := by rw [hd.w8]; exact hd.i3
  have h55 : 0 ≤ V 5 5 ∧ V 5 5 ≤ 16 := by rw [hd.w55]; exact hd.i1
  have h56 : 0 ≤ V 5 6 ∧ V 5 6 ≤ 999 := by rw [hd.w56]; exact hd.i2
  have h11 : 0 ≤ V 11 1 ∧ V 11 1 < 20 ∧ 0 ≤ V 11 2 ∧ V 11 2 ≤ 20 := ⟨hd.w111.1, hd.w111.2, by rw [hd.w112]; exact hd.i5.1, by rw [hd.w112]; exact hd.i5.2⟩
  have h10 : ∀ t, 0 ≤ V 10 t ∧ V 10 t < 65536 := hB.2.2.2.1
  have h134 : 0 ≤ V 134 4 ∧ V 134 4 ≤ 12 ∧ 0 ≤ V 134 5 ∧ V 134 5 ≤ 9 ∧ 1 ≤ V 134 6 ∧ V 134 6 ≤ 99 := by rw [hd.w134.1, hd.w134.2.1, hd.w134.2.2]; exact ⟨hd.i6.1, hd.i6.2, hd.i7⟩
  have hP : ∀ b, 0 ≤ b → b < 16 → 0 ≤ V 309 (30 + 6 * b + 5) := hM.1.2.2.2.2.2.2
  have hQt : ∀ s, 0 ≤ s → s < V 309 6 → 0 ≤ V 309 (126 + 4 * s) ∧ V 309 (126 + 4 * s) < 10 ∧ 0 ≤ V 309 (126 + 4 * s + 2) ∧ V 309 (126 + 4 * s + 2) ≤ 999 ∧ 0 ≤ V 309 (126 + 4 * s + 3) ∧ V 309 (126 + 4 * s + 3) ≤ 999 := fun s s0 s1 => by
    have z := hM.2.2.2.2.2.2.2.2.2 s s0 s1
    have := hd.i0
    omega
  refine x_al1 dL_law_465 ?_
  refine x_arg hc dL_law_466 dL_law_467 dL_law_468 dL_law_469 dL_law_470 (by omega) (by omega) ?_
  refine x_arg hc dL_law_471 dL_law_472 dL_law_473 dL_law_474 dL_law_475 (by omega) (by omega) ?_
  refine x_cVi mm_X10_swap ml_L_56 dL_law_476 (c_X10_swap (xv xs (i + 1)) (xv xs (i + 2)) hS h55 h11 hch2 hB.2.2.2.2.2.2.1 (xv_r _ _) (xv_r _ _)) (sh_0 hS) (lq_0 hS) ?_ (hf := ⟨by omega, by omega⟩)
  have s := swap_s hW hB hM (xv xs (i + 1)) (xv xs (i + 2))
  have r : ChR (V 309) (mSwapF (V 309) (xv xs (i + 1)) (xv xs (i + 2))) V (cSwapF V (xv xs (i + 1)) (xv xs (i + 2))) := ChR_s s.1 (fun c => if_neg c)
  generalize hV1 : cSwapF V (xv xs (i + 1)) (xv xs (i + 2)) = V1 at r ⊢
  have e := ChR_hi r
  have e9 := e 309 (by decide)
  have e11 := e 311 (by decide)
  have e14 := e 314 (by decide)
  have e16 := e 316 (by decide)
  have e23 := e 323 (by decide)
  refine x_al2 dL_law_479 ?_
  refine x_arg hc dL_law_480 dL_law_481 dL_law_482 dL_law_483 dL_law_484 (by omega) (by omega) ?_
  refine x_arg hc dL_law_485 dL_law_486 dL_law_487 dL_law_488 dL_law_489 (by omega) (by omega) ?_
  refine x_cVi mm_X11_swap ml_L_59 dL_law_490 (c_X11_swap (xv xs (i + 1)) (xv xs (i + 2)) hS (by rw [e9]; exact hA) (by rw [e9]; exact hd.i1) (by rw [e9]; exact hd.i5) (xv_r _ _) (xv_r _ _)) (sh_308 hS) (lq_308 hS) ?_ (hf := ⟨by omega, by omega⟩)
  rw [e9]
  refine x_icmpS (tgt := 1060) dL_law_493 (if_cg (swap_c hW hM _ _) rfl) ?_
  exact K _ _ _ _ (INV_o1 h r s.2 (mSwapF_3 hM _ _)) (by omega) (by omega)
set_option maxRecDepth 100000 in
set_option maxHeartbeats 4000000 in
theorem law_10 {Γ : Ctx} {B : Bs} {nm : String} {b n : Nat} {xs : Nat → Int32} {N i : Int} {kc ks : Nat} {S : Stt} {V : Va} (hc : Scp Γ B b n xs) (h : INV N S V) (hN : 0 ≤ N ∧ N ≤ 512) (hi : 0 ≤ i ∧ i + 6 ≤ n) (hkc : kc ≤ 5000 ∧ ks ≤ 1000000) (K : ∀ (S' : Stt) (V' : Va) (kc' ks' : Nat), INV (N + 1) S' V' → kc' ≤ kc + 6 → ks' ≤ ks + 428 → X Γ B RL nm cL_law 4 (some .boolean) 26 600000 7302250 1060 [some (.ref b), some (vR B 0), some (vR B 308), some (vI i)] [] kc' ks' S' V') : X Γ B RL nm cL_law 4 (some .boolean) 26 600000 7302250 498 [some (.ref b), some (vR B 0), some (vR B 308), some (vI i)] [] kc ks S V := by
  obtain ⟨hW, hB, hM⟩ := h.now
  have hd := Hd1_of hW hM
  have hS := h.st
  have hA : AB (V 309) := hM.1.1
  have hX : AB (V 311) := h.ab.1
  have hNm : AB (V 314) := h.ab.2.2.1
  have hTr : TRb (V 316) := h.ab.2.2.2.1
  have hz : TRb (V 323) := h.ab.2.2.2.2
  have hch : 0 ≤ V 1 10 ∧ V 1 10 ≤ 900000 := by have := h.ch; omega
  have hch2 : 0 ≤ V 1 10 ∧ V 1 10 ≤ 1000000 := by omega
  have h17 : 0 ≤ V 1 7 ∧ V 1 7 ≤ 10 := by rw [hd.w7]; exact hd.i0
  have h18 : 0 ≤ V 1 8 ∧ V 1 8 ≤ 4 := by rw [hd.w8]; exact hd.i3
  have h55 : 0 ≤ V 5 5 ∧ V 5 5 ≤ 16 := by rw [hd.w55]; exact hd.i1
  have h56 : 0 ≤ V 5 6 ∧ V 5 6 ≤ 999 := by rw [hd.w56]; exact hd.i2
  have h11 : 0 ≤ V 11 1 ∧ V 11 1 < 20 ∧ 0 ≤ V 11 2 ∧ V 11 2 ≤ 20 := ⟨hd.w111.1, hd.w111.2, by rw [hd.w112]; exact hd.i5.1, by rw [hd.w112]; exact hd.i5.2⟩
  have h10 : ∀ t, 0 ≤ V 10 t ∧ V 10 t < 65536 := hB.2.2.2.1
  have h134 : 0 ≤ V 134 4 ∧ V 134 4 ≤ 12 ∧ 0 ≤ V 134 5 ∧ V 134 5 ≤ 9 ∧ 1 ≤ V 134 6 ∧ V 134 6 ≤ 99 := by rw [hd.w134.1, hd.w134.2.1, hd.w134.2.2]; exact ⟨hd.i6.1, hd.i6.2, hd.i7⟩
  have hP : ∀ b, 0 ≤ b → b < 16 → 0 ≤ V 309 (30 + 6 * b + 5) := hM.1.2.2.2.2.2.2
  have hQt : ∀ s, 0 ≤ s → s < V 309 6 → 0 ≤ V 309 (126 + 4 * s) ∧ V 309 (126 + 4 * s) < 10 ∧ 0 ≤ V 309 (126 + 4 * s + 2) ∧ V 309 (126 + 4 * s + 2) ≤ 999 ∧ 0 ≤ V 309 (126 + 4 * s + 3) ∧ V 309 (126 + 4 * s + 3) ≤ 999 := fun s s0 s1 => by
    have z := hM.2.2.2.2.2.2.2.2.2 s s0 s1
    have := hd.i0
    omega
  refine x_al1 dL_law_498 ?_
  refine x_arg hc dL_law_499 dL_law_500 dL_law_501 dL_law_502 dL_law_503 (by omega) (by omega) ?_
  refine x_arg hc dL_law_504 dL_law_505 dL_law_506 dL_law_507 dL_law_508 (by omega) (by omega) ?_
  refine x_cVi mm_X10_steal ml_L_60 dL_law_509 (c_X10_steal (xv xs (i + 1)) (xv xs (i + 2)) hS h17 h55 h11 hch2 hB.2.2.2.2.2.2.1 (xv_r _ _) (xv_r _ _)) (sh_0 hS) (lq_0 hS) ?_ (hf := ⟨by omega, by omega⟩)
  have s := steal_s hW hB hM (xv xs (i + 1)) (xv xs (i + 2))
  have r : ChR (V 309) (mStealF (V 309) (xv xs (i + 1)) (xv xs (i + 2))) V (cStealF V (xv xs (i + 1)) (xv xs (i + 2))) := ChR_s s.1 (fun c => if_neg c)
  generalize hV1 : cStealF V (xv xs (i + 1)) (xv xs (i + 2)) = V1 at r ⊢
  have e := ChR_hi r
  have e9 := e 309 (by decide)
  have e11 := e 311 (by decide)
  have e14 := e 314 (by decide)
  have e16 := e 316 (by decide)
  have e23 := e 323 (by decide)
  refine x_al2 dL_law_512 ?_
  refine x_arg hc dL_law_513 dL_law_514 dL_law_515 dL_law_516 dL_law_517 (by omega) (by omega) ?_
  refine x_arg hc dL_law_518 dL_law_519 dL_law_520 dL_law_521 dL_law_522 (by omega) (by omega) ?_
  refine x_cVi mm_X11_steal ml_L_63 dL_law_523 (c_X11_steal (xv xs (i + 1)) (xv xs (i + 2)) hS (by rw [e9]; exact hA) (by rw [e9]; exact hd.i0) (by rw [e9]; exact hd.i1) (by rw [e9]; exact hd.i5) (xv_r _ _) (xv_r _ _)) (sh_308 hS) (lq_308 hS) ?_ (hf := ⟨by omega, by omega⟩)
  rw [e9]
  refine x_icmpS (tgt := 1060) dL_law_526 (if_cg (steal_c hW hM _ _) rfl) ?_
  exact K _ _ _ _ (INV_o1 h r s.2 (mStealF_3 hM _ _)) (by omega) (by omega)
set_option maxRecDepth 100000 in
set_option maxHeartbeats 4000000 in
theorem law_11 {Γ : Ctx} {B : Bs} {nm : String} {b n : Nat} {xs : Nat → Int32} {N i : Int} {kc ks : Nat} {S : Stt} {V : Va} (hc : Scp Γ B b n xs) (h : INV N S V) (hN : 0 ≤ N ∧ N ≤ 512) (hi : 0 ≤ i ∧ i + 6 ≤ n) (hkc : kc ≤ 5000 ∧ ks ≤ 1000000) (K : ∀ (S' : Stt) (V' : Va) (kc' ks' : Nat), INV (N + 1) S' V' → kc' ≤ kc + 6 → ks' ≤ ks + 428 → X Γ B RL nm cL_law 4 (some .boolean) 26 600000 7302250 1060 [some (.ref b), some (vR B 0), some (vR B 308), some (vI i)] [] kc' ks' S' V') : X Γ B RL nm cL_law 4 (some .boolean) 26 600000 7302250 531 [some (.ref b), some (vR B 0), some (vR B 308), some (vI i)] [] kc ks S V := by
  obtain ⟨hW, hB, hM⟩ := h.now
  have hd := Hd1_of hW hM
  have hS := h.st
  have hA : AB (V 309) := hM.1.1
  have hX : AB (V 311) := h.ab.1
  have hNm : AB (V 314) := h.ab.2.2.1
  have hTr : TRb (V 316) := h.ab.2.2.2.1
  have hz : TRb (V 323) := h.ab.2.2.2.2
  have hch : 0 ≤ V 1 10 ∧ V 1 10 ≤ 900000 := by have := h.ch; omega
  have hch2 : 0 ≤ V 1 10 ∧ V 1 10 ≤ 1000000 := by omega
  have h17 : 0 ≤ V 1 7 ∧ V 1 7 ≤ 10 := by rw [hd.w7]; exact hd.i0
  have h18 : 0 ≤ V 1 8 ∧ V 1 8 ≤ 4 := by rw [hd.w8]; exact hd.i3
  have h55 : 0 ≤ V 5 5 ∧ V 5 5 ≤ 16 := by rw [hd.w55]; exact hd.i1
  have h56 : 0 ≤ V 5 6 ∧ V 5 6 ≤ 999 := by rw [hd.w56]; exact hd.i2
  have h11 : 0 ≤ V 11 1 ∧ V 11 1 < 20 ∧ 0 ≤ V 11 2 ∧ V 11 2 ≤ 20 := ⟨hd.w111.1, hd.w111.2, by rw [hd.w112]; exact hd.i5.1, by rw [hd.w112]; exact hd.i5.2⟩
  have h10 : ∀ t, 0 ≤ V 10 t ∧ V 10 t < 65536 := hB.2.2.2.1
  have h134 : 0 ≤ V 134 4 ∧ V 134 4 ≤ 12 ∧ 0 ≤ V 134 5 ∧ V 134 5 ≤ 9 ∧ 1 ≤ V 134 6 ∧ V 134 6 ≤ 99 := by rw [hd.w134.1, hd.w134.2.1, hd.w134.2.2]; exact ⟨hd.i6.1, hd.i6.2, hd.i7⟩
  have hP : ∀ b, 0 ≤ b → b < 16 → 0 ≤ V 309 (30 + 6 * b + 5) := hM.1.2.2.2.2.2.2
  have hQt : ∀ s, 0 ≤ s → s < V 309 6 → 0 ≤ V 309 (126 + 4 * s) ∧ V 309 (126 + 4 * s) < 10 ∧ 0 ≤ V 309 (126 + 4 * s + 2) ∧ V 309 (126 + 4 * s + 2) ≤ 999 ∧ 0 ≤ V 309 (126 + 4 * s + 3) ∧ V 309 (126 + 4 * s + 3) ≤ 999 := fun s s0 s1 => by
    have z := hM.2.2.2.2.2.2.2.2.2 s s0 s1
    have := hd.i0
    omega
  refine x_al1 dL_law_531 ?_
  refine x_arg hc dL_law_532 dL_law_533 dL_law_534 dL_law_535 dL_law_536 (by omega) (by omega) ?_
  refine x_cVi mm_X10_burn ml_L_64 dL_law_537 (c_X10_burn (xv xs (i + 1)) hS h17 h55 h11 hch2 h10 (xv_r _ _)) (sh_0 hS) (lq_0 hS) ?_ (hf := ⟨by omega, by omega⟩)
  have s := burn_s hW hB hM (xv xs (i + 1))
  have r : ChR (V 309) (mBurnF (V 309) (xv xs (i + 1))) V (cBurnF V (xv xs (i + 1))) := ChR_s s.1 (fun c => if_neg c)
  generalize hV1 : cBurnF V (xv xs (i + 1)) = V1 at r ⊢
  have e := ChR_hi r
  have e9 := e 309 (by decide)
  have e11 := e 311 (by decide)
  have e14 := e 314 (by decide)
  have e16 := e 316 (by decide)
  have e23 := e 323 (by decide)
  refine x_al2 dL_law_540 ?_
  refine x_arg hc dL_law_541 dL_law_542 dL_law_543 dL_law_544 dL_law_545 (by omega) (by omega) ?_
  refine x_cVi mm_X11_burn ml_L_67 dL_law_546 (c_X11_burn (xv xs (i + 1)) hS (by rw [e9]; exact hA) (by rw [e9]; exact hd.i0) (by rw [e9]; exact hd.i1) (by rw [e9]; exact hd.i5) (by rw [e9]; exact hP) (xv_r _ _)) (sh_308 hS) (lq_308 hS) ?_ (hf := ⟨by omega, by omega⟩)
  rw [e9]
  refine x_icmpS (tgt := 1060) dL_law_549 (by by_cases c : mTownOk (V 309) (xv xs (i + 1)); (rw [if_pos c, if_pos ((town_k hW _).mpr c)]; exact proofs_eq hW hM c.1 (by have c2 := c.2; have c3 := hd.i0; omega)); rw [if_neg c, if_neg (fun z => c ((town_k hW _).mp z))]) ?_
  exact K _ _ _ _ (INV_o1 h r s.2 (mBurnF_3 hM _)) (by omega) (by omega)
