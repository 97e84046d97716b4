set_option maxRecDepth 100000 in
set_option maxHeartbeats 4000000 in
theorem law_3 {Γ : Ctx} {B : Bs} {nm : String} {b n : Nat} {xs : Nat → Int32} {N i : Int} {kc ks : Nat} {S : Stt} {V : Va} (hc : Scp Γ B b n xs) (h : INV N S V) (hN : 0 ≤ N ∧ N ≤ 512) (hi : 0 ≤ i ∧ i + 6 ≤ n) (hkc : kc ≤ 5000 ∧ ks ≤ 1000000) (K : ∀ (S' : Stt) (V' : Va) (kc' ks' : Nat), INV (N + 1) S' V' → kc' ≤ kc + 6 → ks' ≤ ks + 428 → X Γ B RL nm cL_law 4 (some .boolean) 26 600000 7302250 1060 [some (.ref b), some (vR B 0), some (vR B 308), some (vI i)] [] kc' ks' S' V') : X Γ B RL nm cL_law 4 (some .boolean) 26 600000 7302250 277 [some (.ref b), some (vR B 0), some (vR B 308), some (vI i)] [] kc ks S V := by
  obtain ⟨hW, hB, hM⟩ := h.now
  have hd := Hd1_of hW hM
  have hS := h.st
  have hA : AB (V 309) := hM.1.1
  have hX : AB (V 311) := h.ab.1
  have hNm : AB (V 314) := h.ab.2.2.1
  have hTr : TRb (V 316) := h.ab.2.2.2.1
  have hz : TRb (V 323) := h.ab.2.2.2.2
  have hch : 0 ≤ V 1 10 ∧ V 1 10 ≤ 900000 := by have := h.ch; omega
  have hch2 : 0 ≤ V 1 10 ∧ V 1 10 ≤ 1000000 := by omega
  have h17 : 0 ≤ V 1 7 ∧ V 1 7 ≤ 10 := by rw [hd.w7]; exact hd.i0
  have h18 : 0 ≤ V 1 8 ∧ V 1 8 ≤ 4 := by rw [hd.w8]; exact hd.i3
  have h55 : 0 ≤ V 5 5 ∧ V 5 5 ≤ 16 := by rw [hd.w55]; exact hd.i1
  have h56 : 0 ≤ V 5 6 ∧ V 5 6 ≤ 999 := by rw [hd.w56]; exact hd.i2
  have h11 : 0 ≤ V 11 1 ∧ V 11 1 < 20 ∧ 0 ≤ V 11 2 ∧ V 11 2 ≤ 20 := ⟨hd.w111.1, hd.w111.2, by rw [hd.w112]; exact hd.i5.1, by rw [hd.w112]; exact hd.i5.2⟩
  have h10 : ∀ t, 0 ≤ V 10 t ∧ V 10 t < 65536 := hB.2.2.2.1
  have h134 : 0 ≤ V 134 4 ∧ V 134 4 ≤ 12 ∧ 0 ≤ V 134 5 ∧ V 134 5 ≤ 9 ∧ 1 ≤ V 134 6 ∧ V 134 6 ≤ 99 := by rw [hd.w134.1, hd.w134.2.1, hd.w134.2.2]; exact ⟨hd.i6.1, hd.i6.2, hd.i7⟩
  have hP : ∀ b, 0 ≤ b → b < 16 → 0 ≤ V 309 (30 + 6 * b + 5) := hM.1.2.2.2.2.2.2
  have hQt : ∀ s, 0 ≤ s → s < V 309 6 → 0 ≤ V 309 (126 + 4 * s) ∧ V 309 (126 + 4 * s) < 10 ∧ 0 ≤ V 309 (126 + 4 * s + 2) ∧ V 309 (126 + 4 * s + 2) ≤ 999 ∧ 0 ≤ V 309 (126 + 4 * s + 3) ∧ V 309 (126 + 4 * s + 3) ≤ 999 := fun s s0 s1 => by
    have z := hM.2.2.2.2.2.2.2.2.2 s s0 s1
    have := hd.i0
    omega
  refine x_al1 dL_law_277 ?_
  refine x_arg hc dL_law_278 dL_law_279 dL_law_280 dL_law_281 dL_law_282 (by omega) (by omega) ?_
  refine x_arg hc dL_law_283 dL_law_284 dL_law_285 dL_law_286 dL_law_287 (by omega) (by omega) ?_
  refine x_arg hc dL_law_288 dL_law_289 dL_law_290 dL_law_291 dL_law_292 (by omega) (by omega) ?_
  refine x_arg hc dL_law_293 dL_law_294 dL_law_295 dL_law_296 dL_law_297 (by omega) (by omega) ?_
  refine x_arg hc dL_law_298 dL_law_299 dL_law_300 dL_law_301 dL_law_302 (by omega) (by omega) ?_
  refine x_cVi mm_X10_feed ml_L_28 dL_law_303 (c_X10_feed (xv xs (i + 1)) (xv xs (i + 2)) (xv xs (i + 3)) (xv xs (i + 4)) (xv xs (i + 5)) hS (by rw [h.rd.2.1]; exact h.rd.2.2.1) (xv_r _ _) (xv_r _ _) (xv_r _ _) (xv_r _ _) (xv_r _ _)) (sh_0 hS) (lq_0 hS) ?_ (hf := ⟨by omega, by omega⟩)
  have e8 : up (up V 277 (if V 277 1 + 20 ≤ 300 then ua (V 277) 1 (V 277 1 + 20) else V 277)) 278 (if V 277 1 + 20 ≤ 300 then feedT (V 278) (V 277 1) (xv xs (i + 1)) (xv xs (i + 2)) (xv xs (i + 3)) (xv xs (i + 4)) (xv xs (i + 5)) else V 278) 308 = V 308 := by rw [up_ne (by decide), up_ne (by decide)]
  have e12 : up (up V 277 (if V 277 1 + 20 ≤ 300 then ua (V 277) 1 (V 277 1 + 20) else V 277)) 278 (if V 277 1 + 20 ≤ 300 then feedT (V 278) (V 277 1) (xv xs (i + 1)) (xv xs (i + 2)) (xv xs (i + 3)) (xv xs (i + 4)) (xv xs (i + 5)) else V 278) 312 = V 312 := by rw [up_ne (by decide), up_ne (by decide)]
  refine x_al2 dL_law_306 ?_
  refine x_arg hc dL_law_307 dL_law_308 dL_law_309 dL_law_310 dL_law_311 (by omega) (by omega) ?_
  refine x_arg hc dL_law_312 dL_law_313 dL_law_314 dL_law_315 dL_law_316 (by omega) (by omega) ?_
  refine x_arg hc dL_law_317 dL_law_318 dL_law_319 dL_law_320 dL_law_321 (by omega) (by omega) ?_
  refine x_arg hc dL_law_322 dL_law_323 dL_law_324 dL_law_325 dL_law_326 (by omega) (by omega) ?_
  refine x_arg hc dL_law_327 dL_law_328 dL_law_329 dL_law_330 dL_law_331 (by omega) (by omega) ?_
  refine x_cVi mm_X11_feed ml_L_32 dL_law_332 (c_X11_feed (xv xs (i + 1)) (xv xs (i + 2)) (xv xs (i + 3)) (xv xs (i + 4)) (xv xs (i + 5)) hS (by rw [e8]; exact h.rd.2.2.1) (xv_r _ _) (xv_r _ _) (xv_r _ _) (xv_r _ _) (xv_r _ _)) (sh_308 hS) (lq_308 hS) ?_ (hf := ⟨by omega, by omega⟩)
  rw [e8, e12]
  refine x_icmpS (tgt := 1060) dL_law_335 (by rw [h.rd.2.1]) ?_
  exact K _ _ _ _ (INV_fd h (xv xs (i + 1)) (xv xs (i + 2)) (xv xs (i + 3)) (xv xs (i + 4)) (xv xs (i + 5))) (by omega) (by omega)
set_option maxRecDepth 100000 in
set_option maxHeartbeats 4000000 in
theorem law_4 {Γ : Ctx} {B : Bs} {nm : String} {b n : Nat} {xs : Nat → Int32} {N i : Int} {kc ks : Nat} {S : Stt} {V : Va} (hc : Scp Γ B b n xs) (h : INV N S V) (hN : 0 ≤ N ∧ N ≤ 512) (hi : 0 ≤ i ∧ i + 6 ≤ n) (hkc : kc ≤ 5000 ∧ ks ≤ 1000000) (K : ∀ (S' : Stt) (V' : Va) (kc' ks' : Nat), INV (N + 1) S' V' → kc' ≤ kc + 6 → ks' ≤ ks + 428 → X Γ B RL nm cL_law 4 (some .boolean) 26 600000 7302250 1060 [some (.ref b), some (vR B 0), some (vR B 308), some (vI i)] [] kc' ks' S' V') : X Γ B RL nm cL_law 4 (some .boolean) 26 600000 7302250 340 [some (.ref b), some (vR B 0), some (vR B 308), some (vI i)] [] kc ks S V := by
  obtain ⟨hW, hB, hM⟩ := h.now
  have hd := Hd1_of hW hM
  have hS := h.st
  have hA : AB (V 309) := hM.1.1
  have hX : AB (V 311) := h.ab.1
  have hNm : AB (V 314) := h.ab.2.2.1
  have hTr : TRb (V 316) := h.ab.2.2.2.1
  have hz : TRb (V 323) := h.ab.2.2.2.2
  have hch : 0 ≤ V 1 10 ∧ V 1 10 ≤ 900000 := by have := h.ch; omega
  have hch2 : 0 ≤ V 1 10 ∧ V 1 10 ≤ 1000000 := by omega
  have h17 : 0 ≤ V 1 7 ∧ V 1 7 ≤ 10 := by rw [hd.w7]; exact hd.i0
  have h18 : 0 ≤ V 1 8 ∧ V 1 8 ≤ 4 := by rw [hd.w8]; exact hd.i3
  have h55 : 0 ≤ V 5 5 ∧ V 5 5 ≤ 16 := by rw [hd.w55]; exact hd.i1
  have h56 : 0 ≤ V 5 6 ∧ V 5 6 ≤ 999 := by rw [hd.w56]; exact hd.i2
  have h11 : 0 ≤ V 11 1 ∧ V 11 1 < 20 ∧ 0 ≤ V 11 2 ∧ V 11 2 ≤ 20 := ⟨hd.w111.1, hd.w111.2, by rw [hd.w112]; exact hd.i5.1, by rw [hd.w112]; exact hd.i5.2⟩
  have h10 : ∀ t, 0 ≤ V 10 t ∧ V 10 t < 65536 := hB.2.2.2.1
  have h134 : 0 ≤ V 134 4 ∧ V 134 4 ≤ 12 ∧ 0 ≤ V 134 5 ∧ V 134 5 ≤ 9 ∧ 1 ≤ V 134 6 ∧ V 134 6 ≤ 99 := by rw [hd.w134.1, hd.w134.2.1, hd.w134.2.2]; exact ⟨hd.i6.1, hd.i6.2, hd.i7⟩
  have hP : ∀ b, 0 ≤ b → b < 16 → 0 ≤ V 309 (30 + 6 * b + 5) := hM.1.2.2.2.2.2.2
  have hQt : ∀ s, 0 ≤ s → s < V 309 6 → 0 ≤ V 309 (126 + 4 * s) ∧ V 309 (126 + 4 * s) < 10 ∧ 0 ≤ V 309 (126 + 4 * s + 2) ∧ V 309 (126 + 4 * s + 2) ≤ 999 ∧ 0 ≤ V 309 (126 + 4 * s + 3) ∧ V 309 (126 + 4 * s + 3) ≤ 999 := fun s s0 s1 => by
    have z := hM.2.2.2.2.2.2.2.2.2 s s0 s1
    have := hd.i0
    omega
  refine x_al1 dL_law_340 ?_
  refine x_arg hc dL_law_341 dL_law_342 dL_law_343 dL_law_344 dL_law_345 (by omega) (by omega) ?_
  refine x_cVi mm_X10_end ml_L_33 dL_law_346 (c_X10_end (xv xs (i + 1)) hS (by rw [h.rd.2.1]; exact h.rd.2.2.1) (xv_r _ _)) (sh_0 hS) (lq_0 hS) ?_ (hf := ⟨by omega, by omega⟩)
  have e8 : up V 277 (if 0 ≤ (xv xs (i + 1)) ∧ (xv xs (i + 1)) ≤ V 277 1 then ua (V 277) 1 (xv xs (i + 1)) else V 277) 308 = V 308 := by rw [up_ne (by decide)]
  refine x_al2 dL_law_349 ?_
  refine x_arg hc dL_law_350 dL_law_351 dL_law_352 dL_law_353 dL_law_354 (by omega) (by omega) ?_
  refine x_cVi mm_X11_end ml_L_37 dL_law_355 (c_X11_end (xv xs (i + 1)) hS (by rw [e8]; exact h.rd.2.2.1) (xv_r _ _)) (sh_308 hS) (lq_308 hS) ?_ (hf := ⟨by omega, by omega⟩)
  rw [e8]
  refine x_icmpS (tgt := 1060) dL_law_358 (by rw [h.rd.2.1]) ?_
  exact K _ _ _ _ (INV_en h (xv xs (i + 1))) (by omega) (by omega)
set_option maxRecDepth 100000 in
set_option maxHeartbeats 4000000 in
theorem law_5 {Γ : Ctx} {B : Bs} {nm : String} {b n : Nat} {xs : Nat → Int32} {N i : Int} {kc ks : Nat} {S : Stt} {V : Va} (hc : Scp Γ B b n xs) (h : INV N S V) (hN : 0 ≤ N ∧ N ≤ 512) (hi : 0 ≤ i ∧ i + 6 ≤ n) (hkc : kc ≤ 5000 ∧ ks ≤ 1000000) (K : ∀ (S' : Stt) (V' : Va) (kc' ks' : Nat), INV (N + 1) S' V' → kc' ≤ kc + 6 → ks' ≤ ks + 428 → X Γ B RL nm cL_law 4 (some .boolean) 26 600000 7302250 1060 [some (.ref b), some (vR B 0), some (vR B 308), some (vI i)] [] kc' ks' S' V') : X Γ B RL nm cL_law 4 (some .boolean) 26 600000 7302250 363 [some (.ref b), some (vR B 0), some (vR B 308), some (vI i)] [] kc ks S V := by
  obtain ⟨hW, hB, hM⟩ := h.now
  have hd := Hd1_of hW hM
  have hS := h.st
  have hA : AB (V 309) := hM.1.1
  have hX : AB (V 311) := h.ab.1
  have hNm : AB (V 314) := h.ab.2.2.1
  have hTr : TRb (V 316) := h.ab.2.2.2.1
  have hz : TRb (V 323) := h.ab.2.2.2.2
  have hch : 0 ≤ V 1 10 ∧ V 1 10 ≤ 900000 := by have := h.ch; omega
  have hch2 : 0 ≤ V 1 10 ∧ V 1 10 ≤ 1000000 := by omega
  have h17 : 0 ≤ V 1 7 ∧ V 1 7 ≤ 10 := by rw [hd.w7]; exact hd.i0
  have h18 : 0 ≤ V 1 8 ∧ V 1 8 ≤ 4 := by rw [hd.w8]; exact hd.i3
  have h55 : 0 ≤ V 5 5 ∧ V 5 5 ≤ 16 := by rw [hd.w55]; exact hd.i1
  have h56 : 0 ≤ V 5 6 ∧ V 5 6 ≤ 999 := by rw [hd.w56]; exact hd.i2
  have h11 : 0 ≤ V 11 1 ∧ V 11 1 < 20 ∧ 0 ≤ V 11 2 ∧ V 11 2 ≤ 20 := ⟨hd.w111.1, hd.w111.2, by rw [hd.w112]; exact hd.i5.1, by rw [hd.w112]; exact hd.i5.2⟩
  have h10 : ∀ t, 0 ≤ V 10 t ∧ V 10 t < 65536 := hB.2.2.2.1
  have h134 : 0 ≤ V 134 4 ∧ V 134 4 ≤ 12 ∧ 0 ≤ V 134 5 ∧ V 134 5 ≤ 9 ∧ 1 ≤ V 134 6 ∧ V 134 6 ≤ 99 := by rw [hd.w134.1, hd.w134.2.1, hd.w134.2.2]; exact ⟨hd.i6.1, hd.i6.2, hd.i7⟩
  have hP : ∀ b, 0 ≤ b → b < 16 → 0 ≤ V 309 (30 + 6 * b + 5) := hM.1.2.2.2.2.2.2
  have hQt : ∀ s, 0 ≤ s → s < V 309 6 → 0 ≤ V 309 (126 + 4 * s) ∧ V 309 (126 + 4 * s) < 10 ∧ 0 ≤ V 309 (126 + 4 * s + 2) ∧ V 309 (126 + 4 * s + 2) ≤ 999 ∧ 0 ≤ V 309 (126 + 4 * s + 3) ∧ V 309 (126 + 4 * s + 3) ≤ 999 := fun s s0 s1 => by
    have z := hM.2.2.2.2.2.2.2.2.2 s s0 s1
    have := hd.i0
    omega
  refine x_al1 dL_law_363 ?_
  refine x_callV mm_X10_text ml_L_38 dL_law_364 (c_X10_text hS (by rw [h.rd.1]; exact h.rd.2.2.2.1) (by rw [h.rd.2.1]; exact h.rd.2.2.1) h18) (sh_0 hS) (lq_0 hS) (fun v S1 V1 q => ?_) (hf := ⟨by omega, by omega⟩)
  obtain ⟨r, rfl, hS1, e, stp⟩ := text_step h q
  show X Γ B RL nm cL_law 4 (some .boolean) 26 600000 7302250 367 [some (.ref b), some (vR B 0), some (vR B 308), some (vI i)] [vI r] (kc + 6) (ks + 428) S1 V1
  have e8 := e 308 (by decide) (by decide)
  have e9 := e 309 (by decide) (by decide)
  have e11 := e 311 (by decide) (by decide)
  have e12 := e 312 (by decide) (by decide)
  have e13 := e 313 (by decide) (by decide)
  refine x_al2 dL_law_367 ?_
  refine x_cVix mm_X11_text ml_L_42 dL_law_368 (c_X11_text hS1 (by rw [e8]; exact h.rd.2.2.1) (by rw [e12]; exact h.rd.2.2.2.1) (by rw [e11]; exact hX) (by rw [e13]; exact h.ab.2.1) (by rw [e9]; exact hd.i3) (by rw [e8]; exact h.nu.1) (by rw [e8]; exact h.nu.2)) (sh_308 hS1) (lq_308 hS1) (fun r2 V2 g => ?_) (hf := ⟨by omega, by omega⟩)
  obtain ⟨rfl, hI⟩ := stp r2 V2 g
  refine x_icmpS (tgt := 1060) dL_law_371 rfl ?_
  exact K _ _ _ _ hI (by omega) (by omega)
