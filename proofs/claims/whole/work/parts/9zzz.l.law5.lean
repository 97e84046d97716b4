set_option maxRecDepth 100000 in
set_option maxHeartbeats 4000000 in
theorem law_7 {Γ : Ctx} {B : Bs} {nm : String} {b n : Nat} {xs : Nat → Int32} {N i : Int} {kc ks : Nat} {S : Stt} {V : Va} (hc : Scp Γ B b n xs) (h : INV N S V) (hN : 0 ≤ N ∧ N ≤ 512) (hi : 0 ≤ i ∧ i + 6 ≤ n) (hkc : kc ≤ 5000 ∧ ks ≤ 1000000) (K : ∀ (S' : Stt) (V' : Va) (kc' ks' : Nat), INV (N + 1) S' V' → kc' ≤ kc + 6 → ks' ≤ ks + 428 → X Γ B RL nm cL_law 4 (some .boolean) 26 600000 7302250 1060 [some (.ref b), some (vR B 0), some (vR B 308), some (vI i)] [] kc' ks' S' V') : X Γ B RL nm cL_law 4 (some .boolean) 26 600000 7302250 399 [some (.ref b), some (vR B 0), some (vR B 308), some (vI i)] [] kc ks S V := by
  obtain ⟨hW, hB, hM⟩ := h.now
  have hd := Hd1_of hW hM
  have hS := h.st
  have hA : AB (V 309) := hM.1.1
  have hX : AB (V 311) := h.ab.1
  have hNm : AB (V 314) := h.ab.2.2.1
  have hTr : TRb (V 316) := h.ab.2.2.2.1
  have hz : TRb (V 323) := h.ab.2.2.2.2
  have hch : 0 ≤ V 1 10 ∧ V 1 10 ≤ 900000 := by have := h.ch; omega
  have hch2 : 0 ≤ V 1 10 ∧ V 1 10 ≤ 1000000 := by omega
  have h17 : 0 ≤ V 1 7 ∧ V 1 7 ≤ 10 := by rw [hd.w7]; exact hd.i0
  have h18 : 0 ≤ V 1 8 ∧ V 1 8 ≤ 4 := by rw [hd.w8]; exact hd.i3
  have h55 : 0 ≤ V 5 5 ∧ V 5 5 ≤ 16 := by rw [hd.w55]; exact hd.i1
  have h56 : 0 ≤ V 5 6 ∧ V 5 6 ≤ 999 := by rw [hd.w56]; exact hd.i2
  have h11 : 0 ≤ V 11 1 ∧ V 11 1 < 20 ∧ 0 ≤ V 11 2 ∧ V 11 2 ≤ 20 := ⟨hd.w111.1, hd.w111.2, by rw [hd.w112]; exact hd.i5.1, by rw [hd.w112]; exact hd.i5.2⟩
  have h10 : ∀ t, 0 ≤ V 10 t ∧ V 10 t < 65536 := hB.2.2.2.1
  have h134 : 0 ≤ V 134 4 ∧ V 134 4 ≤ 12 ∧ 0 ≤ V 134 5 ∧ V 134 5 ≤ 9 ∧ 1 ≤ V 134 6 ∧ V 134 6 ≤ 99 := by rw [hd.w134.1, hd.w134.2.1, hd.w134.2.2]; exact ⟨hd.i6.1, hd.i6.2, hd.i7⟩
  have hP : ∀ b, 0 ≤ b → b < 16 → 0 ≤ V 309 (30 + 6 * b + 5) := hM.1.2.2.2.2.2.2
  have hQt : ∀ s, 0 ≤ s → s < V 309 6 → 0 ≤ V 309 (126 + 4 * s) ∧ V 309 (126 + 4 * s) < 10 ∧ 0 ≤ V 309 (126 + 4 * s + 2) ∧ V 309 (126 + 4 * s + 2) ≤ 999 ∧ 0 ≤ V 309 (126 + 4 * s + 3) ∧ V 309 (126 + 4 * s + 3) ≤ 999 := fun s s0 s1 => by
    have z := hM.2.2.2.2.2.2.2.2.2 s s0 s1
    have := hd.i0
    omega
  refine x_al1 dL_law_399 ?_
  refine x_arg hc dL_law_400 dL_law_401 dL_law_402 dL_law_403 dL_law_404 (by omega) (by omega) ?_
  refine x_cVi mm_X10_by ml_L_47 dL_law_405 (c_X10_by (xv xs (i + 1)) hS h18 hch2 (xv_r _ _)) (sh_0 hS) (lq_0 hS) ?_ (hf := ⟨by omega, by omega⟩)
  have s := by_s hW hB hM (xv xs (i + 1))
  have r : ChR (V 309) (if -1 ≤ (xv xs (i + 1)) ∧ (xv xs (i + 1)) ≤ V 309 3 - 1 then ua (V 309) 4 (xv xs (i + 1)) else V 309) V (up V 1 (if -1 ≤ (xv xs (i + 1)) ∧ (xv xs (i + 1)) < V 1 8 then ua (ua (V 1) 9 (xv xs (i + 1))) 10 (V 1 10 + 1) else V 1)) := ChR_o s.2.1 (fun c => if_neg c)
  generalize hV1 : up V 1 (if -1 ≤ (xv xs (i + 1)) ∧ (xv xs (i + 1)) < V 1 8 then ua (ua (V 1) 9 (xv xs (i + 1))) 10 (V 1 10 + 1) else V 1) = V1 at r ⊢
  have e := ChR_hi r
  have e9 := e 309 (by decide)
  have e11 := e 311 (by decide)
  have e14 := e 314 (by decide)
  have e16 := e 316 (by decide)
  have e23 := e 323 (by decide)
  refine x_al2 dL_law_408 ?_
  refine x_arg hc dL_law_409 dL_law_410 dL_law_411 dL_law_412 dL_law_413 (by omega) (by omega) ?_
  refine x_cVi mm_X11_by ml_L_51 dL_law_414 (c_X11_by (xv xs (i + 1)) hS (by rw [e9]; exact hA) (by rw [e9]; exact hd.i3) (xv_r _ _)) (sh_308 hS) (lq_308 hS) ?_ (hf := ⟨by omega, by omega⟩)
  rw [e9]
  refine x_icmpS (tgt := 1060) dL_law_417 (if_cg s.1 rfl) ?_
  exact K _ _ _ _ (INV_o1 h r s.2.2 (by split; (exact ua_ne (by decide)); rfl)) (by omega) (by omega)
set_option maxRecDepth 100000 in
set_option maxHeartbeats 4000000 in
theorem law_17 {Γ : Ctx} {B : Bs} {nm : String} {b n : Nat} {xs : Nat → Int32} {N i : Int} {kc ks : Nat} {S : Stt} {V : Va} (hc : Scp Γ B b n xs) (h : INV N S V) (hN : 0 ≤ N ∧ N ≤ 512) (hi : 0 ≤ i ∧ i + 6 ≤ n) (hkc : kc ≤ 5000 ∧ ks ≤ 1000000) (K : ∀ (S' : Stt) (V' : Va) (kc' ks' : Nat), INV (N + 1) S' V' → kc' ≤ kc + 6 → ks' ≤ ks + 428 → X Γ B RL nm cL_law 4 (some .boolean) 26 600000 7302250 1060 [some (.ref b), some (vR B 0), some (vR B 308), some (vI i)] [] kc' ks' S' V') : X Γ B RL nm cL_law 4 (some .boolean) 26 600000 7302250 679 [some (.ref b), some (vR B 0), some (vR B 308), some (vI i)] [] kc ks S V := by
  obtain ⟨hW, hB, hM⟩ := h.now
  have hd := Hd1_of hW hM
  have hS := h.st
  have hA : AB (V 309) := hM.1.1
  have hX : AB (V 311) := h.ab.1
  have hNm : AB (V 314) := h.ab.2.2.1
  have hTr : TRb (V 316) := h.ab.2.2.2.1
  have hz : TRb (V 323) := h.ab.2.2.2.2
  have hch : 0 ≤ V 1 10 ∧ V 1 10 ≤ 900000 := by have := h.ch; omega
  have hch2 : 0 ≤ V 1 10 ∧ V 1 10 ≤ 1000000 := by omega
  have h17 : 0 ≤ V 1 7 ∧ V 1 7 ≤ 10 := by rw [hd.w7]; exact hd.i0
  have h18 : 0 ≤ V 1 8 ∧ V 1 8 ≤ 4 := by rw [hd.w8]; exact hd.i3
  have h55 : 0 ≤ V 5 5 ∧ V 5 5 ≤ 16 := by rw [hd.w55]; exact hd.i1
  have h56 : 0 ≤ V 5 6 ∧ V 5 6 ≤ 999 := by rw [hd.w56]; exact hd.i2
  have h11 : 0 ≤ V 11 1 ∧ V 11 1 < 20 ∧ 0 ≤ V 11 2 ∧ V 11 2 ≤ 20 := ⟨hd.w111.1, hd.w111.2, by rw [hd.w112]; exact hd.i5.1, by rw [hd.w112]; exact hd.i5.2⟩
  have h10 : ∀ t, 0 ≤ V 10 t ∧ V 10 t < 65536 := hB.2.2.2.1
  have h134 : 0 ≤ V 134 4 ∧ V 134 4 ≤ 12 ∧ 0 ≤ V 134 5 ∧ V 134 5 ≤ 9 ∧ 1 ≤ V 134 6 ∧ V 134 6 ≤ 99 := by rw [hd.w134.1, hd.w134.2.1, hd.w134.2.2]; exact ⟨hd.i6.1, hd.i6.2, hd.i7⟩
  have hP : ∀ b, 0 ≤ b → b < 16 → 0 ≤ V 309 (30 + 6 * b + 5) := hM.1.2.2.2.2.2.2
  have hQt : ∀ s, 0 ≤ s → s < V 309 6 → 0 ≤ V 309 (126 + 4 * s) ∧ V 309 (126 + 4 * s) < 10 ∧ 0 ≤ V 309 (126 + 4 * s + 2) ∧ V 309 (126 + 4 * s + 2) ≤ 999 ∧ 0 ≤ V 309 (126 + 4 * s + 3) ∧ V 309 (126 + 4 * s + 3) ≤ 999 := fun s s0 s1 => by
    have z := hM.2.2.2.2.2.2.2.2.2 s s0 s1
    have := hd.i0
    omega
  refine x_al1 dL_law_679 ?_
  refine x_arg hc dL_law_680 dL_law_681 dL_law_682 dL_law_683 dL_law_684 (by omega) (by omega) ?_
  refine x_arg hc dL_law_685 dL_law_686 dL_law_687 dL_law_688 dL_law_689 (by omega) (by omega) ?_
  refine x_cVi mm_X10_rules ml_L_88 dL_law_690 (c_X10_rules (xv xs (i + 1)) (xv xs (i + 2)) hS hch2 (xv_r _ _) (xv_r _ _)) (sh_0 hS) (lq_0 hS) ?_ (hf := ⟨by omega, by omega⟩)
  have s := rules_s hW hB hM (xv xs (i + 1)) (xv xs (i + 2))
  have r : ChR (V 309) (if 0 ≤ (xv xs (i + 1)) ∧ (xv xs (i + 1)) ≤ 9 ∧ 1 ≤ (xv xs (i + 2)) ∧ (xv xs (i + 2)) ≤ 99 then ua (ua (V 309) 7 (xv xs (i + 1))) 8 (xv xs (i + 2)) else V 309) V (up (up V 1 (if 0 ≤ (xv xs (i + 1)) ∧ (xv xs (i + 1)) ≤ 9 ∧ 1 ≤ (xv xs (i + 2)) ∧ (xv xs (i + 2)) ≤ 99 then ua (V 1) 10 (V 1 10 + 1) else V 1)) 134 (if 0 ≤ (xv xs (i + 1)) ∧ (xv xs (i + 1)) ≤ 9 ∧ 1 ≤ (xv xs (i + 2)) ∧ (xv xs (i + 2)) ≤ 99 then ua (ua (V 134) 5 (xv xs (i + 1))) 6 (xv xs (i + 2)) else V 134)) := ChR_o s.1 (fun c => if_neg c)
  generalize hV1 : up (up V 1 (if 0 ≤ (xv xs (i + 1)) ∧ (xv xs (i + 1)) ≤ 9 ∧ 1 ≤ (xv xs (i + 2)) ∧ (xv xs (i + 2)) ≤ 99 then ua (V 1) 10 (V 1 10 + 1) else V 1)) 134 (if 0 ≤ (xv xs (i + 1)) ∧ (xv xs (i + 1)) ≤ 9 ∧ 1 ≤ (xv xs (i + 2)) ∧ (xv xs (i + 2)) ≤ 99 then ua (ua (V 134) 5 (xv xs (i + 1))) 6 (xv xs (i + 2)) else V 134) = V1 at r ⊢
  have e := ChR_hi r
  have e9 := e 309 (by decide)
  have e11 := e 311 (by decide)
  have e14 := e 314 (by decide)
  have e16 := e 316 (by decide)
  have e23 := e 323 (by decide)
  refine x_al2 dL_law_693 ?_
  refine x_arg hc dL_law_694 dL_law_695 dL_law_696 dL_law_697 dL_law_698 (by omega) (by omega) ?_
  refine x_arg hc dL_law_699 dL_law_700 dL_law_701 dL_law_702 dL_law_703 (by omega) (by omega) ?_
  refine x_cVi mm_X11_rules ml_L_91 dL_law_704 (c_X11_rules (xv xs (i + 1)) (xv xs (i + 2)) hS  (xv_r _ _) (xv_r _ _)) (sh_308 hS) (lq_308 hS) ?_ (hf := ⟨by omega, by omega⟩)
  rw [e9]
  refine x_icmpS (tgt := 1060) dL_law_707 rfl ?_
  exact K _ _ _ _ (INV_o1 h r s.2 (by split; (rw [ua_ne (by decide), ua_ne (by decide)]); rfl)) (by omega) (by omega)
set_option maxRecDepth 100000 in
set_option maxHeartbeats 4000000 in
theorem law_18 {Γ : Ctx} {B : Bs} {nm : String} {b n : Nat} {xs : Nat → Int32} {N i : Int} {kc ks : Nat} {S : Stt} {V : Va} (hc : Scp Γ B b n xs) (h : INV N S V) (hN : 0 ≤ N ∧ N ≤ 512) (hi : 0 ≤ i ∧ i + 6 ≤ n) (hkc : kc ≤ 5000 ∧ ks ≤ 1000000) (K : ∀ (S' : Stt) (V' : Va) (kc' ks' : Nat), INV (N + 1) S' V' → kc' ≤ kc + 6 → ks' ≤ ks + 428 → X Γ B RL nm cL_law 4 (some .boolean) 26 600000 7302250 1060 [some (.ref b), some (vR B 0), some (vR B 308), some (vI i)] [] kc' ks' S' V') : X Γ B RL nm cL_law 4 (some .boolean) 26 600000 7302250 712 [some (.ref b), some (vR B 0), some (vR B 308), some (vI i)] [] kc ks S V := by
  obtain ⟨hW, hB, hM⟩ := h.now
  have hd := Hd1_of hW hM
  have hS := h.st
  have hA : AB (V 309) := hM.1.1
  have hX : AB (V 311) := h.ab.1
  have hNm : AB (V 314) := h.ab.2.2.1
  have hTr : TRb (V 316) := h.ab.2.2.2.1
  have hz : TRb (V 323) := h.ab.2.2.2.2
  have hch : 0 ≤ V 1 10 ∧ V 1 10 ≤ 900000 := by have := h.ch; omega
  have hch2 : 0 ≤ V 1 10 ∧ V 1 10 ≤ 1000000 := by omega
  have h17 : 0 ≤ V 1 7 ∧ V 1 7 ≤ 10 := by rw [hd.w7]; exact hd.i0
  have h18 : 0 ≤ V 1 8 ∧ V 1 8 ≤ 4 := by rw [hd.w8]; exact hd.i3
  have h55 : 0 ≤ V 5 5 ∧ V 5 5 ≤ 16 := by rw [hd.w55]; exact hd.i1
  have h56 : 0 ≤ V 5 6 ∧ V 5 6 ≤ 999 := by rw [hd.w56]; exact hd.i2
  have h11 : 0 ≤ V 11 1 ∧ V 11 1 < 20 ∧ 0 ≤ V 11 2 ∧ V 11 2 ≤ 20 := ⟨hd.w111.1, hd.w111.2, by rw [hd.w112]; exact hd.i5.1, by rw [hd.w112]; exact hd.i5.2⟩
  have h10 : ∀ t, 0 ≤ V 10 t ∧ V 10 t < 65536 := hB.2.2.2.1
  have h134 : 0 ≤ V 134 4 ∧ V 134 4 ≤ 12 ∧ 0 ≤ V 134 5 ∧ V 134 5 ≤ 9 ∧ 1 ≤ V 134 6 ∧ V 134 6 ≤ 99 := by rw [hd.w134.1, hd.w134.2.1, hd.w134.2.2]; exact ⟨hd.i6.1, hd.i6.2, hd.i7⟩
  have hP : ∀ b, 0 ≤ b → b < 16 → 0 ≤ V 309 (30 + 6 * b + 5) := hM.1.2.2.2.2.2.2
  have hQt : ∀ s, 0 ≤ s → s < V 309 6 → 0 ≤ V 309 (126 + 4 * s) ∧ V 309 (126 + 4 * s) < 10 ∧ 0 ≤ V 309 (126 + 4 * s + 2) ∧ V 309 (126 + 4 * s + 2) ≤ 999 ∧ 0 ≤ V 309 (126 + 4 * s + 3) ∧ V 309 (126 + 4 * s + 3) ≤ 999 := fun s s0 s1 => by
    have z := hM.2.2.2.2.2.2.2.2.2 s s0 s1
    have := hd.i0
    omega
  refine x_al1 dL_law_712 ?_
  refine x_arg hc dL_law_713 dL_law_714 dL_law_715 dL_law_716 dL_law_717 (by omega) (by omega) ?_
  refine x_arg hc dL_law_718 dL_law_719 dL_law_720 dL_law_721 dL_law_722 (by omega) (by omega) ?_
  refine x_arg hc dL_law_723 dL_law_724 dL_law_725 dL_law_726 dL_law_727 (by omega) (by omega) ?_
  refine x_arg hc dL_law_728 dL_law_729 dL_law_730 dL_law_731 dL_law_732 (by omega) (by omega) ?_
  refine x_cVi mm_X10_seen ml_L_92 dL_law_733 (c_X10_seen (xv xs (i + 1)) (xv xs (i + 2)) (xv xs (i + 3)) (xv xs (i + 4)) hS h17 h134 hch2 (xv_r _ _) (xv_r _ _) (xv_r _ _) (xv_r _ _)) (sh_0 hS) (lq_0 hS) ?_ (hf := ⟨by omega, by omega⟩)
  have s := seen_s hW hB hM (xv xs (i + 1)) (xv xs (i + 2)) (xv xs (i + 3)) (xv xs (i + 4))
  have r : ChR (V 309) (if mSeenC (V 309) (xv xs (i + 1)) (xv xs (i + 2)) (xv xs (i + 3)) (xv xs (i + 4)) then mSeenA (V 309) (xv xs (i + 1)) (xv xs (i + 2)) (xv xs (i + 3)) (xv xs (i + 4)) else V 309) V (cSeenF V (xv xs (i + 1)) (xv xs (i + 2)) (xv xs (i + 3)) (xv xs (i + 4))) := ChR_o s.2.1 (fun c => if_neg c)
  generalize hV1 : cSeenF V (xv xs (i + 1)) (xv xs (i + 2)) (xv xs (i + 3)) (xv xs (i + 4)) = V1 at r ⊢
  have e := ChR_hi r
  have e9 := e 309 (by decide)
  have e11 := e 311 (by decide)
  have e14 := e 314 (by decide)
  have e16 := e 316 (by decide)
  have e23 := e 323 (by decide)
  refine x_al2 dL_law_736 ?_
  refine x_arg hc dL_law_737 dL_law_738 dL_law_739 dL_law_740 dL_law_741 (by omega) (by omega) ?_
  refine x_arg hc dL_law_742 dL_law_743 dL_law_744 dL_law_745 dL_law_746 (by omega) (by omega) ?_
  refine x_arg hc dL_law_747 dL_law_748 dL_law_749 dL_law_750 dL_law_751 (by omega) (by omega) ?_
  refine x_arg hc dL_law_752 dL_law_753 dL_law_754 dL_law_755 dL_law_756 (by omega) (by omega) ?_
  refine x_cVi mm_X11_seen ml_L_96 dL_law_757 (c_X11_seen (xv xs (i + 1)) (xv xs (i + 2)) (xv xs (i + 3)) (xv xs (i + 4)) hS (by rw [e9]; exact hA) (by rw [e9]; exact hd.i0) (by rw [e9]; exact hd.i6) (xv_r _ _) (xv_r _ _) (xv_r _ _) (xv_r _ _)) (sh_308 hS) (lq_308 hS) ?_ (hf := ⟨by omega, by omega⟩)
  rw [e9]
  refine x_icmpS (tgt := 1060) dL_law_760 (if_cg s.1 hd.w134.1) ?_
  exact K _ _ _ _ (INV_o1 h r s.2.2 (by split; (have i6 := hd.i6; simp only [mSeenA]; rw [ua_ne (by decide), ua_ne (by omega), ua_ne (by omega), ua_ne (by omega), ua_ne (by omega)]); rfl)) (by omega) (by omega)
set_option maxRecDepth 100000 in
set_option maxHeartbeats 4000000 in
theorem law_19 {Γ : Ctx} {B : Bs} {nm : String} {b n : Nat} {xs : Nat → Int32} {N i : Int} {kc ks : Nat} {S : Stt} {V : Va} (hc : Scp Γ B b n xs) (h : INV N S V) (hN : 0 ≤ N ∧ N ≤ 512) (hi : 0 ≤ i ∧ i + 6 ≤ n) (hkc : kc ≤ 5000 ∧ ks ≤ 1000000) (K : ∀ (S' : Stt) (V' : Va) (kc' ks' : Nat), INV (N + 1) S' V' → kc' ≤ kc + 6 → ks' ≤ ks + 428 → X Γ B RL nm cL_law 4 (some .boolean) 26 600000 7302250 1060 [some (.ref b), some (vR B 0), some (vR B 308), some (vI i)] [] kc' ks' S' V') : X Γ B RL nm cL_law 4 (some .boolean) 26 600000 7302250 765 [some (.ref b), some (vR B 0), some (vR B 308), some (vI i)] [] kc ks S V := by
  obtain ⟨hW, hB, hM⟩ := h.now
  have hd := Hd1_of hW hM
  have hS := h.st
  have hA : AB (V 309) := hM.1.1
  have hX : AB (V 311) := h.ab.1
  have hNm : AB (V 314) := h.ab.2.2.1
  have hTr : TRb (V 316) := h.ab.2.2.2.1
  have hz : TRb (V 323) := h.ab.2.2.2.2
  have hch : 0 ≤ V 1 10 ∧ V 1 10 ≤ 900000 := by have := h.ch; omega
  have hch2 : 0 ≤ V 1 10 ∧ V 1 10 ≤ 1000000 := by omega
  have h17 : 0 ≤ V 1 7 ∧ V 1 7 ≤ 10 := by rw [hd.w7]; exact hd.i0
  have h18 : 0 ≤ V 1 8 ∧ V 1 8 ≤ 4 := by rw [hd.w8]; exact hd.i3
  have h55 : 0 ≤ V 5 5 ∧ V 5 5 ≤ 16 := by rw [hd.w55]; exact hd.i1
  have h56 : 0 ≤ V 5 6 ∧ V 5 6 ≤ 999 := by rw [hd.w56]; exact hd.i2
  have h11 : 0 ≤ V 11 1 ∧ V 11 1 < 20 ∧ 0 ≤ V 11 2 ∧ V 11 2 ≤ 20 := ⟨hd.w111.1, hd.w111.2, by rw [hd.w112]; exact hd.i5.1, by rw [hd.w112]; exact hd.i5.2⟩
  have h10 : ∀ t, 0 ≤ V 10 t ∧ V 10 t < 65536 := hB.2.2.2.1
  have h134 : 0 ≤ V 134 4 ∧ V 134 4 ≤ 12 ∧ 0 ≤ V 134 5 ∧ V 134 5 ≤ 9 ∧ 1 ≤ V 134 6 ∧ V 134 6 ≤ 99 := by rw [hd.w134.1, hd.w134.2.1, hd.w134.2.2]; exact ⟨hd.i6.1, hd.i6.2, hd.i7⟩
  have hP : ∀ b, 0 ≤ b → b < 16 → 0 ≤ V 309 (30 + 6 * b + 5) := hM.1.2.2.2.2.2.2
  have hQt : ∀ s, 0 ≤ s → s < V 309 6 → 0 ≤ V 309 (126 + 4 * s) ∧ V 309 (126 + 4 * s) < 10 ∧ 0 ≤ V 309 (126 + 4 * s + 2) ∧ V 309 (126 + 4 * s + 2) ≤ 999 ∧ 0 ≤ V 309 (126 + 4 * s + 3) ∧ V 309 (126 + 4 * s + 3) ≤ 999 := fun s s0 s1 => by
    have z := hM.2.2.2.2.2.2.2.2.2 s s0 s1
    have := hd.i0
    omega
  refine x_al1 dL_law_765 ?_
  refine x_cVi mm_X10_forget ml_L_97 dL_law_766 (c_X10_forget  hS hch2 ) (sh_0 hS) (lq_0 hS) ?_ (hf := ⟨by omega, by omega⟩)
  have s := forget_s hW hB hM
  have r : ChR (V 309) (ua (V 309) 6 0) V (up (up V 1 (ua (V 1) 10 (V 1 10 + 1))) 134 (ua (V 134) 4 0)) := ChR_o s.1 (fun c => absurd trivial c)
  generalize hV1 : up (up V 1 (ua (V 1) 10 (V 1 10 + 1))) 134 (ua (V 134) 4 0) = V1 at r ⊢
  have e := ChR_hi r
  have e9 := e 309 (by decide)
  have e11 := e 311 (by decide)
  have e14 := e 314 (by decide)
  have e16 := e 316 (by decide)
  have e23 := e 323 (by decide)
  refine x_al2 dL_law_769 ?_
  refine x_cVi mm_X11_forget ml_L_100 dL_law_770 (c_X11_forget  hS  ) (sh_308 hS) (lq_308 hS) ?_ (hf := ⟨by omega, by omega⟩)
  rw [e9]
  refine x_icmpS (tgt := 1060) dL_law_773 hd.w134.1 ?_
  exact K _ _ _ _ (INV_o1 h r s.2 (ua_ne (by decide))) (by omega) (by omega)
set_option maxRecDepth 100000 in
set_option maxHeartbeats 4000000 in
theorem law_14 {Γ : Ctx} {B : Bs} {nm : String} {b n : Nat} {xs : Nat → Int32} {N i : Int} {kc ks : Nat} {S : Stt} {V : Va} (hc : Scp Γ B b n xs) (h : INV N S V) (hN : 0 ≤ N ∧ N ≤ 512) (hi : 0 ≤ i ∧ i + 6 ≤ n) (hkc : kc ≤ 5000 ∧ ks ≤ 1000000) (K : ∀ (S' : Stt) (V' : Va) (kc' ks' : Nat), INV (N + 1) S' V' → kc' ≤ kc + 6 → ks' ≤ ks + 428 → X Γ B RL nm cL_law 4 (some .boolean) 26 600000 7302250 1060 [some (.ref b), some (vR B 0), some (vR B 308), some (vI i)] [] kc' ks' S' V') : X Γ B RL nm cL_law 4 (some .boolean) 26 600000 7302250 600 [some (.ref b), some (vR B 0), some (vR B 308), some (vI i)] [] kc ks S V := by
  obtain ⟨hW, hB, hM⟩ := h.now
  have hd := Hd1_of hW hM
  have hS := h.st
  have hA : AB (V 309) := hM.1.1
  have hX : AB (V 311) := h.ab.1
  have hNm : AB (V 314) := h.ab.2.2.1
  have hTr : TRb (V 316) := h.ab.2.2.2.1
  have hz : TRb (V 323) := h.ab.2.2.2.2
  have hch : 0 ≤ V 1 10 ∧ V 1 10 ≤ 900000 := by have := h.ch; omega
  have hch2 : 0 ≤ V 1 10 ∧ V 1 10 ≤ 1000000 := by omega
  have h17 : 0 ≤ V 1 7 ∧ V 1 7 ≤ 10 := by rw [hd.w7]; exact hd.i0
  have h18 : 0 ≤ V 1 8 ∧ V 1 8 ≤ 4 := by rw [hd.w8]; exact hd.i3
  have h55 : 0 ≤ V 5 5 ∧ V 5 5 ≤ 16 := by rw [hd.w55]; exact hd.i1
  have h56 : 0 ≤ V 5 6 ∧ V 5 6 ≤ 999 := by rw [hd.w56]; exact hd.i2
  have h11 : 0 ≤ V 11 1 ∧ V 11 1 < 20 ∧ 0 ≤ V 11 2 ∧ V 11 2 ≤ 20 := ⟨hd.w111.1, hd.w111.2, by rw [hd.w112]; exact hd.i5.1, by rw [hd.w112]; exact hd.i5.2⟩
  have h10 : ∀ t, 0 ≤ V 10 t ∧ V 10 t < 65536 := hB.2.2.2.1
  have h134 : 0 ≤ V 134 4 ∧ V 134 4 ≤ 12 ∧ 0 ≤ V 134 5 ∧ V 134 5 ≤ 9 ∧ 1 ≤ V 134 6 ∧ V 134 6 ≤ 99 := by rw [hd.w134.1, hd.w134.2.1, hd.w134.2.2]; exact ⟨hd.i6.1, hd.i6.2, hd.i7⟩
  have hP : ∀ b, 0 ≤ b → b < 16 → 0 ≤ V 309 (30 + 6 * b + 5) := hM.1.2.2.2.2.2.2
  have hQt : ∀ s, 0 ≤ s → s < V 309 6 → 0 ≤ V 309 (126 + 4 * s) ∧ V 309 (126 + 4 * s) < 10 ∧ 0 ≤ V 309 (126 + 4 * s + 2) ∧ V 309 (126 + 4 * s + 2) ≤ 999 ∧ 0 ≤ V 309 (126 + 4 * s + 3) ∧ V 309 (126 + 4 * s + 3) ≤ 999 := fun s s0 s1 => by
    have z := hM.2.2.2.2.2.2.2.2.2 s s0 s1
    have := hd.i0
    omega
  refine x_al1 dL_law_600 ?_
  refine x_cVi mm_X10_undo ml_L_76 dL_law_601 (c_X10_undo hS h11 hch2 (fun k hk => (hB.2.2.2.2.2.2.2.2.2.2.2 k hk).1)) (sh_0 hS) (lq_0 hS) ?_ (hf := ⟨by omega, by omega⟩)
  have s : ChR (V 309) (mUndoF (V 309)) V (cUndoF V) ∧ MIv (mUndoF (V 309)) := by
    simp only [mUndoF, cUndoF]
    by_cases c : V 309 5 = 0
    · rw [if_pos c, if_pos (by rw [hd.w112]; exact c)]
      exact ⟨Or.inr ⟨rfl, rfl⟩, hM⟩
    · rw [if_neg c, if_neg (by rw [hd.w112]; exact c)]
      have z := undo_s hW hB hM c
      exact ⟨Or.inl ⟨z.1, z.2.1, FrN_M z.2.2.2.1, by omega, by omega⟩, z.2.2.1⟩
  have r := s.1
  generalize hV1 : cUndoF V = V1 at r ⊢
  have e := ChR_hi r
  have e9 := e 309 (by decide)
  have e11 := e 311 (by decide)
  have e14 := e 314 (by decide)
  have e16 := e 316 (by decide)
  have e23 := e 323 (by decide)
  refine x_al2 dL_law_604 ?_
  refine x_cVi mm_X11_undo ml_L_79 dL_law_605 (c_X11_undo hS (by rw [e9]; exact hA) (by rw [e9]; exact hd.i5) (by rw [e9]; exact fun c => (by have z := (hM.2.2.2.2.2.2.2.2.1 (V 309 5 - 1) (by have := hd.i5; omega) (by omega)).1; have := hd.i1; omega))) (sh_308 hS) (lq_308 hS) ?_ (hf := ⟨by omega, by omega⟩)
  rw [e9]
  refine x_icmpS (tgt := 1060) dL_law_608 (by rw [hd.w112]) ?_
  exact K _ _ _ _ (INV_o1 h r s.2 (mUndoF_3 hM)) (by omega) (by omega)
set_option maxRecDepth 100000 in
set_option maxHeartbeats 4000000 in
theorem law_12 {Γ : Ctx} {B : Bs} {nm : String} {b n : Nat} {xs : Nat → Int32} {N i : Int} {kc ks : Nat} {S : Stt} {V : Va} (hc : Scp Γ B b n xs) (h : INV N S V) (hN : 0 ≤ N ∧ N ≤ 512) (hi : 0 ≤ i ∧ i + 6 ≤ n) (hkc : kc ≤ 5000 ∧ ks ≤ 1000000) (K : ∀ (S' : Stt) (V' : Va) (kc' ks' : Nat), INV (N + 1) S' V' → kc' ≤ kc + 6 → ks' ≤ ks + 428 → X Γ B RL nm cL_law 4 (some .boolean) 26 600000 7302250 1060 [some (.ref b), some (vR B 0), some (vR B 308), some (vI i)] [] kc' ks' S' V') : X Γ B RL nm cL_law 4 (some .boolean) 26 600000 7302250 554 [some (.ref b), some (vR B 0), some (vR B 308), some (vI i)] [] kc ks S V := by
  obtain ⟨hW, hB, hM⟩ := h.now
  have hd := Hd1_of hW hM
  have hS := h.st
  have hA : AB (V 309) := hM.1.1
  have hX : AB (V 311) := h.ab.1
  have hNm : AB (V 314) := h.ab.2.2.1
  have hTr : TRb (V 316) := h.ab.2.2.2.1
  have hz : TRb (V 323) := h.ab.2.2.2.2
  have hch : 0 ≤ V 1 10 ∧ V 1 10 ≤ 900000 := by have := h.ch; omega
  have hch2 : 0 ≤ V 1 10 ∧ V 1 10 ≤ 1000000 := by omega
  have h17 : 0 ≤ V 1 7 ∧ V 1 7 ≤ 10 := by rw [hd.w7]; exact hd.i0
  have h18 : 0 ≤ V 1 8 ∧ V 1 8 ≤ 4 := by rw [hd.w8]; exact hd.i3
  have h55 : 0 ≤ V 5 5 ∧ V 5 5 ≤ 16 := by rw [hd.w55]; exact hd.i1
  have h56 : 0 ≤ V 5 6 ∧ V 5 6 ≤ 999 := by rw [hd.w56]; exact hd.i2
  have h11 : 0 ≤ V 11 1 ∧ V 11 1 < 20 ∧ 0 ≤ V 11 2 ∧ V 11 2 ≤ 20 := ⟨hd.w111.1, hd.w111.2, by rw [hd.w112]; exact hd.i5.1, by rw [hd.w112]; exact hd.i5.2⟩
  have h10 : ∀ t, 0 ≤ V 10 t ∧ V 10 t < 65536 := hB.2.2.2.1
  have h134 : 0 ≤ V 134 4 ∧ V 134 4 ≤ 12 ∧ 0 ≤ V 134 5 ∧ V 134 5 ≤ 9 ∧ 1 ≤ V 134 6 ∧ V 134 6 ≤ 99 := by rw [hd.w134.1, hd.w134.2.1, hd.w134.2.2]; exact ⟨hd.i6.1, hd.i6.2, hd.i7⟩
  have hP : ∀ b, 0 ≤ b → b < 16 → 0 ≤ V 309 (30 + 6 * b + 5) := hM.1.2.2.2.2.2.2
  have hQt : ∀ s, 0 ≤ s → s < V 309 6 → 0 ≤ V 309 (126 + 4 * s) ∧ V 309 (126 + 4 * s) < 10 ∧ 0 ≤ V 309 (126 + 4 * s + 2) ∧ V 309 (126 + 4 * s + 2) ≤ 999 ∧ 0 ≤ V 309 (126 + 4 * s + 3) ∧ V 309 (126 + 4 * s + 3) ≤ 999 := fun s s0 s1 => by
    have z := hM.2.2.2.2.2.2.2.2.2 s s0 s1
    have := hd.i0
    omega
  refine x_al1 dL_law_554 ?_
  refine x_arg hc dL_law_555 dL_law_556 dL_law_557 dL_law_558 dL_law_559 (by omega) (by omega) ?_
  refine x_cViR mm_X10_pass ml_L_68 dL_law_560 (c_X10_pass (xv xs (i + 1)) (V 309) (V 311) hS hW hB hM h.T hch2 (xv_r _ _)) (sh_0 hS) (lq_0 hS) (fun V1 q => ?_) (hf := ⟨by omega, by omega⟩)
  have r : ChR (V 309) (mPassF (V 309) (V 311) (xv xs (i + 1))) V V1 := ChR_s q (fun c => if_neg c)
  have e := ChR_hi r
  have e9 := e 309 (by decide)
  have e11 := e 311 (by decide)
  have e14 := e 314 (by decide)
  have e16 := e 316 (by decide)
  have e23 := e 323 (by decide)
  refine x_al2 dL_law_563 ?_
  refine x_arg hc dL_law_564 dL_law_565 dL_law_566 dL_law_567 dL_law_568 (by omega) (by omega) ?_
  refine x_cVis mm_X11_pass ml_L_71 dL_law_569 (c_X11_pass (xv xs (i + 1)) hS (by rw [e9]; exact hA) (by rw [e11]; exact hX) (by rw [e9]; exact hd.i4) (by rw [e9, e11]; exact h.W) (by rw [e14]; exact hNm) (by rw [e16]; exact hTr) (by rw [e9]; exact hd.i1) (by rw [e9]; exact hd.i2) (by rw [e9]; exact hd.i5) (xv_r _ _)) (sh_308 hS) (lq_308 hS) (fun f g t hf ht => ?_) (hf := ⟨by omega, by omega⟩)
  rw [e9, e11]
  refine x_icmpS (tgt := 1060) dL_law_572 rfl ?_
  exact K _ _ _ _ (INV_o4 h r (MIv_passF hM _) (mPassF_3 hM _ _) hf ht) (by omega) (by omega)
set_option maxRecDepth 100000 in
set_option maxHeartbeats 4000000 in
theorem law_13 {Γ : Ctx} {B : Bs} {nm : String} {b n : Nat} {xs : Nat → Int32} {N i : Int} {kc ks : Nat} {S : Stt} {V : Va} (hc : Scp Γ B b n xs) (h : INV N S V) (hN : 0 ≤ N ∧ N ≤ 512) (hi : 0 ≤ i ∧ i + 6 ≤ n) (hkc : kc ≤ 5000 ∧ ks ≤ 1000000) (K : ∀ (S' : Stt) (V' : Va) (kc' ks' : Nat), INV (N + 1) S' V' → kc' ≤ kc + 6 → ks' ≤ ks + 428 → X Γ B RL nm cL_law 4 (some .boolean) 26 600000 7302250 1060 [some (.ref b), some (vR B 0), some (vR B 308), some (vI i)] [] kc' ks' S' V') : X Γ B RL nm cL_law 4 (some .boolean) 26 600000 7302250 577 [some (.ref b), some (vR B 0), some (vR B 308), some (vI i)] [] kc ks S V := by
  obtain ⟨hW, hB, hM⟩ := h.now
  have hd := Hd1_of hW hM
  have hS := h.st
  have hA : AB (V 309) := hM.1.1
  have hX : AB (V 311) := h.ab.1
  have hNm : AB (V 314) := h.ab.2.2.1
  have hTr : TRb (V 316) := h.ab.2.2.2.1
  have hz : TRb (V 323) := h.ab.2.2.2.2
  have hch : 0 ≤ V 1 10 ∧ V 1 10 ≤ 900000 := by have := h.ch; omega
  have hch2 : 0 ≤ V 1 10 ∧ V 1 10 ≤ 1000000 := by omega
  have h17 : 0 ≤ V 1 7 ∧ V 1 7 ≤ 10 := by rw [hd.w7]; exact hd.i0
  have h18 : 0 ≤ V 1 8 ∧ V 1 8 ≤ 4 := by rw [hd.w8]; exact hd.i3
  have h55 : 0 ≤ V 5 5 ∧ V 5 5 ≤ 16 := by rw [hd.w55]; exact hd.i1
  have h56 : 0 ≤ V 5 6 ∧ V 5 6 ≤ 999 := by rw [hd.w56]; exact hd.i2
  have h11 : 0 ≤ V 11 1 ∧ V 11 1 < 20 ∧ 0 ≤ V 11 2 ∧ V 11 2 ≤ 20 := ⟨hd.w111.1, hd.w111.2, by rw [hd.w112]; exact hd.i5.1, by rw [hd.w112]; exact hd.i5.2⟩
  have h10 : ∀ t, 0 ≤ V 10 t ∧ V 10 t < 65536 := hB.2.2.2.1
  have h134 : 0 ≤ V 134 4 ∧ V 134 4 ≤ 12 ∧ 0 ≤ V 134 5 ∧ V 134 5 ≤ 9 ∧ 1 ≤ V 134 6 ∧ V 134 6 ≤ 99 := by rw [hd.w134.1, hd.w134.2.1, hd.w134.2.2]; exact ⟨hd.i6.1, hd.i6.2, hd.i7⟩
  have hP : ∀ b, 0 ≤ b → b < 16 → 0 ≤ V 309 (30 + 6 * b + 5) := hM.1.2.2.2.2.2.2
  have hQt : ∀ s, 0 ≤ s → s < V 309 6 → 0 ≤ V 309 (126 + 4 * s) ∧ V 309 (126 + 4 * s) < 10 ∧ 0 ≤ V 309 (126 + 4 * s + 2) ∧ V 309 (126 + 4 * s + 2) ≤ 999 ∧ 0 ≤ V 309 (126 + 4 * s + 3) ∧ V 309 (126 + 4 * s + 3) ≤ 999 := fun s s0 s1 => by
    have z := hM.2.2.2.2.2.2.2.2.2 s s0 s1
    have := hd.i0
    omega
  refine x_al1 dL_law_577 ?_
  refine x_arg hc dL_law_578 dL_law_579 dL_law_580 dL_law_581 dL_law_582 (by omega) (by omega) ?_
  refine x_cViR mm_X10_played ml_L_72 dL_law_583 (c_X10_played (xv xs (i + 1)) (V 309) (V 311) hS hW hB hM h.T hch (xv_r _ _)) (sh_0 hS) (lq_0 hS) (fun V1 q => ?_) (hf := ⟨by omega, by omega⟩)
  have r : ChR (V 309) (if 0 ≤ (xv xs (i + 1)) ∧ (xv xs (i + 1)) < V 309 3 then mPlayG (V 309) (V 311) (xv xs (i + 1)) else V 309) V V1 := ChR_p q
  have e := ChR_hi r
  have e9 := e 309 (by decide)
  have e11 := e 311 (by decide)
  have e14 := e 314 (by decide)
  have e16 := e 316 (by decide)
  have e23 := e 323 (by decide)
  have ec : (0 ≤ (xv xs (i + 1)) ∧ (xv xs (i + 1)) ≤ V 309 3 - 1) ↔ (0 ≤ (xv xs (i + 1)) ∧ (xv xs (i + 1)) < V 309 3) := by omega
  refine x_al2 dL_law_586 ?_
  refine x_arg hc dL_law_587 dL_law_588 dL_law_589 dL_law_590 dL_law_591 (by omega) (by omega) ?_
  refine x_cVis mm_X11_played ml_L_75 dL_law_592 (c_X11_played (xv xs (i + 1)) hS (by rw [e9]; exact hM.1) (by rw [e11]; exact hX) (by rw [e9, e11]; exact h.W) (by rw [e14]; exact hNm) (by rw [e16]; exact hTr) (by rw [e9]; exact hd.i3) (by rw [e9, e11]; exact LSim_W h.tx) (xv_r _ _)) (sh_308 hS) (lq_308 hS) (fun f g t hf ht => ?_) (hf := ⟨by omega, by omega⟩)
  rw [e9, e11]
  simp only [ec]
  refine x_icmpS (tgt := 1060) dL_law_595 rfl ?_
  exact K _ _ _ _ (INV_o4 h r q.2.2.1 (by split; (exact mPlayK_3 hM _); rfl) hf ht) (by omega) (by omega)
