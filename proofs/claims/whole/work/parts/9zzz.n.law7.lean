set_option maxRecDepth 100000 in
set_option maxHeartbeats 4000000 in
theorem law_20 {Γ : Ctx} {B : Bs} {nm : String} {b n : Nat} {xs : Nat → Int32} {N i : Int} {kc ks : Nat} {S : Stt} {V : Va} (hc : Scp Γ B b n xs) (h : INV N S V) (hN : 0 ≤ N ∧ N ≤ 512) (hi : 0 ≤ i ∧ i + 6 ≤ n) (hkc : kc ≤ 5000 ∧ ks ≤ 1000000) (K : ∀ (S' : Stt) (V' : Va) (kc' ks' : Nat), INV (N + 1) S' V' → kc' ≤ kc + 6 → ks' ≤ ks + 428 → X Γ B RL nm cL_law 4 (some .boolean) 26 600000 7302250 1060 [some (.ref b), some (vR B 0), some (vR B 308), some (vI i)] [] kc' ks' S' V') : X Γ B RL nm cL_law 4 (some .boolean) 26 600000 7302250 778 [some (.ref b), some (vR B 0), some (vR B 308), some (vI i)] [] kc ks S V := by
  obtain ⟨hW, hB, hM⟩ := h.now
  have hd := Hd1_of hW hM
  have hS := h.st
  have hA : AB (V 309) := hM.1.1
  have hX : AB (V 311) := h.ab.1
  have hNm : AB (V 314) := h.ab.2.2.1
  have hTr : TRb (V 316) := h.ab.2.2.2.1
  have hz : TRb (V 323) := h.ab.2.2.2.2
  have hch : 0 ≤ V 1 10 ∧ V 1 10 ≤ 900000 := by have := h.ch; omega
  have hch2 : 0 ≤ V 1 10 ∧ V 1 10 ≤ 1000000 := by omega
  have h17 : 0 ≤ V 1 7 ∧ V 1 7 ≤ 10 := by rw [hd.w7]; exact hd.i0
  have h18 : 0 ≤ V 1 8 ∧ V 1 8 ≤ 4 := by rw [hd.w8]; exact hd.i3
  have h55 : 0 ≤ V 5 5 ∧ V 5 5 ≤ 16 := by rw [hd.w55]; exact hd.i1
  have h56 : 0 ≤ V 5 6 ∧ V 5 6 ≤ 999 := by rw [hd.w56]; exact hd.i2
  have h11 : 0 ≤ V 11 1 ∧ V 11 1 < 20 ∧ 0 ≤ V 11 2 ∧ V 11 2 ≤ 20 := ⟨hd.w111.1, hd.w111.2, by rw [hd.w112]; exact hd.i5.1, by rw [hd.w112]; exact hd.i5.2⟩
  have h10 : ∀ t, 0 ≤ V 10 t ∧ V 10 t < 65536 := hB.2.2.2.1
  have h134 : 0 ≤ V 134 4 ∧ V 134 4 ≤ 12 ∧ 0 ≤ V 134 5 ∧ V 134 5 ≤ 9 ∧ 1 ≤ V 134 6 ∧ V 134 6 ≤ 99 := by rw [hd.w134.1, hd.w134.2.1, hd.w134.2.2]; exact ⟨hd.i6.1, hd.i6.2, hd.i7⟩
  have hP : ∀ b, 0 ≤ b → b < 16 → 0 ≤ V 309 (30 + 6 * b + 5) := hM.1.2.2.2.2.2.2
  have hQt : ∀ s, 0 ≤ s → s < V 309 6 → 0 ≤ V 309 (126 + 4 * s) ∧ V 309 (126 + 4 * s) < 10 ∧ 0 ≤ V 309 (126 + 4 * s + 2) ∧ V 309 (126 + 4 * s + 2) ≤ 999 ∧ 0 ≤ V 309 (126 + 4 * s + 3) ∧ V 309 (126 + 4 * s + 3) ≤ 999 := fun s s0 s1 => by
    have z := hM.2.2.2.2.2.2.2.2.2 s s0 s1
    have := hd.i0
    omega
  refine x_al1 dL_law_778 ?_
  refine x_arg hc dL_law_779 dL_law_780 dL_law_781 dL_law_782 dL_law_783 (by omega) (by omega) ?_
  refine x_arg hc dL_law_784 dL_law_785 dL_law_786 dL_law_787 dL_law_788 (by omega) (by omega) ?_
  refine x_cVi mm_X10_same ml_L_101 dL_law_789 (c_X10_same (xv xs (i + 1)) (xv xs (i + 2)) hS h134 hB.1 hB.2.1 hB.2.2.2.2.2.2.2.2.1 hB.2.2.2.2.2.2.2.2.2.2.1 hB.2.2.2.2.2.2.2.2.2.1 (fun s s0 s1 => by have z := hW.2.2.2.2.2.2.2.2 s s0 (by rw [← hd.w134.1]; exact s1); have y := hQt s s0 (by rw [← hd.w134.1]; exact s1); have z1 : V 135 s = V 309 (126 + 4 * s) := z.1; rw [z1]; exact ⟨y.1, y.2.1⟩) (xv_r _ _) (xv_r _ _)) (sh_0 hS) (lq_0 hS) ?_ (hf := ⟨by omega, by omega⟩)
  refine x_al2 dL_law_792 ?_
  refine x_arg hc dL_law_793 dL_law_794 dL_law_795 dL_law_796 dL_law_797 (by omega) (by omega) ?_
  refine x_arg hc dL_law_798 dL_law_799 dL_law_800 dL_law_801 dL_law_802 (by omega) (by omega) ?_
  refine x_cVi mm_X11_same ml_L_104 dL_law_803 (c_X11_same (xv xs (i + 1)) (xv xs (i + 2)) hS hA hd.i6 hd.i7 hQt (xv_r _ _) (xv_r _ _)) (sh_308 hS) (lq_308 hS) ?_ (hf := ⟨by omega, by omega⟩)
  refine x_icmpS (tgt := 1060) dL_law_806 (if_cg (same_eq hW hM _ _) rfl) ?_
  exact K _ _ _ _ (INV_q h (fun _ _ => rfl) h.ca (AskM_0 h (fun _ _ => rfl))) (by omega) (by omega)
set_option maxRecDepth 100000 in
set_option maxHeartbeats 4000000 in
theorem law_24 {Γ : Ctx} {B : Bs} {nm : String} {b n : Nat} {xs : Nat → Int32} {N i : Int} {kc ks : Nat} {S : Stt} {V : Va} (hc : Scp Γ B b n xs) (h : INV N S V) (hN : 0 ≤ N ∧ N ≤ 512) (hi : 0 ≤ i ∧ i + 6 ≤ n) (hkc : kc ≤ 5000 ∧ ks ≤ 1000000) (K : ∀ (S' : Stt) (V' : Va) (kc' ks' : Nat), INV (N + 1) S' V' → kc' ≤ kc + 6 → ks' ≤ ks + 428 → X Γ B RL nm cL_law 4 (some .boolean) 26 600000 7302250 1060 [some (.ref b), some (vR B 0), some (vR B 308), some (vI i)] [] kc' ks' S' V') : X Γ B RL nm cL_law 4 (some .boolean) 26 600000 7302250 871 [some (.ref b), some (vR B 0), some (vR B 308), some (vI i)] [] kc ks S V := by
  obtain ⟨hW, hB, hM⟩ := h.now
  have hd := Hd1_of hW hM
  have hS := h.st
  have hA : AB (V 309) := hM.1.1
  have hX : AB (V 311) := h.ab.1
  have hNm : AB (V 314) := h.ab.2.2.1
  have hTr : TRb (V 316) := h.ab.2.2.2.1
  have hz : TRb (V 323) := h.ab.2.2.2.2
  have hch : 0 ≤ V 1 10 ∧ V 1 10 ≤ 900000 := by have := h.ch; omega
  have hch2 : 0 ≤ V 1 10 ∧ V 1 10 ≤ 1000000 := by omega
  have h17 : 0 ≤ V 1 7 ∧ V 1 7 ≤ 10 := by rw [hd.w7]; exact hd.i0
  have h18 : 0 ≤ V 1 8 ∧ V 1 8 ≤ 4 := by rw [hd.w8]; exact hd.i3
  have h55 : 0 ≤ V 5 5 ∧ V 5 5 ≤ 16 := by rw [hd.w55]; exact hd.i1
  have h56 : 0 ≤ V 5 6 ∧ V 5 6 ≤ 999 := by rw [hd.w56]; exact hd.i2
  have h11 : 0 ≤ V 11 1 ∧ V 11 1 < 20 ∧ 0 ≤ V 11 2 ∧ V 11 2 ≤ 20 := ⟨hd.w111.1, hd.w111.2, by rw [hd.w112]; exact hd.i5.1, by rw [hd.w112]; exact hd.i5.2⟩
  have h10 : ∀ t, 0 ≤ V 10 t ∧ V 10 t < 65536 := hB.2.2.2.1
  have h134 : 0 ≤ V 134 4 ∧ V 134 4 ≤ 12 ∧ 0 ≤ V 134 5 ∧ V 134 5 ≤ 9 ∧ 1 ≤ V 134 6 ∧ V 134 6 ≤ 99 := by rw [hd.w134.1, hd.w134.2.1, hd.w134.2.2]; exact ⟨hd.i6.1, hd.i6.2, hd.i7⟩
  have hP : ∀ b, 0 ≤ b → b < 16 → 0 ≤ V 309 (30 + 6 * b + 5) := hM.1.2.2.2.2.2.2
  have hQt : ∀ s, 0 ≤ s → s < V 309 6 → 0 ≤ V 309 (126 + 4 * s) ∧ V 309 (126 + 4 * s) < 10 ∧ 0 ≤ V 309 (126 + 4 * s + 2) ∧ V 309 (126 + 4 * s + 2) ≤ 999 ∧ 0 ≤ V 309 (126 + 4 * s + 3) ∧ V 309 (126 + 4 * s + 3) ≤ 999 := fun s s0 s1 => by
    have z := hM.2.2.2.2.2.2.2.2.2 s s0 s1
    have := hd.i0
    omega
  refine x_al1 dL_law_871 ?_
  refine x_arg hc dL_law_872 dL_law_873 dL_law_874 dL_law_875 dL_law_876 (by omega) (by omega) ?_
  refine x_arg hc dL_law_877 dL_law_878 dL_law_879 dL_law_880 dL_law_881 (by omega) (by omega) ?_
  refine x_arg hc dL_law_882 dL_law_883 dL_law_884 dL_law_885 dL_law_886 (by omega) (by omega) ?_
  refine x_arg hc dL_law_887 dL_law_888 dL_law_889 dL_law_890 dL_law_891 (by omega) (by omega) ?_
  refine x_cVl mm_X10_chance ml_L_118 dL_law_892 (c_X10_chance (xv xs (i + 1)) (xv xs (i + 2)) (xv xs (i + 3)) (xv xs (i + 4)) hS  (xv_r _ _) (xv_r _ _) (xv_r _ _) (xv_r _ _)) (sh_0 hS) (lq_0 hS) ?_ (hf := ⟨by omega, by omega⟩)
  refine x_al2 dL_law_895 ?_
  refine x_arg hc dL_law_896 dL_law_897 dL_law_898 dL_law_899 dL_law_900 (by omega) (by omega) ?_
  refine x_arg hc dL_law_901 dL_law_902 dL_law_903 dL_law_904 dL_law_905 (by omega) (by omega) ?_
  refine x_arg hc dL_law_906 dL_law_907 dL_law_908 dL_law_909 dL_law_910 (by omega) (by omega) ?_
  refine x_arg hc dL_law_911 dL_law_912 dL_law_913 dL_law_914 dL_law_915 (by omega) (by omega) ?_
  refine x_cVl mm_X11_chance ml_L_122 dL_law_916 (c_X11_chance (xv xs (i + 1)) (xv xs (i + 2)) (xv xs (i + 3)) (xv xs (i + 4)) hS  (xv_r _ _) (xv_r _ _) (xv_r _ _) (xv_r _ _)) (sh_308 hS) (lq_308 hS) ?_ (hf := ⟨by omega, by omega⟩)
  refine x_lcmpS (tgt := 1060) dL_law_919 dL_law_920 rfl ?_
  exact K _ _ _ _ (INV_q h (fun _ _ => rfl) h.ca (AskM_0 h (fun _ _ => rfl))) (by omega) (by omega)
set_option maxRecDepth 100000 in
set_option maxHeartbeats 4000000 in
theorem law_29 {Γ : Ctx} {B : Bs} {nm : String} {b n : Nat} {xs : Nat → Int32} {N i : Int} {kc ks : Nat} {S : Stt} {V : Va} (hc : Scp Γ B b n xs) (h : INV N S V) (hN : 0 ≤ N ∧ N ≤ 512) (hi : 0 ≤ i ∧ i + 6 ≤ n) (hkc : kc ≤ 5000 ∧ ks ≤ 1000000) (K : ∀ (S' : Stt) (V' : Va) (kc' ks' : Nat), INV (N + 1) S' V' → kc' ≤ kc + 6 → ks' ≤ ks + 428 → X Γ B RL nm cL_law 4 (some .boolean) 26 600000 7302250 1060 [some (.ref b), some (vR B 0), some (vR B 308), some (vI i)] [] kc' ks' S' V') : X Γ B RL nm cL_law 4 (some .boolean) 26 600000 7302250 1037 [some (.ref b), some (vR B 0), some (vR B 308), some (vI i)] [] kc ks S V := by
  obtain ⟨hW, hB, hM⟩ := h.now
  have hd := Hd1_of hW hM
  have hS := h.st
  have hA : AB (V 309) := hM.1.1
  have hX : AB (V 311) := h.ab.1
  have hNm : AB (V 314) := h.ab.2.2.1
  have hTr : TRb (V 316) := h.ab.2.2.2.1
  have hz : TRb (V 323) := h.ab.2.2.2.2
  have hch : 0 ≤ V 1 10 ∧ V 1 10 ≤ 900000 := by have := h.ch; omega
  have hch2 : 0 ≤ V 1 10 ∧ V 1 10 ≤ 1000000 := by omega
  have h17 : 0 ≤ V 1 7 ∧ V 1 7 ≤ 10 := by rw [hd.w7]; exact hd.i0
  have h18 : 0 ≤ V 1 8 ∧ V 1 8 ≤ 4 := by rw [hd.w8]; exact hd.i3
  have h55 : 0 ≤ V 5 5 ∧ V 5 5 ≤ 16 := by rw [hd.w55]; exact hd.i1
  have h56 : 0 ≤ V 5 6 ∧ V 5 6 ≤ 999 := by rw [hd.w56]; exact hd.i2
  have h11 : 0 ≤ V 11 1 ∧ V 11 1 < 20 ∧ 0 ≤ V 11 2 ∧ V 11 2 ≤ 20 := ⟨hd.w111.1, hd.w111.2, by rw [hd.w112]; exact hd.i5.1, by rw [hd.w112]; exact hd.i5.2⟩
  have h10 : ∀ t, 0 ≤ V 10 t ∧ V 10 t < 65536 := hB.2.2.2.1
  have h134 : 0 ≤ V 134 4 ∧ V 134 4 ≤ 12 ∧ 0 ≤ V 134 5 ∧ V 134 5 ≤ 9 ∧ 1 ≤ V 134 6 ∧ V 134 6 ≤ 99 := by rw [hd.w134.1, hd.w134.2.1, hd.w134.2.2]; exact ⟨hd.i6.1, hd.i6.2, hd.i7⟩
  have hP : ∀ b, 0 ≤ b → b < 16 → 0 ≤ V 309 (30 + 6 * b + 5) := hM.1.2.2.2.2.2.2
  have hQt : ∀ s, 0 ≤ s → s < V 309 6 → 0 ≤ V 309 (126 + 4 * s) ∧ V 309 (126 + 4 * s) < 10 ∧ 0 ≤ V 309 (126 + 4 * s + 2) ∧ V 309 (126 + 4 * s + 2) ≤ 999 ∧ 0 ≤ V 309 (126 + 4 * s + 3) ∧ V 309 (126 + 4 * s + 3) ≤ 999 := fun s s0 s1 => by
    have z := hM.2.2.2.2.2.2.2.2.2 s s0 s1
    have := hd.i0
    omega
  refine x_al1 dL_law_1037 ?_
  refine x_arg hc dL_law_1038 dL_law_1039 dL_law_1040 dL_law_1041 dL_law_1042 (by omega) (by omega) ?_
  refine x_cVi mm_X10_about ml_L_139 dL_law_1043 (c_X10_about (xv xs (i + 1)) hS h17 h55 h10 hB.2.2.2.2.2.2.1 (xv_r _ _)) (sh_0 hS) (lq_0 hS) ?_ (hf := ⟨by omega, by omega⟩)
  refine x_al2 dL_law_1046 ?_
  refine x_arg hc dL_law_1047 dL_law_1048 dL_law_1049 dL_law_1050 dL_law_1051 (by omega) (by omega) ?_
  refine x_cVi mm_X11_about ml_L_142 dL_law_1052 (c_X11_about (xv xs (i + 1)) hS hA hd.i0 hd.i1 (xv_r _ _)) (sh_308 hS) (lq_308 hS) ?_ (hf := ⟨by omega, by omega⟩)
  refine x_icmpS (tgt := 1060) dL_law_1055 (by rw [h.rd.2.1]; exact about_eq hW hM _ _) ?_
  exact K _ _ _ _ (INV_q h (fun _ _ => rfl) h.ca (AskM_0 h (fun _ _ => rfl))) (by omega) (by omega)
set_option maxRecDepth 100000 in
set_option maxHeartbeats 4000000 in
theorem law_6 {Γ : Ctx} {B : Bs} {nm : String} {b n : Nat} {xs : Nat → Int32} {N i : Int} {kc ks : Nat} {S : Stt} {V : Va} (hc : Scp Γ B b n xs) (h : INV N S V) (hN : 0 ≤ N ∧ N ≤ 512) (hi : 0 ≤ i ∧ i + 6 ≤ n) (hkc : kc ≤ 5000 ∧ ks ≤ 1000000) (K : ∀ (S' : Stt) (V' : Va) (kc' ks' : Nat), INV (N + 1) S' V' → kc' ≤ kc + 6 → ks' ≤ ks + 428 → X Γ B RL nm cL_law 4 (some .boolean) 26 600000 7302250 1060 [some (.ref b), some (vR B 0), some (vR B 308), some (vI i)] [] kc' ks' S' V') : X Γ B RL nm cL_law 4 (some .boolean) 26 600000 7302250 376 [some (.ref b), some (vR B 0), some (vR B 308), some (vI i)] [] kc ks S V := by
  obtain ⟨hW, hB, hM⟩ := h.now
  have hd := Hd1_of hW hM
  have hS := h.st
  have hA : AB (V 309) := hM.1.1
  have hX : AB (V 311) := h.ab.1
  have hNm : AB (V 314) := h.ab.2.2.1
  have hTr : TRb (V 316) := h.ab.2.2.2.1
  have hz : TRb (V 323) := h.ab.2.2.2.2
  have hch : 0 ≤ V 1 10 ∧ V 1 10 ≤ 900000 := by have := h.ch; omega
  have hch2 : 0 ≤ V 1 10 ∧ V 1 10 ≤ 1000000 := by omega
  have h17 : 0 ≤ V 1 7 ∧ V 1 7 ≤ 10 := by rw [hd.w7]; exact hd.i0
  have h18 : 0 ≤ V 1 8 ∧ V 1 8 ≤ 4 := by rw [hd.w8]; exact hd.i3
  have h55 : 0 ≤ V 5 5 ∧ V 5 5 ≤ 16 := by rw [hd.w55]; exact hd.i1
  have h56 : 0 ≤ V 5 6 ∧ V 5 6 ≤ 999 := by rw [hd.w56]; exact hd.i2
  have h11 : 0 ≤ V 11 1 ∧ V 11 1 < 20 ∧ 0 ≤ V 11 2 ∧ V 11 2 ≤ 20 := ⟨hd.w111.1, hd.w111.2, by rw [hd.w112]; exact hd.i5.1, by rw [hd.w112]; exact hd.i5.2⟩
  have h10 : ∀ t, 0 ≤ V 10 t ∧ V 10 t < 65536 := hB.2.2.2.1
  have h134 : 0 ≤ V 134 4 ∧ V 134 4 ≤ 12 ∧ 0 ≤ V 134 5 ∧ V 134 5 ≤ 9 ∧ 1 ≤ V 134 6 ∧ V 134 6 ≤ 99 := by rw [hd.w134.1, hd.w134.2.1, hd.w134.2.2]; exact ⟨hd.i6.1, hd.i6.2, hd.i7⟩
  have hP : ∀ b, 0 ≤ b → b < 16 → 0 ≤ V 309 (30 + 6 * b + 5) := hM.1.2.2.2.2.2.2
  have hQt : ∀ s, 0 ≤ s → s < V 309 6 → 0 ≤ V 309 (126 + 4 * s) ∧ V 309 (126 + 4 * s) < 10 ∧ 0 ≤ V 309 (126 + 4 * s + 2) ∧ V 309 (126 + 4 * s + 2) ≤ 999 ∧ 0 ≤ V 309 (126 + 4 * s + 3) ∧ V 309 (126 + 4 * s + 3) ≤ 999 := fun s s0 s1 => by
    have z := hM.2.2.2.2.2.2.2.2.2 s s0 s1
    have := hd.i0
    omega
  refine x_al1 dL_law_376 ?_
  refine x_arg hc dL_law_377 dL_law_378 dL_law_379 dL_law_380 dL_law_381 (by omega) (by omega) ?_
  refine x_cVi mm_X10_fault ml_L_43 dL_law_382 (c_X10_fault (xv xs (i + 1)) hS  (xv_r _ _)) (sh_0 hS) (lq_0 hS) ?_ (hf := ⟨by omega, by omega⟩)
  refine x_al2 dL_law_385 ?_
  refine x_arg hc dL_law_386 dL_law_387 dL_law_388 dL_law_389 dL_law_390 (by omega) (by omega) ?_
  refine x_cVi mm_X11_fault ml_L_46 dL_law_391 (c_X11_fault (xv xs (i + 1)) hS  (xv_r _ _)) (sh_308 hS) (lq_308 hS) ?_ (hf := ⟨by omega, by omega⟩)
  refine x_icmpS (tgt := 1060) dL_law_394 (by rw [h.rd.2.2.2.2.1, h.rd.2.2.2.2.2]) ?_
  exact K _ _ _ _ (INV_q h (fun _ _ => rfl) h.ca (AskM_0 h (fun _ _ => rfl))) (by omega) (by omega)
set_option maxRecDepth 100000 in
set_option maxHeartbeats 4000000 in
theorem law_15 {Γ : Ctx} {B : Bs} {nm : String} {b n : Nat} {xs : Nat → Int32} {N i : Int} {kc ks : Nat} {S : Stt} {V : Va} (hc : Scp Γ B b n xs) (h : INV N S V) (hN : 0 ≤ N ∧ N ≤ 512) (hi : 0 ≤ i ∧ i + 6 ≤ n) (hkc : kc ≤ 5000 ∧ ks ≤ 1000000) (K : ∀ (S' : Stt) (V' : Va) (kc' ks' : Nat), INV (N + 1) S' V' → kc' ≤ kc + 6 → ks' ≤ ks + 428 → X Γ B RL nm cL_law 4 (some .boolean) 26 600000 7302250 1060 [some (.ref b), some (vR B 0), some (vR B 308), some (vI i)] [] kc' ks' S' V') : X Γ B RL nm cL_law 4 (some .boolean) 26 600000 7302250 613 [some (.ref b), some (vR B 0), some (vR B 308), some (vI i)] [] kc ks S V := by
  obtain ⟨hW, hB, hM⟩ := h.now
  have hd := Hd1_of hW hM
  have hS := h.st
  have hA : AB (V 309) := hM.1.1
  have hX : AB (V 311) := h.ab.1
  have hNm : AB (V 314) := h.ab.2.2.1
  have hTr : TRb (V 316) := h.ab.2.2.2.1
  have hz : TRb (V 323) := h.ab.2.2.2.2
  have hch : 0 ≤ V 1 10 ∧ V 1 10 ≤ 900000 := by have := h.ch; omega
  have hch2 : 0 ≤ V 1 10 ∧ V 1 10 ≤ 1000000 := by omega
  have h17 : 0 ≤ V 1 7 ∧ V 1 7 ≤ 10 := by rw [hd.w7]; exact hd.i0
  have h18 : 0 ≤ V 1 8 ∧ V 1 8 ≤ 4 := by rw [hd.w8]; exact hd.i3
  have h55 : 0 ≤ V 5 5 ∧ V 5 5 ≤ 16 := by rw [hd.w55]; exact hd.i1
  have h56 : 0 ≤ V 5 6 ∧ V 5 6 ≤ 999 := by rw [hd.w56]; exact hd.i2
  have h11 : 0 ≤ V 11 1 ∧ V 11 1 < 20 ∧ 0 ≤ V 11 2 ∧ V 11 2 ≤ 20 := ⟨hd.w111.1, hd.w111.2, by rw [hd.w112]; exact hd.i5.1, by rw [hd.w112]; exact hd.i5.2⟩
  have h10 : ∀ t, 0 ≤ V 10 t ∧ V 10 t < 65536 := hB.2.2.2.1
  have h134 : 0 ≤ V 134 4 ∧ V 134 4 ≤ 12 ∧ 0 ≤ V 134 5 ∧ V 134 5 ≤ 9 ∧ 1 ≤ V 134 6 ∧ V 134 6 ≤ 99 := by rw [hd.w134.1, hd.w134.2.1, hd.w134.2.2]; exact ⟨hd.i6.1, hd.i6.2, hd.i7⟩
  have hP : ∀ b, 0 ≤ b → b < 16 → 0 ≤ V 309 (30 + 6 * b + 5) := hM.1.2.2.2.2.2.2
  have hQt : ∀ s, 0 ≤ s → s < V 309 6 → 0 ≤ V 309 (126 + 4 * s) ∧ V 309 (126 + 4 * s) < 10 ∧ 0 ≤ V 309 (126 + 4 * s + 2) ∧ V 309 (126 + 4 * s + 2) ≤ 999 ∧ 0 ≤ V 309 (126 + 4 * s + 3) ∧ V 309 (126 + 4 * s + 3) ≤ 999 := fun s s0 s1 => by
    have z := hM.2.2.2.2.2.2.2.2.2 s s0 s1
    have := hd.i0
    omega
  refine x_al1 dL_law_613 ?_
  refine x_arg hc dL_law_614 dL_law_615 dL_law_616 dL_law_617 dL_law_618 (by omega) (by omega) ?_
  refine x_arg hc dL_law_619 dL_law_620 dL_law_621 dL_law_622 dL_law_623 (by omega) (by omega) ?_
  refine x_cVic mm_X10_of ml_L_80 dL_law_624 (c_X10_of (xv xs (i + 1)) (xv xs (i + 2)) (V 309) (V 311) hS hW hB hM h.T (xv_r _ _) (xv_r _ _)) (sh_0 hS) (lq_0 hS) (fun f1 g1 => ?_) (hf := ⟨by omega, by omega⟩)
  have f : ∀ q : Nat, q < 287 ∨ 307 < q → up (up V 287 f1) 288 g1 q = V q := fun q hq => by rw [up_ne (by omega), up_ne (by omega)]
  have hca : Ca (V 309) (V 311) (up (up V 287 f1) 288 g1) := Ca_f (fun q hq => by rw [up_ne (by omega), up_ne (by omega)]) h.ca
  generalize up (up V 287 f1) 288 g1 = V1 at f hca ⊢
  have e9 := f 309 (by omega)
  have e11 := f 311 (by omega)
  have e14 := f 314 (by omega)
  have e16 := f 316 (by omega)
  have e23 := f 323 (by omega)
  refine x_al2 dL_law_627 ?_
  refine x_arg hc dL_law_628 dL_law_629 dL_law_630 dL_law_631 dL_law_632 (by omega) (by omega) ?_
  refine x_arg hc dL_law_633 dL_law_634 dL_law_635 dL_law_636 dL_law_637 (by omega) (by omega) ?_
  refine x_cVis mm_X11_of ml_L_83 dL_law_638 (c_X11_of (xv xs (i + 1)) (xv xs (i + 2)) hS (by rw [e9]; exact hA) (by rw [e11]; exact hX) (by rw [e9]; exact hd.i4) (by rw [e9, e11]; exact h.W) (by rw [e14]; exact hNm) (by rw [e16]; exact hTr) (by rw [e9]; exact hd.i1) (xv_r _ _) (xv_r _ _)) (sh_308 hS) (lq_308 hS) (fun f2 g2 t2 hf ht => ?_) (hf := ⟨by omega, by omega⟩)
  rw [e9, e11]
  refine x_icmpS (tgt := 1060) dL_law_641 (if_cg (by simp only [mBoneOk]; omega) rfl) ?_
  exact K _ _ _ _ (INV_q h f hca (AskM_3 hf ht (by rw [e23]; exact hz))) (by omega) (by omega)
set_option maxRecDepth 100000 in
set_option maxHeartbeats 4000000 in
theorem law_26 {Γ : Ctx} {B : Bs} {nm : String} {b n : Nat} {xs : Nat → Int32} {N i : Int} {kc ks : Nat} {S : Stt} {V : Va} (hc : Scp Γ B b n xs) (h : INV N S V) (hN : 0 ≤ N ∧ N ≤ 512) (hi : 0 ≤ i ∧ i + 6 ≤ n) (hkc : kc ≤ 5000 ∧ ks ≤ 1000000) (K : ∀ (S' : Stt) (V' : Va) (kc' ks' : Nat), INV (N + 1) S' V' → kc' ≤ kc + 6 → ks' ≤ ks + 428 → X Γ B RL nm cL_law 4 (some .boolean) 26 600000 7302250 1060 [some (.ref b), some (vR B 0), some (vR B 308), some (vI i)] [] kc' ks' S' V') : X Γ B RL nm cL_law 4 (some .boolean) 26 600000 7302250 958 [some (.ref b), some (vR B 0), some (vR B 308), some (vI i)] [] kc ks S V := by
  obtain ⟨hW, hB, hM⟩ := h.now
  have hd := Hd1_of hW hM
  have hS := h.st
  have hA : AB (V 309) := hM.1.1
  have hX : AB (V 311) := h.ab.1
  have hNm : AB (V 314) := h.ab.2.2.1
  have hTr : TRb (V 316) := h.ab.2.2.2.1
  have hz : TRb (V 323) := h.ab.2.2.2.2
  have hch : 0 ≤ V 1 10 ∧ V 1 10 ≤ 900000 := by have := h.ch; omega
  have hch2 : 0 ≤ V 1 10 ∧ V 1 10 ≤ 1000000 := by omega
  have h17 : 0 ≤ V 1 7 ∧ V 1 7 ≤ 10 := by rw [hd.w7]; exact hd.i0
  have h18 : 0 ≤ V 1 8 ∧ V 1 8 ≤ 4 := by rw [hd.w8]; exact hd.i3
  have h55 : 0 ≤ V 5 5 ∧ V 5 5 ≤ 16 := by rw [hd.w55]; exact hd.i1
  have h56 : 0 ≤ V 5 6 ∧ V 5 6 ≤ 999 := by rw [hd.w56]; exact hd.i2
  have h11 : 0 ≤ V 11 1 ∧ V 11 1 < 20 ∧ 0 ≤ V 11 2 ∧ V 11 2 ≤ 20 := ⟨hd.w111.1, hd.w111.2, by rw [hd.w112]; exact hd.i5.1, by rw [hd.w112]; exact hd.i5.2⟩
  have h10 : ∀ t, 0 ≤ V 10 t ∧ V 10 t < 65536 := hB.2.2.2.1
  have h134 : 0 ≤ V 134 4 ∧ V 134 4 ≤ 12 ∧ 0 ≤ V 134 5 ∧ V 134 5 ≤ 9 ∧ 1 ≤ V 134 6 ∧ V 134 6 ≤ 99 := by rw [hd.w134.1, hd.w134.2.1, hd.w134.2.2]; exact ⟨hd.i6.1, hd.i6.2, hd.i7⟩
  have hP : ∀ b, 0 ≤ b → b < 16 → 0 ≤ V 309 (30 + 6 * b + 5) := hM.1.2.2.2.2.2.2
  have hQt : ∀ s, 0 ≤ s → s < V 309 6 → 0 ≤ V 309 (126 + 4 * s) ∧ V 309 (126 + 4 * s) < 10 ∧ 0 ≤ V 309 (126 + 4 * s + 2) ∧ V 309 (126 + 4 * s + 2) ≤ 999 ∧ 0 ≤ V 309 (126 + 4 * s + 3) ∧ V 309 (126 + 4 * s + 3) ≤ 999 := fun s s0 s1 => by
    have z := hM.2.2.2.2.2.2.2.2.2 s s0 s1
    have := hd.i0
    omega
  refine x_al1 dL_law_958 ?_
  refine x_arg hc dL_law_959 dL_law_960 dL_law_961 dL_law_962 dL_law_963 (by omega) (by omega) ?_
  refine x_arg hc dL_law_964 dL_law_965 dL_law_966 dL_law_967 dL_law_968 (by omega) (by omega) ?_
  refine x_arg hc dL_law_969 dL_law_970 dL_law_971 dL_law_972 dL_law_973 (by omega) (by omega) ?_
  refine x_arg hc dL_law_974 dL_law_975 dL_law_976 dL_law_977 dL_law_978 (by omega) (by omega) ?_
  refine x_cVic mm_X10_pilgrims ml_L_127 dL_law_979 (c_X10_pilgrims (xv xs (i + 1)) (xv xs (i + 2)) (xv xs (i + 3)) (xv xs (i + 4)) (V 309) (V 311) hS hW hB hM h.T (xv_r _ _) (xv_r _ _) (xv_r _ _) (xv_r _ _)) (sh_0 hS) (lq_0 hS) (fun f1 g1 => ?_) (hf := ⟨by omega, by omega⟩)
  have f : ∀ q : Nat, q < 287 ∨ 307 < q → up (up V 287 f1) 288 g1 q = V q := fun q hq => by rw [up_ne (by omega), up_ne (by omega)]
  have hca : Ca (V 309) (V 311) (up (up V 287 f1) 288 g1) := Ca_f (fun q hq => by rw [up_ne (by omega), up_ne (by omega)]) h.ca
  generalize up (up V 287 f1) 288 g1 = V1 at f hca ⊢
  have e9 := f 309 (by omega)
  have e11 := f 311 (by omega)
  have e14 := f 314 (by omega)
  have e16 := f 316 (by omega)
  have e23 := f 323 (by omega)
  refine x_al2 dL_law_982 ?_
  refine x_arg hc dL_law_983 dL_law_984 dL_law_985 dL_law_986 dL_law_987 (by omega) (by omega) ?_
  refine x_arg hc dL_law_988 dL_law_989 dL_law_990 dL_law_991 dL_law_992 (by omega) (by omega) ?_
  refine x_arg hc dL_law_993 dL_law_994 dL_law_995 dL_law_996 dL_law_997 (by omega) (by omega) ?_
  refine x_arg hc dL_law_998 dL_law_999 dL_law_1000 dL_law_1001 dL_law_1002 (by omega) (by omega) ?_
  refine x_cVis mm_X11_pilgrims ml_L_130 dL_law_1003 (c_X11_pilgrims (xv xs (i + 1)) (xv xs (i + 2)) (xv xs (i + 3)) (xv xs (i + 4)) hS (by rw [e9]; exact hA) (by rw [e11]; exact hX) (by rw [e9]; exact hd.i4) (by rw [e9, e11]; exact h.W) (by rw [e14]; exact hNm) (by rw [e16]; exact hTr) (by rw [e9]; exact hd.i0) (by rw [e9]; exact hd.i1) (xv_r _ _) (xv_r _ _) (xv_r _ _) (xv_r _ _)) (sh_308 hS) (lq_308 hS) (fun f2 g2 t2 hf ht => ?_) (hf := ⟨by omega, by omega⟩)
  rw [e9, e11]
  refine x_icmpS (tgt := 1060) dL_law_1006 rfl ?_
  exact K _ _ _ _ (INV_q h f hca (AskM_4 (fun k hk => by split; (exact ua_ne (by omega)); rfl) hf ht (by rw [e23]; exact hz))) (by omega) (by omega)
set_option maxRecDepth 100000 in
set_option maxHeartbeats 4000000 in
theorem law_25 {Γ : Ctx} {B : Bs} {nm : String} {b n : Nat} {xs : Nat → Int32} {N i : Int} {kc ks : Nat} {S : Stt} {V : Va} (hc : Scp Γ B b n xs) (h : INV N S V) (hN : 0 ≤ N ∧ N ≤ 512) (hi : 0 ≤ i ∧ i + 6 ≤ n) (hkc : kc ≤ 5000 ∧ ks ≤ 1000000) (K : ∀ (S' : Stt) (V' : Va) (kc' ks' : Nat), INV (N + 1) S' V' → kc' ≤ kc + 6 → ks' ≤ ks + 428 → X Γ B RL nm cL_law 4 (some .boolean) 26 600000 7302250 1060 [some (.ref b), some (vR B 0), some (vR B 308), some (vI i)] [] kc' ks' S' V') : X Γ B RL nm cL_law 4 (some .boolean) 26 600000 7302250 925 [some (.ref b), some (vR B 0), some (vR B 308), some (vI i)] [] kc ks S V := by
  obtain ⟨hW, hB, hM⟩ := h.now
  have hd := Hd1_of hW hM
  have hS := h.st
  have hA : AB (V 309) := hM.1.1
  have hX : AB (V 311) := h.ab.1
  have hNm : AB (V 314) := h.ab.2.2.1
  have hTr : TRb (V 316) := h.ab.2.2.2.1
  have hz : TRb (V 323) := h.ab.2.2.2.2
  have hch : 0 ≤ V 1 10 ∧ V 1 10 ≤ 900000 := by have := h.ch; omega
  have hch2 : 0 ≤ V 1 10 ∧ V 1 10 ≤ 1000000 := by omega
  have h17 : 0 ≤ V 1 7 ∧ V 1 7 ≤ 10 := by rw [hd.w7]; exact hd.i0
  have h18 : 0 ≤ V 1 8 ∧ V 1 8 ≤ 4 := by rw [hd.w8]; exact hd.i3
  have h55 : 0 ≤ V 5 5 ∧ V 5 5 ≤ 16 := by rw [hd.w55]; exact hd.i1
  have h56 : 0 ≤ V 5 6 ∧ V 5 6 ≤ 999 := by rw [hd.w56]; exact hd.i2
  have h11 : 0 ≤ V 11 1 ∧ V 11 1 < 20 ∧ 0 ≤ V 11 2 ∧ V 11 2 ≤ 20 := ⟨hd.w111.1, hd.w111.2, by rw [hd.w112]; exact hd.i5.1, by rw [hd.w112]; exact hd.i5.2⟩
  have h10 : ∀ t, 0 ≤ V 10 t ∧ V 10 t < 65536 := hB.2.2.2.1
  have h134 : 0 ≤ V 134 4 ∧ V 134 4 ≤ 12 ∧ 0 ≤ V 134 5 ∧ V 134 5 ≤ 9 ∧ 1 ≤ V 134 6 ∧ V 134 6 ≤ 99 := by rw [hd.w134.1, hd.w134.2.1, hd.w134.2.2]; exact ⟨hd.i6.1, hd.i6.2, hd.i7⟩
  have hP : ∀ b, 0 ≤ b → b < 16 → 0 ≤ V 309 (30 + 6 * b + 5) := hM.1.2.2.2.2.2.2
  have hQt : ∀ s, 0 ≤ s → s < V 309 6 → 0 ≤ V 309 (126 + 4 * s) ∧ V 309 (126 + 4 * s) < 10 ∧ 0 ≤ V 309 (126 + 4 * s + 2) ∧ V 309 (126 + 4 * s + 2) ≤ 999 ∧ 0 ≤ V 309 (126 + 4 * s + 3) ∧ V 309 (126 + 4 * s + 3) ≤ 999 := fun s s0 s1 => by
    have z := hM.2.2.2.2.2.2.2.2.2 s s0 s1
    have := hd.i0
    omega
  refine x_al1 dL_law_925 ?_
  refine x_arg hc dL_law_926 dL_law_927 dL_law_928 dL_law_929 dL_law_930 (by omega) (by omega) ?_
  refine x_arg hc dL_law_931 dL_law_932 dL_law_933 dL_law_934 dL_law_935 (by omega) (by omega) ?_
  refine x_cVix mm_X10_round ml_L_123 dL_law_936 (c_X10_round (xv xs (i + 1)) (xv xs (i + 2)) (V 309) hS hW hB hM h.ro.1 h.ro.2 hch2 h.ro.2.2.1 (xv_r _ _) (xv_r _ _)) (sh_0 hS) (lq_0 hS) (fun r V1 q => ?_) (hf := ⟨by omega, by omega⟩)
  have f : ∀ q : Nat, q < 287 ∨ 307 < q → V1 q = V q := fun y hq => q.2.1 y (by omega)
  have e9 := f 309 (by omega)
  have e11 := f 311 (by omega)
  have e14 := f 314 (by omega)
  have e16 := f 316 (by omega)
  have e23 := f 323 (by omega)
  have hca : Ca (V 309) (V 311) V1 := ⟨(Sh_f (q.2.1 1 (by omega)) (fun z a b => q.2.1 z (by omega)) h.sh), (Ps_f (q.2.1 1 (by omega)) (fun z a b => q.2.1 z (by omega)) h.ps), q.2.2⟩
  refine x_al2 dL_law_939 ?_
  refine x_arg hc dL_law_940 dL_law_941 dL_law_942 dL_law_943 dL_law_944 (by omega) (by omega) ?_
  refine x_arg hc dL_law_945 dL_law_946 dL_law_947 dL_law_948 dL_law_949 (by omega) (by omega) ?_
  refine x_cVig mm_X11_round ml_L_126 dL_law_950 (c_X11_round (xv xs (i + 1)) (xv xs (i + 2)) hS (by rw [e9]; exact hA) (by rw [e9]; exact hd.i0) (by rw [e14]; exact hNm) (by rw [e16]; exact hTr) (by rw [e23]; exact hz) (xv_r _ _) (xv_r _ _)) (sh_308 hS) (lq_308 hS) (fun r2 V2 g1 g2 => ?_) (hf := ⟨by omega, by omega⟩)
  rw [e9] at g1
  refine x_icmpS (tgt := 1060) dL_law_953 (RoR_det q.1 g1) ?_
  exact K _ _ _ _ (INV_q h f hca (AskM_G g2)) (by omega) (by omega)
set_option maxRecDepth 100000 in
set_option maxHeartbeats 4000000 in
theorem law_16 {Γ : Ctx} {B : Bs} {nm : String} {b n : Nat} {xs : Nat → Int32} {N i : Int} {kc ks : Nat} {S : Stt} {V : Va} (hc : Scp Γ B b n xs) (h : INV N S V) (hN : 0 ≤ N ∧ N ≤ 512) (hi : 0 ≤ i ∧ i + 6 ≤ n) (hkc : kc ≤ 5000 ∧ ks ≤ 1000000) (K : ∀ (S' : Stt) (V' : Va) (kc' ks' : Nat), INV (N + 1) S' V' → kc' ≤ kc + 6 → ks' ≤ ks + 428 → X Γ B RL nm cL_law 4 (some .boolean) 26 600000 7302250 1060 [some (.ref b), some (vR B 0), some (vR B 308), some (vI i)] [] kc' ks' S' V') : X Γ B RL nm cL_law 4 (some .boolean) 26 600000 7302250 646 [some (.ref b), some (vR B 0), some (vR B 308), some (vI i)] [] kc ks S V := by
  obtain ⟨hW, hB, hM⟩ := h.now
  have hd := Hd1_of hW hM
  have hS := h.st
  have hA : AB (V 309) := hM.1.1
  have hX : AB (V 311) := h.ab.1
  have hNm : AB (V 314) := h.ab.2.2.1
  have hTr : TRb (V 316) := h.ab.2.2.2.1
  have hz : TRb (V 323) := h.ab.2.2.2.2
  have hch : 0 ≤ V 1 10 ∧ V 1 10 ≤ 900000 := by have := h.ch; omega
  have hch2 : 0 ≤ V 1 10 ∧ V 1 10 ≤ 1000000 := by omega
  have h17 : 0 ≤ V 1 7 ∧ V 1 7 ≤ 10 := by rw [hd.w7]; exact hd.i0
  have h18 : 0 ≤ V 1 8 ∧ V 1 8 ≤ 4 := by rw [hd.w8]; exact hd.i3
  have h55 : 0 ≤ V 5 5 ∧ V 5 5 ≤ 16 := by rw [hd.w55]; exact hd.i1
  have h56 : 0 ≤ V 5 6 ∧ V 5 6 ≤ 999 := by rw [hd.w56]; exact hd.i2
  have h11 : 0 ≤ V 11 1 ∧ V 11 1 < 20 ∧ 0 ≤ V 11 2 ∧ V 11 2 ≤ 20 := ⟨hd.w111.1, hd.w111.2, by rw [hd.w112]; exact hd.i5.1, by rw [hd.w112]; exact hd.i5.2⟩
  have h10 : ∀ t, 0 ≤ V 10 t ∧ V 10 t < 65536 := hB.2.2.2.1
  have h134 : 0 ≤ V 134 4 ∧ V 134 4 ≤ 12 ∧ 0 ≤ V 134 5 ∧ V 134 5 ≤ 9 ∧ 1 ≤ V 134 6 ∧ V 134 6 ≤ 99 := by rw [hd.w134.1, hd.w134.2.1, hd.w134.2.2]; exact ⟨hd.i6.1, hd.i6.2, hd.i7⟩
  have hP : ∀ b, 0 ≤ b → b < 16 → 0 ≤ V 309 (30 + 6 * b + 5) := hM.1.2.2.2.2.2.2
  have hQt : ∀ s, 0 ≤ s → s < V 309 6 → 0 ≤ V 309 (126 + 4 * s) ∧ V 309 (126 + 4 * s) < 10 ∧ 0 ≤ V 309 (126 + 4 * s + 2) ∧ V 309 (126 + 4 * s + 2) ≤ 999 ∧ 0 ≤ V 309 (126 + 4 * s + 3) ∧ V 309 (126 + 4 * s + 3) ≤ 999 := fun s s0 s1 => by
    have z := hM.2.2.2.2.2.2.2.2.2 s s0 s1
    have := hd.i0
    omega
  refine x_al1 dL_law_646 ?_
  refine x_arg hc dL_law_647 dL_law_648 dL_law_649 dL_law_650 dL_law_651 (by omega) (by omega) ?_
  refine x_arg hc dL_law_652 dL_law_653 dL_law_654 dL_law_655 dL_law_656 (by omega) (by omega) ?_
  refine x_cVix mm_X10_saints ml_L_84 dL_law_657 (c_X10_saints (xv xs (i + 1)) (xv xs (i + 2)) (V 309) (V 311) hS hW hB hM h.T hch2 h.sh.1 h.sh.2 (xv_r _ _) (xv_r _ _)) (sh_0 hS) (lq_0 hS) (fun r V1 q => ?_) (hf := ⟨by omega, by omega⟩)
  have f : ∀ q : Nat, q < 287 ∨ 307 < q → V1 q = V q := fun y hq => q.2.1 y (by omega)
  have e9 := f 309 (by omega)
  have e11 := f 311 (by omega)
  have e14 := f 314 (by omega)
  have e16 := f 316 (by omega)
  have e23 := f 323 (by omega)
  have hca : Ca (V 309) (V 311) V1 := ⟨q.2.2, (Ps_f (q.2.1 1 (by omega)) (fun z a b => q.2.1 z (by omega)) h.ps), (Rd_f (q.2.1 1 (by omega)) (fun z a b => q.2.1 z (by omega)) h.ro)⟩
  refine x_al2 dL_law_660 ?_
  refine x_arg hc dL_law_661 dL_law_662 dL_law_663 dL_law_664 dL_law_665 (by omega) (by omega) ?_
  refine x_arg hc dL_law_666 dL_law_667 dL_law_668 dL_law_669 dL_law_670 (by omega) (by omega) ?_
  refine x_cVig mm_X11_saints ml_L_87 dL_law_671 (c_X11_saints (xv xs (i + 1)) (xv xs (i + 2)) hS (by rw [e9]; exact hA) (by rw [e11]; exact hX) (by rw [e9]; exact hd.i4) (by rw [e9, e11]; exact h.W) (by rw [e14]; exact hNm) (by rw [e16]; exact hTr) (by rw [e23]; exact hz) (by rw [e9]; exact hd.i0) (by rw [e9]; exact hd.i1) (by rw [e9, e11]; exact fun k => mMany_1 h.tx hM.2.1.2.2 k) (xv_r _ _) (xv_r _ _)) (sh_308 hS) (lq_308 hS) (fun r2 V2 g1 g2 => ?_) (hf := ⟨by omega, by omega⟩)
  rw [e9, e11] at g1
  refine x_icmpS (tgt := 1060) dL_law_674 (SaR_det q.1 g1) ?_
  exact K _ _ _ _ (INV_q h f hca (AskM_G g2)) (by omega) (by omega)
set_option maxRecDepth 100000 in
set_option maxHeartbeats 4000000 in
theorem law_21 {Γ : Ctx} {B : Bs} {nm : String} {b n : Nat} {xs : Nat → Int32} {N i : Int} {kc ks : Nat} {S : Stt} {V : Va} (hc : Scp Γ B b n xs) (h : INV N S V) (hN : 0 ≤ N ∧ N ≤ 512) (hi : 0 ≤ i ∧ i + 6 ≤ n) (hkc : kc ≤ 5000 ∧ ks ≤ 1000000) (K : ∀ (S' : Stt) (V' : Va) (kc' ks' : Nat), INV (N + 1) S' V' → kc' ≤ kc + 6 → ks' ≤ ks + 428 → X Γ B RL nm cL_law 4 (some .boolean) 26 600000 7302250 1060 [some (.ref b), some (vR B 0), some (vR B 308), some (vI i)] [] kc' ks' S' V') : X Γ B RL nm cL_law 4 (some .boolean) 26 600000 7302250 811 [some (.ref b), some (vR B 0), some (vR B 308), some (vI i)] [] kc ks S V := by
  obtain ⟨hW, hB, hM⟩ := h.now
  have hd := Hd1_of hW hM
  have hS := h.st
  have hA : AB (V 309) := hM.1.1
  have hX : AB (V 311) := h.ab.1
  have hNm : AB (V 314) := h.ab.2.2.1
  have hTr : TRb (V 316) := h.ab.2.2.2.1
  have hz : TRb (V 323) := h.ab.2.2.2.2
  have hch : 0 ≤ V 1 10 ∧ V 1 10 ≤ 900000 := by have := h.ch; omega
  have hch2 : 0 ≤ V 1 10 ∧ V 1 10 ≤ 1000000 := by omega
  have h17 : 0 ≤ V 1 7 ∧ V 1 7 ≤ 10 := by rw [hd.w7]; exact hd.i0
  have h18 : 0 ≤ V 1 8 ∧ V 1 8 ≤ 4 := by rw [hd.w8]; exact hd.i3
  have h55 : 0 ≤ V 5 5 ∧ V 5 5 ≤ 16 := by rw [hd.w55]; exact hd.i1
  have h56 : 0 ≤ V 5 6 ∧ V 5 6 ≤ 999 := by rw [hd.w56]; exact hd.i2
  have h11 : 0 ≤ V 11 1 ∧ V 11 1 < 20 ∧ 0 ≤ V 11 2 ∧ V 11 2 ≤ 20 := ⟨hd.w111.1, hd.w111.2, by rw [hd.w112]; exact hd.i5.1, by rw [hd.w112]; exact hd.i5.2⟩
  have h10 : ∀ t, 0 ≤ V 10 t ∧ V 10 t < 65536 := hB.2.2.2.1
  have h134 : 0 ≤ V 134 4 ∧ V 134 4 ≤ 12 ∧ 0 ≤ V 134 5 ∧ V 134 5 ≤ 9 ∧ 1 ≤ V 134 6 ∧ V 134 6 ≤ 99 := by rw [hd.w134.1, hd.w134.2.1, hd.w134.2.2]; exact ⟨hd.i6.1, hd.i6.2, hd.i7⟩
  have hP : ∀ b, 0 ≤ b → b < 16 → 0 ≤ V 309 (30 + 6 * b + 5) := hM.1.2.2.2.2.2.2
  have hQt : ∀ s, 0 ≤ s → s < V 309 6 → 0 ≤ V 309 (126 + 4 * s) ∧ V 309 (126 + 4 * s) < 10 ∧ 0 ≤ V 309 (126 + 4 * s + 2) ∧ V 309 (126 + 4 * s + 2) ≤ 999 ∧ 0 ≤ V 309 (126 + 4 * s + 3) ∧ V 309 (126 + 4 * s + 3) ≤ 999 := fun s s0 s1 => by
    have z := hM.2.2.2.2.2.2.2.2.2 s s0 s1
    have := hd.i0
    omega
  refine x_al1 dL_law_811 ?_
  refine x_arg hc dL_law_812 dL_law_813 dL_law_814 dL_law_815 dL_law_816 (by omega) (by omega) ?_
  refine x_cViR mm_X10_best ml_L_105 dL_law_817 (c_X10_best (xv xs (i + 1)) (V 309) hS hW hB hM hch2 h.ps (xv_r _ _)) (sh_0 hS) (lq_0 hS) (fun V1 q => ?_) (hf := ⟨by omega, by omega⟩)
  have f : ∀ q : Nat, q < 287 ∨ 307 < q → V1 q = V q := fun y hq => q.1 y (by omega)
  have e9 := f 309 (by omega)
  have e11 := f 311 (by omega)
  have e14 := f 314 (by omega)
  have e16 := f 316 (by omega)
  have e23 := f 323 (by omega)
  have hca : Ca (V 309) (V 311) V1 := ⟨(Sh_f (q.1 1 (by omega)) (fun z a b => q.1 z (by omega)) h.sh), q.2, (Rd_f (q.1 1 (by omega)) (fun z a b => q.1 z (by omega)) h.ro)⟩
  refine x_al2 dL_law_820 ?_
  refine x_arg hc dL_law_821 dL_law_822 dL_law_823 dL_law_824 dL_law_825 (by omega) (by omega) ?_
  refine x_cVi mm_X11_best ml_L_108 dL_law_826 (c_X11_best (xv xs (i + 1)) hS (by rw [e9]; exact hA) (by rw [e9]; exact hd.i6) (by rw [e9]; exact hd.i7) (by rw [e9]; exact hQt) (by rw [e23]; exact hz) (xv_r _ _)) (sh_308 hS) (lq_308 hS) ?_ (hf := ⟨by omega, by omega⟩)
  rw [e9]
  refine x_icmpS (tgt := 1060) dL_law_829 rfl ?_
  exact K _ _ _ _ (INV_q h f hca (AskM_5 (by rw [e14]; exact hNm) (by rw [e16]; exact hTr) (by first | exact TRb_smK (by rw [e23]; exact hz) | (split; (exact TRb_smK (by rw [e23]; exact hz)); exact (by rw [e23]; exact hz))))) (by omega) (by omega)
set_option maxRecDepth 100000 in
set_option maxHeartbeats 4000000 in
theorem law_23 {Γ : Ctx} {B : Bs} {nm : String} {b n : Nat} {xs : Nat → Int32} {N i : Int} {kc ks : Nat} {S : Stt} {V : Va} (hc : Scp Γ B b n xs) (h : INV N S V) (hN : 0 ≤ N ∧ N ≤ 512) (hi : 0 ≤ i ∧ i + 6 ≤ n) (hkc : kc ≤ 5000 ∧ ks ≤ 1000000) (K : ∀ (S' : Stt) (V' : Va) (kc' ks' : Nat), INV (N + 1) S' V' → kc' ≤ kc + 6 → ks' ≤ ks + 428 → X Γ B RL nm cL_law 4 (some .boolean) 26 600000 7302250 1060 [some (.ref b), some (vR B 0), some (vR B 308), some (vI i)] [] kc' ks' S' V') : X Γ B RL nm cL_law 4 (some .boolean) 26 600000 7302250 848 [some (.ref b), some (vR B 0), some (vR B 308), some (vI i)] [] kc ks S V := by
  obtain ⟨hW, hB, hM⟩ := h.now
  have hd := Hd1_of hW hM
  have hS := h.st
  have hA : AB (V 309) := hM.1.1
  have hX : AB (V 311) := h.ab.1
  have hNm : AB (V 314) := h.ab.2.2.1
  have hTr : TRb (V 316) := h.ab.2.2.2.1
  have hz : TRb (V 323) := h.ab.2.2.2.2
  have hch : 0 ≤ V 1 10 ∧ V 1 10 ≤ 900000 := by have := h.ch; omega
  have hch2 : 0 ≤ V 1 10 ∧ V 1 10 ≤ 1000000 := by omega
  have h17 : 0 ≤ V 1 7 ∧ V 1 7 ≤ 10 := by rw [hd.w7]; exact hd.i0
  have h18 : 0 ≤ V 1 8 ∧ V 1 8 ≤ 4 := by rw [hd.w8]; exact hd.i3
  have h55 : 0 ≤ V 5 5 ∧ V 5 5 ≤ 16 := by rw [hd.w55]; exact hd.i1
  have h56 : 0 ≤ V 5 6 ∧ V 5 6 ≤ 999 := by rw [hd.w56]; exact hd.i2
  have h11 : 0 ≤ V 11 1 ∧ V 11 1 < 20 ∧ 0 ≤ V 11 2 ∧ V 11 2 ≤ 20 := ⟨hd.w111.1, hd.w111.2, by rw [hd.w112]; exact hd.i5.1, by rw [hd.w112]; exact hd.i5.2⟩
  have h10 : ∀ t, 0 ≤ V 10 t ∧ V 10 t < 65536 := hB.2.2.2.1
  have h134 : 0 ≤ V 134 4 ∧ V 134 4 ≤ 12 ∧ 0 ≤ V 134 5 ∧ V 134 5 ≤ 9 ∧ 1 ≤ V 134 6 ∧ V 134 6 ≤ 99 := by rw [hd.w134.1, hd.w134.2.1, hd.w134.2.2]; exact ⟨hd.i6.1, hd.i6.2, hd.i7⟩
  have hP : ∀ b, 0 ≤ b → b < 16 → 0 ≤ V 309 (30 + 6 * b + 5) := hM.1.2.2.2.2.2.2
  have hQt : ∀ s, 0 ≤ s → s < V 309 6 → 0 ≤ V 309 (126 + 4 * s) ∧ V 309 (126 + 4 * s) < 10 ∧ 0 ≤ V 309 (126 + 4 * s + 2) ∧ V 309 (126 + 4 * s + 2) ≤ 999 ∧ 0 ≤ V 309 (126 + 4 * s + 3) ∧ V 309 (126 + 4 * s + 3) ≤ 999 := fun s s0 s1 => by
    have z := hM.2.2.2.2.2.2.2.2.2 s s0 s1
    have := hd.i0
    omega
  refine x_al1 dL_law_848 ?_
  refine x_arg hc dL_law_849 dL_law_850 dL_law_851 dL_law_852 dL_law_853 (by omega) (by omega) ?_
  refine x_cViR mm_X10_led ml_L_114 dL_law_854 (c_X10_led (xv xs (i + 1)) (V 309) hS hW hB hM hch2 h.ps (xv_r _ _)) (sh_0 hS) (lq_0 hS) (fun V1 q => ?_) (hf := ⟨by omega, by omega⟩)
  have f : ∀ q : Nat, q < 287 ∨ 307 < q → V1 q = V q := fun y hq => q.1 y (by omega)
  have e9 := f 309 (by omega)
  have e11 := f 311 (by omega)
  have e14 := f 314 (by omega)
  have e16 := f 316 (by omega)
  have e23 := f 323 (by omega)
  have hca : Ca (V 309) (V 311) V1 := ⟨(Sh_f (q.1 1 (by omega)) (fun z a b => q.1 z (by omega)) h.sh), q.2, (Rd_f (q.1 1 (by omega)) (fun z a b => q.1 z (by omega)) h.ro)⟩
  refine x_al2 dL_law_857 ?_
  refine x_arg hc dL_law_858 dL_law_859 dL_law_860 dL_law_861 dL_law_862 (by omega) (by omega) ?_
  refine x_cVi mm_X11_led ml_L_117 dL_law_863 (c_X11_led (xv xs (i + 1)) hS (by rw [e9]; exact hA) (by rw [e9]; exact hd.i6) (by rw [e9]; exact hd.i7) (by rw [e9]; exact hQt) (by rw [e23]; exact hz) (xv_r _ _)) (sh_308 hS) (lq_308 hS) ?_ (hf := ⟨by omega, by omega⟩)
  rw [e9]
  refine x_icmpS (tgt := 1060) dL_law_866 rfl ?_
  exact K _ _ _ _ (INV_q h f hca (AskM_5 (by rw [e14]; exact hNm) (by rw [e16]; exact hTr) (by first | exact TRb_smK (by rw [e23]; exact hz) | (split; (exact TRb_smK (by rw [e23]; exact hz)); exact (by rw [e23]; exact hz))))) (by omega) (by omega)
set_option maxRecDepth 100000 in
set_option maxHeartbeats 4000000 in
theorem law_22 {Γ : Ctx} {B : Bs} {nm : String} {b n : Nat} {xs : Nat → Int32} {N i : Int} {kc ks : Nat} {S : Stt} {V : Va} (hc : Scp Γ B b n xs) (h : INV N S V) (hN : 0 ≤ N ∧ N ≤ 512) (hi : 0 ≤ i ∧ i + 6 ≤ n) (hkc : kc ≤ 5000 ∧ ks ≤ 1000000) (K : ∀ (S' : Stt) (V' : Va) (kc' ks' : Nat), INV (N + 1) S' V' → kc' ≤ kc + 6 → ks' ≤ ks + 428 → X Γ B RL nm cL_law 4 (some .boolean) 26 600000 7302250 1060 [some (.ref b), some (vR B 0), some (vR B 308), some (vI i)] [] kc' ks' S' V') : X Γ B RL nm cL_law 4 (some .boolean) 26 600000 7302250 834 [some (.ref b), some (vR B 0), some (vR B 308), some (vI i)] [] kc ks S V := by
  obtain ⟨hW, hB, hM⟩ := h.now
  have hd := Hd1_of hW hM
  have hS := h.st
  have hA : AB (V 309) := hM.1.1
  have hX : AB (V 311) := h.ab.1
  have hNm : AB (V 314) := h.ab.2.2.1
  have hTr : TRb (V 316) := h.ab.2.2.2.1
  have hz : TRb (V 323) := h.ab.2.2.2.2
  have hch : 0 ≤ V 1 10 ∧ V 1 10 ≤ 900000 := by have := h.ch; omega
  have hch2 : 0 ≤ V 1 10 ∧ V 1 10 ≤ 1000000 := by omega
  have h17 : 0 ≤ V 1 7 ∧ V 1 7 ≤ 10 := by rw [hd.w7]; exact hd.i0
  have h18 : 0 ≤ V 1 8 ∧ V 1 8 ≤ 4 := by rw [hd.w8]; exact hd.i3
  have h55 : 0 ≤ V 5 5 ∧ V 5 5 ≤ 16 := by rw [hd.w55]; exact hd.i1
  have h56 : 0 ≤ V 5 6 ∧ V 5 6 ≤ 999 := by rw [hd.w56]; exact hd.i2
  have h11 : 0 ≤ V 11 1 ∧ V 11 1 < 20 ∧ 0 ≤ V 11 2 ∧ V 11 2 ≤ 20 := ⟨hd.w111.1, hd.w111.2, by rw [hd.w112]; exact hd.i5.1, by rw [hd.w112]; exact hd.i5.2⟩
  have h10 : ∀ t, 0 ≤ V 10 t ∧ V 10 t < 65536 := hB.2.2.2.1
  have h134 : 0 ≤ V 134 4 ∧ V 134 4 ≤ 12 ∧ 0 ≤ V 134 5 ∧ V 134 5 ≤ 9 ∧ 1 ≤ V 134 6 ∧ V 134 6 ≤ 99 := by rw [hd.w134.1, hd.w134.2.1, hd.w134.2.2]; exact ⟨hd.i6.1, hd.i6.2, hd.i7⟩
  have hP : ∀ b, 0 ≤ b → b < 16 → 0 ≤ V 309 (30 + 6 * b + 5) := hM.1.2.2.2.2.2.2
  have hQt : ∀ s, 0 ≤ s → s < V 309 6 → 0 ≤ V 309 (126 + 4 * s) ∧ V 309 (126 + 4 * s) < 10 ∧ 0 ≤ V 309 (126 + 4 * s + 2) ∧ V 309 (126 + 4 * s + 2) ≤ 999 ∧ 0 ≤ V 309 (126 + 4 * s + 3) ∧ V 309 (126 + 4 * s + 3) ≤ 999 := fun s s0 s1 => by
    have z := hM.2.2.2.2.2.2.2.2.2 s s0 s1
    have := hd.i0
    omega
  refine x_al1 dL_law_834 ?_
  refine x_cVlR mm_X10_histories ml_L_109 dL_law_835 (c_X10_histories  (V 309) hS hW hB hM hch2 h.ps ) (sh_0 hS) (lq_0 hS) (fun V1 q => ?_) (hf := ⟨by omega, by omega⟩)
  have f : ∀ q : Nat, q < 287 ∨ 307 < q → V1 q = V q := fun y hq => q.1 y (by omega)
  have e9 := f 309 (by omega)
  have e11 := f 311 (by omega)
  have e14 := f 314 (by omega)
  have e16 := f 316 (by omega)
  have e23 := f 323 (by omega)
  have hca : Ca (V 309) (V 311) V1 := ⟨(Sh_f (q.1 1 (by omega)) (fun z a b => q.1 z (by omega)) h.sh), q.2, (Rd_f (q.1 1 (by omega)) (fun z a b => q.1 z (by omega)) h.ro)⟩
  refine x_al2 dL_law_838 ?_
  refine x_cVl mm_X11_histories ml_L_113 dL_law_839 (c_X11_histories  hS (by rw [e9]; exact hA) (by rw [e9]; exact hd.i6) (by rw [e9]; exact hd.i7) (by rw [e9]; exact hQt) (by rw [e23]; exact hz) ) (sh_308 hS) (lq_308 hS) ?_ (hf := ⟨by omega, by omega⟩)
  rw [e9]
  refine x_lcmpS (tgt := 1060) dL_law_842 dL_law_843 rfl ?_
  exact K _ _ _ _ (INV_q h f hca (AskM_5 (by rw [e14]; exact hNm) (by rw [e16]; exact hTr) (by first | exact TRb_smK (by rw [e23]; exact hz) | (split; (exact TRb_smK (by rw [e23]; exact hz)); exact (by rw [e23]; exact hz))))) (by omega) (by omega)
set_option maxRecDepth 100000 in
set_option maxHeartbeats 4000000 in
theorem law_27 {Γ : Ctx} {B : Bs} {nm : String} {b n : Nat} {xs : Nat → Int32} {N i : Int} {kc ks : Nat} {S : Stt} {V : Va} (hc : Scp Γ B b n xs) (h : INV N S V) (hN : 0 ≤ N ∧ N ≤ 512) (hi : 0 ≤ i ∧ i + 6 ≤ n) (hkc : kc ≤ 5000 ∧ ks ≤ 1000000) (K : ∀ (S' : Stt) (V' : Va) (kc' ks' : Nat), INV (N + 1) S' V' → kc' ≤ kc + 6 → ks' ≤ ks + 428 → X Γ B RL nm cL_law 4 (some .boolean) 26 600000 7302250 1060 [some (.ref b), some (vR B 0), some (vR B 308), some (vI i)] [] kc' ks' S' V') : X Γ B RL nm cL_law 4 (some .boolean) 26 600000 7302250 1011 [some (.ref b), some (vR B 0), some (vR B 308), some (vI i)] [] kc ks S V := by
  obtain ⟨hW, hB, hM⟩ := h.now
  have hd := Hd1_of hW hM
  have hS := h.st
  have hA : AB (V 309) := hM.1.1
  have hX : AB (V 311) := h.ab.1
  have hNm : AB (V 314) := h.ab.2.2.1
  have hTr : TRb (V 316) := h.ab.2.2.2.1
  have hz : TRb (V 323) := h.ab.2.2.2.2
  have hch : 0 ≤ V 1 10 ∧ V 1 10 ≤ 900000 := by have := h.ch; omega
  have hch2 : 0 ≤ V 1 10 ∧ V 1 10 ≤ 1000000 := by omega
  have h17 : 0 ≤ V 1 7 ∧ V 1 7 ≤ 10 := by rw [hd.w7]; exact hd.i0
  have h18 : 0 ≤ V 1 8 ∧ V 1 8 ≤ 4 := by rw [hd.w8]; exact hd.i3
  have h55 : 0 ≤ V 5 5 ∧ V 5 5 ≤ 16 := by rw [hd.w55]; exact hd.i1
  have h56 : 0 ≤ V 5 6 ∧ V 5 6 ≤ 999 := by rw [hd.w56]; exact hd.i2
  have h11 : 0 ≤ V 11 1 ∧ V 11 1 < 20 ∧ 0 ≤ V 11 2 ∧ V 11 2 ≤ 20 := ⟨hd.w111.1, hd.w111.2, by rw [hd.w112]; exact hd.i5.1, by rw [hd.w112]; exact hd.i5.2⟩
  have h10 : ∀ t, 0 ≤ V 10 t ∧ V 10 t < 65536 := hB.2.2.2.1
  have h134 : 0 ≤ V 134 4 ∧ V 134 4 ≤ 12 ∧ 0 ≤ V 134 5 ∧ V 134 5 ≤ 9 ∧ 1 ≤ V 134 6 ∧ V 134 6 ≤ 99 := by rw [hd.w134.1, hd.w134.2.1, hd.w134.2.2]; exact ⟨hd.i6.1, hd.i6.2, hd.i7⟩
  have hP : ∀ b, 0 ≤ b → b < 16 → 0 ≤ V 309 (30 + 6 * b + 5) := hM.1.2.2.2.2.2.2
  have hQt : ∀ s, 0 ≤ s → s < V 309 6 → 0 ≤ V 309 (126 + 4 * s) ∧ V 309 (126 + 4 * s) < 10 ∧ 0 ≤ V 309 (126 + 4 * s + 2) ∧ V 309 (126 + 4 * s + 2) ≤ 999 ∧ 0 ≤ V 309 (126 + 4 * s + 3) ∧ V 309 (126 + 4 * s + 3) ≤ 999 := fun s s0 s1 => by
    have z := hM.2.2.2.2.2.2.2.2.2 s s0 s1
    have := hd.i0
    omega
  refine x_al1 dL_law_1011 ?_
  refine x_cViR mm_X10_image ml_L_131 dL_law_1012 (c_X10_image (V 309) hS h.img.2.1 hB hW hM (by have := h.ch; omega) h.tr) (sh_0 hS) (lq_0 hS) (fun V1 q => ?_) (hf := ⟨by omega, by omega⟩)
  have hS1 : Stat (tcpS S 271 133) := Stat_tcp hS (Or.inr rfl) (by decide)
  have e9 := q.2.2.1 309 (by omega)
  have e10 := q.2.2.1 310 (by omega)
  refine x_al2 dL_law_1015 ?_
  refine x_cVi mm_X11_image ml_L_134 dL_law_1016 (c_X11_image hS1) (sh_308 hS1) (lq_308 hS1) ?_ (hf := ⟨by omega, by omega⟩)
  rw [e9, e10]
  refine x_icmpS (tgt := 1060) dL_law_1019 rfl ?_
  exact K _ _ _ _ (INV_im h q.1 q.2.1 q.2.2.1 q.2.2.2) (by omega) (by omega)
set_option maxRecDepth 100000 in
set_option maxHeartbeats 4000000 in
theorem law_28 {Γ : Ctx} {B : Bs} {nm : String} {b n : Nat} {xs : Nat → Int32} {N i : Int} {kc ks : Nat} {S : Stt} {V : Va} (hc : Scp Γ B b n xs) (h : INV N S V) (hN : 0 ≤ N ∧ N ≤ 512) (hi : 0 ≤ i ∧ i + 6 ≤ n) (hkc : kc ≤ 5000 ∧ ks ≤ 1000000) (K : ∀ (S' : Stt) (V' : Va) (kc' ks' : Nat), INV (N + 1) S' V' → kc' ≤ kc + 6 → ks' ≤ ks + 428 → X Γ B RL nm cL_law 4 (some .boolean) 26 600000 7302250 1060 [some (.ref b), some (vR B 0), some (vR B 308), some (vI i)] [] kc' ks' S' V') : X Γ B RL nm cL_law 4 (some .boolean) 26 600000 7302250 1024 [some (.ref b), some (vR B 0), some (vR B 308), some (vI i)] [] kc ks S V := by
  obtain ⟨hW, hB, hM⟩ := h.now
  have hd := Hd1_of hW hM
  have hS := h.st
  have hA : AB (V 309) := hM.1.1
  have hX : AB (V 311) := h.ab.1
  have hNm : AB (V 314) := h.ab.2.2.1
  have hTr : TRb (V 316) := h.ab.2.2.2.1
  have hz : TRb (V 323) := h.ab.2.2.2.2
  have hch : 0 ≤ V 1 10 ∧ V 1 10 ≤ 900000 := by have := h.ch; omega
  have hch2 : 0 ≤ V 1 10 ∧ V 1 10 ≤ 1000000 := by omega
  have h17 : 0 ≤ V 1 7 ∧ V 1 7 ≤ 10 := by rw [hd.w7]; exact hd.i0
  have h18 : 0 ≤ V 1 8 ∧ V 1 8 ≤ 4 := by rw [hd.w8]; exact hd.i3
  have h55 : 0 ≤ V 5 5 ∧ V 5 5 ≤ 16 := by rw [hd.w55]; exact hd.i1
  have h56 : 0 ≤ V 5 6 ∧ V 5 6 ≤ 999 := by rw [hd.w56]; exact hd.i2
  have h11 : 0 ≤ V 11 1 ∧ V 11 1 < 20 ∧ 0 ≤ V 11 2 ∧ V 11 2 ≤ 20 := ⟨hd.w111.1, hd.w111.2, by rw [hd.w112]; exact hd.i5.1, by rw [hd.w112]; exact hd.i5.2⟩
  have h10 : ∀ t, 0 ≤ V 10 t ∧ V 10 t < 65536 := hB.2.2.2.1
  have h134 : 0 ≤ V 134 4 ∧ V 134 4 ≤ 12 ∧ 0 ≤ V 134 5 ∧ V 134 5 ≤ 9 ∧ 1 ≤ V 134 6 ∧ V 134 6 ≤ 99 := by rw [hd.w134.1, hd.w134.2.1, hd.w134.2.2]; exact ⟨hd.i6.1, hd.i6.2, hd.i7⟩
  have hP : ∀ b, 0 ≤ b → b < 16 → 0 ≤ V 309 (30 + 6 * b + 5) := hM.1.2.2.2.2.2.2
  have hQt : ∀ s, 0 ≤ s → s < V 309 6 → 0 ≤ V 309 (126 + 4 * s) ∧ V 309 (126 + 4 * s) < 10 ∧ 0 ≤ V 309 (126 + 4 * s + 2) ∧ V 309 (126 + 4 * s + 2) ≤ 999 ∧ 0 ≤ V 309 (126 + 4 * s + 3) ∧ V 309 (126 + 4 * s + 3) ≤ 999 := fun s s0 s1 => by
    have z := hM.2.2.2.2.2.2.2.2.2 s s0 s1
    have := hd.i0
    omega
  refine x_al1 dL_law_1024 ?_
  refine x_cViR mm_X10_back ml_L_135 dL_law_1025 (c_X10_back (V 310) hS hB h.img.2.1 h.img.1 h.img.2.2 hch2 h.tri) (sh_0 hS) (lq_0 hS) (fun V1 q => ?_) (hf := ⟨by omega, by omega⟩)
  have hS1 : Stat (tcpS S 133 271) := Stat_tcp hS (Or.inl rfl) (by decide)
  have e9 := q.2.2.1 309 (by omega)
  have e10 := q.2.2.1 310 (by omega)
  refine x_al2 dL_law_1028 ?_
  refine x_cVi mm_X11_back ml_L_138 dL_law_1029 (c_X11_back hS1) (sh_308 hS1) (lq_308 hS1) ?_ (hf := ⟨by omega, by omega⟩)
  rw [e9, e10]
  refine x_icmpS (tgt := 1060) dL_law_1032 rfl ?_
  exact K _ _ _ _ (INV_bk h q.1 q.2.1 q.2.2.1 q.2.2.2) (by omega) (by omega)
