def rAt (S : Stt) (V : Va) (m : Nat) : Option Value → Stt → Va → Prop := fun v S' V' => some (vI (V 1 8)) = v ∧ S' = sq2 S 133 (V 1 8) (some m) ∧ V' = up V 1 (ua (ua (V 1) 10 (V 1 10 + 1)) 8 (V 1 8 + 1))
set_option maxRecDepth 100000 in
set_option maxHeartbeats 4000000 in
theorem c_X9_addText {B : Bs} {S : Stt} {V : Va} (m : Nat) (hS : Stat S) (hs : S.1 m = (13, 0)) (hm : m < S.2.2) (h8 : 0 ≤ V 1 8 ∧ V 1 8 < 4) : C B yX9_addText cX9_addText 2 (some .int) 1 0 0 [vR B 1, vR B m] S V (rAt S V m) := by
  refine C.of [some (vR B 1), some (vR B m)] ?_
  intro Γ hQ
  refine x_al0 dX9_addText_0 ?_
  refine x_getI fl_X9_71 (sh_1 hS) (lq_1 hS) dX9_addText_1 ?_
  refine x_topI (a' := V 1 8) rfl ?_
  refine x_iconst dX9_addText_4 ?_
  refine x_icmp_lt (tgt := 10) dX9_addText_5 (inr (by omega)) (inr (by decide)) (fun c => ?_) (fun c => ?_)
  rotate_left
  · exact absurd c (by omega)
  refine x_al0 dX9_addText_10 ?_
  refine x_getR fl_X9_37 (sh_1 hS) (lq_1 hS) (rf_1_5 hS) dX9_addText_11 ?_
  refine x_al0 dX9_addText_14 ?_
  refine x_getI fl_X9_71 (sh_1 hS) (lq_1 hS) dX9_addText_15 ?_
  refine x_topI (a' := V 1 8) rfl ?_
  refine x_al1 dX9_addText_18 ?_
  refine x_tast (sh_133 hS) (lq_133 hS) h8.1 h8.2 hs hm dX9_addText_19 ?_
  obtain ⟨S1, hS1⟩ : ∃ z, z = sq2 S 133 (V 1 8) (some m) := ⟨_, rfl⟩
  rw [← hS1]
  have s1 : Stat S1 := by rw [hS1]; exact Stat_sq hS (Or.inl rfl) _ _
  refine x_al0 dX9_addText_20 ?_
  refine x_dup dX9_addText_21 ?_
  refine x_getI fl_X9_74 (sh_1 s1) (lq_1 s1) dX9_addText_22 ?_
  refine x_topI (a' := V 1 10) rfl ?_
  refine x_iconst dX9_addText_25 ?_
  refine x_iadd dX9_addText_26 ?_
  refine x_putI fl_X9_74 (sh_1 s1) (lq_1 s1) dX9_addText_27 ?_
  refine x_mem (V' := up V 1 (ua (V 1) 10 (V 1 10 + 1))) rfl ?_
  refine x_al0 dX9_addText_30 ?_
  refine x_dup dX9_addText_31 ?_
  refine x_getI fl_X9_71 (sh_1 s1) (lq_1 s1) dX9_addText_32 ?_
  refine x_topI (a' := V 1 8) rfl ?_
  refine x_dup_x1 dX9_addText_35 ?_
  refine x_iconst dX9_addText_36 ?_
  refine x_iadd dX9_addText_37 ?_
  refine x_putI fl_X9_71 (sh_1 s1) (lq_1 s1) dX9_addText_38 ?_
  refine x_mem (V' := up V 1 (ua (ua (V 1) 10 (V 1 10 + 1)) 8 (V 1 8 + 1))) (st2_up _ _ _ _ _) ?_
  exact x_iret hQ ⟨rfl, hS1, rfl⟩ dX9_addText_41
def rXt (B : Bs) (S : Stt) (V : Va) : Option Value → Stt → Va → Prop := fun v S' V' => (4 ≤ V 1 8 ∧ some (vI (-1)) = v ∧ S = S' ∧ V = V') ∨ (V 1 8 < 4 ∧ ∃ S1 V1 w, rRd B S V w S1 V1 ∧ ((w = some (vQ B none) ∧ some (vI (-1)) = v ∧ S1 = S' ∧ V1 = V') ∨ (w = some (vQ B (some S.2.2)) ∧ some (vI (V1 1 8)) = v ∧ S' = sq2 S1 133 (V1 1 8) (some S.2.2) ∧ V' = up V1 1 (ua (ua (V1 1) 10 (V1 1 10 + 1)) 8 (V1 1 8 + 1)))))
set_option maxRecDepth 100000 in
set_option maxHeartbeats 4000000 in
theorem c_X10_text {B : Bs} {S : Stt} {V : Va} (hS : Stat S) (hTp : ∀ k, 0 ≤ V 278 k ∧ V 278 k < 256) (hn : 0 ≤ V 277 1 ∧ V 277 1 ≤ 300) (h8 : 0 ≤ V 1 8 ∧ V 1 8 ≤ 4) : C B yX10_text cX10_text 2 (some .int) 25 6 428 [vR B 0] S V (rXt B S V) := by
  refine C.of [some (vR B 0), none] ?_
  intro Γ hQ
  refine x_al0 dX10_text_0 ?_
  refine x_getR fl_X10_12 (sh_0 hS) (lq_0 hS) (rf_0_0 hS) dX10_text_1 ?_
  refine x_getI fl_X10_78 (sh_1 hS) (lq_1 hS) dX10_text_4 ?_
  refine x_topI (a' := V 1 8) rfl ?_
  refine x_iconst dX10_text_7 ?_
  refine x_icmp_lt (tgt := 13) dX10_text_8 (inr (by omega)) (inr (by decide)) (fun c => ?_) (fun c => ?_)
  · refine x_al0 dX10_text_13 ?_
    refine x_getR fl_X10_22 (sh_0 hS) (lq_0 hS) (rf_0_2 hS) dX10_text_14 ?_
    refine x_callV mm_X3_read ml_X10_81 dX10_text_17 (As := []) (rest := []) (c_X3_read hS hTp hn) (sh_277 hS) (lq_277 hS) (fun w S1 V1 h => ?_)
    have h' := h
    obtain ⟨r1, r2, ⟨q, cs, a1, a2, a3, a4, a5, a6⟩ | ⟨q, cs, a1, a2, a3, a4, a5, a6, a7, a8, a9⟩⟩ := h
    · subst a5
      subst a6
      refine x_ns1 dX10_text_20 ?_
      refine x_nl1 dX10_text_21 ?_
      refine x_nonnullN dX10_text_22 ?_
      refine x_iconst dX10_text_25 ?_
      refine x_goto (tgt := 37) dX10_text_26 ?_
      exact x_iret hQ (Or.inr ⟨c, S, V1, _, h', Or.inl ⟨rfl, rfl, rfl, rfl⟩⟩) dX10_text_37
    · subst a4
      have e1 : V1 1 = V 1 := r2 1 (by have := hS.2.2; omega) (by omega)
      refine x_as1 (x := S.2.2) dX10_text_20 ?_
      refine x_al1 dX10_text_21 ?_
      refine x_nonnull (tgt := 29) dX10_text_22 ?_
      refine x_al0 dX10_text_29 ?_
      refine x_getR fl_X10_12 (sh_0 a5) (lq_0 a5) (rf_0_0 a5) dX10_text_30 ?_
      refine x_al1 dX10_text_33 ?_
      refine x_callV mm_X9_addText ml_X10_85 dX10_text_34 (As := [vR B S.2.2]) (rest := []) (c_X9_addText S.2.2 a5 a7.2.1 (by omega) (by rw [e1]; omega)) (sh_1 a5) (lq_1 a5) (fun w2 S2 V2 h2 => ?_)
      obtain ⟨b1, b2, b3⟩ := h2
      subst b1
      exact x_iret hQ (Or.inr ⟨c, S1, V1, _, h', Or.inr ⟨rfl, rfl, b2, b3⟩⟩) dX10_text_37
  · refine x_iconst dX10_text_11 ?_
    refine x_widen (kc' := 6) (ks' := 428) (by decide) (by decide) ?_
    exact x_iret hQ (Or.inl ⟨c, rfl, rfl, rfl⟩) dX10_text_12
