/-- a number as a row of ints holds it -/
def nrm (x : Int) : Int := (Int32.ofInt x).toInt
theorem nrm_r (x : Int) : InR (nrm x) := by
  obtain ⟨a, ha, e⟩ := iI_surj (Int32.ofInt x)
  simp only [nrm]
  rw [e, iI_toInt ha]
  exact ha
theorem nrm_in {x : Int} (h : InR x) : nrm x = x := iI_toInt h
section XNr
variable {Γ : Ctx} {B : Bs} {own nm : String} {cc : ByteArray} {nL : Nat} {ret : Option FieldType} {lev mc ms pc : Nat} {L : List (Option Value)} {st : List Value} {kc ks : Nat} {S : Stt} {V : Va}
theorem MR_nrm {D : va_G} {ca : Nat → ClassId} {H : Heap} {i n : Nat} (hs : S.1 i = (0, n)) (h : MR B D ca S V H) : MR B D ca S (up V i (fun k => nrm (V i k))) H := by
  have e : wl B ca S (up V i (fun k => nrm (V i k))) = wl B ca S V := by
    simp only [wl]
    apply List.map_congr_left
    intro j hj
    by_cases c : j = i
    · subst c
      rw [cE_i hs, cE_i hs, up_same]
      congr 6
      funext q
      simp only [nrm]
      rw [Int32.ofInt_toInt]
    · rw [cE_congr (V' := up V i (fun k => nrm (V i k))) (V := V) rfl rfl (up_ne c)]
  rw [MR, e]
  exact h
theorem x_norm {i n : Nat} (hs : S.1 i = (0, n)) (k : X Γ B own nm cc nL ret lev mc ms pc L st kc ks S (up V i (fun k => nrm (V i k)))) : X Γ B own nm cc nL ret lev mc ms pc L st kc ks S V := by
  obtain ⟨p, l, e, R, s, m, args, below, meth, c, Q, D, ca⟩ := Γ
  intro o H locs ls h1 h2 h3
  exact k o H locs ls (MR_nrm hs h1) h2 h3
end XNr
def rAt (S : Stt) (V : Va) (m : Nat) : Option Value → Stt → Va → Prop := fun v S' V' => some (vI (V 1 8)) = v ∧ S' = sq2 S 133 (V 1 8) (some m) ∧ V' = up V 1 (ua (ua (V 1) 10 (V 1 10 + 1)) 8 (V 1 8 + 1))
set_option maxRecDepth 100000 in
set_option maxHeartbeats 4000000 in
theorem c_X9_addText {B : Bs} {S : Stt} {V : Va} (m : Nat) (hS : Stat S) (hs : S.1 m = (13, 0)) (hm : m < S.2.2) (h8 : 0 ≤ V 1 8 ∧ V 1 8 < 4) : C B yX9_addText cX9_addText 2 (some .int) 1 0 0 [vR B 1, vR B m] S V (rAt S V m) := by
  refine C.of [some (vR B 1), some (vR B m)] ?_
  intro Γ hQ
  refine x_al0 dX9_addText_0 ?_
  refine x_getI fl_X9_71 (sh_1 hS) (lq_1 hS) dX9_addText_1 ?_
  refine x_topI (a' := V 1 8) rfl ?_
  refine x_iconst dX9_addText_4 ?_
  refine x_icmp_lt (tgt := 10) dX9_addText_5 (inr (by omega)) (inr (by decide)) (fun c => ?_) (fun c => ?_)
  rotate_left
  · exact absurd c (by omega)
  refine x_al0 dX9_addText_10 ?_
  refine x_getR fl_X9_37 (sh_1 hS) (lq_1 hS) (rf_1_5 hS) dX9_addText_11 ?_
  refine x_al0 dX9_addText_14 ?_
  refine x_getI fl_X9_71 (sh_1 hS) (lq_1 hS) dX9_addText_15 ?_
  refine x_topI (a' := V 1 8) rfl ?_
  refine x_al1 dX9_addText_18 ?_
  refine x_tast (sh_133 hS) (lq_133 hS) h8.1 h8.2 hs hm dX9_addText_19 ?_
  obtain ⟨S1, hS1⟩ : ∃ z, z = sq2 S 133 (V 1 8) (some m) := ⟨_, rfl⟩
  rw [← hS1]
  have s1 : Stat S1 := by rw [hS1]; exact Stat_sq hS (Or.inl rfl) _ _
  refine x_al0 dX9_addText_20 ?_
  refine x_dup dX9_addText_21 ?_
  refine x_getI fl_X9_74 (sh_1 s1) (lq_1 s1) dX9_addText_22 ?_
  refine x_topI (a' := V 1 10) rfl ?_
  refine x_iconst dX9_addText_25 ?_
  refine x_iadd dX9_addText_26 ?_
  refine x_putI fl_X9_74 (sh_1 s1) (lq_1 s1) dX9_addText_27 ?_
  refine x_mem (V' := up V 1 (ua (V 1) 10 (V 1 10 + 1))) rfl ?_
  refine x_al0 dX9_addText_30 ?_
  refine x_dup dX9_addText_31 ?_
  refine x_getI fl_X9_71 (sh_1 s1) (lq_1 s1) dX9_addText_32 ?_
  refine x_topI (a' := V 1 8) rfl ?_
  refine x_dup_x1 dX9_addText_35 ?_
  refine x_iconst dX9_addText_36 ?_
  refine x_iadd dX9_addText_37 ?_
  refine x_putI fl_X9_71 (sh_1 s1) (lq_1 s1) dX9_addText_38 ?_
  refine x_mem (V' := up V 1 (ua (ua (V 1) 10 (V 1 10 + 1)) 8 (V 1 8 + 1))) (st2_up _ _ _ _ _) ?_
  exact x_iret hQ ⟨rfl, hS1, rfl⟩ dX9_addText_41
def rXt (B : Bs) (S : Stt) (V : Va) : Option Value → Stt → Va → Prop := fun v S' V' => (4 ≤ V 1 8 ∧ some (vI (-1)) = v ∧ S = S' ∧ V = V') ∨ (V 1 8 < 4 ∧ ∃ S1 V1 w, rRd B S V w S1 V1 ∧ ((w = some (vQ B none) ∧ some (vI (-1)) = v ∧ S1 = S' ∧ V1 = V') ∨ (w = some (vQ B (some S.2.2)) ∧ some (vI (V1 1 8)) = v ∧ S' = sq2 S1 133 (V1 1 8) (some S.2.2) ∧ V' = up (up V1 1 (ua (ua (V1 1) 10 (V1 1 10 + 1)) 8 (V1 1 8 + 1))) (S.2.2 + 1) (fun k => nrm (V1 (S.2.2 + 1) k)))))
set_option maxRecDepth 100000 in
set_option maxHeartbeats 4000000 in
theorem c_X10_text {B : Bs} {S : Stt} {V : Va} (hS : Stat S) (hTp : ∀ k, 0 ≤ V 278 k ∧ V 278 k < 256) (hn : 0 ≤ V 277 1 ∧ V 277 1 ≤ 300) (h8 : 0 ≤ V 1 8 ∧ V 1 8 ≤ 4) : C B yX10_text cX10_text 2 (some .int) 25 6 428 [vR B 0] S V (rXt B S V) := by
  refine C.of [some (vR B 0), none] ?_
  intro Γ hQ
  refine x_al0 dX10_text_0 ?_
  refine x_getR fl_X10_12 (sh_0 hS) (lq_0 hS) (rf_0_0 hS) dX10_text_1 ?_
  refine x_getI fl_X10_78 (sh_1 hS) (lq_1 hS) dX10_text_4 ?_
  refine x_topI (a' := V 1 8) rfl ?_
  refine x_iconst dX10_text_7 ?_
  refine x_icmp_lt (tgt := 13) dX10_text_8 (inr (by omega)) (inr (by decide)) (fun c => ?_) (fun c => ?_)
  · refine x_al0 dX10_text_13 ?_
    refine x_getR fl_X10_22 (sh_0 hS) (lq_0 hS) (rf_0_2 hS) dX10_text_14 ?_
    refine x_callV mm_X3_read ml_X10_81 dX10_text_17 (As := []) (rest := []) (c_X3_read hS hTp hn) (sh_277 hS) (lq_277 hS) (fun w S1 V1 h => ?_)
    have h' := h
    obtain ⟨r1, r2, ⟨q, cs, a1, a2, a3, a4, a5, a6⟩ | ⟨q, cs, a1, a2, a3, a4, a5, a6, a7, a8, a9⟩⟩ := h
    · subst a5
      subst a6
      refine x_ns1 dX10_text_20 ?_
      refine x_nl1 dX10_text_21 ?_
      refine x_nonnullN dX10_text_22 ?_
      refine x_iconst dX10_text_25 ?_
      refine x_goto (tgt := 37) dX10_text_26 ?_
      exact x_iret hQ (Or.inr ⟨c, S, V1, _, h', Or.inl ⟨rfl, rfl, rfl, rfl⟩⟩) dX10_text_37
    · subst a4
      have e1 : V1 1 = V 1 := r2 1 (by have := hS.2.2; omega) (by omega)
      refine x_as1 (x := S.2.2) dX10_text_20 ?_
      refine x_al1 dX10_text_21 ?_
      refine x_nonnull (tgt := 29) dX10_text_22 ?_
      refine x_al0 dX10_text_29 ?_
      refine x_getR fl_X10_12 (sh_0 a5) (lq_0 a5) (rf_0_0 a5) dX10_text_30 ?_
      refine x_al1 dX10_text_33 ?_
      refine x_callV mm_X9_addText ml_X10_85 dX10_text_34 (As := [vR B S.2.2]) (rest := []) (c_X9_addText S.2.2 a5 a7.2.1 (by omega) (by rw [e1]; omega)) (sh_1 a5) (lq_1 a5) (fun w2 S2 V2 h2 => ?_)
      obtain ⟨b1, b2, b3⟩ := h2
      subst b1
      have h326 := hS.2.2
      refine x_norm (i := S.2.2 + 1) (n := 4 * cs.length) (by rw [b2]; exact a7.2.2.2.1) ?_
      refine x_iret hQ (Or.inr ⟨c, S1, V1, _, h', Or.inr ⟨rfl, rfl, b2, ?_⟩⟩) dX10_text_37
      rw [b3, show up V1 1 (ua (ua (V1 1) 10 (V1 1 10 + 1)) 8 (V1 1 8 + 1)) (S.2.2 + 1) = V1 (S.2.2 + 1) from up_ne (by omega)]
  · refine x_iconst dX10_text_11 ?_
    refine x_widen (kc' := 6) (ks' := 428) (by decide) (by decide) ?_
    exact x_iret hQ (Or.inl ⟨c, rfl, rfl, rfl⟩) dX10_text_12
