set_option maxRecDepth 100000 in
set_option maxHeartbeats 4000000 in
theorem c_J6_bitCount_0f7a4 {B : Bs} {S : Stt} {V : Va} (x : Int) (hx : 0 ≤ x ∧ x < 65536) : C B yJ6_bitCount_0f7a4 cJ6_bitCount_0f7a4 1 (some .int) 1 0 0 [vI x] S V (rI S V (bN x 16)) := by
  refine C.of [some (vI x)] ?_
  intro Γ hQ
  have b0 : 0 ≤ x / p2 1 := Int.ediv_nonneg hx.1 (Int.le_of_lt (p2_pos _))
  have c0 : x / p2 1 ≤ x := Int.ediv_le_self _ hx.1
  have q0 := band_r (y := 1431655765) b0
  refine x_il0 dJ6_bitCount_0f7a4_0 ?_
  refine x_il0 dJ6_bitCount_0f7a4_1 ?_
  refine x_iconst dJ6_bitCount_0f7a4_2 ?_
  refine x_iushr (by omega) (inr (by omega)) (by decide) (by decide) dJ6_bitCount_0f7a4_3 ?_
  refine x_ldcw (a := 1431655765) ki_J6_265 (by decide) dJ6_bitCount_0f7a4_4 ?_
  refine x_iand (by omega) (by decide) dJ6_bitCount_0f7a4_7 ?_
  refine x_isub dJ6_bitCount_0f7a4_8 ?_
  obtain ⟨y1, ey1⟩ : ∃ z : Int, z = x - (band (x / p2 1) 1431655765) := ⟨_, rfl⟩
  refine x_topI (a' := y1) ey1.symm ?_
  have b1 : 0 ≤ y1 / p2 2 := Int.ediv_nonneg (by omega) (Int.le_of_lt (p2_pos _))
  have c1_ : y1 / p2 2 ≤ y1 := Int.ediv_le_self _ (by omega)
  have q1 := band_r (y := 858993459) b1
  have q1b := band_r (x := y1) (y := 858993459) (by omega)
  refine x_is0 dJ6_bitCount_0f7a4_9 ?_
  refine x_il0 dJ6_bitCount_0f7a4_10 ?_
  refine x_ldcw (a := 858993459) ki_J6_266 (by decide) dJ6_bitCount_0f7a4_11 ?_
  refine x_iand (by omega) (by decide) dJ6_bitCount_0f7a4_14 ?_
  refine x_il0 dJ6_bitCount_0f7a4_15 ?_
  refine x_iconst dJ6_bitCount_0f7a4_16 ?_
  refine x_iushr (by omega) (inr (by omega)) (by decide) (by decide) dJ6_bitCount_0f7a4_17 ?_
  refine x_ldcw (a := 858993459) ki_J6_266 (by decide) dJ6_bitCount_0f7a4_18 ?_
  refine x_iand (by omega) (by decide) dJ6_bitCount_0f7a4_21 ?_
  refine x_iadd dJ6_bitCount_0f7a4_22 ?_
  obtain ⟨y2, ey2⟩ : ∃ z : Int, z = (band y1 858993459) + (band (y1 / p2 2) 858993459) := ⟨_, rfl⟩
  refine x_topI (a' := y2) ey2.symm ?_
  have b2 : 0 ≤ y2 / p2 4 := Int.ediv_nonneg (by omega) (Int.le_of_lt (p2_pos _))
  have c2_ : y2 / p2 4 ≤ y2 := Int.ediv_le_self _ (by omega)
  have q2 := band_r (x := y2 + y2 / p2 4) (y := 252645135) (by omega)
  refine x_is0 dJ6_bitCount_0f7a4_23 ?_
  refine x_il0 dJ6_bitCount_0f7a4_24 ?_
  refine x_il0 dJ6_bitCount_0f7a4_25 ?_
  refine x_iconst dJ6_bitCount_0f7a4_26 ?_
  refine x_iushr (by omega) (inr (by omega)) (by decide) (by decide) dJ6_bitCount_0f7a4_27 ?_
  refine x_iadd dJ6_bitCount_0f7a4_28 ?_
  refine x_ldcw (a := 252645135) ki_J6_267 (by decide) dJ6_bitCount_0f7a4_29 ?_
  refine x_iand (by omega) (by decide) dJ6_bitCount_0f7a4_32 ?_
  obtain ⟨y3, ey3⟩ : ∃ z : Int, z = band (y2 + (y2 / p2 4)) 252645135 := ⟨_, rfl⟩
  refine x_topI (a' := y3) ey3.symm ?_
  have b3 : 0 ≤ y3 / p2 8 := Int.ediv_nonneg (by omega) (Int.le_of_lt (p2_pos _))
  have c3_ : y3 / p2 8 ≤ y3 := Int.ediv_le_self _ (by omega)
  refine x_is0 dJ6_bitCount_0f7a4_33 ?_
  refine x_il0 dJ6_bitCount_0f7a4_34 ?_
  refine x_il0 dJ6_bitCount_0f7a4_35 ?_
  refine x_bipush dJ6_bitCount_0f7a4_36 ?_
  refine x_iushr (by omega) (inr (by omega)) (by decide) (by decide) dJ6_bitCount_0f7a4_38 ?_
  refine x_iadd dJ6_bitCount_0f7a4_39 ?_
  obtain ⟨y4, ey4⟩ : ∃ z : Int, z = y3 + (y3 / p2 8) := ⟨_, rfl⟩
  refine x_topI (a' := y4) ey4.symm ?_
  have b4 : 0 ≤ y4 / p2 16 := Int.ediv_nonneg (by omega) (Int.le_of_lt (p2_pos _))
  have c4_ : y4 / p2 16 ≤ y4 := Int.ediv_le_self _ (by omega)
  refine x_is0 dJ6_bitCount_0f7a4_40 ?_
  refine x_il0 dJ6_bitCount_0f7a4_41 ?_
  refine x_il0 dJ6_bitCount_0f7a4_42 ?_
  refine x_bipush dJ6_bitCount_0f7a4_43 ?_
  refine x_iushr (by omega) (inr (by omega)) (by decide) (by decide) dJ6_bitCount_0f7a4_45 ?_
  refine x_iadd dJ6_bitCount_0f7a4_46 ?_
  obtain ⟨y5, ey5⟩ : ∃ z : Int, z = y4 + (y4 / p2 16) := ⟨_, rfl⟩
  refine x_topI (a' := y5) ey5.symm ?_
  refine x_is0 dJ6_bitCount_0f7a4_47 ?_
  refine x_il0 dJ6_bitCount_0f7a4_48 ?_
  refine x_bipush dJ6_bitCount_0f7a4_49 ?_
  refine x_iand (by omega) (by decide) dJ6_bitCount_0f7a4_51 ?_
  exact x_iret hQ (rI.mk (bc_eq hx.1 hx.2 ey1 ey2 ey3 ey4 ey5).symm rfl) dJ6_bitCount_0f7a4_52
set_option maxRecDepth 100000 in
set_option maxHeartbeats 4000000 in
theorem c_X10_within {B : Bs} {S : Stt} {V : Va} (value : Int) (least : Int) (most : Int) (hvalue : InR value) (hleast : InR least) (hmost : InR most) : C B yX10_within cX10_within 3 (some .boolean) 1 0 0 [vI value, vI least, vI most] S V (rI S V (if least ≤ value ∧ value ≤ most then 1 else 0)) := by
  refine C.of [some (vI value), some (vI least), some (vI most)] ?_
  intro Γ hQ
  refine x_il0 dX10_within_0 ?_
  refine x_il1 dX10_within_1 ?_
  refine x_icmp_lt (tgt := 14) dX10_within_2 (inr (by omega)) (inr (by omega)) (fun c2_1 => ?_) (fun c2_1 => ?_)
  · -- 2 lt -> 14
    refine x_iconst dX10_within_14 ?_
    exact x_zret hQ (rI.mk (by first | rfl | omega | (rw [if_pos (by omega)]) | (rw [if_neg (by omega)])) rfl) (by decide) dX10_within_15
  · -- 2 lt -> 5
    refine x_il0 dX10_within_5 ?_
    refine x_il2 dX10_within_6 ?_
    refine x_icmp_gt (tgt := 14) dX10_within_7 (inr (by omega)) (inr (by omega)) (fun c7_2 => ?_) (fun c7_2 => ?_)
    · -- 7 gt -> 14
      refine x_iconst dX10_within_14 ?_
      exact x_zret hQ (rI.mk (by first | rfl | omega | (rw [if_pos (by omega)]) | (rw [if_neg (by omega)])) rfl) (by decide) dX10_within_15
    · -- 7 gt -> 10
      refine x_iconst dX10_within_10 ?_
      refine x_goto (tgt := 15) dX10_within_11 ?_
      exact x_zret hQ (rI.mk (by first | rfl | omega | (rw [if_pos (by omega)]) | (rw [if_neg (by omega)])) rfl) (by decide) dX10_within_15
set_option maxRecDepth 100000 in
set_option maxHeartbeats 4000000 in
theorem c_J7_fill_291 {B : Bs} {S : Stt} {V : Va} (v : Int) (hS : Stat S) : C B yJ7_fill_53178 cJ7_fill_53178 4 none 1 0 0 [vR B 291, vI v] S V (rV S (up V 291 (filK (V 291) (fun _ => v) 12))) := by
  refine C.of [some (vR B 291), some (vI v), none, none] ?_
  intro Γ hQ
  refine x_iconst dJ7_fill_53178_0 ?_
  refine x_is2 dJ7_fill_53178_1 ?_
  refine x_al0 dJ7_fill_53178_2 ?_
  refine x_alen (by decide) (sh_291 hS) (lq_291 hS) dJ7_fill_53178_3 ?_
  refine x_topI (a' := 12) rfl ?_
  refine x_is3 dJ7_fill_53178_4 ?_
  have lp5 : ∀ (N5 : Nat) (k : Int), (0 ≤ k ∧ k ≤ 12) → (12 - k).toNat < N5 → X Γ B RJ7 "fill" cJ7_fill_53178 4 none 1 0 0 5 [some (vR B 291), some (vI v), some (vI k), some (vI 12)] [] 0 0 S (up V 291 (filK (V 291) (fun _ => v) k)) := by
    intro N5
    induction N5 with
    | zero => intro k hk hN; exact absurd hN (Nat.not_lt_zero _)
    | succ N5 ih5 =>
      intro k hk hN5
      refine x_il2 dJ7_fill_53178_5 ?_
      refine x_il3 dJ7_fill_53178_6 ?_
      refine x_icmp_ge (tgt := 20) dJ7_fill_53178_7 (inr (by omega)) (inr (by decide)) (fun c7_1 => ?_) (fun c7_1 => ?_)
      · -- 7 ge -> 20
        exact x_vret hQ (rV.mk (by rw [show k = 12 by omega])) dJ7_fill_53178_20
      · -- 7 ge -> 10
        refine x_al0 dJ7_fill_53178_10 ?_
        refine x_il2 dJ7_fill_53178_11 ?_
        refine x_il1 dJ7_fill_53178_12 ?_
        refine x_iast (sh_291 hS) (lq_291 hS) (by omega) (by omega) dJ7_fill_53178_13 ?_
        refine x_mem (V' := (up V 291 (ua (filK (V 291) (fun _ => v) k) k v))) (st2_up _ _ _ _ _) ?_
        refine x_inc2 dJ7_fill_53178_14 ?_
        refine x_goto (tgt := 5) dJ7_fill_53178_17 ?_
        refine x_mem (V' := (up V 291 (filK (V 291) (fun _ => v) (k + 1)))) (upE rfl (filK_s hk.1 rfl)) ?_
        exact x_fg (ih5 (k + 1) (by omega) (by omega)) (And.intro rfl (And.intro rfl (And.intro rfl (And.intro rfl trivial))))
  refine x_mem (V' := (up V 291 (filK (V 291) (fun _ => v) 0))) (Eq.trans (show _ = (up V 291 (V 291)) from (Eq.symm (up_self _ 291))) (show (up V 291 (V 291)) = (up V 291 (filK (V 291) (fun _ => v) 0)) from (upE rfl (filK_0 _ _)))) ?_
  exact x_fg (lp5 _ 0 (by omega) (Nat.lt_succ_self _)) (And.intro rfl (And.intro rfl (And.intro rfl (And.intro rfl trivial))))
set_option maxRecDepth 100000 in
set_option maxHeartbeats 4000000 in
theorem c_J7_fill_292 {B : Bs} {S : Stt} {V : Va} (v : Int) (hS : Stat S) : C B yJ7_fill_53178 cJ7_fill_53178 4 none 1 0 0 [vR B 292, vI v] S V (rV S (up V 292 (filK (V 292) (fun _ => v) 12))) := by
  refine C.of [some (vR B 292), some (vI v), none, none] ?_
  intro Γ hQ
  refine x_iconst dJ7_fill_53178_0 ?_
  refine x_is2 dJ7_fill_53178_1 ?_
  refine x_al0 dJ7_fill_53178_2 ?_
  refine x_alen (by decide) (sh_292 hS) (lq_292 hS) dJ7_fill_53178_3 ?_
  refine x_topI (a' := 12) rfl ?_
  refine x_is3 dJ7_fill_53178_4 ?_
  have lp5 : ∀ (N5 : Nat) (k : Int), (0 ≤ k ∧ k ≤ 12) → (12 - k).toNat < N5 → X Γ B RJ7 "fill" cJ7_fill_53178 4 none 1 0 0 5 [some (vR B 292), some (vI v), some (vI k), some (vI 12)] [] 0 0 S (up V 292 (filK (V 292) (fun _ => v) k)) := by
    intro N5
    induction N5 with
    | zero => intro k hk hN; exact absurd hN (Nat.not_lt_zero _)
    | succ N5 ih5 =>
      intro k hk hN5
      refine x_il2 dJ7_fill_53178_5 ?_
      refine x_il3 dJ7_fill_53178_6 ?_
      refine x_icmp_ge (tgt := 20) dJ7_fill_53178_7 (inr (by omega)) (inr (by decide)) (fun c7_1 => ?_) (fun c7_1 => ?_)
      · -- 7 ge -> 20
        exact x_vret hQ (rV.mk (by rw [show k = 12 by omega])) dJ7_fill_53178_20
      · -- 7 ge -> 10
        refine x_al0 dJ7_fill_53178_10 ?_
        refine x_il2 dJ7_fill_53178_11 ?_
        refine x_il1 dJ7_fill_53178_12 ?_
        refine x_iast (sh_292 hS) (lq_292 hS) (by omega) (by omega) dJ7_fill_53178_13 ?_
        refine x_mem (V' := (up V 292 (ua (filK (V 292) (fun _ => v) k) k v))) (st2_up _ _ _ _ _) ?_
        refine x_inc2 dJ7_fill_53178_14 ?_
        refine x_goto (tgt := 5) dJ7_fill_53178_17 ?_
        refine x_mem (V' := (up V 292 (filK (V 292) (fun _ => v) (k + 1)))) (upE rfl (filK_s hk.1 rfl)) ?_
        exact x_fg (ih5 (k + 1) (by omega) (by omega)) (And.intro rfl (And.intro rfl (And.intro rfl (And.intro rfl trivial))))
  refine x_mem (V' := (up V 292 (filK (V 292) (fun _ => v) 0))) (Eq.trans (show _ = (up V 292 (V 292)) from (Eq.symm (up_self _ 292))) (show (up V 292 (V 292)) = (up V 292 (filK (V 292) (fun _ => v) 0)) from (upE rfl (filK_0 _ _)))) ?_
  exact x_fg (lp5 _ 0 (by omega) (Nat.lt_succ_self _)) (And.intro rfl (And.intro rfl (And.intro rfl (And.intro rfl trivial))))
set_option maxRecDepth 100000 in
set_option maxHeartbeats 4000000 in
theorem c_J7_fill_293 {B : Bs} {S : Stt} {V : Va} (v : Int) (hS : Stat S) : C B yJ7_fill_53178 cJ7_fill_53178 4 none 1 0 0 [vR B 293, vI v] S V (rV S (up V 293 (filK (V 293) (fun _ => v) 12))) := by
  refine C.of [some (vR B 293), some (vI v), none, none] ?_
  intro Γ hQ
  refine x_iconst dJ7_fill_53178_0 ?_
  refine x_is2 dJ7_fill_53178_1 ?_
  refine x_al0 dJ7_fill_53178_2 ?_
  refine x_alen (by decide) (sh_293 hS) (lq_293 hS) dJ7_fill_53178_3 ?_
  refine x_topI (a' := 12) rfl ?_
  refine x_is3 dJ7_fill_53178_4 ?_
  have lp5 : ∀ (N5 : Nat) (k : Int), (0 ≤ k ∧ k ≤ 12) → (12 - k).toNat < N5 → X Γ B RJ7 "fill" cJ7_fill_53178 4 none 1 0 0 5 [some (vR B 293), some (vI v), some (vI k), some (vI 12)] [] 0 0 S (up V 293 (filK (V 293) (fun _ => v) k)) := by
    intro N5
    induction N5 with
    | zero => intro k hk hN; exact absurd hN (Nat.not_lt_zero _)
    | succ N5 ih5 =>
      intro k hk hN5
      refine x_il2 dJ7_fill_53178_5 ?_
      refine x_il3 dJ7_fill_53178_6 ?_
      refine x_icmp_ge (tgt := 20) dJ7_fill_53178_7 (inr (by omega)) (inr (by decide)) (fun c7_1 => ?_) (fun c7_1 => ?_)
      · -- 7 ge -> 20
        exact x_vret hQ (rV.mk (by rw [show k = 12 by omega])) dJ7_fill_53178_20
      · -- 7 ge -> 10
        refine x_al0 dJ7_fill_53178_10 ?_
        refine x_il2 dJ7_fill_53178_11 ?_
        refine x_il1 dJ7_fill_53178_12 ?_
        refine x_iast (sh_293 hS) (lq_293 hS) (by omega) (by omega) dJ7_fill_53178_13 ?_
        refine x_mem (V' := (up V 293 (ua (filK (V 293) (fun _ => v) k) k v))) (st2_up _ _ _ _ _) ?_
        refine x_inc2 dJ7_fill_53178_14 ?_
        refine x_goto (tgt := 5) dJ7_fill_53178_17 ?_
        refine x_mem (V' := (up V 293 (filK (V 293) (fun _ => v) (k + 1)))) (upE rfl (filK_s hk.1 rfl)) ?_
        exact x_fg (ih5 (k + 1) (by omega) (by omega)) (And.intro rfl (And.intro rfl (And.intro rfl (And.intro rfl trivial))))
  refine x_mem (V' := (up V 293 (filK (V 293) (fun _ => v) 0))) (Eq.trans (show _ = (up V 293 (V 293)) from (Eq.symm (up_self _ 293))) (show (up V 293 (V 293)) = (up V 293 (filK (V 293) (fun _ => v) 0)) from (upE rfl (filK_0 _ _)))) ?_
  exact x_fg (lp5 _ 0 (by omega) (Nat.lt_succ_self _)) (And.intro rfl (And.intro rfl (And.intro rfl (And.intro rfl trivial))))
set_option maxRecDepth 100000 in
set_option maxHeartbeats 4000000 in
theorem c_J7_fill_284 {B : Bs} {S : Stt} {V : Va} (v : Int) (hS : Stat S) : C B yJ7_fill_53178 cJ7_fill_53178 4 none 1 0 0 [vR B 284, vI v] S V (rV S (up V 284 (filK (V 284) (fun _ => v) 3))) := by
  refine C.of [some (vR B 284), some (vI v), none, none] ?_
  intro Γ hQ
  refine x_iconst dJ7_fill_53178_0 ?_
  refine x_is2 dJ7_fill_53178_1 ?_
  refine x_al0 dJ7_fill_53178_2 ?_
  refine x_alen (by decide) (sh_284 hS) (lq_284 hS) dJ7_fill_53178_3 ?_
  refine x_topI (a' := 3) rfl ?_
  refine x_is3 dJ7_fill_53178_4 ?_
  have lp5 : ∀ (N5 : Nat) (k : Int), (0 ≤ k ∧ k ≤ 3) → (3 - k).toNat < N5 → X Γ B RJ7 "fill" cJ7_fill_53178 4 none 1 0 0 5 [some (vR B 284), some (vI v), some (vI k), some (vI 3)] [] 0 0 S (up V 284 (filK (V 284) (fun _ => v) k)) := by
    intro N5
    induction N5 with
    | zero => intro k hk hN; exact absurd hN (Nat.not_lt_zero _)
    | succ N5 ih5 =>
      intro k hk hN5
      refine x_il2 dJ7_fill_53178_5 ?_
      refine x_il3 dJ7_fill_53178_6 ?_
      refine x_icmp_ge (tgt := 20) dJ7_fill_53178_7 (inr (by omega)) (inr (by decide)) (fun c7_1 => ?_) (fun c7_1 => ?_)
      · -- 7 ge -> 20
        exact x_vret hQ (rV.mk (by rw [show k = 3 by omega])) dJ7_fill_53178_20
      · -- 7 ge -> 10
        refine x_al0 dJ7_fill_53178_10 ?_
        refine x_il2 dJ7_fill_53178_11 ?_
        refine x_il1 dJ7_fill_53178_12 ?_
        refine x_iast (sh_284 hS) (lq_284 hS) (by omega) (by omega) dJ7_fill_53178_13 ?_
        refine x_mem (V' := (up V 284 (ua (filK (V 284) (fun _ => v) k) k v))) (st2_up _ _ _ _ _) ?_
        refine x_inc2 dJ7_fill_53178_14 ?_
        refine x_goto (tgt := 5) dJ7_fill_53178_17 ?_
        refine x_mem (V' := (up V 284 (filK (V 284) (fun _ => v) (k + 1)))) (upE rfl (filK_s hk.1 rfl)) ?_
        exact x_fg (ih5 (k + 1) (by omega) (by omega)) (And.intro rfl (And.intro rfl (And.intro rfl (And.intro rfl trivial))))
  refine x_mem (V' := (up V 284 (filK (V 284) (fun _ => v) 0))) (Eq.trans (show _ = (up V 284 (V 284)) from (Eq.symm (up_self _ 284))) (show (up V 284 (V 284)) = (up V 284 (filK (V 284) (fun _ => v) 0)) from (upE rfl (filK_0 _ _)))) ?_
  exact x_fg (lp5 _ 0 (by omega) (Nat.lt_succ_self _)) (And.intro rfl (And.intro rfl (And.intro rfl (And.intro rfl trivial))))
set_option maxRecDepth 100000 in
set_option maxHeartbeats 4000000 in
theorem c_J7_fill_286 {B : Bs} {S : Stt} {V : Va} (v : Int) (hS : Stat S) : C B yJ7_fill_53178 cJ7_fill_53178 4 none 1 0 0 [vR B 286, vI v] S V (rV S (up V 286 (filK (V 286) (fun _ => v) 20))) := by
  refine C.of [some (vR B 286), some (vI v), none, none] ?_
  intro Γ hQ
  refine x_iconst dJ7_fill_53178_0 ?_
  refine x_is2 dJ7_fill_53178_1 ?_
  refine x_al0 dJ7_fill_53178_2 ?_
  refine x_alen (by decide) (sh_286 hS) (lq_286 hS) dJ7_fill_53178_3 ?_
  refine x_topI (a' := 20) rfl ?_
  refine x_is3 dJ7_fill_53178_4 ?_
  have lp5 : ∀ (N5 : Nat) (k : Int), (0 ≤ k ∧ k ≤ 20) → (20 - k).toNat < N5 → X Γ B RJ7 "fill" cJ7_fill_53178 4 none 1 0 0 5 [some (vR B 286), some (vI v), some (vI k), some (vI 20)] [] 0 0 S (up V 286 (filK (V 286) (fun _ => v) k)) := by
    intro N5
    induction N5 with
    | zero => intro k hk hN; exact absurd hN (Nat.not_lt_zero _)
    | succ N5 ih5 =>
      intro k hk hN5
      refine x_il2 dJ7_fill_53178_5 ?_
      refine x_il3 dJ7_fill_53178_6 ?_
      refine x_icmp_ge (tgt := 20) dJ7_fill_53178_7 (inr (by omega)) (inr (by decide)) (fun c7_1 => ?_) (fun c7_1 => ?_)
      · -- 7 ge -> 20
        exact x_vret hQ (rV.mk (by rw [show k = 20 by omega])) dJ7_fill_53178_20
      · -- 7 ge -> 10
        refine x_al0 dJ7_fill_53178_10 ?_
        refine x_il2 dJ7_fill_53178_11 ?_
        refine x_il1 dJ7_fill_53178_12 ?_
        refine x_iast (sh_286 hS) (lq_286 hS) (by omega) (by omega) dJ7_fill_53178_13 ?_
        refine x_mem (V' := (up V 286 (ua (filK (V 286) (fun _ => v) k) k v))) (st2_up _ _ _ _ _) ?_
        refine x_inc2 dJ7_fill_53178_14 ?_
        refine x_goto (tgt := 5) dJ7_fill_53178_17 ?_
        refine x_mem (V' := (up V 286 (filK (V 286) (fun _ => v) (k + 1)))) (upE rfl (filK_s hk.1 rfl)) ?_
        exact x_fg (ih5 (k + 1) (by omega) (by omega)) (And.intro rfl (And.intro rfl (And.intro rfl (And.intro rfl trivial))))
  refine x_mem (V' := (up V 286 (filK (V 286) (fun _ => v) 0))) (Eq.trans (show _ = (up V 286 (V 286)) from (Eq.symm (up_self _ 286))) (show (up V 286 (V 286)) = (up V 286 (filK (V 286) (fun _ => v) 0)) from (upE rfl (filK_0 _ _)))) ?_
  exact x_fg (lp5 _ 0 (by omega) (Nat.lt_succ_self _)) (And.intro rfl (And.intro rfl (And.intro rfl (And.intro rfl trivial))))
set_option maxRecDepth 100000 in
set_option maxHeartbeats 4000000 in
theorem c_X0_become {B : Bs} {S : Stt} {V : Va} (i : Nat) (j : Nat) (hBi : BoS S i) (hBj : BoS S j) (hd : i + 5 < j ∨ j + 5 < i) (ht : 0 ≤ (V (j) 5) ∧ (V (j) 5) ≤ 16) : C B yX0_become cX0_become 2 none 1 0 0 [vR B i, vR B j] S V (rV S (bcp V i j)) := by
  refine C.of [some (vR B i), some (vR B j)] ?_
  intro Γ hQ
  refine x_al1 dX0_become_0 ?_
  refine x_getR fl_X0_9 (bo_s hBj) (bo_l hBj) (bo_r0 hBj) dX0_become_1 ?_
  refine x_iconst dX0_become_4 ?_
  refine x_al0 dX0_become_5 ?_
  refine x_getR fl_X0_9 (bo_s hBi) (bo_l hBi) (bo_r0 hBi) dX0_become_6 ?_
  refine x_iconst dX0_become_9 ?_
  refine x_al1 dX0_become_10 ?_
  refine x_getI fl_X0_27 (bo_s hBj) (bo_l hBj) dX0_become_11 ?_
  refine x_topI (a' := V j 5) rfl ?_
  refine x_copyi mc_X0_31 dX0_become_14 (bo_s1 hBi) (bo_l1 hBi) (bo_s1 hBj) (bo_l1 hBj) (by omega) (by omega) (by omega) ?_
  refine x_mem (V' := (up V (i + 1) (cpK (V (j + 1)) (V (i + 1)) (V j 5)))) (congrArg (up _ (i + 1)) (cpE rfl rfl)) ?_
  refine x_al1 dX0_become_17 ?_
  refine x_getR fl_X0_15 (bo_s hBj) (bo_l hBj) (bo_r1 hBj) dX0_become_18 ?_
  refine x_iconst dX0_become_21 ?_
  refine x_al0 dX0_become_22 ?_
  refine x_getR fl_X0_15 (bo_s hBi) (bo_l hBi) (bo_r1 hBi) dX0_become_23 ?_
  refine x_iconst dX0_become_26 ?_
  refine x_al1 dX0_become_27 ?_
  refine x_getI fl_X0_27 (bo_s hBj) (bo_l hBj) dX0_become_28 ?_
  refine x_topI (a' := V j 5) (congrFun (up_ne (by omega)) 5) ?_
  refine x_copyi mc_X0_31 dX0_become_31 (bo_s2 hBi) (bo_l2 hBi) (bo_s2 hBj) (bo_l2 hBj) (by omega) (by omega) (by omega) ?_
  refine x_mem (V' := (up (up V (i + 1) (cpK (V (j + 1)) (V (i + 1)) (V j 5))) (i + 2) (cpK (V (j + 2)) (V (i + 2)) (V j 5)))) (congrArg (up _ (i + 2)) (cpE (up_ne (by omega)) (up_ne (by omega)))) ?_
  refine x_al1 dX0_become_34 ?_
  refine x_getR fl_X0_18 (bo_s hBj) (bo_l hBj) (bo_r2 hBj) dX0_become_35 ?_
  refine x_iconst dX0_become_38 ?_
  refine x_al0 dX0_become_39 ?_
  refine x_getR fl_X0_18 (bo_s hBi) (bo_l hBi) (bo_r2 hBi) dX0_become_40 ?_
  refine x_iconst dX0_become_43 ?_
  refine x_al1 dX0_become_44 ?_
  refine x_getI fl_X0_27 (bo_s hBj) (bo_l hBj) dX0_become_45 ?_
  refine x_topI (a' := V j 5) (congrFun ((up_ne (by omega)).trans (up_ne (by omega))) 5) ?_
  refine x_copyi mc_X0_31 dX0_become_48 (bo_s3 hBi) (bo_l3 hBi) (bo_s3 hBj) (bo_l3 hBj) (by omega) (by omega) (by omega) ?_
  refine x_mem (V' := (up (up (up V (i + 1) (cpK (V (j + 1)) (V (i + 1)) (V j 5))) (i + 2) (cpK (V (j + 2)) (V (i + 2)) (V j 5))) (i + 3) (cpK (V (j + 3)) (V (i + 3)) (V j 5)))) (congrArg (up _ (i + 3)) (cpE ((up_ne (by omega)).trans (up_ne (by omega))) ((up_ne (by omega)).trans (up_ne (by omega))))) ?_
  refine x_al1 dX0_become_51 ?_
  refine x_getR fl_X0_21 (bo_s hBj) (bo_l hBj) (bo_r3 hBj) dX0_become_52 ?_
  refine x_iconst dX0_become_55 ?_
  refine x_al0 dX0_become_56 ?_
  refine x_getR fl_X0_21 (bo_s hBi) (bo_l hBi) (bo_r3 hBi) dX0_become_57 ?_
  refine x_iconst dX0_become_60 ?_
  refine x_al1 dX0_become_61 ?_
  refine x_getI fl_X0_27 (bo_s hBj) (bo_l hBj) dX0_become_62 ?_
  refine x_topI (a' := V j 5) (congrFun ((up_ne (by omega)).trans ((up_ne (by omega)).trans (up_ne (by omega)))) 5) ?_
  refine x_copyi mc_X0_31 dX0_become_65 (bo_s4 hBi) (bo_l4 hBi) (bo_s4 hBj) (bo_l4 hBj) (by omega) (by omega) (by omega) ?_
  refine x_mem (V' := (up (up (up (up V (i + 1) (cpK (V (j + 1)) (V (i + 1)) (V j 5))) (i + 2) (cpK (V (j + 2)) (V (i + 2)) (V j 5))) (i + 3) (cpK (V (j + 3)) (V (i + 3)) (V j 5))) (i + 4) (cpK (V (j + 4)) (V (i + 4)) (V j 5)))) (congrArg (up _ (i + 4)) (cpE ((up_ne (by omega)).trans ((up_ne (by omega)).trans (up_ne (by omega)))) ((up_ne (by omega)).trans ((up_ne (by omega)).trans (up_ne (by omega)))))) ?_
  refine x_al1 dX0_become_68 ?_
  refine x_getR fl_X0_24 (bo_s hBj) (bo_l hBj) (bo_r4 hBj) dX0_become_69 ?_
  refine x_iconst dX0_become_72 ?_
  refine x_al0 dX0_become_73 ?_
  refine x_getR fl_X0_24 (bo_s hBi) (bo_l hBi) (bo_r4 hBi) dX0_become_74 ?_
  refine x_iconst dX0_become_77 ?_
  refine x_bipush dX0_become_78 ?_
  refine x_copyi mc_X0_31 dX0_become_80 (bo_s5 hBi) (bo_l5 hBi) (bo_s5 hBj) (bo_l5 hBj) (by decide) (by decide) (by decide) ?_
  refine x_mem (V' := (up (up (up (up (up V (i + 1) (cpK (V (j + 1)) (V (i + 1)) (V j 5))) (i + 2) (cpK (V (j + 2)) (V (i + 2)) (V j 5))) (i + 3) (cpK (V (j + 3)) (V (i + 3)) (V j 5))) (i + 4) (cpK (V (j + 4)) (V (i + 4)) (V j 5))) (i + 5) (cpK (V (j + 5)) (V (i + 5)) 10))) (congrArg (up _ (i + 5)) (cpE ((up_ne (by omega)).trans ((up_ne (by omega)).trans ((up_ne (by omega)).trans (up_ne (by omega))))) ((up_ne (by omega)).trans ((up_ne (by omega)).trans ((up_ne (by omega)).trans (up_ne (by omega))))))) ?_
  refine x_al0 dX0_become_83 ?_
  refine x_al1 dX0_become_84 ?_
  refine x_getI fl_X0_27 (bo_s hBj) (bo_l hBj) dX0_become_85 ?_
  refine x_topI (a' := V j 5) (congrFun ((up_ne (by omega)).trans ((up_ne (by omega)).trans ((up_ne (by omega)).trans ((up_ne (by omega)).trans (up_ne (by omega)))))) 5) ?_
  refine x_putI fl_X0_27 (bo_s hBi) (bo_l hBi) dX0_become_88 ?_
  refine x_mem (V' := (up (up (up (up (up (up V (i + 1) (cpK (V (j + 1)) (V (i + 1)) (V j 5))) (i + 2) (cpK (V (j + 2)) (V (i + 2)) (V j 5))) (i + 3) (cpK (V (j + 3)) (V (i + 3)) (V j 5))) (i + 4) (cpK (V (j + 4)) (V (i + 4)) (V j 5))) (i + 5) (cpK (V (j + 5)) (V (i + 5)) 10)) i (ua (V i) 5 (V j 5)))) (st2_n ((up_ne (by omega)).trans ((up_ne (by omega)).trans ((up_ne (by omega)).trans ((up_ne (by omega)).trans (up_ne (by omega))))))) ?_
  refine x_al0 dX0_become_91 ?_
  refine x_al1 dX0_become_92 ?_
  refine x_getI fl_X0_37 (bo_s hBj) (bo_l hBj) dX0_become_93 ?_
  refine x_topI (a' := V j 6) (congrFun ((up_ne (by omega)).trans ((up_ne (by omega)).trans ((up_ne (by omega)).trans ((up_ne (by omega)).trans ((up_ne (by omega)).trans (up_ne (by omega))))))) 6) ?_
  refine x_putI fl_X0_37 (bo_s hBi) (bo_l hBi) dX0_become_96 ?_
  refine x_mem (V' := (up (up (up (up (up (up V (i + 1) (cpK (V (j + 1)) (V (i + 1)) (V j 5))) (i + 2) (cpK (V (j + 2)) (V (i + 2)) (V j 5))) (i + 3) (cpK (V (j + 3)) (V (i + 3)) (V j 5))) (i + 4) (cpK (V (j + 4)) (V (i + 4)) (V j 5))) (i + 5) (cpK (V (j + 5)) (V (i + 5)) 10)) i (ua (ua (V i) 5 (V j 5)) 6 (V j 6)))) (st2_up _ _ _ _ _) ?_
  exact x_vret hQ (rV.mk rfl) dX0_become_99
set_option maxRecDepth 100000 in
set_option maxHeartbeats 4000000 in
theorem c_X5_become_134 {B : Bs} {S : Stt} {V : Va} (hS : Stat S) : C B yX5_become cX5_become 2 none 1 0 0 [vR B 134, vR B 272] S V (rV S (up (up (up (up (up V 134 (ua (ua (ua (V 134) 4 (V 272 4)) 5 (V 272 5)) 6 (V 272 6))) 135 (cpK (V 273) (V 135) 12)) 136 (cpK (V 274) (V 136) 12)) 137 (cpK (V 275) (V 137) 12)) 138 (cpK (V 276) (V 138) 12))) := by
  refine C.of [some (vR B 134), some (vR B 272)] ?_
  intro Γ hQ
  refine x_al1 dX5_become_0 ?_
  refine x_getR fl_X5_9 (sh_272 hS) (lq_272 hS) (rf_272_0 hS) dX5_become_1 ?_
  refine x_iconst dX5_become_4 ?_
  refine x_al0 dX5_become_5 ?_
  refine x_getR fl_X5_9 (sh_134 hS) (lq_134 hS) (rf_134_0 hS) dX5_become_6 ?_
  refine x_iconst dX5_become_9 ?_
  refine x_bipush dX5_become_10 ?_
  refine x_copyi mc_X5_31 dX5_become_12 (sh_135 hS) (lq_135 hS) (sh_273 hS) (lq_273 hS) (by decide) (by decide) (by decide) ?_
  refine x_mem (V' := (up V 135 (cpK (V 273) (V 135) 12))) (congrArg (up _ 135) (cpE rfl rfl)) ?_
  refine x_al1 dX5_become_15 ?_
  refine x_getR fl_X5_15 (sh_272 hS) (lq_272 hS) (rf_272_1 hS) dX5_become_16 ?_
  refine x_iconst dX5_become_19 ?_
  refine x_al0 dX5_become_20 ?_
  refine x_getR fl_X5_15 (sh_134 hS) (lq_134 hS) (rf_134_1 hS) dX5_become_21 ?_
  refine x_iconst dX5_become_24 ?_
  refine x_bipush dX5_become_25 ?_
  refine x_copyi mc_X5_31 dX5_become_27 (sh_136 hS) (lq_136 hS) (sh_274 hS) (lq_274 hS) (by decide) (by decide) (by decide) ?_
  refine x_mem (V' := (up (up V 135 (cpK (V 273) (V 135) 12)) 136 (cpK (V 274) (V 136) 12))) (congrArg (up _ 136) (cpE (up_ne (by decide)) (up_ne (by decide)))) ?_
  refine x_al1 dX5_become_30 ?_
  refine x_getR fl_X5_18 (sh_272 hS) (lq_272 hS) (rf_272_2 hS) dX5_become_31 ?_
  refine x_iconst dX5_become_34 ?_
  refine x_al0 dX5_become_35 ?_
  refine x_getR fl_X5_18 (sh_134 hS) (lq_134 hS) (rf_134_2 hS) dX5_become_36 ?_
  refine x_iconst dX5_become_39 ?_
  refine x_bipush dX5_become_40 ?_
  refine x_copyi mc_X5_31 dX5_become_42 (sh_137 hS) (lq_137 hS) (sh_275 hS) (lq_275 hS) (by decide) (by decide) (by decide) ?_
  refine x_mem (V' := (up (up (up V 135 (cpK (V 273) (V 135) 12)) 136 (cpK (V 274) (V 136) 12)) 137 (cpK (V 275) (V 137) 12))) (congrArg (up _ 137) (cpE ((up_ne (by decide)).trans (up_ne (by decide))) ((up_ne (by decide)).trans (up_ne (by decide))))) ?_
  refine x_al1 dX5_become_45 ?_
  refine x_getR fl_X5_21 (sh_272 hS) (lq_272 hS) (rf_272_3 hS) dX5_become_46 ?_
  refine x_iconst dX5_become_49 ?_
  refine x_al0 dX5_become_50 ?_
  refine x_getR fl_X5_21 (sh_134 hS) (lq_134 hS) (rf_134_3 hS) dX5_become_51 ?_
  refine x_iconst dX5_become_54 ?_
  refine x_bipush dX5_become_55 ?_
  refine x_copyi mc_X5_31 dX5_become_57 (sh_138 hS) (lq_138 hS) (sh_276 hS) (lq_276 hS) (by decide) (by decide) (by decide) ?_
  refine x_mem (V' := (up (up (up (up V 135 (cpK (V 273) (V 135) 12)) 136 (cpK (V 274) (V 136) 12)) 137 (cpK (V 275) (V 137) 12)) 138 (cpK (V 276) (V 138) 12))) (congrArg (up _ 138) (cpE ((up_ne (by decide)).trans ((up_ne (by decide)).trans (up_ne (by decide)))) ((up_ne (by decide)).trans ((up_ne (by decide)).trans (up_ne (by decide)))))) ?_
  refine x_al0 dX5_become_60 ?_
  refine x_al1 dX5_become_61 ?_
  refine x_getI fl_X5_37 (sh_272 hS) (lq_272 hS) dX5_become_62 ?_
  refine x_topI (a' := V 272 4) rfl ?_
  refine x_putI fl_X5_37 (sh_134 hS) (lq_134 hS) dX5_become_65 ?_
  refine x_mem (V' := (up (up (up (up (up V 134 (ua (V 134) 4 (V 272 4))) 135 (cpK (V 273) (V 135) 12)) 136 (cpK (V 274) (V 136) 12)) 137 (cpK (V 275) (V 137) 12)) 138 (cpK (V 276) (V 138) 12))) (st2_c (by decide) (st2_c (by decide) (st2_c (by decide) (st2_c (by decide) rfl)))) ?_
  refine x_al0 dX5_become_68 ?_
  refine x_al1 dX5_become_69 ?_
  refine x_getI fl_X5_24 (sh_272 hS) (lq_272 hS) dX5_become_70 ?_
  refine x_topI (a' := V 272 5) rfl ?_
  refine x_putI fl_X5_24 (sh_134 hS) (lq_134 hS) dX5_become_73 ?_
  refine x_mem (V' := (up (up (up (up (up V 134 (ua (ua (V 134) 4 (V 272 4)) 5 (V 272 5))) 135 (cpK (V 273) (V 135) 12)) 136 (cpK (V 274) (V 136) 12)) 137 (cpK (V 275) (V 137) 12)) 138 (cpK (V 276) (V 138) 12))) (st2_c (by decide) (st2_c (by decide) (st2_c (by decide) (st2_c (by decide) (st2_up _ _ _ _ _))))) ?_
  refine x_al0 dX5_become_76 ?_
  refine x_al1 dX5_become_77 ?_
  refine x_getI fl_X5_28 (sh_272 hS) (lq_272 hS) dX5_become_78 ?_
  refine x_topI (a' := V 272 6) rfl ?_
  refine x_putI fl_X5_28 (sh_134 hS) (lq_134 hS) dX5_become_81 ?_
  refine x_mem (V' := (up (up (up (up (up V 134 (ua (ua (ua (V 134) 4 (V 272 4)) 5 (V 272 5)) 6 (V 272 6))) 135 (cpK (V 273) (V 135) 12)) 136 (cpK (V 274) (V 136) 12)) 137 (cpK (V 275) (V 137) 12)) 138 (cpK (V 276) (V 138) 12))) (st2_c (by decide) (st2_c (by decide) (st2_c (by decide) (st2_c (by decide) (st2_up _ _ _ _ _))))) ?_
  exact x_vret hQ (rV.mk rfl) dX5_become_84
set_option maxRecDepth 100000 in
set_option maxHeartbeats 4000000 in
theorem c_X5_become_272 {B : Bs} {S : Stt} {V : Va} (hS : Stat S) : C B yX5_become cX5_become 2 none 1 0 0 [vR B 272, vR B 134] S V (rV S (up (up (up (up (up V 272 (ua (ua (ua (V 272) 4 (V 134 4)) 5 (V 134 5)) 6 (V 134 6))) 273 (cpK (V 135) (V 273) 12)) 274 (cpK (V 136) (V 274) 12)) 275 (cpK (V 137) (V 275) 12)) 276 (cpK (V 138) (V 276) 12))) := by
  refine C.of [some (vR B 272), some (vR B 134)] ?_
  intro Γ hQ
  refine x_al1 dX5_become_0 ?_
  refine x_getR fl_X5_9 (sh_134 hS) (lq_134 hS) (rf_134_0 hS) dX5_become_1 ?_
  refine x_iconst dX5_become_4 ?_
  refine x_al0 dX5_become_5 ?_
  refine x_getR fl_X5_9 (sh_272 hS) (lq_272 hS) (rf_272_0 hS) dX5_become_6 ?_
  refine x_iconst dX5_become_9 ?_
  refine x_bipush dX5_become_10 ?_
  refine x_copyi mc_X5_31 dX5_become_12 (sh_273 hS) (lq_273 hS) (sh_135 hS) (lq_135 hS) (by decide) (by decide) (by decide) ?_
  refine x_mem (V' := (up V 273 (cpK (V 135) (V 273) 12))) (congrArg (up _ 273) (cpE rfl rfl)) ?_
  refine x_al1 dX5_become_15 ?_
  refine x_getR fl_X5_15 (sh_134 hS) (lq_134 hS) (rf_134_1 hS) dX5_become_16 ?_
  refine x_iconst dX5_become_19 ?_
  refine x_al0 dX5_become_20 ?_
  refine x_getR fl_X5_15 (sh_272 hS) (lq_272 hS) (rf_272_1 hS) dX5_become_21 ?_
  refine x_iconst dX5_become_24 ?_
  refine x_bipush dX5_become_25 ?_
  refine x_copyi mc_X5_31 dX5_become_27 (sh_274 hS) (lq_274 hS) (sh_136 hS) (lq_136 hS) (by decide) (by decide) (by decide) ?_
  refine x_mem (V' := (up (up V 273 (cpK (V 135) (V 273) 12)) 274 (cpK (V 136) (V 274) 12))) (congrArg (up _ 274) (cpE (up_ne (by decide)) (up_ne (by decide)))) ?_
  refine x_al1 dX5_become_30 ?_
  refine x_getR fl_X5_18 (sh_134 hS) (lq_134 hS) (rf_134_2 hS) dX5_become_31 ?_
  refine x_iconst dX5_become_34 ?_
  refine x_al0 dX5_become_35 ?_
  refine x_getR fl_X5_18 (sh_272 hS) (lq_272 hS) (rf_272_2 hS) dX5_become_36 ?_
  refine x_iconst dX5_become_39 ?_
  refine x_bipush dX5_become_40 ?_
  refine x_copyi mc_X5_31 dX5_become_42 (sh_275 hS) (lq_275 hS) (sh_137 hS) (lq_137 hS) (by decide) (by decide) (by decide) ?_
  refine x_mem (V' := (up (up (up V 273 (cpK (V 135) (V 273) 12)) 274 (cpK (V 136) (V 274) 12)) 275 (cpK (V 137) (V 275) 12))) (congrArg (up _ 275) (cpE ((up_ne (by decide)).trans (up_ne (by decide))) ((up_ne (by decide)).trans (up_ne (by decide))))) ?_
  refine x_al1 dX5_become_45 ?_
  refine x_getR fl_X5_21 (sh_134 hS) (lq_134 hS) (rf_134_3 hS) dX5_become_46 ?_
  refine x_iconst dX5_become_49 ?_
  refine x_al0 dX5_become_50 ?_
  refine x_getR fl_X5_21 (sh_272 hS) (lq_272 hS) (rf_272_3 hS) dX5_become_51 ?_
  refine x_iconst dX5_become_54 ?_
  refine x_bipush dX5_become_55 ?_
  refine x_copyi mc_X5_31 dX5_become_57 (sh_276 hS) (lq_276 hS) (sh_138 hS) (lq_138 hS) (by decide) (by decide) (by decide) ?_
  refine x_mem (V' := (up (up (up (up V 273 (cpK (V 135) (V 273) 12)) 274 (cpK (V 136) (V 274) 12)) 275 (cpK (V 137) (V 275) 12)) 276 (cpK (V 138) (V 276) 12))) (congrArg (up _ 276) (cpE ((up_ne (by decide)).trans ((up_ne (by decide)).trans (up_ne (by decide)))) ((up_ne (by decide)).trans ((up_ne (by decide)).trans (up_ne (by decide)))))) ?_
  refine x_al0 dX5_become_60 ?_
  refine x_al1 dX5_become_61 ?_
  refine x_getI fl_X5_37 (sh_134 hS) (lq_134 hS) dX5_become_62 ?_
  refine x_topI (a' := V 134 4) rfl ?_
  refine x_putI fl_X5_37 (sh_272 hS) (lq_272 hS) dX5_become_65 ?_
  refine x_mem (V' := (up (up (up (up (up V 272 (ua (V 272) 4 (V 134 4))) 273 (cpK (V 135) (V 273) 12)) 274 (cpK (V 136) (V 274) 12)) 275 (cpK (V 137) (V 275) 12)) 276 (cpK (V 138) (V 276) 12))) (st2_c (by decide) (st2_c (by decide) (st2_c (by decide) (st2_c (by decide) rfl)))) ?_
  refine x_al0 dX5_become_68 ?_
  refine x_al1 dX5_become_69 ?_
  refine x_getI fl_X5_24 (sh_134 hS) (lq_134 hS) dX5_become_70 ?_
  refine x_topI (a' := V 134 5) rfl ?_
  refine x_putI fl_X5_24 (sh_272 hS) (lq_272 hS) dX5_become_73 ?_
  refine x_mem (V' := (up (up (up (up (up V 272 (ua (ua (V 272) 4 (V 134 4)) 5 (V 134 5))) 273 (cpK (V 135) (V 273) 12)) 274 (cpK (V 136) (V 274) 12)) 275 (cpK (V 137) (V 275) 12)) 276 (cpK (V 138) (V 276) 12))) (st2_c (by decide) (st2_c (by decide) (st2_c (by decide) (st2_c (by decide) (st2_up _ _ _ _ _))))) ?_
  refine x_al0 dX5_become_76 ?_
  refine x_al1 dX5_become_77 ?_
  refine x_getI fl_X5_28 (sh_134 hS) (lq_134 hS) dX5_become_78 ?_
  refine x_topI (a' := V 134 6) rfl ?_
  refine x_putI fl_X5_28 (sh_272 hS) (lq_272 hS) dX5_become_81 ?_
  refine x_mem (V' := (up (up (up (up (up V 272 (ua (ua (ua (V 272) 4 (V 134 4)) 5 (V 134 5)) 6 (V 134 6))) 273 (cpK (V 135) (V 273) 12)) 274 (cpK (V 136) (V 274) 12)) 275 (cpK (V 137) (V 275) 12)) 276 (cpK (V 138) (V 276) 12))) (st2_c (by decide) (st2_c (by decide) (st2_c (by decide) (st2_c (by decide) (st2_up _ _ _ _ _))))) ?_
  exact x_vret hQ (rV.mk rfl) dX5_become_84
set_option maxRecDepth 100000 in
set_option maxHeartbeats 4000000 in
theorem c_X7_remember {B : Bs} {S : Stt} {V : Va} (hS : Stat S) (h11 : 0 ≤ (V 11 1) ∧ (V 11 1) < 20 ∧ 0 ≤ (V 11 2) ∧ (V 11 2) ≤ 20) (h55 : 0 ≤ (V 5 5) ∧ (V 5 5) ≤ 16) : C B yX7_remember cX7_remember 3 none 2 0 0 [vR B 11, vR B 5] S V (rV S (cRem0 V)) := by
  refine C.of [some (vR B 11), some (vR B 5), none] ?_
  intro Γ hQ
  obtain ⟨r, hr⟩ : ∃ r : Nat, r = 13 + 6 * (V 11 1).toNat := ⟨_, rfl⟩
  have hBr : BoS S r := by rw [hr]; exact BoS_now hS (by omega)
  have hrf : S.2.1 12 (V 11 1) = some r := by rw [hr]; exact rf_now hS h11.1 h11.2.1
  have hb5 := BoS_5 hS
  refine x_al0 dX7_remember_0 ?_
  refine x_getR fl_X7_11 (sh_11 hS) (lq_11 hS) (rf_11_0 hS) dX7_remember_1 ?_
  refine x_al0 dX7_remember_4 ?_
  refine x_getI fl_X7_18 (sh_11 hS) (lq_11 hS) dX7_remember_5 ?_
  refine x_topI (a' := V 11 1) rfl ?_
  refine x_baldR (sh_12 hS) (lq_12 hS) (by omega) (by omega) hrf dX7_remember_8 ?_
  refine x_as2 dX7_remember_9 ?_
  refine x_al2 dX7_remember_10 ?_
  refine x_isnull dX7_remember_11 ?_
  refine x_al2 dX7_remember_14 ?_
  refine x_al1 dX7_remember_15 ?_
  refine x_cVv mm_X0_become ml_X7_22 dX7_remember_16 (c_X0_become r 5 hBr hb5 (by omega) h55) (bo_s hBr) (bo_l hBr) ?_
  refine x_al0 dX7_remember_19 ?_
  refine x_al0 dX7_remember_20 ?_
  refine x_getI fl_X7_18 (sh_11 hS) (lq_11 hS) dX7_remember_21 ?_
  refine x_topI (a' := V 11 1) (show ((bcp V r 5) 11) 1 = V 11 1 from (by rw [bcp_o (by omega)])) ?_
  refine x_iconst dX7_remember_24 ?_
  refine x_iadd dX7_remember_25 ?_
  refine x_bipush dX7_remember_26 ?_
  refine x_irem (inr (by omega)) (inr (by decide)) (by decide) dX7_remember_28 ?_
  refine x_topI (a' := ((V 11 1) + 1) % 20) (Int.tmod_eq_emod_of_nonneg (by omega)) ?_
  refine x_putI fl_X7_18 (sh_11 hS) (lq_11 hS) dX7_remember_29 ?_
  refine x_mem (V' := (up (bcp V r 5) 11 (ua ((bcp V r 5) 11) 1 (((V 11 1) + 1) % 20)))) rfl ?_
  refine x_al0 dX7_remember_32 ?_
  refine x_al0 dX7_remember_33 ?_
  refine x_getI fl_X7_26 (sh_11 hS) (lq_11 hS) dX7_remember_34 ?_
  refine x_topI (a' := V 11 2) (show (ua ((bcp V r 5) 11) 1 (((V 11 1) + 1) % 20)) 2 = V 11 2 from ((ua_ne (by decide)).trans (by rw [bcp_o (by omega)]))) ?_
  refine x_iconst dX7_remember_37 ?_
  refine x_iadd dX7_remember_38 ?_
  refine x_bipush dX7_remember_39 ?_
  refine x_mmin ml_X7_29 dX7_remember_41 (inr (by omega)) (inr (by decide)) ?_
  refine x_putI fl_X7_26 (sh_11 hS) (lq_11 hS) dX7_remember_44 ?_
  refine x_mem (V' := (up (bcp V r 5) 11 (ua (ua ((bcp V r 5) 11) 1 (((V 11 1) + 1) % 20)) 2 (if 20 < (V 11 2) + 1 then 20 else (V 11 2) + 1)))) (st2_up _ _ _ _ _) ?_
  exact x_vret hQ (rV.mk (by simp only [cRem0]; rw [← hr, bcp_o (show 11 < r ∨ r + 5 < 11 by omega)])) dX7_remember_47
set_option maxRecDepth 100000 in
set_option maxHeartbeats 4000000 in
theorem c_X7_takeBack {B : Bs} {S : Stt} {V : Va} (hS : Stat S) (h11 : 0 ≤ (V 11 1) ∧ (V 11 1) < 20 ∧ 0 ≤ (V 11 2) ∧ (V 11 2) ≤ 20) (hrt : ∀ k : Nat, k < 20 → 0 ≤ (V (13 + 6 * k) 5) ∧ (V (13 + 6 * k) 5) ≤ 16) : C B yX7_takeBack cX7_takeBack 4 none 2 0 0 [vR B 11, vR B 5] S V (rV S (cTB0 V)) := by
  refine C.of [some (vR B 11), some (vR B 5), none, none] ?_
  intro Γ hQ
  have hnx : 0 ≤ (V 11 1 + 20 - 1) % 20 ∧ (V 11 1 + 20 - 1) % 20 < 20 := by omega
  obtain ⟨r, hr⟩ : ∃ r : Nat, r = 13 + 6 * ((V 11 1 + 20 - 1) % 20).toNat := ⟨_, rfl⟩
  have hBr : BoS S r := by rw [hr]; exact BoS_now hS (by omega)
  have hrf : S.2.1 12 ((V 11 1 + 20 - 1) % 20) = some r := by rw [hr]; exact rf_now hS (by omega) (by omega)
  have hb5 := BoS_5 hS
  have hrt2 : 0 ≤ V r 5 ∧ V r 5 ≤ 16 := by rw [hr]; exact hrt _ (by omega)
  refine x_al0 dX7_takeBack_0 ?_
  refine x_al0 dX7_takeBack_1 ?_
  refine x_getI fl_X7_18 (sh_11 hS) (lq_11 hS) dX7_takeBack_2 ?_
  refine x_topI (a' := V 11 1) rfl ?_
  refine x_bipush dX7_takeBack_5 ?_
  refine x_iadd dX7_takeBack_7 ?_
  refine x_iconst dX7_takeBack_8 ?_
  refine x_isub dX7_takeBack_9 ?_
  refine x_bipush dX7_takeBack_10 ?_
  refine x_irem (inr (by omega)) (inr (by decide)) (by decide) dX7_takeBack_12 ?_
  refine x_topI (a' := (((V 11 1) + 20) - 1) % 20) (Int.tmod_eq_emod_of_nonneg (by omega)) ?_
  refine x_putI fl_X7_18 (sh_11 hS) (lq_11 hS) dX7_takeBack_13 ?_
  refine x_mem (V' := (up V 11 (ua (V 11) 1 ((((V 11 1) + 20) - 1) % 20)))) rfl ?_
  refine x_al0 dX7_takeBack_16 ?_
  refine x_al0 dX7_takeBack_17 ?_
  refine x_getI fl_X7_26 (sh_11 hS) (lq_11 hS) dX7_takeBack_18 ?_
  refine x_topI (a' := V 11 2) (show (ua (V 11) 1 ((((V 11 1) + 20) - 1) % 20)) 2 = V 11 2 from (ua_ne (by decide))) ?_
  refine x_iconst dX7_takeBack_21 ?_
  refine x_isub dX7_takeBack_22 ?_
  refine x_iconst dX7_takeBack_23 ?_
  refine x_mmax ml_X7_35 dX7_takeBack_24 (inr (by omega)) (inr (by decide)) ?_
  refine x_putI fl_X7_26 (sh_11 hS) (lq_11 hS) dX7_takeBack_27 ?_
  refine x_mem (V' := (up V 11 (ua (ua (V 11) 1 ((((V 11 1) + 20) - 1) % 20)) 2 (if (V 11 2) - 1 < 0 then 0 else (V 11 2) - 1)))) (st2_up _ _ _ _ _) ?_
  refine x_al1 dX7_takeBack_30 ?_
  refine x_getI fl_X7_38 (sh_5 hS) (lq_5 hS) dX7_takeBack_31 ?_
  refine x_topI (a' := V 5 5) rfl ?_
  refine x_is2 dX7_takeBack_34 ?_
  refine x_al0 dX7_takeBack_35 ?_
  refine x_getR fl_X7_11 (sh_11 hS) (lq_11 hS) (rf_11_0 hS) dX7_takeBack_36 ?_
  refine x_al0 dX7_takeBack_39 ?_
  refine x_getI fl_X7_18 (sh_11 hS) (lq_11 hS) dX7_takeBack_40 ?_
  refine x_topI (a' := (((V 11 1) + 20) - 1) % 20) (show (ua (ua (V 11) 1 ((((V 11 1) + 20) - 1) % 20)) 2 (if (V 11 2) - 1 < 0 then 0 else (V 11 2) - 1)) 1 = (((V 11 1) + 20) - 1) % 20 from ((ua_ne (by decide)).trans (ua_same _ _ _))) ?_
  refine x_baldR (sh_12 hS) (lq_12 hS) (by omega) (by omega) hrf dX7_takeBack_43 ?_
  refine x_as3 dX7_takeBack_44 ?_
  refine x_al3 dX7_takeBack_45 ?_
  refine x_isnull dX7_takeBack_46 ?_
  refine x_al1 dX7_takeBack_49 ?_
  refine x_al3 dX7_takeBack_50 ?_
  refine x_cVv mm_X0_become ml_X7_22 dX7_takeBack_51 (c_X0_become 5 r hb5 hBr (by omega) (by rw [up_ne (show r ≠ 11 by omega)]; exact hrt2)) (sh_5 hS) (lq_5 hS) ?_
  refine x_al1 dX7_takeBack_54 ?_
  refine x_il2 dX7_takeBack_55 ?_
  refine x_putI fl_X7_38 (sh_5 hS) (lq_5 hS) dX7_takeBack_56 ?_
  refine x_mem (V' := (up (bcp (up V 11 (ua (ua (V 11) 1 ((((V 11 1) + 20) - 1) % 20)) 2 (if (V 11 2) - 1 < 0 then 0 else (V 11 2) - 1))) 5 r) 5 (ua ((bcp (up V 11 (ua (ua (V 11) 1 ((((V 11 1) + 20) - 1) % 20)) 2 (if (V 11 2) - 1 < 0 then 0 else (V 11 2) - 1))) 5 r) 5) 5 (V 5 5)))) rfl ?_
  exact x_vret hQ (rV.mk (by simp only [cTB0]; rw [← hr])) dX7_takeBack_59
set_option maxRecDepth 100000 in
set_option maxHeartbeats 4000000 in
theorem c_X7_become_11 {B : Bs} {S : Stt} {V : Va} (hS : Stat S) (hrt : ∀ k : Nat, k < 20 → 0 ≤ (V (151 + 6 * k) 5) ∧ (V (151 + 6 * k) 5) ≤ 16) : C B yX7_become cX7_become 5 none 2 0 0 [vR B 11, vR B 149] S V (rV S (up (stcp V 13 151 20) 11 (ua (ua ((V 11)) 1 (V 149 1)) 2 (V 149 2)))) := by
  refine C.of [some (vR B 11), some (vR B 149), none, none, none] ?_
  intro Γ hQ
  refine x_iconst dX7_become_0 ?_
  refine x_is2 dX7_become_1 ?_
  have lp2 : ∀ (N2 : Nat) (k : Int) (W : Va), (0 ≤ k ∧ k ≤ 20) → (W = stcp V 13 151 k.toNat) → (20 - k).toNat < N2 → X Γ B RX7 "become" cX7_become 5 none 2 0 0 2 [some (vR B 11), some (vR B 149), some (vI k), none, none] [] 0 0 S W := by
    intro N2
    induction N2 with
    | zero => intro k W hk hW hN; exact absurd hN (Nat.not_lt_zero _)
    | succ N2 ih2 =>
      intro k W hk hW hN2
      have hBi : k < 20 → BoS S (13 + 6 * k.toNat) := fun z => BoS_now hS (by omega)
      have hBj : k < 20 → BoS S (151 + 6 * k.toNat) := fun z => BoS_img hS (by omega)
      have hfi : k < 20 → S.2.1 12 k = some (13 + 6 * k.toNat) := fun z => rf_now hS (by omega) z
      have hfj : k < 20 → S.2.1 150 k = some (151 + 6 * k.toNat) := fun z => rf_img hS (by omega) z
      refine x_il2 dX7_become_2 ?_
      refine x_bipush dX7_become_3 ?_
      refine x_icmp_ge (tgt := 44) dX7_become_5 (inr (by omega)) (inr (by decide)) (fun c5_1 => ?_) (fun c5_1 => ?_)
      · -- 5 ge -> 44
        refine x_al0 dX7_become_44 ?_
        refine x_al1 dX7_become_45 ?_
        refine x_getI fl_X7_18 (sh_149 hS) (lq_149 hS) dX7_become_46 ?_
        refine x_topI (a' := V 149 1) (show (W 149) 1 = V 149 1 from (by rw [hW, stcp_o _ (by omega)])) ?_
        refine x_putI fl_X7_18 (sh_11 hS) (lq_11 hS) dX7_become_49 ?_
        refine x_mem (V' := (up W 11 (ua (W 11) 1 (V 149 1)))) rfl ?_
        refine x_al0 dX7_become_52 ?_
        refine x_al1 dX7_become_53 ?_
        refine x_getI fl_X7_26 (sh_149 hS) (lq_149 hS) dX7_become_54 ?_
        refine x_topI (a' := V 149 2) (show (W 149) 2 = V 149 2 from (by rw [hW, stcp_o _ (by omega)])) ?_
        refine x_putI fl_X7_26 (sh_11 hS) (lq_11 hS) dX7_become_57 ?_
        refine x_mem (V' := (up W 11 (ua (ua (W 11) 1 (V 149 1)) 2 (V 149 2)))) (st2_up _ _ _ _ _) ?_
        exact x_vret hQ (rV.mk (by rw [hW, show k.toNat = 20 by omega, stcp_o (q := 11) 20 (by omega)])) dX7_become_60
      · -- 5 ge -> 8
        refine x_al0 dX7_become_8 ?_
        refine x_getR fl_X7_11 (sh_11 hS) (lq_11 hS) (rf_11_0 hS) dX7_become_9 ?_
        refine x_il2 dX7_become_12 ?_
        refine x_baldR (sh_12 hS) (lq_12 hS) (by omega) (by omega) (hfi (by omega)) dX7_become_13 ?_
        refine x_as3 dX7_become_14 ?_
        refine x_al1 dX7_become_15 ?_
        refine x_getR fl_X7_11 (sh_149 hS) (lq_149 hS) (rf_149_0 hS) dX7_become_16 ?_
        refine x_il2 dX7_become_19 ?_
        refine x_baldR (sh_150 hS) (lq_150 hS) (by omega) (by omega) (hfj (by omega)) dX7_become_20 ?_
        refine x_as4 dX7_become_21 ?_
        refine x_al3 dX7_become_23 ?_
        refine x_isnull dX7_become_24 ?_
        refine x_al4 dX7_become_27 ?_
        refine x_isnull dX7_become_29 ?_
        refine x_al3 dX7_become_32 ?_
        refine x_al4 dX7_become_33 ?_
        refine x_cVv mm_X0_become ml_X7_22 dX7_become_35 (c_X0_become (13 + 6 * k.toNat) (151 + 6 * k.toNat) (hBi (by omega)) (hBj (by omega)) (by omega) (by rw [hW, stcp_o _ (by omega)]; exact hrt _ (by omega))) (bo_s (hBi (by omega))) (bo_l (hBi (by omega))) ?_
        refine x_inc2 dX7_become_38 ?_
        refine x_goto (tgt := 2) dX7_become_41 ?_
        exact x_fg (ih2 (k + 1) (bcp W (13 + 6 * k.toNat) (151 + 6 * k.toNat)) (by omega) (by rw [show (k + 1).toNat = k.toNat + 1 by omega, hW]; rfl) (by omega)) (And.intro rfl (And.intro rfl (And.intro rfl trivial)))
  exact x_fg (lp2 _ 0 V (by omega) rfl (Nat.lt_succ_self _)) (And.intro rfl (And.intro rfl (And.intro rfl trivial)))
set_option maxRecDepth 100000 in
set_option maxHeartbeats 4000000 in
theorem c_X7_become_149 {B : Bs} {S : Stt} {V : Va} (hS : Stat S) (hrt : ∀ k : Nat, k < 20 → 0 ≤ (V (13 + 6 * k) 5) ∧ (V (13 + 6 * k) 5) ≤ 16) : C B yX7_become cX7_become 5 none 2 0 0 [vR B 149, vR B 11] S V (rV S (up (stcp V 151 13 20) 149 (ua (ua ((V 149)) 1 (V 11 1)) 2 (V 11 2)))) := by
  refine C.of [some (vR B 149), some (vR B 11), none, none, none] ?_
  intro Γ hQ
  refine x_iconst dX7_become_0 ?_
  refine x_is2 dX7_become_1 ?_
  have lp2 : ∀ (N2 : Nat) (k : Int) (W : Va), (0 ≤ k ∧ k ≤ 20) → (W = stcp V 151 13 k.toNat) → (20 - k).toNat < N2 → X Γ B RX7 "become" cX7_become 5 none 2 0 0 2 [some (vR B 149), some (vR B 11), some (vI k), none, none] [] 0 0 S W := by
    intro N2
    induction N2 with
    | zero => intro k W hk hW hN; exact absurd hN (Nat.not_lt_zero _)
    | succ N2 ih2 =>
      intro k W hk hW hN2
      have hBi : k < 20 → BoS S (151 + 6 * k.toNat) := fun z => BoS_img hS (by omega)
      have hBj : k < 20 → BoS S (13 + 6 * k.toNat) := fun z => BoS_now hS (by omega)
      have hfi : k < 20 → S.2.1 150 k = some (151 + 6 * k.toNat) := fun z => rf_img hS (by omega) z
      have hfj : k < 20 → S.2.1 12 k = some (13 + 6 * k.toNat) := fun z => rf_now hS (by omega) z
      refine x_il2 dX7_become_2 ?_
      refine x_bipush dX7_become_3 ?_
      refine x_icmp_ge (tgt := 44) dX7_become_5 (inr (by omega)) (inr (by decide)) (fun c5_1 => ?_) (fun c5_1 => ?_)
      · -- 5 ge -> 44
        refine x_al0 dX7_become_44 ?_
        refine x_al1 dX7_become_45 ?_
        refine x_getI fl_X7_18 (sh_11 hS) (lq_11 hS) dX7_become_46 ?_
        refine x_topI (a' := V 11 1) (show (W 11) 1 = V 11 1 from (by rw [hW, stcp_o _ (by omega)])) ?_
        refine x_putI fl_X7_18 (sh_149 hS) (lq_149 hS) dX7_become_49 ?_
        refine x_mem (V' := (up W 149 (ua (W 149) 1 (V 11 1)))) rfl ?_
        refine x_al0 dX7_become_52 ?_
        refine x_al1 dX7_become_53 ?_
        refine x_getI fl_X7_26 (sh_11 hS) (lq_11 hS) dX7_become_54 ?_
        refine x_topI (a' := V 11 2) (show (W 11) 2 = V 11 2 from (by rw [hW, stcp_o _ (by omega)])) ?_
        refine x_putI fl_X7_26 (sh_149 hS) (lq_149 hS) dX7_become_57 ?_
        refine x_mem (V' := (up W 149 (ua (ua (W 149) 1 (V 11 1)) 2 (V 11 2)))) (st2_up _ _ _ _ _) ?_
        exact x_vret hQ (rV.mk (by rw [hW, show k.toNat = 20 by omega, stcp_o (q := 149) 20 (by omega)])) dX7_become_60
      · -- 5 ge -> 8
        refine x_al0 dX7_become_8 ?_
        refine x_getR fl_X7_11 (sh_149 hS) (lq_149 hS) (rf_149_0 hS) dX7_become_9 ?_
        refine x_il2 dX7_become_12 ?_
        refine x_baldR (sh_150 hS) (lq_150 hS) (by omega) (by omega) (hfi (by omega)) dX7_become_13 ?_
        refine x_as3 dX7_become_14 ?_
        refine x_al1 dX7_become_15 ?_
        refine x_getR fl_X7_11 (sh_11 hS) (lq_11 hS) (rf_11_0 hS) dX7_become_16 ?_
        refine x_il2 dX7_become_19 ?_
        refine x_baldR (sh_12 hS) (lq_12 hS) (by omega) (by omega) (hfj (by omega)) dX7_become_20 ?_
        refine x_as4 dX7_become_21 ?_
        refine x_al3 dX7_become_23 ?_
        refine x_isnull dX7_become_24 ?_
        refine x_al4 dX7_become_27 ?_
        refine x_isnull dX7_become_29 ?_
        refine x_al3 dX7_become_32 ?_
        refine x_al4 dX7_become_33 ?_
        refine x_cVv mm_X0_become ml_X7_22 dX7_become_35 (c_X0_become (151 + 6 * k.toNat) (13 + 6 * k.toNat) (hBi (by omega)) (hBj (by omega)) (by omega) (by rw [hW, stcp_o _ (by omega)]; exact hrt _ (by omega))) (bo_s (hBi (by omega))) (bo_l (hBi (by omega))) ?_
        refine x_inc2 dX7_become_38 ?_
        refine x_goto (tgt := 2) dX7_become_41 ?_
        exact x_fg (ih2 (k + 1) (bcp W (151 + 6 * k.toNat) (13 + 6 * k.toNat)) (by omega) (by rw [show (k + 1).toNat = k.toNat + 1 by omega, hW]; rfl) (by omega)) (And.intro rfl (And.intro rfl (And.intro rfl trivial)))
  exact x_fg (lp2 _ 0 V (by omega) rfl (Nat.lt_succ_self _)) (And.intro rfl (And.intro rfl (And.intro rfl trivial)))
