set_option maxRecDepth 100000 in
set_option maxHeartbeats 4000000 in
theorem c_X6_saintOf {B : Bs} {S : Stt} {V : Va} (bone : Int) (hS : Stat S) (hn9 : 0 ≤ (V 289 9) ∧ (V 289 9) ≤ 12) (hbo : ∀ i, 0 ≤ i → i < (V 289 9) → 0 ≤ (V 290) i ∧ (V 290) i < 16) (hbone : InR bone) : C B yX6_saintOf cX6_saintOf 3 (some .int) 1 0 0 [vR B 289, vI bone] S V (rI S V (soV V bone)) := by
  refine C.of [some (vR B 289), some (vI bone), none] ?_
  intro Γ hQ
  refine x_iconst dX6_saintOf_0 ?_
  refine x_is2 dX6_saintOf_1 ?_
  have lp2 : ∀ (N2 : Nat) (i : Int), (0 ≤ i ∧ i ≤ V 289 9) → (∀ j, 0 ≤ j → j < i → V 290 j ≠ bone) → (V 289 9 - i).toNat < N2 → X Γ B RX6 "saintOf" cX6_saintOf 3 (some .int) 1 0 0 2 [some (vR B 289), some (vI bone), some (vI i)] [] 0 0 S V := by
    intro N2
    induction N2 with
    | zero => intro i hi hno hN; exact absurd hN (Nat.not_lt_zero _)
    | succ N2 ih2 =>
      intro i hi hno hN2
      refine x_il2 dX6_saintOf_2 ?_
      refine x_al0 dX6_saintOf_3 ?_
      refine x_getI fl_X6_68 (sh_289 hS) (lq_289 hS) dX6_saintOf_4 ?_
      refine x_topI (a' := V 289 9) rfl ?_
      refine x_icmp_ge (tgt := 33) dX6_saintOf_7 (inr (by omega)) (inr (by omega)) (fun c7_1 => ?_) (fun c7_1 => ?_)
      · -- 7 ge -> 33
        refine x_iconst dX6_saintOf_33 ?_
        exact x_iret hQ (rI.mk (soV_no (fun j j0 j1 => hno j j0 (by omega))) rfl) dX6_saintOf_34
      · -- 7 ge -> 10
        have hbi := hbo i hi.1 (by omega)
        refine x_al0 dX6_saintOf_10 ?_
        refine x_getR fl_X6_9 (sh_289 hS) (lq_289 hS) (rf_289_2 hS) dX6_saintOf_11 ?_
        refine x_il2 dX6_saintOf_14 ?_
        refine x_iald (sh_290 hS) (lq_290 hS) (by omega) (by omega) dX6_saintOf_15 ?_
        refine x_topI (a' := V 290 i) rfl ?_
        refine x_il1 dX6_saintOf_16 ?_
        refine x_icmp_ne (tgt := 27) dX6_saintOf_17 (inr (by omega)) (inr (by omega)) (fun c17_2 => ?_) (fun c17_2 => ?_)
        · -- 17 ne -> 27
          refine x_inc2 dX6_saintOf_27 ?_
          refine x_goto (tgt := 2) dX6_saintOf_30 ?_
          exact x_fg (ih2 (i + 1) (by omega) (fun j j0 j1 => by by_cases e : j = i; (rw [e]; assumption); (exact hno j j0 (by omega))) (by omega)) (And.intro rfl (And.intro rfl (And.intro rfl trivial)))
        · -- 17 ne -> 20
          refine x_al0 dX6_saintOf_20 ?_
          refine x_getR fl_X6_30 (sh_289 hS) (lq_289 hS) (rf_289_8 hS) dX6_saintOf_21 ?_
          refine x_il2 dX6_saintOf_24 ?_
          refine x_iald (sh_296 hS) (lq_296 hS) (by omega) (by omega) dX6_saintOf_25 ?_
          refine x_topI (a' := V 296 i) rfl ?_
          exact x_iret hQ (rI.mk (soV_at hi.1 (by omega) (by omega) hno) rfl) dX6_saintOf_26
  exact x_fg (lp2 _ 0 (by omega) (fun j j0 j1 => by omega) (Nat.lt_succ_self _)) (And.intro rfl (And.intro rfl (And.intro rfl trivial)))
