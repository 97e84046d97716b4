set_option maxRecDepth 100000 in
set_option maxHeartbeats 4000000 in
theorem c_X6_findTwins {B : Bs} {S : Stt} {V : Va} (hS : Stat S) (hn9 : 0 ≤ (V 289 9) ∧ (V 289 9) ≤ 12) (hcl : ∀ i, 0 ≤ i → i < 12 → 0 ≤ (V 291) i ∧ (V 291) i < 4096) (hal : ∀ i, 0 ≤ i → i < 12 → 0 ≤ (V 292) i ∧ (V 292) i < 4096) : C B yX6_findTwins cX6_findTwins 4 none 1 0 0 [vR B 289] S V (rVR S (fun VN => ∃ tw, VN = up V 295 tw ∧ ∀ i, 0 ≤ i → i < (V 289 9) → TwL V i i (tw i))) := by
  refine C.of [some (vR B 289), none, none, none] ?_
  intro Γ hQ
  have e12 : p2 12 = 4096 := by decide
  refine x_iconst dX6_findTwins_0 ?_
  refine x_is1 dX6_findTwins_1 ?_
  have lp2 : ∀ (N2 : Nat) (i : Int) (tw : Int → Int), (0 ≤ i ∧ i ≤ V 289 9) → (∀ x, 0 ≤ x → x < i → TwL V x x (tw x)) → (V 289 9 - i).toNat < N2 → X Γ B RX6 "findTwins" cX6_findTwins 4 none 1 0 0 2 [some (vR B 289), some (vI i), none, none] [] 0 0 S (up V 295 tw) := by
    intro N2
    induction N2 with
    | zero => intro i tw hi hw hN; exact absurd hN (Nat.not_lt_zero _)
    | succ N2 ih2 =>
      intro i tw hi hw hN2
      refine x_il1 dX6_findTwins_2 ?_
      refine x_al0 dX6_findTwins_3 ?_
      refine x_getI fl_X6_68 (sh_289 hS) (lq_289 hS) dX6_findTwins_4 ?_
      refine x_topI (a' := V 289 9) rfl ?_
      refine x_icmp_ge (tgt := 85) dX6_findTwins_7 (inr (by omega)) (inr (by omega)) (fun c7_1 => ?_) (fun c7_1 => ?_)
      · -- 7 ge -> 85
        exact x_vret hQ ⟨rfl, rfl, tw, rfl, fun x x0 x1 => hw x x0 (by omega)⟩ dX6_findTwins_85
      · -- 7 ge -> 10
        refine x_al0 dX6_findTwins_10 ?_
        refine x_getR fl_X6_27 (sh_289 hS) (lq_289 hS) (rf_289_7 hS) dX6_findTwins_11 ?_
        refine x_il1 dX6_findTwins_14 ?_
        refine x_iconst dX6_findTwins_15 ?_
        refine x_iast (sh_295 hS) (lq_295 hS) (by omega) (by omega) dX6_findTwins_16 ?_
        refine x_mem (V' := (up V 295 (ua tw i (-1)))) (st2_up _ _ _ _ _) ?_
        refine x_iconst dX6_findTwins_17 ?_
        refine x_is2 dX6_findTwins_18 ?_
        have lp19 : ∀ (N19 : Nat) (j : Int) (tw : Int → Int), (0 ≤ j ∧ j ≤ i) → (∀ x, 0 ≤ x → x < i → TwL V x x (tw x)) → (TwL V i j (tw i)) → (i - j).toNat < N19 → X Γ B RX6 "findTwins" cX6_findTwins 4 none 1 0 0 19 [some (vR B 289), some (vI i), some (vI j), none] [] 0 0 S (up V 295 tw) := by
          intro N19
          induction N19 with
          | zero => intro j tw hj hw2 hl hN; exact absurd hN (Nat.not_lt_zero _)
          | succ N19 ih19 =>
            intro j tw hj hw2 hl hN19
            refine x_il2 dX6_findTwins_19 ?_
            refine x_il1 dX6_findTwins_20 ?_
            refine x_icmp_ge (tgt := 79) dX6_findTwins_21 (inr (by omega)) (inr (by omega)) (fun c21_2 => ?_) (fun c21_2 => ?_)
            · -- 21 ge -> 79
              refine x_inc1 dX6_findTwins_79 ?_
              refine x_goto (tgt := 2) dX6_findTwins_82 ?_
              exact x_fg (ih2 (i + 1) tw (by omega) (fun x x0 x1 => by by_cases e : x = i; (rw [e]; have q := hl; rw [show j = i by omega] at q; exact q); (exact hw2 x x0 (by omega))) (by omega)) (And.intro rfl (And.intro rfl trivial))
            · -- 21 ge -> 24
              have c1 := hcl i (by omega) (by omega)
              have c2 := hcl j (by omega) (by omega)
              have a1 := hal i (by omega) (by omega)
              have a2 := hal j (by omega) (by omega)
              have b0 := bor_lt (x := p2 i) (y := p2 j) (n := 12) ⟨Int.le_of_lt (p2_pos _), p2_lt hi.1 (by omega)⟩ ⟨Int.le_of_lt (p2_pos _), p2_lt hj.1 (by omega)⟩
              have b1 := bor_lt (x := V 291 i) (y := bor (p2 i) (p2 j)) (n := 12) (by omega) b0
              have b2 := bor_lt (x := V 291 j) (y := bor (p2 i) (p2 j)) (n := 12) (by omega) b0
              have d1 := p2_pos i
              have d2 := p2_pos j
              refine x_iconst dX6_findTwins_24 ?_
              refine x_il1 dX6_findTwins_25 ?_
              refine x_shl1 (by omega) (by omega) dX6_findTwins_26 ?_
              refine x_iconst dX6_findTwins_27 ?_
              refine x_il2 dX6_findTwins_28 ?_
              refine x_shl1 (by omega) (by omega) dX6_findTwins_29 ?_
              refine x_ior (Int.le_of_lt (p2_pos _)) (Int.le_of_lt (p2_pos _)) dX6_findTwins_30 ?_
              refine x_is3 dX6_findTwins_31 ?_
              refine x_al0 dX6_findTwins_32 ?_
              refine x_getR fl_X6_18 (sh_289 hS) (lq_289 hS) (rf_289_4 hS) dX6_findTwins_33 ?_
              refine x_il1 dX6_findTwins_36 ?_
              refine x_iald (sh_292 hS) (lq_292 hS) (by omega) (by omega) dX6_findTwins_37 ?_
              refine x_topI (a' := V 292 i) rfl ?_
              refine x_al0 dX6_findTwins_38 ?_
              refine x_getR fl_X6_18 (sh_289 hS) (lq_289 hS) (rf_289_4 hS) dX6_findTwins_39 ?_
              refine x_il2 dX6_findTwins_42 ?_
              refine x_iald (sh_292 hS) (lq_292 hS) (by omega) (by omega) dX6_findTwins_43 ?_
              refine x_topI (a' := V 292 j) rfl ?_
              refine x_icmp_ne (tgt := 73) dX6_findTwins_44 (inr (by omega)) (inr (by omega)) (fun c44_3 => ?_) (fun c44_3 => ?_)
              · -- 44 ne -> 73
                refine x_inc2 dX6_findTwins_73 ?_
                refine x_goto (tgt := 19) dX6_findTwins_76 ?_
                exact x_fg (ih19 (j + 1) tw (by omega) (fun x x0 x1 => by first | exact hw2 x x0 x1 | (rw [ua_ne (by omega)]; exact hw2 x x0 x1)) (by first | (rw [ua_same]; exact TwL_on (t := 0) hj.1 ⟨by omega, by assumption⟩) | exact TwL_no hl (fun z => by first | (exact absurd z.1 (by assumption)) | (exact absurd z.2 (by assumption)))) (by omega)) (And.intro rfl (And.intro rfl (And.intro rfl trivial)))
              · -- 44 ne -> 47
                refine x_al0 dX6_findTwins_47 ?_
                refine x_getR fl_X6_15 (sh_289 hS) (lq_289 hS) (rf_289_3 hS) dX6_findTwins_48 ?_
                refine x_il1 dX6_findTwins_51 ?_
                refine x_iald (sh_291 hS) (lq_291 hS) (by omega) (by omega) dX6_findTwins_52 ?_
                refine x_topI (a' := V 291 i) rfl ?_
                refine x_il3 dX6_findTwins_53 ?_
                refine x_ior (by omega) (by omega) dX6_findTwins_54 ?_
                refine x_al0 dX6_findTwins_55 ?_
                refine x_getR fl_X6_15 (sh_289 hS) (lq_289 hS) (rf_289_3 hS) dX6_findTwins_56 ?_
                refine x_il2 dX6_findTwins_59 ?_
                refine x_iald (sh_291 hS) (lq_291 hS) (by omega) (by omega) dX6_findTwins_60 ?_
                refine x_topI (a' := V 291 j) rfl ?_
                refine x_il3 dX6_findTwins_61 ?_
                refine x_ior (by omega) (by omega) dX6_findTwins_62 ?_
                refine x_icmp_ne (tgt := 73) dX6_findTwins_63 (inr (by omega)) (inr (by omega)) (fun c63_4 => ?_) (fun c63_4 => ?_)
                · -- 63 ne -> 73
                  refine x_inc2 dX6_findTwins_73 ?_
                  refine x_goto (tgt := 19) dX6_findTwins_76 ?_
                  exact x_fg (ih19 (j + 1) tw (by omega) (fun x x0 x1 => by first | exact hw2 x x0 x1 | (rw [ua_ne (by omega)]; exact hw2 x x0 x1)) (by first | (rw [ua_same]; exact TwL_on (t := 0) hj.1 ⟨by omega, by assumption⟩) | exact TwL_no hl (fun z => by first | (exact absurd z.1 (by assumption)) | (exact absurd z.2 (by assumption)))) (by omega)) (And.intro rfl (And.intro rfl (And.intro rfl trivial)))
                · -- 63 ne -> 66
                  refine x_al0 dX6_findTwins_66 ?_
                  refine x_getR fl_X6_27 (sh_289 hS) (lq_289 hS) (rf_289_7 hS) dX6_findTwins_67 ?_
                  refine x_il1 dX6_findTwins_70 ?_
                  refine x_il2 dX6_findTwins_71 ?_
                  refine x_iast (sh_295 hS) (lq_295 hS) (by omega) (by omega) dX6_findTwins_72 ?_
                  refine x_mem (V' := (up V 295 (ua tw i j))) (st2_up _ _ _ _ _) ?_
                  refine x_inc2 dX6_findTwins_73 ?_
                  refine x_goto (tgt := 19) dX6_findTwins_76 ?_
                  exact x_fg (ih19 (j + 1) (ua tw i j) (by omega) (fun x x0 x1 => by first | exact hw2 x x0 x1 | (rw [ua_ne (by omega)]; exact hw2 x x0 x1)) (by first | (rw [ua_same]; exact TwL_on (t := 0) hj.1 ⟨by omega, by assumption⟩) | exact TwL_no hl (fun z => by first | (exact absurd z.1 (by assumption)) | (exact absurd z.2 (by assumption)))) (by omega)) (And.intro rfl (And.intro rfl (And.intro rfl trivial)))
        exact x_fg (lp19 _ 0 (ua tw i (-1)) (by omega) (fun x x0 x1 => by rw [ua_ne (by omega)]; exact hw x x0 x1) (by rw [ua_same]; exact TwL_0 V i) (Nat.lt_succ_self _)) (And.intro rfl (And.intro rfl (And.intro rfl trivial)))
  refine x_mem (V' := (up V 295 (V 295))) (show _ = (up V 295 (V 295)) from (Eq.symm (up_self _ 295))) ?_
  exact x_fg (lp2 _ 0 (V 295) (by omega) (fun x x0 x1 => by omega) (Nat.lt_succ_self _)) (And.intro rfl (And.intro rfl trivial))
