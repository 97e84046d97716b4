set_option maxRecDepth 100000 in
set_option maxHeartbeats 4000000 in
theorem c_X11_milesOf {B : Bs} {S : Stt} {V : Va} (n : Int) (hS : Stat S) (hA : AB (V 309)) (hn : 1 ≤ n ∧ n ≤ 8) (hr : ∀ k, 0 ≤ k → k < n → 0 ≤ (V 324) k ∧ (V 324) k ≤ 9) : C B yX11_milesOf cX11_milesOf 4 (some .int) 3 0 0 [vR B 308, vI n] S V (rI S V (tourM (V 309) (V 324) n)) := by
  refine C.of [some (vR B 308), some (vI n), none, none] ?_
  intro Γ hQ
  refine x_iconst dX11_milesOf_0 ?_
  refine x_is2 dX11_milesOf_1 ?_
  refine x_iconst dX11_milesOf_2 ?_
  refine x_is3 dX11_milesOf_3 ?_
  have lp4 : ∀ (N4 : Nat) (s : Int) (k : Int), (0 ≤ k ∧ k ≤ n) → (s = sumT (fun zz => mMiles (V 309) (V 324 zz) (V 324 (if zz + 1 = n then 0 else zz + 1))) k) → (n - k).toNat < N4 → X Γ B RX11 "milesOf" cX11_milesOf 4 (some .int) 3 0 0 4 [some (vR B 308), some (vI n), some (vI s), some (vI k)] [] 0 0 S V := by
    intro N4
    induction N4 with
    | zero => intro s k hk hs hN; exact absurd hN (Nat.not_lt_zero _)
    | succ N4 ih4 =>
      intro s k hk hs hN4
      refine x_il3 dX11_milesOf_4 ?_
      refine x_il1 dX11_milesOf_5 ?_
      refine x_icmp_ge (tgt := 47) dX11_milesOf_6 (inr (by omega)) (inr (by omega)) (fun c6_1 => ?_) (fun c6_1 => ?_)
      · -- 6 ge -> 47
        refine x_il2 dX11_milesOf_47 ?_
        exact x_iret hQ (rI.mk (by rw [hs, show k = n by omega]; rfl) rfl) dX11_milesOf_48
      · -- 6 ge -> 9
        have hr1 := hr k (by omega) (by omega)
        have hr2 := hr 0 (by omega) (by omega)
        refine x_il2 dX11_milesOf_9 ?_
        refine x_al0 dX11_milesOf_10 ?_
        refine x_al0 dX11_milesOf_11 ?_
        refine x_getR fl_X11_65 (sh_308 hS) (lq_308 hS) (rf_308_33 hS) dX11_milesOf_12 ?_
        refine x_il3 dX11_milesOf_15 ?_
        refine x_iald (sh_324 hS) (lq_324 hS) (by omega) (by omega) dX11_milesOf_16 ?_
        refine x_topI (a' := V 324 k) rfl ?_
        refine x_al0 dX11_milesOf_17 ?_
        refine x_getR fl_X11_65 (sh_308 hS) (lq_308 hS) (rf_308_33 hS) dX11_milesOf_18 ?_
        refine x_il3 dX11_milesOf_21 ?_
        refine x_iconst dX11_milesOf_22 ?_
        refine x_iadd dX11_milesOf_23 ?_
        refine x_il1 dX11_milesOf_24 ?_
        refine x_icmp_ne (tgt := 32) dX11_milesOf_25 (inr (by omega)) (inr (by omega)) (fun c25_2 => ?_) (fun c25_2 => ?_)
        · -- 25 ne -> 32
          have hr3 := hr (k + 1) (by omega) (by omega)
          refine x_il3 dX11_milesOf_32 ?_
          refine x_iconst dX11_milesOf_33 ?_
          refine x_iadd dX11_milesOf_34 ?_
          refine x_iald (sh_324 hS) (lq_324 hS) (by omega) (by omega) dX11_milesOf_35 ?_
          refine x_topI (a' := V 324 (k + 1)) rfl ?_
          refine x_cVi mm_X11_miles ml_X11_333 dX11_milesOf_36 (c_X11_miles (V 324 k) (V 324 (k + 1)) hS hA (by omega) (by omega)) (sh_308 hS) (lq_308 hS) ?_
          refine x_iadd dX11_milesOf_39 ?_
          refine x_is2 dX11_milesOf_40 ?_
          refine x_inc3 dX11_milesOf_41 ?_
          refine x_goto (tgt := 4) dX11_milesOf_44 ?_
          exact x_fg (ih4 (s + ((if (V 309) (10 + 2 * (V 324 k)) < (V 309) (10 + 2 * (V 324 (k + 1))) then (V 309) (10 + 2 * (V 324 (k + 1))) - (V 309) (10 + 2 * (V 324 k)) else (V 309) (10 + 2 * (V 324 k)) - (V 309) (10 + 2 * (V 324 (k + 1)))) + (if (V 309) (10 + 2 * (V 324 k) + 1) < (V 309) (10 + 2 * (V 324 (k + 1)) + 1) then (V 309) (10 + 2 * (V 324 (k + 1)) + 1) - (V 309) (10 + 2 * (V 324 k) + 1) else (V 309) (10 + 2 * (V 324 k) + 1) - (V 309) (10 + 2 * (V 324 (k + 1)) + 1)))) (k + 1) (by omega) (by rw [sumT_s _ hk.1, ← hs]; first | (rw [show (if k + 1 = n then (0 : Int) else k + 1) = 0 from if_pos (by omega)]; rfl) | (rw [show (if k + 1 = n then (0 : Int) else k + 1) = k + 1 from if_neg (by omega)]; rfl)) (by omega)) (And.intro rfl (And.intro rfl (And.intro rfl (And.intro rfl trivial))))
        · -- 25 ne -> 28
          refine x_iconst dX11_milesOf_28 ?_
          refine x_goto (tgt := 35) dX11_milesOf_29 ?_
          refine x_iald (sh_324 hS) (lq_324 hS) (by omega) (by omega) dX11_milesOf_35 ?_
          refine x_topI (a' := V 324 0) rfl ?_
          refine x_cVi mm_X11_miles ml_X11_333 dX11_milesOf_36 (c_X11_miles (V 324 k) (V 324 0) hS hA (by omega) (by omega)) (sh_308 hS) (lq_308 hS) ?_
          refine x_iadd dX11_milesOf_39 ?_
          refine x_is2 dX11_milesOf_40 ?_
          refine x_inc3 dX11_milesOf_41 ?_
          refine x_goto (tgt := 4) dX11_milesOf_44 ?_
          exact x_fg (ih4 (s + ((if (V 309) (10 + 2 * (V 324 k)) < (V 309) (10 + 2 * (V 324 0)) then (V 309) (10 + 2 * (V 324 0)) - (V 309) (10 + 2 * (V 324 k)) else (V 309) (10 + 2 * (V 324 k)) - (V 309) (10 + 2 * (V 324 0))) + (if (V 309) (10 + 2 * (V 324 k) + 1) < (V 309) (10 + 2 * (V 324 0) + 1) then (V 309) (10 + 2 * (V 324 0) + 1) - (V 309) (10 + 2 * (V 324 k) + 1) else (V 309) (10 + 2 * (V 324 k) + 1) - (V 309) (10 + 2 * (V 324 0) + 1)))) (k + 1) (by omega) (by rw [sumT_s _ hk.1, ← hs]; first | (rw [show (if k + 1 = n then (0 : Int) else k + 1) = 0 from if_pos (by omega)]; rfl) | (rw [show (if k + 1 = n then (0 : Int) else k + 1) = k + 1 from if_neg (by omega)]; rfl)) (by omega)) (And.intro rfl (And.intro rfl (And.intro rfl (And.intro rfl trivial))))
  exact x_fg (lp4 _ 0 0 (by omega) rfl (Nat.lt_succ_self _)) (And.intro rfl (And.intro rfl (And.intro rfl (And.intro rfl trivial))))
set_option maxRecDepth 100000 in
set_option maxHeartbeats 4000000 in
theorem c_X11_exchange {B : Bs} {S : Stt} {V : Va} (i : Int) (k : Int) (hS : Stat S) (hi : 0 ≤ i ∧ i < 8) (hk : 0 ≤ k ∧ k < 8) : C B yX11_exchange cX11_exchange 4 none 1 0 0 [vR B 308, vI i, vI k] S V (rV S (up V 324 (ua (ua (V 324) i ((V 324) k)) k ((V 324) i)))) := by
  refine C.of [some (vR B 308), some (vI i), some (vI k), none] ?_
  intro Γ hQ
  refine x_al0 dX11_exchange_0 ?_
  refine x_getR fl_X11_65 (sh_308 hS) (lq_308 hS) (rf_308_33 hS) dX11_exchange_1 ?_
  refine x_il1 dX11_exchange_4 ?_
  refine x_iald (sh_324 hS) (lq_324 hS) (by omega) (by omega) dX11_exchange_5 ?_
  refine x_topI (a' := V 324 i) rfl ?_
  refine x_is3 dX11_exchange_6 ?_
  refine x_al0 dX11_exchange_7 ?_
  refine x_getR fl_X11_65 (sh_308 hS) (lq_308 hS) (rf_308_33 hS) dX11_exchange_8 ?_
  refine x_il1 dX11_exchange_11 ?_
  refine x_al0 dX11_exchange_12 ?_
  refine x_getR fl_X11_65 (sh_308 hS) (lq_308 hS) (rf_308_33 hS) dX11_exchange_13 ?_
  refine x_il2 dX11_exchange_16 ?_
  refine x_iald (sh_324 hS) (lq_324 hS) (by omega) (by omega) dX11_exchange_17 ?_
  refine x_topI (a' := V 324 k) rfl ?_
  refine x_iast (sh_324 hS) (lq_324 hS) (by omega) (by omega) dX11_exchange_18 ?_
  refine x_mem (V' := (up V 324 (ua (V 324) i (V 324 k)))) rfl ?_
  refine x_al0 dX11_exchange_19 ?_
  refine x_getR fl_X11_65 (sh_308 hS) (lq_308 hS) (rf_308_33 hS) dX11_exchange_20 ?_
  refine x_il2 dX11_exchange_23 ?_
  refine x_il3 dX11_exchange_24 ?_
  refine x_iast (sh_324 hS) (lq_324 hS) (by omega) (by omega) dX11_exchange_25 ?_
  refine x_mem (V' := (up V 324 (ua (ua (V 324) i (V 324 k)) k (V 324 i)))) (st2_up _ _ _ _ _) ?_
  exact x_vret hQ (rV.mk rfl) dX11_exchange_26
set_option maxRecDepth 100000 in
set_option maxHeartbeats 4000000 in
theorem c_X11_nextOrder {B : Bs} {S : Stt} {V : Va} (n : Int) (hS : Stat S) (A : Int → Prop) (hn : 1 ≤ n ∧ n ≤ 8) (hr : ∀ k, 0 ≤ k → k < n → 0 ≤ (V 324) k ∧ (V 324) k ≤ 9) (hArr : Arr A n (V 324)) : C B yX11_nextOrder cX11_nextOrder 6 (some .boolean) 2 0 0 [vR B 308, vI n] S V (rIh S V 324 (NxP A n (V 324))) := by
  refine C.of [some (vR B 308), some (vI n), none, none, none, none] ?_
  intro Γ hQ
  refine x_il1 dX11_nextOrder_0 ?_
  refine x_iconst dX11_nextOrder_1 ?_
  refine x_isub dX11_nextOrder_2 ?_
  refine x_is2 dX11_nextOrder_3 ?_
  have lp4 : ∀ (N4 : Nat) (i : Int), (-1 ≤ i ∧ i ≤ n - 2) → (∀ j, i + 1 ≤ j → j + 1 < n → V 324 (j + 1) < V 324 j) → (i + 1).toNat < N4 → X Γ B RX11 "nextOrder" cX11_nextOrder 6 (some .boolean) 2 0 0 4 [some (vR B 308), some (vI n), some (vI i), none, none, none] [] 0 0 S V := by
    intro N4
    induction N4 with
    | zero => intro i hi hd hN; exact absurd hN (Nat.not_lt_zero _)
    | succ N4 ih4 =>
      intro i hi hd hN4
      refine x_il2 dX11_nextOrder_4 ?_
      refine x_iconst dX11_nextOrder_5 ?_
      refine x_icmp_lt (tgt := 32) dX11_nextOrder_6 (inr (by omega)) (inr (by decide)) (fun c6_1 => ?_) (fun c6_1 => ?_)
      · -- 6 lt -> 32
        refine x_il2 dX11_nextOrder_32 ?_
        refine x_iconst dX11_nextOrder_33 ?_
        refine x_icmp_ge (tgt := 39) dX11_nextOrder_34 (inr (by omega)) (inr (by decide)) (fun c34_2 => ?_) (fun c34_2 => ?_)
        · -- 34 ge -> 39
          have hr1 := hr i (by omega) (by omega)
          have hii : V 324 i < V 324 (i + 1) := by
            by_cases z : V 324 i = V 324 (i + 1)
            · have := hArr.2.1 i (i + 1) (by omega) (by omega) (by omega) (by omega) z; omega
            · first | omega
          refine x_il1 dX11_nextOrder_39 ?_
          refine x_iconst dX11_nextOrder_40 ?_
          refine x_isub dX11_nextOrder_41 ?_
          refine x_is3 dX11_nextOrder_42 ?_
          have lp43 : ∀ (N43 : Nat) (k : Int), (i + 1 ≤ k ∧ k < n) → (∀ j, k < j → j < n → V 324 j < V 324 i) → k.toNat < N43 → X Γ B RX11 "nextOrder" cX11_nextOrder 6 (some .boolean) 2 0 0 43 [some (vR B 308), some (vI n), some (vI i), some (vI k), none, none] [] 0 0 S V := by
            intro N43
            induction N43 with
            | zero => intro k hk hkk hN; exact absurd hN (Nat.not_lt_zero _)
            | succ N43 ih43 =>
              intro k hk hkk hN43
              have hrk := hr k (by omega) (by omega)
              refine x_al0 dX11_nextOrder_43 ?_
              refine x_getR fl_X11_65 (sh_308 hS) (lq_308 hS) (rf_308_33 hS) dX11_nextOrder_44 ?_
              refine x_il3 dX11_nextOrder_47 ?_
              refine x_iald (sh_324 hS) (lq_324 hS) (by omega) (by omega) dX11_nextOrder_48 ?_
              refine x_topI (a' := V 324 k) rfl ?_
              refine x_al0 dX11_nextOrder_49 ?_
              refine x_getR fl_X11_65 (sh_308 hS) (lq_308 hS) (rf_308_33 hS) dX11_nextOrder_50 ?_
              refine x_il2 dX11_nextOrder_53 ?_
              refine x_iald (sh_324 hS) (lq_324 hS) (by omega) (by omega) dX11_nextOrder_54 ?_
              refine x_topI (a' := V 324 i) rfl ?_
              refine x_icmp_ge (tgt := 64) dX11_nextOrder_55 (inr (by omega)) (inr (by omega)) (fun c55_3 => ?_) (fun c55_3 => ?_)
              · -- 55 ge -> 64
                have hik : V 324 i < V 324 k := by
                  by_cases z : V 324 i = V 324 k
                  · have := hArr.2.1 i k (by omega) (by omega) (by omega) (by omega) z; omega
                  · omega
                refine x_al0 dX11_nextOrder_64 ?_
                refine x_il2 dX11_nextOrder_65 ?_
                refine x_il3 dX11_nextOrder_66 ?_
                refine x_cVv mm_X11_exchange ml_X11_368 dX11_nextOrder_67 (c_X11_exchange i k hS (by omega) (by omega)) (sh_308 hS) (lq_308 hS) ?_
                refine x_il2 dX11_nextOrder_70 ?_
                refine x_iconst dX11_nextOrder_71 ?_
                refine x_iadd dX11_nextOrder_72 ?_
                refine x_is4 dX11_nextOrder_73 ?_
                refine x_il1 dX11_nextOrder_75 ?_
                refine x_iconst dX11_nextOrder_76 ?_
                refine x_isub dX11_nextOrder_77 ?_
                refine x_is5 dX11_nextOrder_78 ?_
                have lp80 : ∀ (N80 : Nat) (p : Int) (q : Int), (i + 1 ≤ p ∧ p ≤ n) → (q = i + 1 + (n - 1) - p) → (n - p).toNat < N80 → X Γ B RX11 "nextOrder" cX11_nextOrder 6 (some .boolean) 2 0 0 80 [some (vR B 308), some (vI n), some (vI i), some (vI k), some (vI p), some (vI q)] [] 0 0 S (up V 324 (revK (ua (ua (V 324) i (V 324 k)) k (V 324 i)) (i + 1) (n - 1) p)) := by
                  intro N80
                  induction N80 with
                  | zero => intro p q hp hq hN; exact absurd hN (Nat.not_lt_zero _)
                  | succ N80 ih80 =>
                    intro p q hp hq hN80
                    refine x_il4 dX11_nextOrder_80 ?_
                    refine x_il5 dX11_nextOrder_82 ?_
                    refine x_icmp_ge (tgt := 104) dX11_nextOrder_84 (inr (by omega)) (inr (by omega)) (fun c84_4 => ?_) (fun c84_4 => ?_)
                    · -- 84 ge -> 104
                      refine x_iconst dX11_nextOrder_104 ?_
                      exact x_zret hQ ⟨1, _, Nx_yes hArr (by omega) ⟨by omega, by omega⟩ hd hik hkk (fun j j0 j1 => revK_sg (by omega) ⟨by omega, by omega⟩ hp.1 (by omega) hp.2 j j0 j1), rfl, rfl, rfl⟩ (by decide) dX11_nextOrder_105
                    · -- 84 ge -> 87
                      refine x_al0 dX11_nextOrder_87 ?_
                      refine x_il4 dX11_nextOrder_88 ?_
                      refine x_il5 dX11_nextOrder_90 ?_
                      refine x_cVv mm_X11_exchange ml_X11_368 dX11_nextOrder_92 (c_X11_exchange p q hS (by omega) (by omega)) (sh_308 hS) (lq_308 hS) ?_
                      refine x_mem (V' := (up V 324 (ua (ua (revK (ua (ua (V 324) i (V 324 k)) k (V 324 i)) (i + 1) (n - 1) p) p ((revK (ua (ua (V 324) i (V 324 k)) k (V 324 i)) (i + 1) (n - 1) p) q)) q ((revK (ua (ua (V 324) i (V 324 k)) k (V 324 i)) (i + 1) (n - 1) p) p)))) (up_up _ _ _ _) ?_
                      refine x_inc4 dX11_nextOrder_95 ?_
                      refine x_dec5 dX11_nextOrder_98 ?_
                      refine x_goto (tgt := 80) dX11_nextOrder_101 ?_
                      refine x_mem (V' := (up V 324 (revK (ua (ua (V 324) i (V 324 k)) k (V 324 i)) (i + 1) (n - 1) (p + 1)))) (upE rfl (revK_s hp.1 (by omega) hq)) ?_
                      exact x_fg (ih80 (p + 1) (q - 1) (by omega) (by omega) (by omega)) (And.intro rfl (And.intro rfl (And.intro rfl (And.intro rfl (And.intro rfl (And.intro rfl trivial))))))
                refine x_mem (V' := (up V 324 (revK (ua (ua (V 324) i (V 324 k)) k (V 324 i)) (i + 1) (n - 1) (i + 1)))) (upE rfl (revK_0 _ _ _)) ?_
                exact x_fg (lp80 _ (i + 1) (n - 1) (by omega) (by omega) (Nat.lt_succ_self _)) (And.intro rfl (And.intro rfl (And.intro rfl (And.intro rfl (And.intro rfl (And.intro rfl trivial))))))
              · -- 55 ge -> 58
                refine x_dec3 dX11_nextOrder_58 ?_
                refine x_goto (tgt := 43) dX11_nextOrder_61 ?_
                exact x_fg (ih43 (k - 1) (by have hq : V 324 k < V 324 i := (by omega); by_cases z : k = i + 1; (rw [z] at hq; omega); omega) (fun j j0 j1 => by rcases (show k < j ∨ j = k by omega) with q | q; (exact hkk j q j1); rw [q]; omega) (by omega)) (And.intro rfl (And.intro rfl (And.intro rfl (And.intro rfl trivial))))
          exact x_fg (lp43 _ (n - 1) (by omega) (fun j j0 j1 => by omega) (Nat.lt_succ_self _)) (And.intro rfl (And.intro rfl (And.intro rfl (And.intro rfl trivial))))
        · -- 34 ge -> 37
          refine x_iconst dX11_nextOrder_37 ?_
          exact x_zret hQ ⟨0, V 324, Nx_no hArr (by omega) hd, rfl, rfl, up_self _ _⟩ (by decide) dX11_nextOrder_38
      · -- 6 lt -> 9
        have hr1 := hr i (by omega) (by omega)
        have hr2 := hr (i + 1) (by omega) (by omega)
        refine x_al0 dX11_nextOrder_9 ?_
        refine x_getR fl_X11_65 (sh_308 hS) (lq_308 hS) (rf_308_33 hS) dX11_nextOrder_10 ?_
        refine x_il2 dX11_nextOrder_13 ?_
        refine x_iald (sh_324 hS) (lq_324 hS) (by omega) (by omega) dX11_nextOrder_14 ?_
        refine x_topI (a' := V 324 i) rfl ?_
        refine x_al0 dX11_nextOrder_15 ?_
        refine x_getR fl_X11_65 (sh_308 hS) (lq_308 hS) (rf_308_33 hS) dX11_nextOrder_16 ?_
        refine x_il2 dX11_nextOrder_19 ?_
        refine x_iconst dX11_nextOrder_20 ?_
        refine x_iadd dX11_nextOrder_21 ?_
        refine x_iald (sh_324 hS) (lq_324 hS) (by omega) (by omega) dX11_nextOrder_22 ?_
        refine x_topI (a' := V 324 (i + 1)) rfl ?_
        refine x_icmp_le (tgt := 32) dX11_nextOrder_23 (inr (by omega)) (inr (by omega)) (fun c23_5 => ?_) (fun c23_5 => ?_)
        · -- 23 le -> 32
          refine x_il2 dX11_nextOrder_32 ?_
          refine x_iconst dX11_nextOrder_33 ?_
          refine x_icmp_ge (tgt := 39) dX11_nextOrder_34 (inr (by omega)) (inr (by decide)) (fun c34_6 => ?_) (fun c34_6 => ?_)
          · -- 34 ge -> 39
            have hr1 := hr i (by omega) (by omega)
            have hii : V 324 i < V 324 (i + 1) := by
              by_cases z : V 324 i = V 324 (i + 1)
              · have := hArr.2.1 i (i + 1) (by omega) (by omega) (by omega) (by omega) z; omega
              · first | omega
            refine x_il1 dX11_nextOrder_39 ?_
            refine x_iconst dX11_nextOrder_40 ?_
            refine x_isub dX11_nextOrder_41 ?_
            refine x_is3 dX11_nextOrder_42 ?_
            have lp43 : ∀ (N43 : Nat) (k : Int), (i + 1 ≤ k ∧ k < n) → (∀ j, k < j → j < n → V 324 j < V 324 i) → k.toNat < N43 → X Γ B RX11 "nextOrder" cX11_nextOrder 6 (some .boolean) 2 0 0 43 [some (vR B 308), some (vI n), some (vI i), some (vI k), none, none] [] 0 0 S V := by
              intro N43
              induction N43 with
              | zero => intro k hk hkk hN; exact absurd hN (Nat.not_lt_zero _)
              | succ N43 ih43 =>
                intro k hk hkk hN43
                have hrk := hr k (by omega) (by omega)
                refine x_al0 dX11_nextOrder_43 ?_
                refine x_getR fl_X11_65 (sh_308 hS) (lq_308 hS) (rf_308_33 hS) dX11_nextOrder_44 ?_
                refine x_il3 dX11_nextOrder_47 ?_
                refine x_iald (sh_324 hS) (lq_324 hS) (by omega) (by omega) dX11_nextOrder_48 ?_
                refine x_topI (a' := V 324 k) rfl ?_
                refine x_al0 dX11_nextOrder_49 ?_
                refine x_getR fl_X11_65 (sh_308 hS) (lq_308 hS) (rf_308_33 hS) dX11_nextOrder_50 ?_
                refine x_il2 dX11_nextOrder_53 ?_
                refine x_iald (sh_324 hS) (lq_324 hS) (by omega) (by omega) dX11_nextOrder_54 ?_
                refine x_topI (a' := V 324 i) rfl ?_
                refine x_icmp_ge (tgt := 64) dX11_nextOrder_55 (inr (by omega)) (inr (by omega)) (fun c55_7 => ?_) (fun c55_7 => ?_)
                · -- 55 ge -> 64
                  have hik : V 324 i < V 324 k := by
                    by_cases z : V 324 i = V 324 k
                    · have := hArr.2.1 i k (by omega) (by omega) (by omega) (by omega) z; omega
                    · omega
                  refine x_al0 dX11_nextOrder_64 ?_
                  refine x_il2 dX11_nextOrder_65 ?_
                  refine x_il3 dX11_nextOrder_66 ?_
                  refine x_cVv mm_X11_exchange ml_X11_368 dX11_nextOrder_67 (c_X11_exchange i k hS (by omega) (by omega)) (sh_308 hS) (lq_308 hS) ?_
                  refine x_il2 dX11_nextOrder_70 ?_
                  refine x_iconst dX11_nextOrder_71 ?_
                  refine x_iadd dX11_nextOrder_72 ?_
                  refine x_is4 dX11_nextOrder_73 ?_
                  refine x_il1 dX11_nextOrder_75 ?_
                  refine x_iconst dX11_nextOrder_76 ?_
                  refine x_isub dX11_nextOrder_77 ?_
                  refine x_is5 dX11_nextOrder_78 ?_
                  have lp80 : ∀ (N80 : Nat) (p : Int) (q : Int), (i + 1 ≤ p ∧ p ≤ n) → (q = i + 1 + (n - 1) - p) → (n - p).toNat < N80 → X Γ B RX11 "nextOrder" cX11_nextOrder 6 (some .boolean) 2 0 0 80 [some (vR B 308), some (vI n), some (vI i), some (vI k), some (vI p), some (vI q)] [] 0 0 S (up V 324 (revK (ua (ua (V 324) i (V 324 k)) k (V 324 i)) (i + 1) (n - 1) p)) := by
                    intro N80
                    induction N80 with
                    | zero => intro p q hp hq hN; exact absurd hN (Nat.not_lt_zero _)
                    | succ N80 ih80 =>
                      intro p q hp hq hN80
                      refine x_il4 dX11_nextOrder_80 ?_
                      refine x_il5 dX11_nextOrder_82 ?_
                      refine x_icmp_ge (tgt := 104) dX11_nextOrder_84 (inr (by omega)) (inr (by omega)) (fun c84_8 => ?_) (fun c84_8 => ?_)
                      · -- 84 ge -> 104
                        refine x_iconst dX11_nextOrder_104 ?_
                        exact x_zret hQ ⟨1, _, Nx_yes hArr (by omega) ⟨by omega, by omega⟩ hd hik hkk (fun j j0 j1 => revK_sg (by omega) ⟨by omega, by omega⟩ hp.1 (by omega) hp.2 j j0 j1), rfl, rfl, rfl⟩ (by decide) dX11_nextOrder_105
                      · -- 84 ge -> 87
                        refine x_al0 dX11_nextOrder_87 ?_
                        refine x_il4 dX11_nextOrder_88 ?_
                        refine x_il5 dX11_nextOrder_90 ?_
                        refine x_cVv mm_X11_exchange ml_X11_368 dX11_nextOrder_92 (c_X11_exchange p q hS (by omega) (by omega)) (sh_308 hS) (lq_308 hS) ?_
                        refine x_mem (V' := (up V 324 (ua (ua (revK (ua (ua (V 324) i (V 324 k)) k (V 324 i)) (i + 1) (n - 1) p) p ((revK (ua (ua (V 324) i (V 324 k)) k (V 324 i)) (i + 1) (n - 1) p) q)) q ((revK (ua (ua (V 324) i (V 324 k)) k (V 324 i)) (i + 1) (n - 1) p) p)))) (up_up _ _ _ _) ?_
                        refine x_inc4 dX11_nextOrder_95 ?_
                        refine x_dec5 dX11_nextOrder_98 ?_
                        refine x_goto (tgt := 80) dX11_nextOrder_101 ?_
                        refine x_mem (V' := (up V 324 (revK (ua (ua (V 324) i (V 324 k)) k (V 324 i)) (i + 1) (n - 1) (p + 1)))) (upE rfl (revK_s hp.1 (by omega) hq)) ?_
                        exact x_fg (ih80 (p + 1) (q - 1) (by omega) (by omega) (by omega)) (And.intro rfl (And.intro rfl (And.intro rfl (And.intro rfl (And.intro rfl (And.intro rfl trivial))))))
                  refine x_mem (V' := (up V 324 (revK (ua (ua (V 324) i (V 324 k)) k (V 324 i)) (i + 1) (n - 1) (i + 1)))) (upE rfl (revK_0 _ _ _)) ?_
                  exact x_fg (lp80 _ (i + 1) (n - 1) (by omega) (by omega) (Nat.lt_succ_self _)) (And.intro rfl (And.intro rfl (And.intro rfl (And.intro rfl (And.intro rfl (And.intro rfl trivial))))))
                · -- 55 ge -> 58
                  refine x_dec3 dX11_nextOrder_58 ?_
                  refine x_goto (tgt := 43) dX11_nextOrder_61 ?_
                  exact x_fg (ih43 (k - 1) (by have hq : V 324 k < V 324 i := (by omega); by_cases z : k = i + 1; (rw [z] at hq; omega); omega) (fun j j0 j1 => by rcases (show k < j ∨ j = k by omega) with q | q; (exact hkk j q j1); rw [q]; omega) (by omega)) (And.intro rfl (And.intro rfl (And.intro rfl (And.intro rfl trivial))))
            exact x_fg (lp43 _ (n - 1) (by omega) (fun j j0 j1 => by omega) (Nat.lt_succ_self _)) (And.intro rfl (And.intro rfl (And.intro rfl (And.intro rfl trivial))))
          · -- 34 ge -> 37
            refine x_iconst dX11_nextOrder_37 ?_
            exact x_zret hQ ⟨0, V 324, Nx_no hArr (by omega) hd, rfl, rfl, up_self _ _⟩ (by decide) dX11_nextOrder_38
        · -- 23 le -> 26
          refine x_dec2 dX11_nextOrder_26 ?_
          refine x_goto (tgt := 4) dX11_nextOrder_29 ?_
          exact x_fg (ih4 (i - 1) (by omega) (fun j j0 j1 => by rcases (show i + 1 ≤ j ∨ j = i by omega) with q | q; (exact hd j q j1); rw [q]; omega) (by omega)) (And.intro rfl (And.intro rfl (And.intro rfl trivial)))
  exact x_fg (lp4 _ (n - 2) (by omega) (fun j j0 j1 => by omega) (Nat.lt_succ_self _)) (And.intro rfl (And.intro rfl (And.intro rfl trivial)))
set_option maxRecDepth 100000 in
set_option maxHeartbeats 4000000 in
theorem c_X11_round {B : Bs} {S : Stt} {V : Va} (set : Int) (i : Int) (hS : Stat S) (hA : AB (V 309)) (h0 : 0 ≤ (V 309 0) ∧ (V 309 0) ≤ 10) (hN : AB (V 314)) (hTr : TRb (V 316)) (hz : TRb (V 323)) (hset : InR set) (hi : InR i) : C B yX11_round cX11_round 8 (some .int) 4 0 0 [vR B 308, vI set, vI i] S V (rG S V (RoR (V 309) set i)) := by
  refine C.of [some (vR B 308), some (vI set), some (vI i), none, none, none, none, none] ?_
  intro Γ hQ
  have h12 : 1 ≤ p2 (V 309 0) ∧ p2 (V 309 0) ≤ 4096 := p2_12 (by omega)
  have hbr := sumT_01 (fun k => set / p2 k % 2) (fun k => by omega) 16 (by omega)
  refine x_il1 dX11_round_0 ?_
  refine x_iconst dX11_round_1 ?_
  refine x_iconst dX11_round_2 ?_
  refine x_al0 dX11_round_3 ?_
  refine x_getR fl_X11_7 (sh_308 hS) (lq_308 hS) (rf_308_0 hS) dX11_round_4 ?_
  refine x_iconst dX11_round_7 ?_
  have hb1 := hA 0
  refine x_iald (sh_309 hS) (lq_309 hS) (by omega) (by omega) dX11_round_8 ?_
  refine x_topI (a' := V 309 0) rfl ?_
  refine x_shl1 (by omega) (by omega) dX11_round_9 ?_
  refine x_iconst dX11_round_10 ?_
  refine x_isub dX11_round_11 ?_
  refine x_cSi mm_X11_isIn ml_X11_75 dX11_round_12 (c_X11_isIn set 1 ((p2 (V 309 0)) - 1) (inr (by omega)) (inr (by decide)) (inr (by omega))) ?_
  refine x_ifb_eq (tgt := 40) dX11_round_15 (fun c15_2 => ?_) (fun c15_2 => ?_)
  · -- 15 eq -> 40
    refine x_iconst dX11_round_40 ?_
    exact x_iret hQ ⟨_, (by simp only [RoR]; rw [if_neg (by simp only [bN]; omega)]; trivial), rfl, rfl, (fun i hi => by first | rfl | (repeat rw [up_ne (by omega)])), (fun k hk => rfl), hN, hTr, hz⟩ dX11_round_41
  · -- 15 eq -> 18
    refine x_il1 dX11_round_18 ?_
    refine x_cSi mm_X11_bits ml_X11_303 dX11_round_19 (c_X11_bits set (inr (by omega))) ?_
    refine x_bipush dX11_round_22 ?_
    refine x_icmp_gt (tgt := 40) dX11_round_24 (inr (by omega)) (inr (by decide)) (fun c24_3 => ?_) (fun c24_3 => ?_)
    · -- 24 gt -> 40
      refine x_iconst dX11_round_40 ?_
      exact x_iret hQ ⟨_, (by simp only [RoR]; rw [if_neg (by simp only [bN]; omega)]; trivial), rfl, rfl, (fun i hi => by first | rfl | (repeat rw [up_ne (by omega)])), (fun k hk => rfl), hN, hTr, hz⟩ dX11_round_41
    · -- 24 gt -> 27
      refine x_il2 dX11_round_27 ?_
      refine x_iconst dX11_round_28 ?_
      refine x_icmp_lt (tgt := 40) dX11_round_29 (inr (by omega)) (inr (by decide)) (fun c29_4 => ?_) (fun c29_4 => ?_)
      · -- 29 lt -> 40
        refine x_iconst dX11_round_40 ?_
        exact x_iret hQ ⟨_, (by simp only [RoR]; rw [if_neg (by simp only [bN]; omega)]; trivial), rfl, rfl, (fun i hi => by first | rfl | (repeat rw [up_ne (by omega)])), (fun k hk => rfl), hN, hTr, hz⟩ dX11_round_41
      · -- 29 lt -> 32
        refine x_il2 dX11_round_32 ?_
        refine x_il1 dX11_round_33 ?_
        refine x_cSi mm_X11_bits ml_X11_303 dX11_round_34 (c_X11_bits set (inr (by omega))) ?_
        refine x_icmp_lt (tgt := 42) dX11_round_37 (inr (by omega)) (inr (by omega)) (fun c37_5 => ?_) (fun c37_5 => ?_)
        · -- 37 lt -> 42
          refine x_iconst dX11_round_42 ?_
          refine x_is3 dX11_round_43 ?_
          refine x_iconst dX11_round_44 ?_
          refine x_is4 dX11_round_45 ?_
          have lp47 : ∀ (N47 : Nat) (n : Int) (t : Int) (ro : Int → Int), (0 ≤ t ∧ t ≤ V 309 0) → (ColT set n t ro) → (V 309 0 - t).toNat < N47 → X Γ B RX11 "round" cX11_round 8 (some .int) 4 0 0 47 [some (vR B 308), some (vI set), some (vI i), some (vI n), some (vI t), none, none, none] [] 0 0 S (up V 324 ro) := by
            intro N47
            induction N47 with
            | zero => intro n t ro ht hC hN; exact absurd hN (Nat.not_lt_zero _)
            | succ N47 ih47 =>
              intro n t ro ht hC hN47
              have hmo := bN_mono (set := set) (16 - t).toNat t ht.1
              rw [show t + (((16 - t).toNat : Nat) : Int) = 16 by omega] at hmo
              have hbe : bN set 16 = sumT (fun k => set / p2 k % 2) 16 := rfl
              have hn0 := hC.1
              have hn1 := hC.2.1
              refine x_il4 dX11_round_47 ?_
              refine x_al0 dX11_round_49 ?_
              refine x_getR fl_X11_7 (sh_308 hS) (lq_308 hS) (rf_308_0 hS) dX11_round_50 ?_
              refine x_iconst dX11_round_53 ?_
              have hb6 := hA 0
              refine x_iald (sh_309 hS) (lq_309 hS) (by omega) (by omega) dX11_round_54 ?_
              refine x_topI (a' := V 309 0) rfl ?_
              refine x_icmp_ge (tgt := 87) dX11_round_55 (inr (by omega)) (inr (by omega)) (fun c55_7 => ?_) (fun c55_7 => ?_)
              · -- 55 ge -> 87
                have hte : t = V 309 0 := by omega
                have hmo2 := bN_top (set := set) (t := V 309 0) (by omega) (by omega) h0.1 (16 - V 309 0).toNat
                rw [show V 309 0 + (((16 - V 309 0).toNat : Nat) : Int) = 16 by omega] at hmo2
                have hn16 : n = bN set 16 := by rw [hC.1, hte]; exact hmo2.symm
                have hnp := bN_pos (set := set) (by omega) (by omega)
                have hnb : 1 ≤ n ∧ n ≤ 8 := by omega
                have hx0 : ∀ x, tIn (V 309) set x → ro 0 ≤ x := fun x hx => ColT_first (by rw [← hte]; exact hC) x hx
                refine x_iconst dX11_round_87 ?_
                refine x_is4 dX11_round_88 ?_
                refine x_iconst dX11_round_90 ?_
                refine x_is5 dX11_round_91 ?_
                have lp93 : ∀ (N93 : Nat) (least : Int) (more : Int) (t : Int → Int) (b : Int → Int), (more = 0 ∨ more = 1) → (-1 ≤ least ∧ least < 2000000) → (RdI (V 309) (tIn (V 309) set) n (ro 0) more least t b) → (10 ^ n.toNat - numV t n.toNat) * 2 + more.toNat < N93 → X Γ B RX11 "round" cX11_round 8 (some .int) 4 0 0 93 [some (vR B 308), some (vI set), some (vI i), some (vI n), some (vI least), some (vI more), none, none] [] 0 0 S (up (up V 324 t) 325 b) := by
                  intro N93
                  induction N93 with
                  | zero => intro least more t b hm hlr hI hN; exact absurd hN (Nat.not_lt_zero _)
                  | succ N93 ih93 =>
                    intro least more t b hm hlr hI hN93
                    have hr : ∀ k, 0 ≤ k → k < n → 0 ≤ t k ∧ t k ≤ 9 := fun k k0 k1 => by have := hI.1.1 k k0 k1; omega
                    have hnv := numV_r (t := t) n.toNat (fun k k0 k1 => (hr k k0 (by omega)).2)
                    have htr : 0 ≤ tourM (V 309) t n ∧ tourM (V 309) t n < 2000000 := tourM_r hA (by omega) t
                    refine x_il5 dX11_round_93 ?_
                    refine x_if_eq (tgt := 160) dX11_round_95 (inr (by omega)) (fun c95_8 => ?_) (fun c95_8 => ?_)
                    · -- 95 eq -> 160
                      refine x_il2 dX11_round_160 ?_
                      refine x_iconst dX11_round_161 ?_
                      refine x_icmp_ne (tgt := 170) dX11_round_162 (inr (by omega)) (inr (by decide)) (fun c162_9 => ?_) (fun c162_9 => ?_)
                      · -- 162 ne -> 170
                        refine x_al0 dX11_round_170 ?_
                        refine x_getR fl_X11_68 (sh_308 hS) (lq_308 hS) (rf_308_34 hS) dX11_round_171 ?_
                        refine x_il2 dX11_round_174 ?_
                        refine x_iald (sh_325 hS) (lq_325 hS) (by omega) (by omega) dX11_round_175 ?_
                        refine x_topI (a' := b i) rfl ?_
                        exact x_iret hQ ⟨_, (by simp only [RoR]; rw [if_pos (by simp only [bN] at *; omega)]; rw [← hn16]; have hm0 : more = 0 := (by omega); subst hm0; exact ⟨ro 0, least, b, RdI_end hI, hx0, (by first | exact (if_pos (by omega)).symm | exact (if_neg (by omega)).symm)⟩), rfl, rfl, (fun i hi => by first | rfl | (repeat rw [up_ne (by omega)])), (fun k hk => rfl), hN, hTr, hz⟩ dX11_round_176
                      · -- 162 ne -> 165
                        refine x_il4 dX11_round_165 ?_
                        refine x_goto (tgt := 176) dX11_round_167 ?_
                        exact x_iret hQ ⟨_, (by simp only [RoR]; rw [if_pos (by simp only [bN] at *; omega)]; rw [← hn16]; have hm0 : more = 0 := (by omega); subst hm0; exact ⟨ro 0, least, b, RdI_end hI, hx0, (by first | exact (if_pos (by omega)).symm | exact (if_neg (by omega)).symm)⟩), rfl, rfl, (fun i hi => by first | rfl | (repeat rw [up_ne (by omega)])), (fun k hk => rfl), hN, hTr, hz⟩ dX11_round_176
                    · -- 95 eq -> 98
                      have hm1 : more = 1 := by omega
                      have hI1 := hI
                      rw [hm1] at hI1
                      refine x_al0 dX11_round_98 ?_
                      refine x_il3 dX11_round_99 ?_
                      refine x_cVi mm_X11_milesOf ml_X11_371 dX11_round_100 (c_X11_milesOf n hS (show AB (V 309) from hA) (by omega) (show ∀ k, 0 ≤ k → k < n → 0 ≤ t k ∧ t k ≤ 9 from hr)) (sh_308 hS) (lq_308 hS) ?_
                      refine x_topI (a' := tourM (V 309) t n) rfl ?_
                      refine x_is6 dX11_round_103 ?_
                      refine x_il4 dX11_round_105 ?_
                      refine x_if_lt (tgt := 117) dX11_round_107 (inr (by omega)) (fun c107_10 => ?_) (fun c107_10 => ?_)
                      · -- 107 lt -> 117
                        refine x_il6 dX11_round_117 ?_
                        refine x_is4 dX11_round_119 ?_
                        refine x_iconst dX11_round_121 ?_
                        refine x_is7 dX11_round_122 ?_
                        have lp124 : ∀ (N124 : Nat) (k : Int), (0 ≤ k ∧ k ≤ n) → (n - k).toNat < N124 → X Γ B RX11 "round" cX11_round 8 (some .int) 4 0 0 124 [some (vR B 308), some (vI set), some (vI i), some (vI n), some (vI (tourM (V 309) t n)), some (vI more), some (vI (tourM (V 309) t n)), some (vI k)] [] 0 0 S (up (up V 324 t) 325 (filK b t k)) := by
                          intro N124
                          induction N124 with
                          | zero => intro k hk hN; exact absurd hN (Nat.not_lt_zero _)
                          | succ N124 ih124 =>
                            intro k hk hN124
                            refine x_il7 dX11_round_124 ?_
                            refine x_il3 dX11_round_126 ?_
                            refine x_icmp_ge (tgt := 150) dX11_round_127 (inr (by omega)) (inr (by omega)) (fun c127_11 => ?_) (fun c127_11 => ?_)
                            · -- 127 ge -> 150
                              have hSo : SoF (V 309) (tIn (V 309) set) n (ro 0) (fun q => ¬ Lx n t q) (tourM (V 309) t n) (filK b t k) ∧ ¬ Lx n t (filK b t k) := by
                                have hke : k = n := by omega

                                first | exact SoF_old hI1 (by omega) (by omega) | exact ⟨SoF_new hI1 (by omega) (fun j j0 j1 => filK_rd j0 (by omega)) (by omega) (by omega), nLx_self (fun j j0 j1 => filK_rd j0 (by omega))⟩
                              refine x_al0 dX11_round_150 ?_
                              refine x_il3 dX11_round_151 ?_
                              refine x_cVih mm_X11_nextOrder ml_X11_374 dX11_round_152 (c_X11_nextOrder n hS (tIn (V 309) set) (by omega) hr hI.1) (sh_308 hS) (lq_308 hS) (fun r12 h12 hp12 => ?_)
                              have hx : NxP (tIn (V 309) set) n t r12 h12 := hp12
                              have hr01 : r12 = 0 ∨ r12 = 1 := by rcases hx with z | z; (exact Or.inl z.1); exact Or.inr z.1
                              refine x_mem (V' := (up (up V 324 h12) 325 (filK b t k))) (up_k (by decide) (up_up _ _ _ _)) ?_
                              refine x_is5 dX11_round_155 ?_
                              refine x_goto (tgt := 93) dX11_round_157 ?_
                              have hdc : (10 ^ n.toNat - numV h12 n.toNat) * 2 + (r12).toNat < (10 ^ n.toNat - numV t n.toNat) * 2 + more.toNat := by
                                rcases hx with ⟨z1, z2, _⟩ | ⟨z1, z2, z3, ⟨d, d0, d1, d2, d3⟩, _⟩
                                · rw [z1, z2]; omega
                                · have z5 := numV_lx d0 d2 d3 n.toNat (by omega) (fun j j0 j1 => hr j j0 (by omega))
                                  rw [z1]; omega
                              exact x_fg (ih93 (tourM (V 309) t n) r12 h12 (filK b t k) (by omega) (by omega) (RdI_s hI.1 hI.2.1 (by omega) hSo.1 hSo.2 hx) (by omega)) (And.intro rfl (And.intro rfl (And.intro rfl (And.intro rfl (And.intro rfl (And.intro rfl trivial))))))
                            · -- 127 ge -> 130
                              refine x_al0 dX11_round_130 ?_
                              refine x_getR fl_X11_68 (sh_308 hS) (lq_308 hS) (rf_308_34 hS) dX11_round_131 ?_
                              refine x_il7 dX11_round_134 ?_
                              refine x_al0 dX11_round_136 ?_
                              refine x_getR fl_X11_65 (sh_308 hS) (lq_308 hS) (rf_308_33 hS) dX11_round_137 ?_
                              refine x_il7 dX11_round_140 ?_
                              refine x_iald (sh_324 hS) (lq_324 hS) (by omega) (by omega) dX11_round_142 ?_
                              refine x_topI (a' := t k) rfl ?_
                              refine x_iast (sh_325 hS) (lq_325 hS) (by omega) (by omega) dX11_round_143 ?_
                              refine x_mem (V' := (up (up V 324 t) 325 (ua (filK b t k) k (t k)))) (st2_up _ _ _ _ _) ?_
                              refine x_inc7 dX11_round_144 ?_
                              refine x_goto (tgt := 124) dX11_round_147 ?_
                              refine x_mem (V' := (up (up V 324 t) 325 (filK b t (k + 1)))) (upE (upE rfl rfl) (filK_s hk.1 rfl)) ?_
                              exact x_fg (ih124 (k + 1) (by omega) (by omega)) (And.intro rfl (And.intro rfl (And.intro rfl (And.intro rfl (And.intro rfl (And.intro rfl (And.intro rfl (And.intro rfl trivial))))))))
                        refine x_mem (V' := (up (up V 324 t) 325 (filK b t 0))) (upE (upE rfl rfl) (filK_0 _ _)) ?_
                        exact x_fg (lp124 _ 0 (by omega) (Nat.lt_succ_self _)) (And.intro rfl (And.intro rfl (And.intro rfl (And.intro rfl (And.intro rfl (And.intro rfl (And.intro rfl (And.intro rfl trivial))))))))
                      · -- 107 lt -> 110
                        refine x_il6 dX11_round_110 ?_
                        refine x_il4 dX11_round_112 ?_
                        refine x_icmp_ge (tgt := 150) dX11_round_114 (inr (by omega)) (inr (by omega)) (fun c114_13 => ?_) (fun c114_13 => ?_)
                        · -- 114 ge -> 150
                          have hSo : SoF (V 309) (tIn (V 309) set) n (ro 0) (fun q => ¬ Lx n t q) least b ∧ ¬ Lx n t b := by
                            skip
                            first | exact SoF_old hI1 (by omega) (by omega) | exact ⟨SoF_new hI1 (by omega) (fun j j0 j1 => filK_rd j0 (by omega)) (by omega) (by omega), nLx_self (fun j j0 j1 => filK_rd j0 (by omega))⟩
                          refine x_al0 dX11_round_150 ?_
                          refine x_il3 dX11_round_151 ?_
                          refine x_cVih mm_X11_nextOrder ml_X11_374 dX11_round_152 (c_X11_nextOrder n hS (tIn (V 309) set) (by omega) hr hI.1) (sh_308 hS) (lq_308 hS) (fun r14 h14 hp14 => ?_)
                          have hx : NxP (tIn (V 309) set) n t r14 h14 := hp14
                          have hr01 : r14 = 0 ∨ r14 = 1 := by rcases hx with z | z; (exact Or.inl z.1); exact Or.inr z.1
                          refine x_mem (V' := (up (up V 324 h14) 325 b)) (up_k (by decide) (up_up _ _ _ _)) ?_
                          refine x_is5 dX11_round_155 ?_
                          refine x_goto (tgt := 93) dX11_round_157 ?_
                          have hdc : (10 ^ n.toNat - numV h14 n.toNat) * 2 + (r14).toNat < (10 ^ n.toNat - numV t n.toNat) * 2 + more.toNat := by
                            rcases hx with ⟨z1, z2, _⟩ | ⟨z1, z2, z3, ⟨d, d0, d1, d2, d3⟩, _⟩
                            · rw [z1, z2]; omega
                            · have z5 := numV_lx d0 d2 d3 n.toNat (by omega) (fun j j0 j1 => hr j j0 (by omega))
                              rw [z1]; omega
                          exact x_fg (ih93 least r14 h14 b (by omega) (by omega) (RdI_s hI.1 hI.2.1 (by omega) hSo.1 hSo.2 hx) (by omega)) (And.intro rfl (And.intro rfl (And.intro rfl (And.intro rfl (And.intro rfl (And.intro rfl trivial))))))
                        · -- 114 ge -> 117
                          refine x_il6 dX11_round_117 ?_
                          refine x_is4 dX11_round_119 ?_
                          refine x_iconst dX11_round_121 ?_
                          refine x_is7 dX11_round_122 ?_
                          have lp124 : ∀ (N124 : Nat) (k : Int), (0 ≤ k ∧ k ≤ n) → (n - k).toNat < N124 → X Γ B RX11 "round" cX11_round 8 (some .int) 4 0 0 124 [some (vR B 308), some (vI set), some (vI i), some (vI n), some (vI (tourM (V 309) t n)), some (vI more), some (vI (tourM (V 309) t n)), some (vI k)] [] 0 0 S (up (up V 324 t) 325 (filK b t k)) := by
                            intro N124
                            induction N124 with
                            | zero => intro k hk hN; exact absurd hN (Nat.not_lt_zero _)
                            | succ N124 ih124 =>
                              intro k hk hN124
                              refine x_il7 dX11_round_124 ?_
                              refine x_il3 dX11_round_126 ?_
                              refine x_icmp_ge (tgt := 150) dX11_round_127 (inr (by omega)) (inr (by omega)) (fun c127_15 => ?_) (fun c127_15 => ?_)
                              · -- 127 ge -> 150
                                have hSo : SoF (V 309) (tIn (V 309) set) n (ro 0) (fun q => ¬ Lx n t q) (tourM (V 309) t n) (filK b t k) ∧ ¬ Lx n t (filK b t k) := by
                                  have hke : k = n := by omega

                                  first | exact SoF_old hI1 (by omega) (by omega) | exact ⟨SoF_new hI1 (by omega) (fun j j0 j1 => filK_rd j0 (by omega)) (by omega) (by omega), nLx_self (fun j j0 j1 => filK_rd j0 (by omega))⟩
                                refine x_al0 dX11_round_150 ?_
                                refine x_il3 dX11_round_151 ?_
                                refine x_cVih mm_X11_nextOrder ml_X11_374 dX11_round_152 (c_X11_nextOrder n hS (tIn (V 309) set) (by omega) hr hI.1) (sh_308 hS) (lq_308 hS) (fun r16 h16 hp16 => ?_)
                                have hx : NxP (tIn (V 309) set) n t r16 h16 := hp16
                                have hr01 : r16 = 0 ∨ r16 = 1 := by rcases hx with z | z; (exact Or.inl z.1); exact Or.inr z.1
                                refine x_mem (V' := (up (up V 324 h16) 325 (filK b t k))) (up_k (by decide) (up_up _ _ _ _)) ?_
                                refine x_is5 dX11_round_155 ?_
                                refine x_goto (tgt := 93) dX11_round_157 ?_
                                have hdc : (10 ^ n.toNat - numV h16 n.toNat) * 2 + (r16).toNat < (10 ^ n.toNat - numV t n.toNat) * 2 + more.toNat := by
                                  rcases hx with ⟨z1, z2, _⟩ | ⟨z1, z2, z3, ⟨d, d0, d1, d2, d3⟩, _⟩
                                  · rw [z1, z2]; omega
                                  · have z5 := numV_lx d0 d2 d3 n.toNat (by omega) (fun j j0 j1 => hr j j0 (by omega))
                                    rw [z1]; omega
                                exact x_fg (ih93 (tourM (V 309) t n) r16 h16 (filK b t k) (by omega) (by omega) (RdI_s hI.1 hI.2.1 (by omega) hSo.1 hSo.2 hx) (by omega)) (And.intro rfl (And.intro rfl (And.intro rfl (And.intro rfl (And.intro rfl (And.intro rfl trivial))))))
                              · -- 127 ge -> 130
                                refine x_al0 dX11_round_130 ?_
                                refine x_getR fl_X11_68 (sh_308 hS) (lq_308 hS) (rf_308_34 hS) dX11_round_131 ?_
                                refine x_il7 dX11_round_134 ?_
                                refine x_al0 dX11_round_136 ?_
                                refine x_getR fl_X11_65 (sh_308 hS) (lq_308 hS) (rf_308_33 hS) dX11_round_137 ?_
                                refine x_il7 dX11_round_140 ?_
                                refine x_iald (sh_324 hS) (lq_324 hS) (by omega) (by omega) dX11_round_142 ?_
                                refine x_topI (a' := t k) rfl ?_
                                refine x_iast (sh_325 hS) (lq_325 hS) (by omega) (by omega) dX11_round_143 ?_
                                refine x_mem (V' := (up (up V 324 t) 325 (ua (filK b t k) k (t k)))) (st2_up _ _ _ _ _) ?_
                                refine x_inc7 dX11_round_144 ?_
                                refine x_goto (tgt := 124) dX11_round_147 ?_
                                refine x_mem (V' := (up (up V 324 t) 325 (filK b t (k + 1)))) (upE (upE rfl rfl) (filK_s hk.1 rfl)) ?_
                                exact x_fg (ih124 (k + 1) (by omega) (by omega)) (And.intro rfl (And.intro rfl (And.intro rfl (And.intro rfl (And.intro rfl (And.intro rfl (And.intro rfl (And.intro rfl trivial))))))))
                          refine x_mem (V' := (up (up V 324 t) 325 (filK b t 0))) (upE (upE rfl rfl) (filK_0 _ _)) ?_
                          exact x_fg (lp124 _ 0 (by omega) (Nat.lt_succ_self _)) (And.intro rfl (And.intro rfl (And.intro rfl (And.intro rfl (And.intro rfl (And.intro rfl (And.intro rfl (And.intro rfl trivial))))))))
                refine x_mem (V' := (up (up V 324 ro) 325 (V 325))) (show _ = (up (up V 324 ro) 325 (V 325)) from (Eq.symm (up_self _ 325))) ?_
                exact x_fg (lp93 _ (-1) 1 ro (V 325) (by omega) (by omega) (RdI_0 (by rw [← hte]; exact hC)) (Nat.lt_succ_self _)) (And.intro rfl (And.intro rfl (And.intro rfl (And.intro rfl (And.intro rfl (And.intro rfl trivial))))))
              · -- 55 ge -> 58
                refine x_il1 dX11_round_58 ?_
                refine x_il4 dX11_round_59 ?_
                refine x_ishr (inr (by omega)) (by omega) (by omega) dX11_round_61 ?_
                refine x_iconst dX11_round_62 ?_
                refine x_and1 dX11_round_63 ?_
                refine x_if_ne (tgt := 70) dX11_round_64 (inr (by omega)) (fun c64_17 => ?_) (fun c64_17 => ?_)
                · -- 64 ne -> 70
                  have hC2 := (ColT_on hC ht.1 (by omega)).1
                  have hmo3 := bN_mono (set := set) (15 - t).toNat (t + 1) (by omega)
                  rw [show t + 1 + (((15 - t).toNat : Nat) : Int) = 16 by omega] at hmo3
                  refine x_al0 dX11_round_70 ?_
                  refine x_getR fl_X11_65 (sh_308 hS) (lq_308 hS) (rf_308_33 hS) dX11_round_71 ?_
                  refine x_il3 dX11_round_74 ?_
                  refine x_il4 dX11_round_75 ?_
                  refine x_iast (sh_324 hS) (lq_324 hS) (by omega) (by omega) dX11_round_77 ?_
                  refine x_mem (V' := (up V 324 (ua ro n t))) (st2_up _ _ _ _ _) ?_
                  refine x_inc3 dX11_round_78 ?_
                  refine x_inc4 dX11_round_81 ?_
                  refine x_goto (tgt := 47) dX11_round_84 ?_
                  exact x_fg (ih47 (n + 1) (t + 1) (ua ro n t) (by omega) (by first | exact ColT_no hC ht.1 (by omega) | exact ColT_on hC ht.1 (by omega)) (by omega)) (And.intro rfl (And.intro rfl (And.intro rfl (And.intro rfl (And.intro rfl trivial)))))
                · -- 64 ne -> 67
                  refine x_goto (tgt := 81) dX11_round_67 ?_
                  refine x_inc4 dX11_round_81 ?_
                  refine x_goto (tgt := 47) dX11_round_84 ?_
                  exact x_fg (ih47 n (t + 1) ro (by omega) (by first | exact ColT_no hC ht.1 (by omega) | exact ColT_on hC ht.1 (by omega)) (by omega)) (And.intro rfl (And.intro rfl (And.intro rfl (And.intro rfl (And.intro rfl trivial)))))
          refine x_mem (V' := (up V 324 (V 324))) (show _ = (up V 324 (V 324)) from (Eq.symm (up_self _ 324))) ?_
          exact x_fg (lp47 _ 0 0 (V 324) (by omega) (ColT_0 _ _) (Nat.lt_succ_self _)) (And.intro rfl (And.intro rfl (And.intro rfl (And.intro rfl (And.intro rfl trivial)))))
        · -- 37 lt -> 40
          refine x_iconst dX11_round_40 ?_
          exact x_iret hQ ⟨_, (by simp only [RoR]; rw [if_neg (by simp only [bN]; omega)]; trivial), rfl, rfl, (fun i hi => by first | rfl | (repeat rw [up_ne (by omega)])), (fun k hk => rfl), hN, hTr, hz⟩ dX11_round_41
