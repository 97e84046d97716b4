set_option maxRecDepth 100000 in
set_option maxHeartbeats 4000000 in
theorem c_X11_isIn {B : Bs} {S : Stt} {V : Va} (v : Int) (low : Int) (top : Int) (hv : InR v) (hlow : InR low) (htop : InR top) : C B yX11_isIn cX11_isIn 3 (some .boolean) 1 0 0 [vI v, vI low, vI top] S V (rI S V (if low ≤ v ∧ v ≤ top then 1 else 0)) := by
  refine C.of [some (vI v), some (vI low), some (vI top)] ?_
  intro Γ hQ
  refine x_il0 dX11_isIn_0 ?_
  refine x_il1 dX11_isIn_1 ?_
  refine x_icmp_lt (tgt := 14) dX11_isIn_2 (inr (by omega)) (inr (by omega)) (fun c2_1 => ?_) (fun c2_1 => ?_)
  · -- 2 lt -> 14
    refine x_iconst dX11_isIn_14 ?_
    exact x_zret hQ (rI.mk (by first | rfl | omega | (rw [if_pos (by omega)]) | (rw [if_neg (by omega)])) rfl) (by decide) dX11_isIn_15
  · -- 2 lt -> 5
    refine x_il0 dX11_isIn_5 ?_
    refine x_il2 dX11_isIn_6 ?_
    refine x_icmp_gt (tgt := 14) dX11_isIn_7 (inr (by omega)) (inr (by omega)) (fun c7_2 => ?_) (fun c7_2 => ?_)
    · -- 7 gt -> 14
      refine x_iconst dX11_isIn_14 ?_
      exact x_zret hQ (rI.mk (by first | rfl | omega | (rw [if_pos (by omega)]) | (rw [if_neg (by omega)])) rfl) (by decide) dX11_isIn_15
    · -- 7 gt -> 10
      refine x_iconst dX11_isIn_10 ?_
      refine x_goto (tgt := 15) dX11_isIn_11 ?_
      exact x_zret hQ (rI.mk (by first | rfl | omega | (rw [if_pos (by omega)]) | (rw [if_neg (by omega)])) rfl) (by decide) dX11_isIn_15
set_option maxRecDepth 100000 in
set_option maxHeartbeats 4000000 in
theorem c_X11_boneAt {B : Bs} {S : Stt} {V : Va} (b : Int) : C B yX11_boneAt cX11_boneAt 1 (some .int) 1 0 0 [vI b] S V (rI S V (30 + 6 * b)) := by
  refine C.of [some (vI b)] ?_
  intro Γ hQ
  refine x_bipush dX11_boneAt_0 ?_
  refine x_bipush dX11_boneAt_2 ?_
  refine x_il0 dX11_boneAt_4 ?_
  refine x_imul dX11_boneAt_5 ?_
  refine x_iadd dX11_boneAt_6 ?_
  exact x_iret hQ (rI.mk (by first | rfl | omega | (rw [if_pos (by omega)]) | (rw [if_neg (by omega)])) rfl) dX11_boneAt_7
set_option maxRecDepth 100000 in
set_option maxHeartbeats 4000000 in
theorem c_X11_apart {B : Bs} {S : Stt} {V : Va} (x : Int) (y : Int) (hx : InR x) (hy : InR y) : C B yX11_apart cX11_apart 2 (some .int) 1 0 0 [vI x, vI y] S V (rI S V (if x < y then y - x else x - y)) := by
  refine C.of [some (vI x), some (vI y)] ?_
  intro Γ hQ
  refine x_il0 dX11_apart_0 ?_
  refine x_il1 dX11_apart_1 ?_
  refine x_icmp_ge (tgt := 11) dX11_apart_2 (inr (by omega)) (inr (by omega)) (fun c2_1 => ?_) (fun c2_1 => ?_)
  · -- 2 ge -> 11
    refine x_il0 dX11_apart_11 ?_
    refine x_il1 dX11_apart_12 ?_
    refine x_isub dX11_apart_13 ?_
    exact x_iret hQ (rI.mk (by first | rfl | omega | (rw [if_pos (by omega)]) | (rw [if_neg (by omega)])) rfl) dX11_apart_14
  · -- 2 ge -> 5
    refine x_il1 dX11_apart_5 ?_
    refine x_il0 dX11_apart_6 ?_
    refine x_isub dX11_apart_7 ?_
    refine x_goto (tgt := 14) dX11_apart_8 ?_
    exact x_iret hQ (rI.mk (by first | rfl | omega | (rw [if_pos (by omega)]) | (rw [if_neg (by omega)])) rfl) dX11_apart_14
set_option maxRecDepth 100000 in
set_option maxHeartbeats 4000000 in
theorem c_X11_isTown {B : Bs} {S : Stt} {V : Va} (t : Int) (hS : Stat S) (hA : AB (V 309)) (ht : InR t) : C B yX11_isTown cX11_isTown 2 (some .boolean) 2 0 0 [vR B 308, vI t] S V (rI S V (if 0 ≤ t ∧ t ≤ (V 309 0) - 1 then 1 else 0)) := by
  refine C.of [some (vR B 308), some (vI t)] ?_
  intro Γ hQ
  refine x_il1 dX11_isTown_0 ?_
  refine x_iconst dX11_isTown_1 ?_
  refine x_al0 dX11_isTown_2 ?_
  refine x_getR fl_X11_7 (sh_308 hS) (lq_308 hS) (rf_308_0 hS) dX11_isTown_3 ?_
  refine x_iconst dX11_isTown_6 ?_
  have hb1 := hA 0
  refine x_iald (sh_309 hS) (lq_309 hS) (by omega) (by omega) dX11_isTown_7 ?_
  refine x_topI (a' := V 309 0) rfl ?_
  refine x_iconst dX11_isTown_8 ?_
  refine x_isub dX11_isTown_9 ?_
  refine x_cSi mm_X11_isIn ml_X11_75 dX11_isTown_10 (c_X11_isIn t 0 ((V 309 0) - 1) (inr (by omega)) (inr (by decide)) (inr (by omega))) ?_
  exact x_zret hQ (rI.mk (by first | rfl | omega | (rw [if_pos (by omega)]) | (rw [if_neg (by omega)])) rfl) (ite_01 _) dX11_isTown_13
set_option maxRecDepth 100000 in
set_option maxHeartbeats 4000000 in
theorem c_X11_isBone {B : Bs} {S : Stt} {V : Va} (b : Int) (hS : Stat S) (hA : AB (V 309)) (hb : InR b) : C B yX11_isBone cX11_isBone 2 (some .boolean) 2 0 0 [vR B 308, vI b] S V (rI S V (if 0 ≤ b ∧ b ≤ (V 309 1) - 1 then 1 else 0)) := by
  refine C.of [some (vR B 308), some (vI b)] ?_
  intro Γ hQ
  refine x_il1 dX11_isBone_0 ?_
  refine x_iconst dX11_isBone_1 ?_
  refine x_al0 dX11_isBone_2 ?_
  refine x_getR fl_X11_7 (sh_308 hS) (lq_308 hS) (rf_308_0 hS) dX11_isBone_3 ?_
  refine x_iconst dX11_isBone_6 ?_
  have hb1 := hA 1
  refine x_iald (sh_309 hS) (lq_309 hS) (by omega) (by omega) dX11_isBone_7 ?_
  refine x_topI (a' := V 309 1) rfl ?_
  refine x_iconst dX11_isBone_8 ?_
  refine x_isub dX11_isBone_9 ?_
  refine x_cSi mm_X11_isIn ml_X11_75 dX11_isBone_10 (c_X11_isIn b 0 ((V 309 1) - 1) (inr (by omega)) (inr (by decide)) (inr (by omega))) ?_
  exact x_zret hQ (rI.mk (by first | rfl | omega | (rw [if_pos (by omega)]) | (rw [if_neg (by omega)])) rfl) (ite_01 _) dX11_isBone_13
set_option maxRecDepth 100000 in
set_option maxHeartbeats 4000000 in
theorem c_X11_miles {B : Bs} {S : Stt} {V : Va} (s : Int) (t : Int) (hS : Stat S) (hA : AB (V 309)) (hs : 0 ≤ s ∧ s < 10) (ht : 0 ≤ t ∧ t < 10) : C B yX11_miles cX11_miles 3 (some .int) 2 0 0 [vR B 308, vI s, vI t] S V (rI S V ((if (V 309) (10 + 2 * s) < (V 309) (10 + 2 * t) then (V 309) (10 + 2 * t) - (V 309) (10 + 2 * s) else (V 309) (10 + 2 * s) - (V 309) (10 + 2 * t)) + (if (V 309) (10 + 2 * s + 1) < (V 309) (10 + 2 * t + 1) then (V 309) (10 + 2 * t + 1) - (V 309) (10 + 2 * s + 1) else (V 309) (10 + 2 * s + 1) - (V 309) (10 + 2 * t + 1)))) := by
  refine C.of [some (vR B 308), some (vI s), some (vI t)] ?_
  intro Γ hQ
  refine x_al0 dX11_miles_0 ?_
  refine x_getR fl_X11_7 (sh_308 hS) (lq_308 hS) (rf_308_0 hS) dX11_miles_1 ?_
  refine x_bipush dX11_miles_4 ?_
  refine x_iconst dX11_miles_6 ?_
  refine x_il1 dX11_miles_7 ?_
  refine x_imul dX11_miles_8 ?_
  refine x_iadd dX11_miles_9 ?_
  have hb1 := hA (10 + (2 * s))
  refine x_iald (sh_309 hS) (lq_309 hS) (by omega) (by omega) dX11_miles_10 ?_
  refine x_topI (a' := V 309 (10 + (2 * s))) rfl ?_
  refine x_al0 dX11_miles_11 ?_
  refine x_getR fl_X11_7 (sh_308 hS) (lq_308 hS) (rf_308_0 hS) dX11_miles_12 ?_
  refine x_bipush dX11_miles_15 ?_
  refine x_iconst dX11_miles_17 ?_
  refine x_il2 dX11_miles_18 ?_
  refine x_imul dX11_miles_19 ?_
  refine x_iadd dX11_miles_20 ?_
  have hb2 := hA (10 + (2 * t))
  refine x_iald (sh_309 hS) (lq_309 hS) (by omega) (by omega) dX11_miles_21 ?_
  refine x_topI (a' := V 309 (10 + (2 * t))) rfl ?_
  refine x_cSi mm_X11_apart ml_X11_79 dX11_miles_22 (c_X11_apart (V 309 (10 + (2 * s))) (V 309 (10 + (2 * t))) (inr (by omega)) (inr (by omega))) ?_
  refine x_al0 dX11_miles_25 ?_
  refine x_getR fl_X11_7 (sh_308 hS) (lq_308 hS) (rf_308_0 hS) dX11_miles_26 ?_
  refine x_bipush dX11_miles_29 ?_
  refine x_iconst dX11_miles_31 ?_
  refine x_il1 dX11_miles_32 ?_
  refine x_imul dX11_miles_33 ?_
  refine x_iadd dX11_miles_34 ?_
  refine x_iconst dX11_miles_35 ?_
  refine x_iadd dX11_miles_36 ?_
  have hb3 := hA ((10 + (2 * s)) + 1)
  refine x_iald (sh_309 hS) (lq_309 hS) (by omega) (by omega) dX11_miles_37 ?_
  refine x_topI (a' := V 309 ((10 + (2 * s)) + 1)) rfl ?_
  refine x_al0 dX11_miles_38 ?_
  refine x_getR fl_X11_7 (sh_308 hS) (lq_308 hS) (rf_308_0 hS) dX11_miles_39 ?_
  refine x_bipush dX11_miles_42 ?_
  refine x_iconst dX11_miles_44 ?_
  refine x_il2 dX11_miles_45 ?_
  refine x_imul dX11_miles_46 ?_
  refine x_iadd dX11_miles_47 ?_
  refine x_iconst dX11_miles_48 ?_
  refine x_iadd dX11_miles_49 ?_
  have hb4 := hA ((10 + (2 * t)) + 1)
  refine x_iald (sh_309 hS) (lq_309 hS) (by omega) (by omega) dX11_miles_50 ?_
  refine x_topI (a' := V 309 ((10 + (2 * t)) + 1)) rfl ?_
  refine x_cSi mm_X11_apart ml_X11_79 dX11_miles_51 (c_X11_apart (V 309 ((10 + (2 * s)) + 1)) (V 309 ((10 + (2 * t)) + 1)) (inr (by omega)) (inr (by omega))) ?_
  refine x_iadd dX11_miles_54 ?_
  exact x_iret hQ (rI.mk (by first | rfl | omega | (rw [if_pos (by omega)]) | (rw [if_neg (by omega)])) rfl) dX11_miles_55
set_option maxRecDepth 100000 in
set_option maxHeartbeats 4000000 in
theorem c_X11_bits {B : Bs} {S : Stt} {V : Va} (set : Int) (hset : InR set) : C B yX11_bits cX11_bits 3 (some .int) 1 0 0 [vI set] S V (rI S V (sumT (fun k => set / p2 k % 2) 16)) := by
  refine C.of [some (vI set), none, none] ?_
  intro Γ hQ
  refine x_iconst dX11_bits_0 ?_
  refine x_is1 dX11_bits_1 ?_
  refine x_iconst dX11_bits_2 ?_
  refine x_is2 dX11_bits_3 ?_
  have lp4 : ∀ (N4 : Nat) (n : Int) (k : Int), (0 ≤ k ∧ k ≤ 16) → (n = sumT (fun k => set / p2 k % 2) k) → (16 - k).toNat < N4 → X Γ B RX11 "bits" cX11_bits 3 (some .int) 1 0 0 4 [some (vI set), some (vI n), some (vI k)] [] 0 0 S V := by
    intro N4
    induction N4 with
    | zero => intro n k hk hn hN; exact absurd hN (Nat.not_lt_zero _)
    | succ N4 ih4 =>
      intro n k hk hn hN4
      refine x_il2 dX11_bits_4 ?_
      refine x_bipush dX11_bits_5 ?_
      refine x_icmp_ge (tgt := 24) dX11_bits_7 (inr (by omega)) (inr (by decide)) (fun c7_1 => ?_) (fun c7_1 => ?_)
      · -- 7 ge -> 24
        refine x_il1 dX11_bits_24 ?_
        exact x_iret hQ (rI.mk (by rw [hn, show k = 16 by omega]) rfl) dX11_bits_25
      · -- 7 ge -> 10
        refine x_il1 dX11_bits_10 ?_
        refine x_il0 dX11_bits_11 ?_
        refine x_il2 dX11_bits_12 ?_
        refine x_ishr (inr (by omega)) (by omega) (by omega) dX11_bits_13 ?_
        refine x_iconst dX11_bits_14 ?_
        refine x_and1 dX11_bits_15 ?_
        refine x_iadd dX11_bits_16 ?_
        refine x_is1 dX11_bits_17 ?_
        refine x_inc2 dX11_bits_18 ?_
        refine x_goto (tgt := 4) dX11_bits_21 ?_
        exact x_fg (ih4 (n + ((set / p2 k) % 2)) (k + 1) (by omega) (by rw [sumT_s _ hk.1, hn]) (by omega)) (And.intro rfl (And.intro rfl (And.intro rfl trivial)))
  exact x_fg (lp4 _ 0 0 (by omega) (sumT_0 _).symm (Nat.lt_succ_self _)) (And.intro rfl (And.intro rfl (And.intro rfl trivial)))
set_option maxRecDepth 100000 in
set_option maxHeartbeats 4000000 in
theorem c_X11_keep {B : Bs} {S : Stt} {V : Va} (hS : Stat S) (hA : AB (V 309)) (h5 : 0 ≤ (V 309 5) ∧ (V 309 5) ≤ 20) : C B yX11_keep cX11_keep 4 none 2 0 0 [vR B 308] S V (rV S (up V 309 (mKeep (V 309)))) := by
  refine C.of [some (vR B 308), none, none, none] ?_
  intro Γ hQ
  have ct56 : X Γ B RX11 "keep" cX11_keep 4 none 2 0 0 56 [some (vR B 308), none, none, none] [] 0 0 S (up V 309 (mShift (V 309))) := by
    have hA2 := AB_mShift hA
    have h52 := mShift_5 h5
    refine x_sipush dX11_keep_56 ?_
    refine x_bipush dX11_keep_59 ?_
    refine x_al0 dX11_keep_61 ?_
    refine x_getR fl_X11_7 (sh_308 hS) (lq_308 hS) (rf_308_0 hS) dX11_keep_62 ?_
    refine x_iconst dX11_keep_65 ?_
    have hb1 := hA2 5
    refine x_iald (sh_309 hS) (lq_309 hS) (by omega) (by omega) dX11_keep_66 ?_
    refine x_topI (a' := mShift (V 309) 5) rfl ?_
    refine x_imul dX11_keep_67 ?_
    refine x_iadd dX11_keep_68 ?_
    refine x_is1 dX11_keep_69 ?_
    refine x_al0 dX11_keep_70 ?_
    refine x_getR fl_X11_7 (sh_308 hS) (lq_308 hS) (rf_308_0 hS) dX11_keep_71 ?_
    refine x_il1 dX11_keep_74 ?_
    refine x_al0 dX11_keep_75 ?_
    refine x_getR fl_X11_7 (sh_308 hS) (lq_308 hS) (rf_308_0 hS) dX11_keep_76 ?_
    refine x_iconst dX11_keep_79 ?_
    have hb2 := hA2 2
    refine x_iald (sh_309 hS) (lq_309 hS) (by omega) (by omega) dX11_keep_80 ?_
    refine x_topI (a' := mShift (V 309) 2) rfl ?_
    refine x_iast (sh_309 hS) (lq_309 hS) (by omega) (by omega) dX11_keep_81 ?_
    refine x_mem (V' := (up V 309 (ua (mShift (V 309)) (174 + (82 * (mShift (V 309) 5))) (mShift (V 309) 2)))) (st2_up _ _ _ _ _) ?_
    refine x_al0 dX11_keep_82 ?_
    refine x_getR fl_X11_7 (sh_308 hS) (lq_308 hS) (rf_308_0 hS) dX11_keep_83 ?_
    refine x_il1 dX11_keep_86 ?_
    refine x_iconst dX11_keep_87 ?_
    refine x_iadd dX11_keep_88 ?_
    refine x_al0 dX11_keep_89 ?_
    refine x_getR fl_X11_7 (sh_308 hS) (lq_308 hS) (rf_308_0 hS) dX11_keep_90 ?_
    refine x_iconst dX11_keep_93 ?_
    have hb3 := hA2 1
    refine x_iald (sh_309 hS) (lq_309 hS) (by omega) (by omega) dX11_keep_94 ?_
    refine x_topI (a' := mShift (V 309) 1) (show (ua (mShift (V 309)) (174 + (82 * (mShift (V 309) 5))) (mShift (V 309) 2)) 1 = mShift (V 309) 1 from (ua_ne (by omega))) ?_
    refine x_iast (sh_309 hS) (lq_309 hS) (by omega) (by omega) dX11_keep_95 ?_
    refine x_mem (V' := (up V 309 (ua (ua (mShift (V 309)) (174 + (82 * (mShift (V 309) 5))) (mShift (V 309) 2)) ((174 + (82 * (mShift (V 309) 5))) + 1) (mShift (V 309) 1)))) (st2_up _ _ _ _ _) ?_
    refine x_iconst dX11_keep_96 ?_
    refine x_is2 dX11_keep_97 ?_
    have lp98 : ∀ (N98 : Nat) (b : Int), (0 ≤ b ∧ b ≤ 16) → (16 - b).toNat < N98 → X Γ B RX11 "keep" cX11_keep 4 none 2 0 0 98 [some (vR B 308), some (vI (174 + (82 * (mShift (V 309) 5)))), some (vI b), none] [] 0 0 S (up V 309 (recK (mShift (V 309)) (174 + 82 * mShift (V 309) 5) (5 * b + 0))) := by
      intro N98
      induction N98 with
      | zero => intro b hb hN; exact absurd hN (Nat.not_lt_zero _)
      | succ N98 ih98 =>
        intro b hb hN98
        refine x_il2 dX11_keep_98 ?_
        refine x_bipush dX11_keep_99 ?_
        refine x_icmp_ge (tgt := 150) dX11_keep_101 (inr (by omega)) (inr (by decide)) (fun c101_4 => ?_) (fun c101_4 => ?_)
        · -- 101 ge -> 150
          refine x_al0 dX11_keep_150 ?_
          refine x_getR fl_X11_7 (sh_308 hS) (lq_308 hS) (rf_308_0 hS) dX11_keep_151 ?_
          refine x_iconst dX11_keep_154 ?_
          refine x_dup2 dX11_keep_155 ?_
          refine x_iald (sh_309 hS) (lq_309 hS) (by omega) (by omega) dX11_keep_156 ?_
          refine x_topI (a' := (recK (mShift (V 309)) (174 + 82 * mShift (V 309) 5) (5 * b + 0)) 5) rfl ?_
          refine x_iconst dX11_keep_157 ?_
          refine x_iadd dX11_keep_158 ?_
          refine x_iast (sh_309 hS) (lq_309 hS) (by omega) (by omega) dX11_keep_159 ?_
          refine x_mem (V' := (up V 309 (ua (recK (mShift (V 309)) (174 + 82 * mShift (V 309) 5) (5 * b + 0)) 5 (((recK (mShift (V 309)) (174 + 82 * mShift (V 309) 5) (5 * b + 0)) 5) + 1)))) (st2_up _ _ _ _ _) ?_
          exact x_vret hQ (rV.mk (by simp only [mKeep, mRec]; rw [recK_rd _ (by omega), show 5 * b + 0 = 80 by omega])) dX11_keep_160
        · -- 101 ge -> 104
          refine x_iconst dX11_keep_104 ?_
          refine x_is3 dX11_keep_105 ?_
          have lp106 : ∀ (N106 : Nat) (e : Int), (0 ≤ e ∧ e ≤ 5) → (5 - e).toNat < N106 → X Γ B RX11 "keep" cX11_keep 4 none 2 0 0 106 [some (vR B 308), some (vI (174 + (82 * (mShift (V 309) 5)))), some (vI b), some (vI e)] [] 0 0 S (up V 309 (recK (mShift (V 309)) (174 + 82 * mShift (V 309) 5) (5 * b + e))) := by
            intro N106
            induction N106 with
            | zero => intro e he hN; exact absurd hN (Nat.not_lt_zero _)
            | succ N106 ih106 =>
              intro e he hN106
              refine x_il3 dX11_keep_106 ?_
              refine x_iconst dX11_keep_107 ?_
              refine x_icmp_ge (tgt := 144) dX11_keep_108 (inr (by omega)) (inr (by decide)) (fun c108_5 => ?_) (fun c108_5 => ?_)
              · -- 108 ge -> 144
                refine x_inc2 dX11_keep_144 ?_
                refine x_goto (tgt := 98) dX11_keep_147 ?_
                refine x_mem (V' := (up V 309 (recK (mShift (V 309)) (174 + 82 * mShift (V 309) 5) (5 * (b + 1) + 0)))) (upE rfl (by rw [show e = 5 by omega, show 5 * (b + 1) + 0 = 5 * b + 5 by omega])) ?_
                exact x_fg (ih98 (b + 1) (by omega) (by omega)) (And.intro rfl (And.intro rfl (And.intro rfl trivial)))
              · -- 108 ge -> 111
                refine x_al0 dX11_keep_111 ?_
                refine x_getR fl_X11_7 (sh_308 hS) (lq_308 hS) (rf_308_0 hS) dX11_keep_112 ?_
                refine x_il1 dX11_keep_115 ?_
                refine x_iconst dX11_keep_116 ?_
                refine x_iadd dX11_keep_117 ?_
                refine x_iconst dX11_keep_118 ?_
                refine x_il2 dX11_keep_119 ?_
                refine x_imul dX11_keep_120 ?_
                refine x_iadd dX11_keep_121 ?_
                refine x_il3 dX11_keep_122 ?_
                refine x_iadd dX11_keep_123 ?_
                refine x_al0 dX11_keep_124 ?_
                refine x_getR fl_X11_7 (sh_308 hS) (lq_308 hS) (rf_308_0 hS) dX11_keep_125 ?_
                refine x_il2 dX11_keep_128 ?_
                refine x_cSi mm_X11_boneAt ml_X11_87 dX11_keep_129 (c_X11_boneAt b) ?_
                refine x_iconst dX11_keep_132 ?_
                refine x_iadd dX11_keep_133 ?_
                refine x_il3 dX11_keep_134 ?_
                refine x_iadd dX11_keep_135 ?_
                refine x_iald (sh_309 hS) (lq_309 hS) (by omega) (by omega) dX11_keep_136 ?_
                refine x_topI (a' := (recK (mShift (V 309)) (174 + 82 * mShift (V 309) 5) (5 * b + e)) (((30 + 6 * b) + 1) + e)) rfl ?_
                refine x_iast (sh_309 hS) (lq_309 hS) (by omega) (by omega) dX11_keep_137 ?_
                refine x_mem (V' := (up V 309 (ua (recK (mShift (V 309)) (174 + 82 * mShift (V 309) 5) (5 * b + e)) ((((174 + (82 * (mShift (V 309) 5))) + 2) + (5 * b)) + e) ((recK (mShift (V 309)) (174 + 82 * mShift (V 309) 5) (5 * b + e)) (((30 + 6 * b) + 1) + e))))) (st2_up _ _ _ _ _) ?_
                refine x_inc3 dX11_keep_138 ?_
                refine x_goto (tgt := 106) dX11_keep_141 ?_
                refine x_mem (V' := (up V 309 (recK (mShift (V 309)) (174 + 82 * mShift (V 309) 5) (5 * b + (e + 1))))) (upE rfl (by rw [recK_rd _ (by omega)]; exact recK_s _ hb.1 he.1 (by omega))) ?_
                exact x_fg (ih106 (e + 1) (by omega) (by omega)) (And.intro rfl (And.intro rfl (And.intro rfl (And.intro rfl trivial))))
          exact x_fg (lp106 _ 0 (by omega) (Nat.lt_succ_self _)) (And.intro rfl (And.intro rfl (And.intro rfl (And.intro rfl trivial))))
    refine x_mem (V' := (up V 309 (recK (mShift (V 309)) (174 + 82 * mShift (V 309) 5) (5 * 0 + 0)))) (upE rfl (recK_0 _ _)) ?_
    exact x_fg (lp98 _ 0 (by omega) (Nat.lt_succ_self _)) (And.intro rfl (And.intro rfl (And.intro rfl trivial)))
  refine x_al0 dX11_keep_0 ?_
  refine x_getR fl_X11_7 (sh_308 hS) (lq_308 hS) (rf_308_0 hS) dX11_keep_1 ?_
  refine x_iconst dX11_keep_4 ?_
  have hb6 := hA 5
  refine x_iald (sh_309 hS) (lq_309 hS) (by omega) (by omega) dX11_keep_5 ?_
  refine x_topI (a' := V 309 5) rfl ?_
  refine x_bipush dX11_keep_6 ?_
  refine x_icmp_ne (tgt := 56) dX11_keep_8 (inr (by omega)) (inr (by decide)) (fun c8_7 => ?_) (fun c8_7 => ?_)
  · -- 8 ne -> 56
    refine x_mem (V' := (up V 309 (mShift (V 309)))) (Eq.trans (by simp only [up_self]) (show (up V 309 (V 309)) = (up V 309 (mShift (V 309))) from (upE rfl (by simp only [mShift]; rw [if_neg (by omega)])))) ?_
    exact x_fg (ct56  ) (And.intro rfl trivial)
  · -- 8 ne -> 11
    refine x_iconst dX11_keep_11 ?_
    refine x_is1 dX11_keep_12 ?_
    have lp13 : ∀ (N13 : Nat) (k : Int), (0 ≤ k ∧ k ≤ 1558) → (1558 - k).toNat < N13 → X Γ B RX11 "keep" cX11_keep 4 none 2 0 0 13 [some (vR B 308), some (vI k), none, none] [] 0 0 S (up V 309 (shiftK (V 309) k)) := by
      intro N13
      induction N13 with
      | zero => intro k hk hN; exact absurd hN (Nat.not_lt_zero _)
      | succ N13 ih13 =>
        intro k hk hN13
        refine x_il1 dX11_keep_13 ?_
        refine x_sipush dX11_keep_14 ?_
        refine x_icmp_ge (tgt := 46) dX11_keep_17 (inr (by omega)) (inr (by decide)) (fun c17_8 => ?_) (fun c17_8 => ?_)
        · -- 17 ge -> 46
          refine x_al0 dX11_keep_46 ?_
          refine x_getR fl_X11_7 (sh_308 hS) (lq_308 hS) (rf_308_0 hS) dX11_keep_47 ?_
          refine x_iconst dX11_keep_50 ?_
          refine x_dup2 dX11_keep_51 ?_
          refine x_iald (sh_309 hS) (lq_309 hS) (by omega) (by omega) dX11_keep_52 ?_
          refine x_topI (a' := shiftK (V 309) k 5) rfl ?_
          refine x_iconst dX11_keep_53 ?_
          refine x_isub dX11_keep_54 ?_
          refine x_iast (sh_309 hS) (lq_309 hS) (by omega) (by omega) dX11_keep_55 ?_
          refine x_mem (V' := (up V 309 (ua (shiftK (V 309) k) 5 ((shiftK (V 309) k 5) - 1)))) (st2_up _ _ _ _ _) ?_
          refine x_mem (V' := (up V 309 (mShift (V 309)))) (upE rfl (by simp only [mShift]; rw [if_pos (by omega), show k = 1558 by omega]; congr 1; simp only [shiftK]; rw [if_neg (by omega)]; omega)) ?_
          exact x_fg (ct56  ) (And.intro rfl trivial)
        · -- 17 ge -> 20
          refine x_al0 dX11_keep_20 ?_
          refine x_getR fl_X11_7 (sh_308 hS) (lq_308 hS) (rf_308_0 hS) dX11_keep_21 ?_
          refine x_sipush dX11_keep_24 ?_
          refine x_il1 dX11_keep_27 ?_
          refine x_iadd dX11_keep_28 ?_
          refine x_al0 dX11_keep_29 ?_
          refine x_getR fl_X11_7 (sh_308 hS) (lq_308 hS) (rf_308_0 hS) dX11_keep_30 ?_
          refine x_sipush dX11_keep_33 ?_
          refine x_il1 dX11_keep_36 ?_
          refine x_iadd dX11_keep_37 ?_
          refine x_iald (sh_309 hS) (lq_309 hS) (by omega) (by omega) dX11_keep_38 ?_
          refine x_topI (a' := shiftK (V 309) k (256 + k)) rfl ?_
          refine x_iast (sh_309 hS) (lq_309 hS) (by omega) (by omega) dX11_keep_39 ?_
          refine x_mem (V' := (up V 309 (ua (shiftK (V 309) k) (174 + k) (shiftK (V 309) k (256 + k))))) (st2_up _ _ _ _ _) ?_
          refine x_inc1 dX11_keep_40 ?_
          refine x_goto (tgt := 13) dX11_keep_43 ?_
          refine x_mem (V' := (up V 309 (shiftK (V 309) (k + 1)))) (upE rfl (shiftK_s _ hk.1)) ?_
          exact x_fg (ih13 (k + 1) (by omega) (by omega)) (And.intro rfl (And.intro rfl trivial))
    refine x_mem (V' := (up V 309 (shiftK (V 309) 0))) (Eq.trans (by simp only [up_self]) (show (up V 309 (V 309)) = (up V 309 (shiftK (V 309) 0)) from (upE rfl (shiftK_0 _)))) ?_
    exact x_fg (lp13 _ 0 (by omega) (Nat.lt_succ_self _)) (And.intro rfl (And.intro rfl trivial))
