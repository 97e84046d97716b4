set_option maxRecDepth 100000 in
set_option maxHeartbeats 4000000 in
theorem c_X3_isLetter {B : Bs} {S : Stt} {V : Va} (c : Int) (hc : InR c) : C B yX3_isLetter cX3_isLetter 1 (some .boolean) 1 0 0 [vI c] S V (rI S V (if isLt c then 1 else 0)) := by
  refine C.of [some (vI c)] ?_
  intro Γ hQ
  refine x_il0 dX3_isLetter_0 ?_
  refine x_bipush dX3_isLetter_1 ?_
  refine x_icmp_lt (tgt := 12) dX3_isLetter_3 (inr (by omega)) (inr (by decide)) (fun c3_1 => ?_) (fun c3_1 => ?_)
  · -- 3 lt -> 12
    refine x_il0 dX3_isLetter_12 ?_
    refine x_bipush dX3_isLetter_13 ?_
    refine x_icmp_lt (tgt := 28) dX3_isLetter_15 (inr (by omega)) (inr (by decide)) (fun c15_2 => ?_) (fun c15_2 => ?_)
    · -- 15 lt -> 28
      refine x_iconst dX3_isLetter_28 ?_
      exact x_zret hQ (rI.mk (by first | rfl | omega | (rw [if_pos (by omega)]) | (rw [if_neg (by omega)])) rfl) (by decide) dX3_isLetter_29
    · -- 15 lt -> 18
      refine x_il0 dX3_isLetter_18 ?_
      refine x_bipush dX3_isLetter_19 ?_
      refine x_icmp_gt (tgt := 28) dX3_isLetter_21 (inr (by omega)) (inr (by decide)) (fun c21_3 => ?_) (fun c21_3 => ?_)
      · -- 21 gt -> 28
        refine x_iconst dX3_isLetter_28 ?_
        exact x_zret hQ (rI.mk (by first | rfl | omega | (rw [if_pos (by omega)]) | (rw [if_neg (by omega)])) rfl) (by decide) dX3_isLetter_29
      · -- 21 gt -> 24
        refine x_iconst dX3_isLetter_24 ?_
        refine x_goto (tgt := 29) dX3_isLetter_25 ?_
        exact x_zret hQ (rI.mk (by first | rfl | omega | (rw [if_pos (by omega)]) | (rw [if_neg (by omega)])) rfl) (by decide) dX3_isLetter_29
  · -- 3 lt -> 6
    refine x_il0 dX3_isLetter_6 ?_
    refine x_bipush dX3_isLetter_7 ?_
    refine x_icmp_le (tgt := 24) dX3_isLetter_9 (inr (by omega)) (inr (by decide)) (fun c9_4 => ?_) (fun c9_4 => ?_)
    · -- 9 le -> 24
      refine x_iconst dX3_isLetter_24 ?_
      refine x_goto (tgt := 29) dX3_isLetter_25 ?_
      exact x_zret hQ (rI.mk (by first | rfl | omega | (rw [if_pos (by omega)]) | (rw [if_neg (by omega)])) rfl) (by decide) dX3_isLetter_29
    · -- 9 le -> 12
      refine x_il0 dX3_isLetter_12 ?_
      refine x_bipush dX3_isLetter_13 ?_
      refine x_icmp_lt (tgt := 28) dX3_isLetter_15 (inr (by omega)) (inr (by decide)) (fun c15_5 => ?_) (fun c15_5 => ?_)
      · -- 15 lt -> 28
        refine x_iconst dX3_isLetter_28 ?_
        exact x_zret hQ (rI.mk (by first | rfl | omega | (rw [if_pos (by omega)]) | (rw [if_neg (by omega)])) rfl) (by decide) dX3_isLetter_29
      · -- 15 lt -> 18
        refine x_il0 dX3_isLetter_18 ?_
        refine x_bipush dX3_isLetter_19 ?_
        refine x_icmp_gt (tgt := 28) dX3_isLetter_21 (inr (by omega)) (inr (by decide)) (fun c21_6 => ?_) (fun c21_6 => ?_)
        · -- 21 gt -> 28
          refine x_iconst dX3_isLetter_28 ?_
          exact x_zret hQ (rI.mk (by first | rfl | omega | (rw [if_pos (by omega)]) | (rw [if_neg (by omega)])) rfl) (by decide) dX3_isLetter_29
        · -- 21 gt -> 24
          refine x_iconst dX3_isLetter_24 ?_
          refine x_goto (tgt := 29) dX3_isLetter_25 ?_
          exact x_zret hQ (rI.mk (by first | rfl | omega | (rw [if_pos (by omega)]) | (rw [if_neg (by omega)])) rfl) (by decide) dX3_isLetter_29
set_option maxRecDepth 100000 in
set_option maxHeartbeats 4000000 in
theorem c_X3_isDigit {B : Bs} {S : Stt} {V : Va} (c : Int) (hc : InR c) : C B yX3_isDigit cX3_isDigit 1 (some .boolean) 1 0 0 [vI c] S V (rI S V (if isDg c then 1 else 0)) := by
  refine C.of [some (vI c)] ?_
  intro Γ hQ
  refine x_il0 dX3_isDigit_0 ?_
  refine x_bipush dX3_isDigit_1 ?_
  refine x_icmp_lt (tgt := 16) dX3_isDigit_3 (inr (by omega)) (inr (by decide)) (fun c3_1 => ?_) (fun c3_1 => ?_)
  · -- 3 lt -> 16
    refine x_iconst dX3_isDigit_16 ?_
    exact x_zret hQ (rI.mk (by first | rfl | omega | (rw [if_pos (by omega)]) | (rw [if_neg (by omega)])) rfl) (by decide) dX3_isDigit_17
  · -- 3 lt -> 6
    refine x_il0 dX3_isDigit_6 ?_
    refine x_bipush dX3_isDigit_7 ?_
    refine x_icmp_gt (tgt := 16) dX3_isDigit_9 (inr (by omega)) (inr (by decide)) (fun c9_2 => ?_) (fun c9_2 => ?_)
    · -- 9 gt -> 16
      refine x_iconst dX3_isDigit_16 ?_
      exact x_zret hQ (rI.mk (by first | rfl | omega | (rw [if_pos (by omega)]) | (rw [if_neg (by omega)])) rfl) (by decide) dX3_isDigit_17
    · -- 9 gt -> 12
      refine x_iconst dX3_isDigit_12 ?_
      refine x_goto (tgt := 17) dX3_isDigit_13 ?_
      exact x_zret hQ (rI.mk (by first | rfl | omega | (rw [if_pos (by omega)]) | (rw [if_neg (by omega)])) rfl) (by decide) dX3_isDigit_17
set_option maxRecDepth 100000 in
set_option maxHeartbeats 4000000 in
theorem c_X3_addToken {B : Bs} {S : Stt} {V : Va} (token : Int) (start : Int) (value : Int) (hS : Stat S) (hk7 : 0 ≤ (V 277 7) ∧ (V 277 7) < 301) : C B yX3_addToken cX3_addToken 4 none 1 0 0 [vR B 277, vI token, vI start, vI value] S V (rV S (up (up (up (up V 277 (ua (V 277) 7 ((V 277 7) + 1))) 279 (ua (V 279) (V 277 7) token)) 280 (ua (V 280) (V 277 7) start)) 281 (ua (V 281) (V 277 7) value))) := by
  refine C.of [some (vR B 277), some (vI token), some (vI start), some (vI value)] ?_
  intro Γ hQ
  refine x_al0 dX3_addToken_0 ?_
  refine x_getI fl_X3_75 (sh_277 hS) (lq_277 hS) dX3_addToken_1 ?_
  refine x_topI (a' := V 277 7) rfl ?_
  refine x_al0 dX3_addToken_4 ?_
  refine x_getR fl_X3_22 (sh_277 hS) (lq_277 hS) (rf_277_4 hS) dX3_addToken_5 ?_
  refine x_alen (by decide) (sh_279 hS) (lq_279 hS) dX3_addToken_8 ?_
  refine x_topI (a' := 301) rfl ?_
  refine x_icmp_ge (tgt := 52) dX3_addToken_9 (inr (by omega)) (inr (by decide)) (fun c9_1 => ?_) (fun c9_1 => ?_)
  · exact absurd c9_1 (by omega)
  · -- 9 ge -> 12
    refine x_al0 dX3_addToken_12 ?_
    refine x_getR fl_X3_22 (sh_277 hS) (lq_277 hS) (rf_277_4 hS) dX3_addToken_13 ?_
    refine x_al0 dX3_addToken_16 ?_
    refine x_getI fl_X3_75 (sh_277 hS) (lq_277 hS) dX3_addToken_17 ?_
    refine x_topI (a' := V 277 7) rfl ?_
    refine x_il1 dX3_addToken_20 ?_
    refine x_iast (sh_279 hS) (lq_279 hS) (by omega) (by omega) dX3_addToken_21 ?_
    refine x_mem (V' := (up V 279 (ua (V 279) (V 277 7) token))) rfl ?_
    refine x_al0 dX3_addToken_22 ?_
    refine x_getR fl_X3_25 (sh_277 hS) (lq_277 hS) (rf_277_5 hS) dX3_addToken_23 ?_
    refine x_al0 dX3_addToken_26 ?_
    refine x_getI fl_X3_75 (sh_277 hS) (lq_277 hS) dX3_addToken_27 ?_
    refine x_topI (a' := V 277 7) rfl ?_
    refine x_il2 dX3_addToken_30 ?_
    refine x_iast (sh_280 hS) (lq_280 hS) (by omega) (by omega) dX3_addToken_31 ?_
    refine x_mem (V' := (up (up V 279 (ua (V 279) (V 277 7) token)) 280 (ua (V 280) (V 277 7) start))) rfl ?_
    refine x_al0 dX3_addToken_32 ?_
    refine x_getR fl_X3_28 (sh_277 hS) (lq_277 hS) (rf_277_6 hS) dX3_addToken_33 ?_
    refine x_al0 dX3_addToken_36 ?_
    refine x_getI fl_X3_75 (sh_277 hS) (lq_277 hS) dX3_addToken_37 ?_
    refine x_topI (a' := V 277 7) rfl ?_
    refine x_il3 dX3_addToken_40 ?_
    refine x_iast (sh_281 hS) (lq_281 hS) (by omega) (by omega) dX3_addToken_41 ?_
    refine x_mem (V' := (up (up (up V 279 (ua (V 279) (V 277 7) token)) 280 (ua (V 280) (V 277 7) start)) 281 (ua (V 281) (V 277 7) value))) rfl ?_
    refine x_al0 dX3_addToken_42 ?_
    refine x_dup dX3_addToken_43 ?_
    refine x_getI fl_X3_75 (sh_277 hS) (lq_277 hS) dX3_addToken_44 ?_
    refine x_topI (a' := V 277 7) rfl ?_
    refine x_iconst dX3_addToken_47 ?_
    refine x_iadd dX3_addToken_48 ?_
    refine x_putI fl_X3_75 (sh_277 hS) (lq_277 hS) dX3_addToken_49 ?_
    refine x_mem (V' := (up (up (up (up V 277 (ua (V 277) 7 ((V 277 7) + 1))) 279 (ua (V 279) (V 277 7) token)) 280 (ua (V 280) (V 277 7) start)) 281 (ua (V 281) (V 277 7) value))) (st2_c (by decide) (st2_c (by decide) (st2_c (by decide) rfl))) ?_
    exact x_vret hQ (rV.mk rfl) dX3_addToken_52
set_option maxRecDepth 100000 in
set_option maxHeartbeats 4000000 in
theorem c_X3_wordOf {B : Bs} {S : Stt} {V : Va} (start : Int) (behind : Int) (hS : Stat S) (hTp : ∀ k, 0 ≤ (V 278) k ∧ (V 278) k < 256) (hsb : 0 ≤ start ∧ start < behind ∧ behind ≤ 300) (hlt : ∀ j, start ≤ j → j < behind → isLt ((V 278) j)) : C B yX3_wordOf cX3_wordOf 8 (some .int) 5 0 0 [vR B 277, vI start, vI behind] S V (rI S V (cWd (wdW (V 278) start behind))) := by
  refine C.of [some (vR B 277), some (vI start), some (vI behind), none, none, none, none, none] ?_
  intro Γ hQ
  refine x_bipush dX3_wordOf_0 ?_
  refine x_is3 dX3_wordOf_2 ?_
  refine x_il1 dX3_wordOf_3 ?_
  refine x_is4 dX3_wordOf_4 ?_
  refine x_iconst dX3_wordOf_6 ?_
  refine x_is5 dX3_wordOf_7 ?_
  refine x_iconst dX3_wordOf_9 ?_
  refine x_is6 dX3_wordOf_10 ?_
  have lp12 : ∀ (N12 : Nat) (word : Int) (i : Int) (like : Int) (k : Int), (0 ≤ k ∧ k ≤ 125) → (word = 16 + (wi k.toNat : Int)) → (start ≤ i ∧ i ≤ start + k) → (WoI (V 278) start behind k i like) → (125 - k).toNat < N12 → X Γ B RX3 "wordOf" cX3_wordOf 8 (some .int) 5 0 0 12 [some (vR B 277), some (vI start), some (vI behind), some (vI word), some (vI i), some (vI like), some (vI k), none] [] 0 0 S V := by
    intro N12
    induction N12 with
    | zero => intro word i like k hk hw hi hW hN; exact absurd hN (Nat.not_lt_zero _)
    | succ N12 ih12 =>
      intro word i like k hk hw hi hW hN12
      have hll := WoI_l hW
      have hwi := wi_le k.toNat
      refine x_il6 dX3_wordOf_12 ?_
      refine x_ldcS1 dX3_wordOf_14 ?_
      refine x_cKi mm_J0_length_8abf5 ml_X3_117 dX3_wordOf_16 (c_J0_length1) (by decide) ?_
      refine x_icmp_ge (tgt := 102) dX3_wordOf_19 (inr (by omega)) (inr (by decide)) (fun c19_1 => ?_) (fun c19_1 => ?_)
      · -- 19 ge -> 102
        refine x_iconst dX3_wordOf_102 ?_
        exact x_iret hQ (rI.mk (Mt_no (by omega) hlt (fun e he h => hW.1 e (by omega) h)) rfl) dX3_wordOf_103
      · -- 19 ge -> 22
        refine x_ldcS1 dX3_wordOf_22 ?_
        refine x_il6 dX3_wordOf_24 ?_
        refine x_cKi mm_J0_charAt_5068e ml_X3_121 dX3_wordOf_26 (c_J0_charAt_5068e k (by omega)) (by decide) ?_
        have hsb1 := sB1_i (k := k) (by omega) (by omega)
        refine x_is7 dX3_wordOf_29 ?_
        refine x_il7 dX3_wordOf_31 ?_
        refine x_bipush dX3_wordOf_33 ?_
        refine x_icmp_ne (tgt := 63) dX3_wordOf_35 (inr (by omega)) (inr (by decide)) (fun c35_2 => ?_) (fun c35_2 => ?_)
        · -- 35 ne -> 63
          have h32 : ¬ sB 1 k = 32 := by omega
          refine x_il5 dX3_wordOf_63 ?_
          refine x_if_eq (tgt := 96) dX3_wordOf_65 (inr (by omega)) (fun c65_3 => ?_) (fun c65_3 => ?_)
          · -- 65 eq -> 96
            refine x_inc6 dX3_wordOf_96 ?_
            refine x_goto (tgt := 12) dX3_wordOf_99 ?_
            exact x_fg (ih12 word i like (k + 1) (by omega) (by rw [(wo_ns hk.1 h32).2]; omega) (by omega) (by have z : like = 0 := (by omega); rw [z] at hW ⊢; exact WoI_no hk.1 h32 hW) (by omega)) (And.intro rfl (And.intro rfl (And.intro rfl (And.intro rfl (And.intro rfl (And.intro rfl (And.intro rfl trivial)))))))
          · -- 65 eq -> 68
            refine x_il4 dX3_wordOf_68 ?_
            refine x_il2 dX3_wordOf_70 ?_
            refine x_icmp_ge (tgt := 90) dX3_wordOf_71 (inr (by omega)) (inr (by omega)) (fun c71_4 => ?_) (fun c71_4 => ?_)
            · -- 71 ge -> 90
              refine x_iconst dX3_wordOf_90 ?_
              refine x_is5 dX3_wordOf_91 ?_
              refine x_inc4 dX3_wordOf_93 ?_
              refine x_inc6 dX3_wordOf_96 ?_
              refine x_goto (tgt := 12) dX3_wordOf_99 ?_
              exact x_fg (ih12 word (i + 1) 0 (k + 1) (by omega) (by rw [(wo_ns hk.1 h32).2]; omega) (by omega) (WoI_x hk.1 h32 hW (by omega) (by omega)) (by omega)) (And.intro rfl (And.intro rfl (And.intro rfl (And.intro rfl (And.intro rfl (And.intro rfl (And.intro rfl trivial)))))))
            · -- 71 ge -> 74
              refine x_al0 dX3_wordOf_74 ?_
              refine x_getR fl_X3_9 (sh_277 hS) (lq_277 hS) (rf_277_0 hS) dX3_wordOf_75 ?_
              refine x_il4 dX3_wordOf_78 ?_
              have hb5 := hTp i
              refine x_iald (sh_278 hS) (lq_278 hS) (by omega) (by omega) dX3_wordOf_80 ?_
              refine x_topI (a' := V 278 i) rfl ?_
              refine x_il7 dX3_wordOf_81 ?_
              refine x_icmp_ne (tgt := 90) dX3_wordOf_83 (inr (by omega)) (inr (by omega)) (fun c83_6 => ?_) (fun c83_6 => ?_)
              · -- 83 ne -> 90
                refine x_iconst dX3_wordOf_90 ?_
                refine x_is5 dX3_wordOf_91 ?_
                refine x_inc4 dX3_wordOf_93 ?_
                refine x_inc6 dX3_wordOf_96 ?_
                refine x_goto (tgt := 12) dX3_wordOf_99 ?_
                exact x_fg (ih12 word (i + 1) 0 (k + 1) (by omega) (by rw [(wo_ns hk.1 h32).2]; omega) (by omega) (WoI_x hk.1 h32 hW (by omega) (by omega)) (by omega)) (And.intro rfl (And.intro rfl (And.intro rfl (And.intro rfl (And.intro rfl (And.intro rfl (And.intro rfl trivial)))))))
              · -- 83 ne -> 86
                refine x_iconst dX3_wordOf_86 ?_
                refine x_goto (tgt := 91) dX3_wordOf_87 ?_
                refine x_is5 dX3_wordOf_91 ?_
                refine x_inc4 dX3_wordOf_93 ?_
                refine x_inc6 dX3_wordOf_96 ?_
                refine x_goto (tgt := 12) dX3_wordOf_99 ?_
                exact x_fg (ih12 word (i + 1) 1 (k + 1) (by omega) (by rw [(wo_ns hk.1 h32).2]; omega) (by omega) (WoI_y hk.1 h32 hW (by omega) (by omega)) (by omega)) (And.intro rfl (And.intro rfl (And.intro rfl (And.intro rfl (And.intro rfl (And.intro rfl (And.intro rfl trivial)))))))
        · -- 35 ne -> 38
          have h32 : sB 1 k = 32 := by omega
          refine x_il5 dX3_wordOf_38 ?_
          refine x_if_eq (tgt := 51) dX3_wordOf_40 (inr (by omega)) (fun c40_7 => ?_) (fun c40_7 => ?_)
          · -- 40 eq -> 51
            refine x_inc3 dX3_wordOf_51 ?_
            refine x_il1 dX3_wordOf_54 ?_
            refine x_is4 dX3_wordOf_55 ?_
            refine x_iconst dX3_wordOf_57 ?_
            refine x_is5 dX3_wordOf_58 ?_
            refine x_goto (tgt := 96) dX3_wordOf_60 ?_
            refine x_inc6 dX3_wordOf_96 ?_
            refine x_goto (tgt := 12) dX3_wordOf_99 ?_
            exact x_fg (ih12 (word + 1) start 1 (k + 1) (by omega) (by rw [(wo_sp hk.1 h32).2]; omega) (by omega) (WoI_sp hk.1 h32 hW (by omega)) (by omega)) (And.intro rfl (And.intro rfl (And.intro rfl (And.intro rfl (And.intro rfl (And.intro rfl (And.intro rfl trivial)))))))
          · -- 40 eq -> 43
            refine x_il4 dX3_wordOf_43 ?_
            refine x_il2 dX3_wordOf_45 ?_
            refine x_icmp_ne (tgt := 51) dX3_wordOf_46 (inr (by omega)) (inr (by omega)) (fun c46_8 => ?_) (fun c46_8 => ?_)
            · -- 46 ne -> 51
              refine x_inc3 dX3_wordOf_51 ?_
              refine x_il1 dX3_wordOf_54 ?_
              refine x_is4 dX3_wordOf_55 ?_
              refine x_iconst dX3_wordOf_57 ?_
              refine x_is5 dX3_wordOf_58 ?_
              refine x_goto (tgt := 96) dX3_wordOf_60 ?_
              refine x_inc6 dX3_wordOf_96 ?_
              refine x_goto (tgt := 12) dX3_wordOf_99 ?_
              exact x_fg (ih12 (word + 1) start 1 (k + 1) (by omega) (by rw [(wo_sp hk.1 h32).2]; omega) (by omega) (WoI_sp hk.1 h32 hW (by omega)) (by omega)) (And.intro rfl (And.intro rfl (And.intro rfl (And.intro rfl (And.intro rfl (And.intro rfl (And.intro rfl trivial)))))))
            · -- 46 ne -> 49
              refine x_il3 dX3_wordOf_49 ?_
              exact x_iret hQ (rI.mk ((Mt_yes (e := k.toNat) (by omega) hlt (by omega) (by rw [show ((k.toNat : Nat) : Int) = k by omega]; exact h32) (WoI_m hk.1 hW (by omega) (by omega))).trans hw.symm) rfl) dX3_wordOf_50
  exact x_fg (lp12 _ 16 start 1 0 (by omega) rfl (by omega) WoI_0 (Nat.lt_succ_self _)) (And.intro rfl (And.intro rfl (And.intro rfl (And.intro rfl (And.intro rfl (And.intro rfl (And.intro rfl trivial)))))))
set_option maxRecDepth 100000 in
set_option maxHeartbeats 4000000 in
theorem c_X3_splitWord {B : Bs} {S : Stt} {V : Va} (start : Int) (hS : Stat S) (hTp : ∀ k, 0 ≤ (V 278) k ∧ (V 278) k < 256) (hst : 0 ≤ start ∧ start < (V 277 1) ∧ (V 277 1) ≤ 300) (hk7 : 0 ≤ (V 277 7) ∧ (V 277 7) < 301) (hl0 : isLt ((V 278) start)) : C B yX3_splitWord cX3_splitWord 3 (some .int) 6 0 0 [vR B 277, vI start] S V (rI S (up (up (up (up V 277 (ua (V 277) 7 ((V 277 7) + 1))) 279 (ua (V 279) (V 277 7) (cWd (wdW (V 278) start (ends (V 278) (V 277 1) pLt start))))) 280 (ua (V 280) (V 277 7) start)) 281 (ua (V 281) (V 277 7) 0)) (ends (V 278) (V 277 1) pLt start)) := by
  refine C.of [some (vR B 277), some (vI start), none] ?_
  intro Γ hQ
  refine x_il1 dX3_splitWord_0 ?_
  refine x_iconst dX3_splitWord_1 ?_
  refine x_iadd dX3_splitWord_2 ?_
  refine x_is2 dX3_splitWord_3 ?_
  have lp4 : ∀ (N4 : Nat) (i : Int), (start < i ∧ i ≤ V 277 1) → (∀ j, start ≤ j → j < i → isLt (V 278 j)) → (V 277 1 - i).toNat < N4 → X Γ B RX3 "splitWord" cX3_splitWord 3 (some .int) 6 0 0 4 [some (vR B 277), some (vI start), some (vI i)] [] 0 0 S V := by
    intro N4
    induction N4 with
    | zero => intro i hi hlt hN; exact absurd hN (Nat.not_lt_zero _)
    | succ N4 ih4 =>
      intro i hi hlt hN4
      refine x_il2 dX3_splitWord_4 ?_
      refine x_al0 dX3_splitWord_5 ?_
      refine x_getI fl_X3_46 (sh_277 hS) (lq_277 hS) dX3_splitWord_6 ?_
      refine x_topI (a' := V 277 1) rfl ?_
      refine x_icmp_ge (tgt := 30) dX3_splitWord_9 (inr (by omega)) (inr (by omega)) (fun c9_1 => ?_) (fun c9_1 => ?_)
      · -- 9 ge -> 30
        have he : ends (V 278) (V 277 1) pLt start = i := ends_lt (by omega) (by omega) (fun j j0 j1 => decide_eq_true (hlt j j0 j1)) (fun z => decide_eq_false (by first | assumption | (exfalso; omega))) (by decide)
        refine x_al0 dX3_splitWord_30 ?_
        refine x_al0 dX3_splitWord_31 ?_
        refine x_il1 dX3_splitWord_32 ?_
        refine x_il2 dX3_splitWord_33 ?_
        refine x_cVi mm_X3_wordOf ml_X3_99 dX3_splitWord_34 (c_X3_wordOf start i hS hTp (by omega) hlt) (sh_277 hS) (lq_277 hS) ?_
        refine x_il1 dX3_splitWord_37 ?_
        refine x_iconst dX3_splitWord_38 ?_
        refine x_cVv mm_X3_addToken ml_X3_95 dX3_splitWord_39 (c_X3_addToken (cWd (wdW (V 278) start i)) start 0 hS (by omega)) (sh_277 hS) (lq_277 hS) ?_
        refine x_il2 dX3_splitWord_42 ?_
        exact x_iret hQ (rI.mk he (by rw [he])) dX3_splitWord_43
      · -- 9 ge -> 12
        refine x_al0 dX3_splitWord_12 ?_
        refine x_getR fl_X3_9 (sh_277 hS) (lq_277 hS) (rf_277_0 hS) dX3_splitWord_13 ?_
        refine x_il2 dX3_splitWord_16 ?_
        have hb2 := hTp i
        refine x_iald (sh_278 hS) (lq_278 hS) (by omega) (by omega) dX3_splitWord_17 ?_
        refine x_topI (a' := V 278 i) rfl ?_
        refine x_cSi mm_X3_isLetter ml_X3_78 dX3_splitWord_18 (c_X3_isLetter (V 278 i) (inr (by omega))) ?_
        refine x_ifb_eq (tgt := 30) dX3_splitWord_21 (fun c21_3 => ?_) (fun c21_3 => ?_)
        · -- 21 eq -> 30
          have he : ends (V 278) (V 277 1) pLt start = i := ends_lt (by omega) (by omega) (fun j j0 j1 => decide_eq_true (hlt j j0 j1)) (fun z => decide_eq_false (by first | assumption | (exfalso; omega))) (by decide)
          refine x_al0 dX3_splitWord_30 ?_
          refine x_al0 dX3_splitWord_31 ?_
          refine x_il1 dX3_splitWord_32 ?_
          refine x_il2 dX3_splitWord_33 ?_
          refine x_cVi mm_X3_wordOf ml_X3_99 dX3_splitWord_34 (c_X3_wordOf start i hS hTp (by omega) hlt) (sh_277 hS) (lq_277 hS) ?_
          refine x_il1 dX3_splitWord_37 ?_
          refine x_iconst dX3_splitWord_38 ?_
          refine x_cVv mm_X3_addToken ml_X3_95 dX3_splitWord_39 (c_X3_addToken (cWd (wdW (V 278) start i)) start 0 hS (by omega)) (sh_277 hS) (lq_277 hS) ?_
          refine x_il2 dX3_splitWord_42 ?_
          exact x_iret hQ (rI.mk he (by rw [he])) dX3_splitWord_43
        · -- 21 eq -> 24
          refine x_inc2 dX3_splitWord_24 ?_
          refine x_goto (tgt := 4) dX3_splitWord_27 ?_
          exact x_fg (ih4 (i + 1) (by omega) (fun j j0 j1 => by by_cases e : j = i; (rw [e]; assumption); exact hlt j j0 (by omega)) (by omega)) (And.intro rfl (And.intro rfl (And.intro rfl trivial)))
  exact x_fg (lp4 _ (start + 1) (by omega) (fun j j0 j1 => by rw [show j = start by omega]; exact hl0) (Nat.lt_succ_self _)) (And.intro rfl (And.intro rfl (And.intro rfl trivial)))
set_option maxRecDepth 100000 in
set_option maxHeartbeats 4000000 in
theorem c_X3_splitNumber {B : Bs} {S : Stt} {V : Va} (start : Int) (hS : Stat S) (hTp : ∀ k, 0 ≤ (V 278) k ∧ (V 278) k < 256) (hst : 0 ≤ start ∧ start < (V 277 1) ∧ (V 277 1) ≤ 300) (hk7 : 0 ≤ (V 277 7) ∧ (V 277 7) < 301) : C B yX3_splitNumber cX3_splitNumber 4 (some .int) 2 0 0 [vR B 277, vI start] S V (rI S (up (up (up (up V 277 (ua (V 277) 7 ((V 277 7) + 1))) 279 (ua (V 279) (V 277 7) 2)) 280 (ua (V 280) (V 277 7) start)) 281 (ua (V 281) (V 277 7) (nmC (V 278) start (ends (V 278) (V 277 1) pDg start - start).toNat))) (ends (V 278) (V 277 1) pDg start)) := by
  refine C.of [some (vR B 277), some (vI start), none, none] ?_
  intro Γ hQ
  refine x_il1 dX3_splitNumber_0 ?_
  refine x_is2 dX3_splitNumber_1 ?_
  refine x_iconst dX3_splitNumber_2 ?_
  refine x_is3 dX3_splitNumber_3 ?_
  have lp4 : ∀ (N4 : Nat) (i : Int) (v : Int), (start ≤ i ∧ i ≤ V 277 1) → (∀ j, start ≤ j → j < i → isDg (V 278 j)) → (v = nmC (V 278) start (i - start).toNat) → (0 ≤ v ∧ v ≤ 10000) → (V 277 1 - i).toNat < N4 → X Γ B RX3 "splitNumber" cX3_splitNumber 4 (some .int) 2 0 0 4 [some (vR B 277), some (vI start), some (vI i), some (vI v)] [] 0 0 S V := by
    intro N4
    induction N4 with
    | zero => intro i v hi hdg hv hvr hN; exact absurd hN (Nat.not_lt_zero _)
    | succ N4 ih4 =>
      intro i v hi hdg hv hvr hN4
      have hnr := nmK_r (T := V 278) (s := start) (i - start).toNat (fun j j0 j1 => hdg j (by omega) (by omega))
      refine x_il2 dX3_splitNumber_4 ?_
      refine x_al0 dX3_splitNumber_5 ?_
      refine x_getI fl_X3_46 (sh_277 hS) (lq_277 hS) dX3_splitNumber_6 ?_
      refine x_topI (a' := V 277 1) rfl ?_
      refine x_icmp_ge (tgt := 51) dX3_splitNumber_9 (inr (by omega)) (inr (by omega)) (fun c9_1 => ?_) (fun c9_1 => ?_)
      · -- 9 ge -> 51
        have he : ends (V 278) (V 277 1) pDg start = i := ends_lt (by omega) (by omega) (fun j j0 j1 => decide_eq_true (hdg j j0 j1)) (fun z => decide_eq_false (by first | assumption | (exfalso; omega))) (by decide)
        refine x_al0 dX3_splitNumber_51 ?_
        refine x_iconst dX3_splitNumber_52 ?_
        refine x_il1 dX3_splitNumber_53 ?_
        refine x_il3 dX3_splitNumber_54 ?_
        refine x_cVv mm_X3_addToken ml_X3_95 dX3_splitNumber_55 (c_X3_addToken 2 start v hS (by omega)) (sh_277 hS) (lq_277 hS) ?_
        refine x_il2 dX3_splitNumber_58 ?_
        exact x_iret hQ (rI.mk he (by rw [he, ← hv])) dX3_splitNumber_59
      · -- 9 ge -> 12
        refine x_al0 dX3_splitNumber_12 ?_
        refine x_getR fl_X3_9 (sh_277 hS) (lq_277 hS) (rf_277_0 hS) dX3_splitNumber_13 ?_
        refine x_il2 dX3_splitNumber_16 ?_
        have hb2 := hTp i
        refine x_iald (sh_278 hS) (lq_278 hS) (by omega) (by omega) dX3_splitNumber_17 ?_
        refine x_topI (a' := V 278 i) rfl ?_
        refine x_cSi mm_X3_isDigit ml_X3_86 dX3_splitNumber_18 (c_X3_isDigit (V 278 i) (inr (by omega))) ?_
        refine x_ifb_eq (tgt := 51) dX3_splitNumber_21 (fun c21_3 => ?_) (fun c21_3 => ?_)
        · -- 21 eq -> 51
          have he : ends (V 278) (V 277 1) pDg start = i := ends_lt (by omega) (by omega) (fun j j0 j1 => decide_eq_true (hdg j j0 j1)) (fun z => decide_eq_false (by first | assumption | (exfalso; omega))) (by decide)
          refine x_al0 dX3_splitNumber_51 ?_
          refine x_iconst dX3_splitNumber_52 ?_
          refine x_il1 dX3_splitNumber_53 ?_
          refine x_il3 dX3_splitNumber_54 ?_
          refine x_cVv mm_X3_addToken ml_X3_95 dX3_splitNumber_55 (c_X3_addToken 2 start v hS (by omega)) (sh_277 hS) (lq_277 hS) ?_
          refine x_il2 dX3_splitNumber_58 ?_
          exact x_iret hQ (rI.mk he (by rw [he, ← hv])) dX3_splitNumber_59
        · -- 21 eq -> 24
          refine x_il3 dX3_splitNumber_24 ?_
          refine x_bipush dX3_splitNumber_25 ?_
          refine x_imul dX3_splitNumber_27 ?_
          refine x_al0 dX3_splitNumber_28 ?_
          refine x_getR fl_X3_9 (sh_277 hS) (lq_277 hS) (rf_277_0 hS) dX3_splitNumber_29 ?_
          refine x_il2 dX3_splitNumber_32 ?_
          have hb4 := hTp i
          refine x_iald (sh_278 hS) (lq_278 hS) (by omega) (by omega) dX3_splitNumber_33 ?_
          refine x_topI (a' := V 278 i) rfl ?_
          refine x_iadd dX3_splitNumber_34 ?_
          refine x_bipush dX3_splitNumber_35 ?_
          refine x_isub dX3_splitNumber_37 ?_
          refine x_sipush dX3_splitNumber_38 ?_
          refine x_mmin ml_X3_103 dX3_splitNumber_41 (inr (by omega)) (inr (by decide)) ?_
          refine x_is3 dX3_splitNumber_44 ?_
          refine x_inc2 dX3_splitNumber_45 ?_
          refine x_goto (tgt := 4) dX3_splitNumber_48 ?_
          exact x_fg (ih4 (i + 1) (if 10000 < ((v * 10) + (V 278 i)) - 48 then 10000 else ((v * 10) + (V 278 i)) - 48) (by omega) (fun j j0 j1 => by by_cases e : j = i; (rw [e]; assumption); exact hdg j j0 (by omega)) (by rw [show (i + 1 - start).toNat = (i - start).toNat + 1 by omega, ← nmC_s hnr.1 (by rw [show start + (((i - start).toNat : Nat) : Int) = i by omega]; assumption), ← hv, show start + (((i - start).toNat : Nat) : Int) = i by omega]) (by split <;> omega) (by omega)) (And.intro rfl (And.intro rfl (And.intro rfl (And.intro rfl trivial))))
  exact x_fg (lp4 _ start 0 (by omega) (fun j j0 j1 => by omega) (by rw [show (start - start).toNat = 0 by omega]; rfl) (by omega) (Nat.lt_succ_self _)) (And.intro rfl (And.intro rfl (And.intro rfl (And.intro rfl trivial))))
set_option maxRecDepth 100000 in
set_option maxHeartbeats 4000000 in
theorem c_X3_splitSign {B : Bs} {S : Stt} {V : Va} (start : Int) (hS : Stat S) (hTp : ∀ k, 0 ≤ (V 278) k ∧ (V 278) k < 256) (hst : 0 ≤ start ∧ start < (V 277 1) ∧ (V 277 1) ≤ 300) (hk7 : 0 ≤ (V 277 7) ∧ (V 277 7) < 301) : C B yX3_splitSign cX3_splitSign 5 (some .int) 5 0 0 [vR B 277, vI start] S V (rI S (up (up (up (up V 277 (ua (V 277) 7 ((V 277 7) + 1))) 279 (ua (V 279) (V 277 7) (cSg (sgT (V 278) (V 277 1) start)))) 280 (ua (V 280) (V 277 7) start)) 281 (ua (V 281) (V 277 7) 0)) (sgN (V 278) (V 277 1) start)) := by
  refine C.of [some (vR B 277), some (vI start), none, none, none] ?_
  intro Γ hQ
  have hc0 := hTp start
  have hsgc := sgn_c hc0
  obtain ⟨sg, hsg0⟩ : ∃ z, z = findT (fun zz => decide (sB 0 zz = V 278 start)) 11 := ⟨_, rfl⟩
  rw [← hsg0] at hsgc
  have hcs := cSg_r (V 278 start)
  have hc10 : cSg (V 278 start) = 10 ↔ V 278 start = 60 := by simp only [cSg]; (repeat' split) <;> omega
  have hc11 : cSg (V 278 start) = 11 ↔ V 278 start = 62 := by simp only [cSg]; (repeat' split) <;> omega
  have hsgr : -1 ≤ sg := by rw [hsg0]; rcases findT_r (fun zz => decide (sB 0 zz = V 278 start)) (n := 11) (by decide) with z | z <;> omega
  refine x_ldcS0 dX3_splitSign_0 ?_
  refine x_al0 dX3_splitSign_2 ?_
  refine x_getR fl_X3_9 (sh_277 hS) (lq_277 hS) (rf_277_0 hS) dX3_splitSign_3 ?_
  refine x_il1 dX3_splitSign_6 ?_
  have hb1 := hTp start
  refine x_iald (sh_278 hS) (lq_278 hS) (by omega) (by omega) dX3_splitSign_7 ?_
  refine x_topI (a' := V 278 start) rfl ?_
  refine x_i2c (by omega) (by omega) dX3_splitSign_8 ?_
  refine x_cKi mm_J0_indexOf_0f7a4 ml_X3_110 dX3_splitSign_9 (c_J0_indexOf_0f7a4 (V 278 start) hc0) (by decide) ?_
  refine x_topI (a' := sg) hsg0.symm ?_
  refine x_is2 dX3_splitSign_12 ?_
  refine x_il2 dX3_splitSign_13 ?_
  refine x_if_ge (tgt := 21) dX3_splitSign_14 (inr (by omega)) (fun c14_2 => ?_) (fun c14_2 => ?_)
  · -- 14 ge -> 21
    have hsq := hsgc.2 (by omega)
    have hsg : isSg (V 278 start) := hsq.1
    have hsv := hsq.2.1
    have hsl := hsq.2.2
    refine x_iconst dX3_splitSign_21 ?_
    refine x_il2 dX3_splitSign_22 ?_
    refine x_iadd dX3_splitSign_23 ?_
    refine x_is3 dX3_splitSign_24 ?_
    refine x_il1 dX3_splitSign_25 ?_
    refine x_iconst dX3_splitSign_26 ?_
    refine x_iadd dX3_splitSign_27 ?_
    refine x_is4 dX3_splitSign_28 ?_
    refine x_il3 dX3_splitSign_30 ?_
    refine x_bipush dX3_splitSign_31 ?_
    refine x_icmp_eq (tgt := 42) dX3_splitSign_33 (inr (by omega)) (inr (by decide)) (fun c33_3 => ?_) (fun c33_3 => ?_)
    · -- 33 eq -> 42
      refine x_il4 dX3_splitSign_42 ?_
      refine x_al0 dX3_splitSign_44 ?_
      refine x_getI fl_X3_46 (sh_277 hS) (lq_277 hS) dX3_splitSign_45 ?_
      refine x_topI (a' := V 277 1) rfl ?_
      refine x_icmp_ge (tgt := 69) dX3_splitSign_48 (inr (by omega)) (inr (by omega)) (fun c48_4 => ?_) (fun c48_4 => ?_)
      · -- 48 ge -> 69
        refine x_al0 dX3_splitSign_69 ?_
        refine x_il3 dX3_splitSign_70 ?_
        refine x_il1 dX3_splitSign_71 ?_
        refine x_iconst dX3_splitSign_72 ?_
        refine x_cVv mm_X3_addToken ml_X3_95 dX3_splitSign_73 (c_X3_addToken (3 + sg) start 0 hS (by omega)) (sh_277 hS) (lq_277 hS) ?_
        refine x_il4 dX3_splitSign_76 ?_
        exact x_iret hQ (by have z2 : ¬ ((V 278 start = 60 ∨ V 278 start = 62) ∧ tb (V 278) (V 277 1) (start + 1) = 61) := (by intro z; by_cases q : start + 1 < V 277 1; (rw [tb_in q] at z; omega); (rw [tb_out (by omega)] at z; omega)); have e1 : sgN (V 278) (V 277 1) start = start + 1 := if_neg z2; have e2 : sgT (V 278) (V 277 1) start = (if isSg (V 278 start) then V 278 start else 3) := if_neg z2; refine rI.mk e1 ?_; rw [show cSg (sgT (V 278) (V 277 1) start) = 3 + sg from ?_]; rw [e2]; first | (rw [if_pos hsg, ← hsv]) | (rw [if_neg hsg]; rfl) | (rw [if_pos (by omega)]; show (14 : Int) = _; omega) | (rw [if_neg (by omega)]; show (15 : Int) = _; omega)) dX3_splitSign_78
      · -- 48 ge -> 51
        refine x_al0 dX3_splitSign_51 ?_
        refine x_getR fl_X3_9 (sh_277 hS) (lq_277 hS) (rf_277_0 hS) dX3_splitSign_52 ?_
        refine x_il4 dX3_splitSign_55 ?_
        have hb5 := hTp (start + 1)
        refine x_iald (sh_278 hS) (lq_278 hS) (by omega) (by omega) dX3_splitSign_57 ?_
        refine x_topI (a' := V 278 (start + 1)) rfl ?_
        refine x_bipush dX3_splitSign_58 ?_
        refine x_icmp_ne (tgt := 69) dX3_splitSign_60 (inr (by omega)) (inr (by decide)) (fun c60_6 => ?_) (fun c60_6 => ?_)
        · -- 60 ne -> 69
          refine x_al0 dX3_splitSign_69 ?_
          refine x_il3 dX3_splitSign_70 ?_
          refine x_il1 dX3_splitSign_71 ?_
          refine x_iconst dX3_splitSign_72 ?_
          refine x_cVv mm_X3_addToken ml_X3_95 dX3_splitSign_73 (c_X3_addToken (3 + sg) start 0 hS (by omega)) (sh_277 hS) (lq_277 hS) ?_
          refine x_il4 dX3_splitSign_76 ?_
          exact x_iret hQ (by have z2 : ¬ ((V 278 start = 60 ∨ V 278 start = 62) ∧ tb (V 278) (V 277 1) (start + 1) = 61) := (by intro z; by_cases q : start + 1 < V 277 1; (rw [tb_in q] at z; omega); (rw [tb_out (by omega)] at z; omega)); have e1 : sgN (V 278) (V 277 1) start = start + 1 := if_neg z2; have e2 : sgT (V 278) (V 277 1) start = (if isSg (V 278 start) then V 278 start else 3) := if_neg z2; refine rI.mk e1 ?_; rw [show cSg (sgT (V 278) (V 277 1) start) = 3 + sg from ?_]; rw [e2]; first | (rw [if_pos hsg, ← hsv]) | (rw [if_neg hsg]; rfl) | (rw [if_pos (by omega)]; show (14 : Int) = _; omega) | (rw [if_neg (by omega)]; show (15 : Int) = _; omega)) dX3_splitSign_78
        · -- 60 ne -> 63
          refine x_inc3 dX3_splitSign_63 ?_
          refine x_inc4 dX3_splitSign_66 ?_
          refine x_al0 dX3_splitSign_69 ?_
          refine x_il3 dX3_splitSign_70 ?_
          refine x_il1 dX3_splitSign_71 ?_
          refine x_iconst dX3_splitSign_72 ?_
          refine x_cVv mm_X3_addToken ml_X3_95 dX3_splitSign_73 (c_X3_addToken ((3 + sg) + 4) start 0 hS (by omega)) (sh_277 hS) (lq_277 hS) ?_
          refine x_il4 dX3_splitSign_76 ?_
          exact x_iret hQ (by have z1 : tb (V 278) (V 277 1) (start + 1) = 61 := (by rw [tb_in (by omega)]; omega); have z2 : (V 278 start = 60 ∨ V 278 start = 62) ∧ tb (V 278) (V 277 1) (start + 1) = 61 := ⟨by omega, z1⟩; have e1 : sgN (V 278) (V 277 1) start = start + 1 + 1 := if_pos z2; have e2 : sgT (V 278) (V 277 1) start = (if V 278 start = 60 then 4 else 5) := if_pos z2; refine rI.mk e1 ?_; rw [show cSg (sgT (V 278) (V 277 1) start) = (3 + sg) + 4 from ?_]; rw [e2]; first | (rw [if_pos hsg, ← hsv]) | (rw [if_neg hsg]; rfl) | (rw [if_pos (by omega)]; show (14 : Int) = _; omega) | (rw [if_neg (by omega)]; show (15 : Int) = _; omega)) dX3_splitSign_78
    · -- 33 eq -> 36
      refine x_il3 dX3_splitSign_36 ?_
      refine x_bipush dX3_splitSign_37 ?_
      refine x_icmp_ne (tgt := 69) dX3_splitSign_39 (inr (by omega)) (inr (by decide)) (fun c39_7 => ?_) (fun c39_7 => ?_)
      · -- 39 ne -> 69
        refine x_al0 dX3_splitSign_69 ?_
        refine x_il3 dX3_splitSign_70 ?_
        refine x_il1 dX3_splitSign_71 ?_
        refine x_iconst dX3_splitSign_72 ?_
        refine x_cVv mm_X3_addToken ml_X3_95 dX3_splitSign_73 (c_X3_addToken (3 + sg) start 0 hS (by omega)) (sh_277 hS) (lq_277 hS) ?_
        refine x_il4 dX3_splitSign_76 ?_
        exact x_iret hQ (by have z2 : ¬ ((V 278 start = 60 ∨ V 278 start = 62) ∧ tb (V 278) (V 277 1) (start + 1) = 61) := (by intro z; by_cases q : start + 1 < V 277 1; (rw [tb_in q] at z; omega); (rw [tb_out (by omega)] at z; omega)); have e1 : sgN (V 278) (V 277 1) start = start + 1 := if_neg z2; have e2 : sgT (V 278) (V 277 1) start = (if isSg (V 278 start) then V 278 start else 3) := if_neg z2; refine rI.mk e1 ?_; rw [show cSg (sgT (V 278) (V 277 1) start) = 3 + sg from ?_]; rw [e2]; first | (rw [if_pos hsg, ← hsv]) | (rw [if_neg hsg]; rfl) | (rw [if_pos (by omega)]; show (14 : Int) = _; omega) | (rw [if_neg (by omega)]; show (15 : Int) = _; omega)) dX3_splitSign_78
      · -- 39 ne -> 42
        refine x_il4 dX3_splitSign_42 ?_
        refine x_al0 dX3_splitSign_44 ?_
        refine x_getI fl_X3_46 (sh_277 hS) (lq_277 hS) dX3_splitSign_45 ?_
        refine x_topI (a' := V 277 1) rfl ?_
        refine x_icmp_ge (tgt := 69) dX3_splitSign_48 (inr (by omega)) (inr (by omega)) (fun c48_8 => ?_) (fun c48_8 => ?_)
        · -- 48 ge -> 69
          refine x_al0 dX3_splitSign_69 ?_
          refine x_il3 dX3_splitSign_70 ?_
          refine x_il1 dX3_splitSign_71 ?_
          refine x_iconst dX3_splitSign_72 ?_
          refine x_cVv mm_X3_addToken ml_X3_95 dX3_splitSign_73 (c_X3_addToken (3 + sg) start 0 hS (by omega)) (sh_277 hS) (lq_277 hS) ?_
          refine x_il4 dX3_splitSign_76 ?_
          exact x_iret hQ (by have z2 : ¬ ((V 278 start = 60 ∨ V 278 start = 62) ∧ tb (V 278) (V 277 1) (start + 1) = 61) := (by intro z; by_cases q : start + 1 < V 277 1; (rw [tb_in q] at z; omega); (rw [tb_out (by omega)] at z; omega)); have e1 : sgN (V 278) (V 277 1) start = start + 1 := if_neg z2; have e2 : sgT (V 278) (V 277 1) start = (if isSg (V 278 start) then V 278 start else 3) := if_neg z2; refine rI.mk e1 ?_; rw [show cSg (sgT (V 278) (V 277 1) start) = 3 + sg from ?_]; rw [e2]; first | (rw [if_pos hsg, ← hsv]) | (rw [if_neg hsg]; rfl) | (rw [if_pos (by omega)]; show (14 : Int) = _; omega) | (rw [if_neg (by omega)]; show (15 : Int) = _; omega)) dX3_splitSign_78
        · -- 48 ge -> 51
          refine x_al0 dX3_splitSign_51 ?_
          refine x_getR fl_X3_9 (sh_277 hS) (lq_277 hS) (rf_277_0 hS) dX3_splitSign_52 ?_
          refine x_il4 dX3_splitSign_55 ?_
          have hb9 := hTp (start + 1)
          refine x_iald (sh_278 hS) (lq_278 hS) (by omega) (by omega) dX3_splitSign_57 ?_
          refine x_topI (a' := V 278 (start + 1)) rfl ?_
          refine x_bipush dX3_splitSign_58 ?_
          refine x_icmp_ne (tgt := 69) dX3_splitSign_60 (inr (by omega)) (inr (by decide)) (fun c60_10 => ?_) (fun c60_10 => ?_)
          · -- 60 ne -> 69
            refine x_al0 dX3_splitSign_69 ?_
            refine x_il3 dX3_splitSign_70 ?_
            refine x_il1 dX3_splitSign_71 ?_
            refine x_iconst dX3_splitSign_72 ?_
            refine x_cVv mm_X3_addToken ml_X3_95 dX3_splitSign_73 (c_X3_addToken (3 + sg) start 0 hS (by omega)) (sh_277 hS) (lq_277 hS) ?_
            refine x_il4 dX3_splitSign_76 ?_
            exact x_iret hQ (by have z2 : ¬ ((V 278 start = 60 ∨ V 278 start = 62) ∧ tb (V 278) (V 277 1) (start + 1) = 61) := (by intro z; by_cases q : start + 1 < V 277 1; (rw [tb_in q] at z; omega); (rw [tb_out (by omega)] at z; omega)); have e1 : sgN (V 278) (V 277 1) start = start + 1 := if_neg z2; have e2 : sgT (V 278) (V 277 1) start = (if isSg (V 278 start) then V 278 start else 3) := if_neg z2; refine rI.mk e1 ?_; rw [show cSg (sgT (V 278) (V 277 1) start) = 3 + sg from ?_]; rw [e2]; first | (rw [if_pos hsg, ← hsv]) | (rw [if_neg hsg]; rfl) | (rw [if_pos (by omega)]; show (14 : Int) = _; omega) | (rw [if_neg (by omega)]; show (15 : Int) = _; omega)) dX3_splitSign_78
          · -- 60 ne -> 63
            refine x_inc3 dX3_splitSign_63 ?_
            refine x_inc4 dX3_splitSign_66 ?_
            refine x_al0 dX3_splitSign_69 ?_
            refine x_il3 dX3_splitSign_70 ?_
            refine x_il1 dX3_splitSign_71 ?_
            refine x_iconst dX3_splitSign_72 ?_
            refine x_cVv mm_X3_addToken ml_X3_95 dX3_splitSign_73 (c_X3_addToken ((3 + sg) + 4) start 0 hS (by omega)) (sh_277 hS) (lq_277 hS) ?_
            refine x_il4 dX3_splitSign_76 ?_
            exact x_iret hQ (by have z1 : tb (V 278) (V 277 1) (start + 1) = 61 := (by rw [tb_in (by omega)]; omega); have z2 : (V 278 start = 60 ∨ V 278 start = 62) ∧ tb (V 278) (V 277 1) (start + 1) = 61 := ⟨by omega, z1⟩; have e1 : sgN (V 278) (V 277 1) start = start + 1 + 1 := if_pos z2; have e2 : sgT (V 278) (V 277 1) start = (if V 278 start = 60 then 4 else 5) := if_pos z2; refine rI.mk e1 ?_; rw [show cSg (sgT (V 278) (V 277 1) start) = (3 + sg) + 4 from ?_]; rw [e2]; first | (rw [if_pos hsg, ← hsv]) | (rw [if_neg hsg]; rfl) | (rw [if_pos (by omega)]; show (14 : Int) = _; omega) | (rw [if_neg (by omega)]; show (15 : Int) = _; omega)) dX3_splitSign_78
  · -- 14 ge -> 17
    have hsg : ¬ isSg (V 278 start) := hsgc.1 (by omega)
    refine x_iconst dX3_splitSign_17 ?_
    refine x_goto (tgt := 24) dX3_splitSign_18 ?_
    refine x_is3 dX3_splitSign_24 ?_
    refine x_il1 dX3_splitSign_25 ?_
    refine x_iconst dX3_splitSign_26 ?_
    refine x_iadd dX3_splitSign_27 ?_
    refine x_is4 dX3_splitSign_28 ?_
    refine x_il3 dX3_splitSign_30 ?_
    refine x_bipush dX3_splitSign_31 ?_
    refine x_icmp_eq (tgt := 42) dX3_splitSign_33 (inr (by decide)) (inr (by decide)) (fun c33_11 => ?_) (fun c33_11 => ?_)
    · exact absurd c33_11 (by decide)
    · -- 33 eq -> 36
      refine x_il3 dX3_splitSign_36 ?_
      refine x_bipush dX3_splitSign_37 ?_
      refine x_icmp_ne (tgt := 69) dX3_splitSign_39 (inr (by decide)) (inr (by decide)) (fun c39_12 => ?_) (fun c39_12 => ?_)
      · -- 39 ne -> 69
        refine x_al0 dX3_splitSign_69 ?_
        refine x_il3 dX3_splitSign_70 ?_
        refine x_il1 dX3_splitSign_71 ?_
        refine x_iconst dX3_splitSign_72 ?_
        refine x_cVv mm_X3_addToken ml_X3_95 dX3_splitSign_73 (c_X3_addToken 1 start 0 hS (by omega)) (sh_277 hS) (lq_277 hS) ?_
        refine x_il4 dX3_splitSign_76 ?_
        exact x_iret hQ (by have z2 : ¬ ((V 278 start = 60 ∨ V 278 start = 62) ∧ tb (V 278) (V 277 1) (start + 1) = 61) := (by intro z; by_cases q : start + 1 < V 277 1; (rw [tb_in q] at z; omega); (rw [tb_out (by omega)] at z; omega)); have e1 : sgN (V 278) (V 277 1) start = start + 1 := if_neg z2; have e2 : sgT (V 278) (V 277 1) start = (if isSg (V 278 start) then V 278 start else 3) := if_neg z2; refine rI.mk e1 ?_; rw [show cSg (sgT (V 278) (V 277 1) start) = 1 from ?_]; rw [e2]; first | (rw [if_pos hsg, ← hsv]) | (rw [if_neg hsg]; rfl) | (rw [if_pos (by omega)]; show (14 : Int) = _; omega) | (rw [if_neg (by omega)]; show (15 : Int) = _; omega)) dX3_splitSign_78
      · exact absurd c39_12 (by decide)
set_option maxRecDepth 100000 in
set_option maxHeartbeats 4000000 in
theorem c_X3_split {B : Bs} {S : Stt} {V : Va} (hS : Stat S) (hTp : ∀ k, 0 ≤ (V 278) k ∧ (V 278) k < 256) (hn : 0 ≤ (V 277 1) ∧ (V 277 1) ≤ 300) : C B yX3_split cX3_split 4 none 7 0 0 [vR B 277] S V (rVR S (fun VN => ∃ (N : Nat) (tk sr vl : Int → Int), VN = up (up (up (up V 277 (ua (V 277) 7 (N + 1))) 279 tk) 280 sr) 281 vl ∧ TkR (V 278) (V 277 1) N tk sr vl)) := by
  refine C.of [some (vR B 277), none, none, none] ?_
  intro Γ hQ
  refine x_al0 dX3_split_0 ?_
  refine x_iconst dX3_split_1 ?_
  refine x_putI fl_X3_75 (sh_277 hS) (lq_277 hS) dX3_split_2 ?_
  refine x_mem (V' := (up V 277 (ua (V 277) 7 0))) rfl ?_
  refine x_iconst dX3_split_5 ?_
  refine x_is1 dX3_split_6 ?_
  refine x_iconst dX3_split_7 ?_
  refine x_is2 dX3_split_8 ?_
  have lp9 : ∀ (N9 : Nat) (i : Int) (turn : Int) (k : Nat) (tk : Int → Int) (sr : Int → Int) (vl : Int → Int), (0 ≤ turn ∧ turn ≤ i) → (TkS (V 278) (V 277 1) k i tk sr vl) → (300 - turn).toNat < N9 → X Γ B RX3 "split" cX3_split 4 none 7 0 0 9 [some (vR B 277), some (vI i), some (vI turn), none] [] 0 0 S (up (up (up (up V 277 (ua (V 277) 7 (k : Int))) 279 tk) 280 sr) 281 vl) := by
    intro N9
    induction N9 with
    | zero => intro i turn k tk sr vl ht hS2 hN; exact absurd hN (Nat.not_lt_zero _)
    | succ N9 ih9 =>
      intro i turn k tk sr vl ht hS2 hN9
      have hq1 := hS2.1
      have hq2 := hS2.2.1
      have hq3 := hS2.2.2.1
      refine x_il2 dX3_split_9 ?_
      refine x_sipush dX3_split_10 ?_
      refine x_icmp_ge (tgt := 93) dX3_split_13 (inr (by omega)) (inr (by decide)) (fun c13_1 => ?_) (fun c13_1 => ?_)
      · -- 13 ge -> 93
        refine x_al0 dX3_split_93 ?_
        refine x_iconst dX3_split_94 ?_
        refine x_al0 dX3_split_95 ?_
        refine x_getI fl_X3_46 (sh_277 hS) (lq_277 hS) dX3_split_96 ?_
        refine x_topI (a' := V 277 1) (show (ua (V 277) 7 (k : Int)) 1 = V 277 1 from (ua_ne (by decide))) ?_
        refine x_iconst dX3_split_99 ?_
        refine x_cVv mm_X3_addToken ml_X3_95 dX3_split_100 (c_X3_addToken 0 (V 277 1) 0 hS (show 0 ≤ (k : Int) ∧ (k : Int) < 301 from (by omega))) (sh_277 hS) (lq_277 hS) ?_
        refine x_mem (V' := (up (up (up (up V 277 (ua (ua (V 277) 7 (k : Int)) 7 ((k : Int) + 1))) 279 (ua tk (k : Int) 0)) 280 (ua sr (k : Int) (V 277 1))) 281 (ua vl (k : Int) 0))) (Eq.trans (Eq.trans (Eq.trans (congrArg (fun z => up z 281 _) (congrArg (fun z => up z 280 _) (congrArg (fun z => up z 279 _) (up_k (by decide) (up_k (by decide) (up_k (by decide) (up_up _ _ _ _))))))) (congrArg (fun z => up z 281 _) (congrArg (fun z => up z 280 _) (up_k (by decide) (up_k (by decide) (up_up _ _ _ _)))))) (congrArg (fun z => up z 281 _) (up_k (by decide) (up_up _ _ _ _)))) (up_up _ _ _ _)) ?_
        exact x_vret hQ ⟨rfl, rfl, k, _, _, _, (by rw [ua_ua]), TkS_end hn.2 hS2 (by omega)⟩ dX3_split_103
      · -- 13 ge -> 16
        refine x_il1 dX3_split_16 ?_
        refine x_al0 dX3_split_17 ?_
        refine x_getI fl_X3_46 (sh_277 hS) (lq_277 hS) dX3_split_18 ?_
        refine x_topI (a' := V 277 1) (show (ua (V 277) 7 (k : Int)) 1 = V 277 1 from (ua_ne (by decide))) ?_
        refine x_icmp_ge (tgt := 93) dX3_split_21 (inr (by omega)) (inr (by omega)) (fun c21_2 => ?_) (fun c21_2 => ?_)
        · -- 21 ge -> 93
          refine x_al0 dX3_split_93 ?_
          refine x_iconst dX3_split_94 ?_
          refine x_al0 dX3_split_95 ?_
          refine x_getI fl_X3_46 (sh_277 hS) (lq_277 hS) dX3_split_96 ?_
          refine x_topI (a' := V 277 1) (show (ua (V 277) 7 (k : Int)) 1 = V 277 1 from (ua_ne (by decide))) ?_
          refine x_iconst dX3_split_99 ?_
          refine x_cVv mm_X3_addToken ml_X3_95 dX3_split_100 (c_X3_addToken 0 (V 277 1) 0 hS (show 0 ≤ (k : Int) ∧ (k : Int) < 301 from (by omega))) (sh_277 hS) (lq_277 hS) ?_
          refine x_mem (V' := (up (up (up (up V 277 (ua (ua (V 277) 7 (k : Int)) 7 ((k : Int) + 1))) 279 (ua tk (k : Int) 0)) 280 (ua sr (k : Int) (V 277 1))) 281 (ua vl (k : Int) 0))) (Eq.trans (Eq.trans (Eq.trans (congrArg (fun z => up z 281 _) (congrArg (fun z => up z 280 _) (congrArg (fun z => up z 279 _) (up_k (by decide) (up_k (by decide) (up_k (by decide) (up_up _ _ _ _))))))) (congrArg (fun z => up z 281 _) (congrArg (fun z => up z 280 _) (up_k (by decide) (up_k (by decide) (up_up _ _ _ _)))))) (congrArg (fun z => up z 281 _) (up_k (by decide) (up_up _ _ _ _)))) (up_up _ _ _ _)) ?_
          exact x_vret hQ ⟨rfl, rfl, k, _, _, _, (by rw [ua_ua]), TkS_end hn.2 hS2 (by omega)⟩ dX3_split_103
        · -- 21 ge -> 24
          refine x_al0 dX3_split_24 ?_
          refine x_getR fl_X3_9 (sh_277 hS) (lq_277 hS) (rf_277_0 hS) dX3_split_25 ?_
          refine x_il1 dX3_split_28 ?_
          have hb3 := hTp i
          refine x_iald (sh_278 hS) (lq_278 hS) (by omega) (by omega) dX3_split_29 ?_
          refine x_topI (a' := V 278 i) rfl ?_
          refine x_is3 dX3_split_30 ?_
          refine x_il3 dX3_split_31 ?_
          refine x_bipush dX3_split_32 ?_
          refine x_icmp_eq (tgt := 43) dX3_split_34 (inr (by omega)) (inr (by decide)) (fun c34_4 => ?_) (fun c34_4 => ?_)
          · -- 34 eq -> 43
            refine x_inc1 dX3_split_43 ?_
            refine x_goto (tgt := 87) dX3_split_46 ?_
            refine x_inc2 dX3_split_87 ?_
            refine x_goto (tgt := 9) dX3_split_90 ?_
            exact x_fg (ih9 (i + 1) (turn + 1) k tk sr vl (by omega) (TkS_b hS2 (by omega) (by omega)) (by omega)) (And.intro rfl (And.intro rfl (And.intro rfl trivial)))
          · -- 34 eq -> 37
            refine x_il3 dX3_split_37 ?_
            refine x_bipush dX3_split_38 ?_
            refine x_icmp_ne (tgt := 49) dX3_split_40 (inr (by omega)) (inr (by decide)) (fun c40_5 => ?_) (fun c40_5 => ?_)
            · -- 40 ne -> 49
              have hpl := TkS_pl hS2 (fun _ => by omega)
              refine x_il3 dX3_split_49 ?_
              refine x_cSi mm_X3_isLetter ml_X3_78 dX3_split_50 (c_X3_isLetter (V 278 i) (inr (by omega))) ?_
              refine x_ifb_eq (tgt := 65) dX3_split_53 (fun c53_6 => ?_) (fun c53_6 => ?_)
              · -- 53 eq -> 65
                have hlt0 : ¬ isLt (V 278 i) := by assumption
                refine x_il3 dX3_split_65 ?_
                refine x_cSi mm_X3_isDigit ml_X3_86 dX3_split_66 (c_X3_isDigit (V 278 i) (inr (by omega))) ?_
                refine x_ifb_eq (tgt := 81) dX3_split_69 (fun c69_7 => ?_) (fun c69_7 => ?_)
                · -- 69 eq -> 81
                  have hdg0 : ¬ isDg (V 278 i) := by assumption
                  refine x_al0 dX3_split_81 ?_
                  refine x_il1 dX3_split_82 ?_
                  refine x_cVi mm_X3_splitSign ml_X3_92 dX3_split_83 (c_X3_splitSign i hS (show ∀ k, 0 ≤ (V 278) k ∧ (V 278) k < 256 from hTp) (show 0 ≤ i ∧ i < (V 277 1) ∧ (V 277 1) ≤ 300 from (by omega)) (show 0 ≤ (k : Int) ∧ (k : Int) < 301 from (by omega))) (sh_277 hS) (lq_277 hS) ?_
                  refine x_topI (a' := sgN (V 278) (V 277 1) i) rfl ?_
                  refine x_mem (V' := (up (up (up (up V 277 (ua (ua (V 277) 7 (k : Int)) 7 ((k : Int) + 1))) 279 (ua tk (k : Int) (cSg (sgT (V 278) (V 277 1) i)))) 280 (ua sr (k : Int) i)) 281 (ua vl (k : Int) 0))) (Eq.trans (Eq.trans (Eq.trans (congrArg (fun z => up z 281 _) (congrArg (fun z => up z 280 _) (congrArg (fun z => up z 279 _) (up_k (by decide) (up_k (by decide) (up_k (by decide) (up_up _ _ _ _))))))) (congrArg (fun z => up z 281 _) (congrArg (fun z => up z 280 _) (up_k (by decide) (up_k (by decide) (up_up _ _ _ _)))))) (congrArg (fun z => up z 281 _) (up_k (by decide) (up_up _ _ _ _)))) (up_up _ _ _ _)) ?_
                  refine x_is1 dX3_split_86 ?_
                  refine x_inc2 dX3_split_87 ?_
                  refine x_goto (tgt := 9) dX3_split_90 ?_
                  refine x_mem (V' := (up (up (up (up V 277 (ua (V 277) 7 ((k + 1) : Int))) 279 (ua tk (k : Int) (cSg (sgT (V 278) (V 277 1) i)))) 280 (ua sr (k : Int) i)) 281 (ua vl (k : Int) 0))) (upE (upE (upE (upE rfl (by funext z; simp only [ua]; (repeat' split) <;> first | rfl | omega)) rfl) rfl) rfl) ?_
                  exact x_fg (ih9 (sgN (V 278) (V 277 1) i) (turn + 1) (k + 1) (ua tk (k : Int) (cSg (sgT (V 278) (V 277 1) i))) (ua sr (k : Int) i) (ua vl (k : Int) 0) (by have q := at_sg hTp hpl (by omega) hlt0 hdg0; have q2 := tok_r hTp (n := V 277 1) (p := pos (V 278) (V 277 1) k) (by omega); have q3 := q2.2.2.2.2.1 q.2.2.2; omega) (by have q := at_sg hTp hpl (by omega) hlt0 hdg0; exact TkS_add hTp hS2 (by omega) hpl q.1 q.2.1 q.2.2.1 q.2.2.2) (by omega)) (And.intro rfl (And.intro rfl (And.intro rfl trivial)))
                · -- 69 eq -> 72
                  have hdg0 : isDg (V 278 i) := by assumption
                  refine x_al0 dX3_split_72 ?_
                  refine x_il1 dX3_split_73 ?_
                  refine x_cVi mm_X3_splitNumber ml_X3_89 dX3_split_74 (c_X3_splitNumber i hS (show ∀ k, 0 ≤ (V 278) k ∧ (V 278) k < 256 from hTp) (show 0 ≤ i ∧ i < (V 277 1) ∧ (V 277 1) ≤ 300 from (by omega)) (show 0 ≤ (k : Int) ∧ (k : Int) < 301 from (by omega))) (sh_277 hS) (lq_277 hS) ?_
                  refine x_topI (a' := ends (V 278) (V 277 1) pDg i) rfl ?_
                  refine x_mem (V' := (up (up (up (up V 277 (ua (ua (V 277) 7 (k : Int)) 7 ((k : Int) + 1))) 279 (ua tk (k : Int) 2)) 280 (ua sr (k : Int) i)) 281 (ua vl (k : Int) (nmC (V 278) i (ends (V 278) (V 277 1) pDg i - i).toNat)))) (Eq.trans (Eq.trans (Eq.trans (congrArg (fun z => up z 281 _) (congrArg (fun z => up z 280 _) (congrArg (fun z => up z 279 _) (up_k (by decide) (up_k (by decide) (up_k (by decide) (up_up _ _ _ _))))))) (congrArg (fun z => up z 281 _) (congrArg (fun z => up z 280 _) (up_k (by decide) (up_k (by decide) (up_up _ _ _ _)))))) (congrArg (fun z => up z 281 _) (up_k (by decide) (up_up _ _ _ _)))) (up_up _ _ _ _)) ?_
                  refine x_is1 dX3_split_77 ?_
                  refine x_goto (tgt := 87) dX3_split_78 ?_
                  refine x_inc2 dX3_split_87 ?_
                  refine x_goto (tgt := 9) dX3_split_90 ?_
                  refine x_mem (V' := (up (up (up (up V 277 (ua (V 277) 7 ((k + 1) : Int))) 279 (ua tk (k : Int) 2)) 280 (ua sr (k : Int) i)) 281 (ua vl (k : Int) (nmC (V 278) i (ends (V 278) (V 277 1) pDg i - i).toNat)))) (upE (upE (upE (upE rfl (by funext z; simp only [ua]; (repeat' split) <;> first | rfl | omega)) rfl) rfl) rfl) ?_
                  exact x_fg (ih9 (ends (V 278) (V 277 1) pDg i) (turn + 1) (k + 1) (ua tk (k : Int) 2) (ua sr (k : Int) i) (ua vl (k : Int) (nmC (V 278) i (ends (V 278) (V 277 1) pDg i - i).toNat)) (by have q := at_dg hpl (by omega) hdg0; have q2 := tok_r hTp (n := V 277 1) (p := pos (V 278) (V 277 1) k) (by omega); have q3 := q2.2.2.2.2.1 q.2.2.2; omega) (by have q := at_dg hpl (by omega) hdg0; exact TkS_add hTp hS2 (by omega) hpl q.1 q.2.1 q.2.2.1 q.2.2.2) (by omega)) (And.intro rfl (And.intro rfl (And.intro rfl trivial)))
              · -- 53 eq -> 56
                have hlt0 : isLt (V 278 i) := by assumption
                refine x_al0 dX3_split_56 ?_
                refine x_il1 dX3_split_57 ?_
                refine x_cVi mm_X3_splitWord ml_X3_82 dX3_split_58 (c_X3_splitWord i hS (show ∀ k, 0 ≤ (V 278) k ∧ (V 278) k < 256 from hTp) (show 0 ≤ i ∧ i < (V 277 1) ∧ (V 277 1) ≤ 300 from (by omega)) (show 0 ≤ (k : Int) ∧ (k : Int) < 301 from (by omega)) (show isLt ((V 278) i) from hlt0)) (sh_277 hS) (lq_277 hS) ?_
                refine x_topI (a' := ends (V 278) (V 277 1) pLt i) rfl ?_
                refine x_mem (V' := (up (up (up (up V 277 (ua (ua (V 277) 7 (k : Int)) 7 ((k : Int) + 1))) 279 (ua tk (k : Int) (cWd (wdW (V 278) i (ends (V 278) (V 277 1) pLt i))))) 280 (ua sr (k : Int) i)) 281 (ua vl (k : Int) 0))) (Eq.trans (Eq.trans (Eq.trans (congrArg (fun z => up z 281 _) (congrArg (fun z => up z 280 _) (congrArg (fun z => up z 279 _) (up_k (by decide) (up_k (by decide) (up_k (by decide) (up_up _ _ _ _))))))) (congrArg (fun z => up z 281 _) (congrArg (fun z => up z 280 _) (up_k (by decide) (up_k (by decide) (up_up _ _ _ _)))))) (congrArg (fun z => up z 281 _) (up_k (by decide) (up_up _ _ _ _)))) (up_up _ _ _ _)) ?_
                refine x_is1 dX3_split_61 ?_
                refine x_goto (tgt := 87) dX3_split_62 ?_
                refine x_inc2 dX3_split_87 ?_
                refine x_goto (tgt := 9) dX3_split_90 ?_
                refine x_mem (V' := (up (up (up (up V 277 (ua (V 277) 7 ((k + 1) : Int))) 279 (ua tk (k : Int) (cWd (wdW (V 278) i (ends (V 278) (V 277 1) pLt i))))) 280 (ua sr (k : Int) i)) 281 (ua vl (k : Int) 0))) (upE (upE (upE (upE rfl (by funext z; simp only [ua]; (repeat' split) <;> first | rfl | omega)) rfl) rfl) rfl) ?_
                exact x_fg (ih9 (ends (V 278) (V 277 1) pLt i) (turn + 1) (k + 1) (ua tk (k : Int) (cWd (wdW (V 278) i (ends (V 278) (V 277 1) pLt i)))) (ua sr (k : Int) i) (ua vl (k : Int) 0) (by have q := at_lt hpl (by omega) hlt0; have q2 := tok_r hTp (n := V 277 1) (p := pos (V 278) (V 277 1) k) (by omega); have q3 := q2.2.2.2.2.1 q.2.2.2; omega) (by have q := at_lt hpl (by omega) hlt0; exact TkS_add hTp hS2 (by omega) hpl q.1 q.2.1 q.2.2.1 q.2.2.2) (by omega)) (And.intro rfl (And.intro rfl (And.intro rfl trivial)))
            · -- 40 ne -> 43
              refine x_inc1 dX3_split_43 ?_
              refine x_goto (tgt := 87) dX3_split_46 ?_
              refine x_inc2 dX3_split_87 ?_
              refine x_goto (tgt := 9) dX3_split_90 ?_
              exact x_fg (ih9 (i + 1) (turn + 1) k tk sr vl (by omega) (TkS_b hS2 (by omega) (by omega)) (by omega)) (And.intro rfl (And.intro rfl (And.intro rfl trivial)))
  refine x_mem (V' := (up (up (up (up V 277 (ua (V 277) 7 (0 : Int))) 279 (V 279)) 280 (V 280)) 281 (V 281))) (Eq.trans (Eq.trans (Eq.trans (show _ = (up (up V 277 (ua (V 277) 7 0)) 279 (V 279)) from (Eq.symm (up_self _ 279))) (show _ = (up (up (up V 277 (ua (V 277) 7 0)) 279 (V 279)) 280 (V 280)) from (Eq.symm (up_self _ 280)))) (show _ = (up (up (up (up V 277 (ua (V 277) 7 0)) 279 (V 279)) 280 (V 280)) 281 (V 281)) from (Eq.symm (up_self _ 281)))) (show (up (up (up (up V 277 (ua (V 277) 7 0)) 279 (V 279)) 280 (V 280)) 281 (V 281)) = (up (up (up (up V 277 (ua (V 277) 7 (0 : Int))) 279 (V 279)) 280 (V 280)) 281 (V 281)) from (upE (upE (upE (upE rfl rfl) rfl) rfl) rfl))) ?_
  exact x_fg (lp9 _ 0 0 0 (V 279) (V 280) (V 281) (by omega) (TkS_0 hn.1) (Nat.lt_succ_self _)) (And.intro rfl (And.intro rfl (And.intro rfl trivial)))
