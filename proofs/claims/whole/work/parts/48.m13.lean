set_option maxRecDepth 100000 in
set_option maxHeartbeats 4000000 in
theorem c_X11_hasParen {B : Bs} {S : Stt} {V : Va} (hS : Stat S) (hPb : AB (V 313)) (h17 : 0 ≤ (V 308 17) ∧ (V 308 17) ≤ 160) : C B yX11_hasParen cX11_hasParen 2 (some .boolean) 1 0 0 [vR B 308] S V (rI S V (if 0 ≤ findT (fun zz => decide ((V 313) zz = 40)) (V 308 17) then 1 else 0)) := by
  refine C.of [some (vR B 308), none] ?_
  intro Γ hQ
  refine x_iconst dX11_hasParen_0 ?_
  refine x_is1 dX11_hasParen_1 ?_
  have lp2 : ∀ (N2 : Nat) (k : Int), (0 ≤ k ∧ k ≤ V 308 17) → (∀ j, 0 ≤ j → j < k → ¬ V 313 j = 40) → (V 308 17 - k).toNat < N2 → X Γ B RX11 "hasParen" cX11_hasParen 2 (some .boolean) 1 0 0 2 [some (vR B 308), some (vI k)] [] 0 0 S V := by
    intro N2
    induction N2 with
    | zero => intro k hk hno hN; exact absurd hN (Nat.not_lt_zero _)
    | succ N2 ih2 =>
      intro k hk hno hN2
      refine x_il1 dX11_hasParen_2 ?_
      refine x_al0 dX11_hasParen_3 ?_
      refine x_getI fl_X11_160 (sh_308 hS) (lq_308 hS) dX11_hasParen_4 ?_
      refine x_topI (a' := V 308 17) rfl ?_
      refine x_icmp_ge (tgt := 29) dX11_hasParen_7 (inr (by omega)) (inr (by omega)) (fun c7_1 => ?_) (fun c7_1 => ?_)
      · -- 7 ge -> 29
        refine x_iconst dX11_hasParen_29 ?_
        exact x_zret hQ (rI.mk (if_neg (by rw [findT_no (fun j j0 j1 => decide_eq_false (hno j j0 (by omega)))]; omega)) rfl) (by decide) dX11_hasParen_30
      · -- 7 ge -> 10
        refine x_al0 dX11_hasParen_10 ?_
        refine x_getR fl_X11_29 (sh_308 hS) (lq_308 hS) (rf_308_16 hS) dX11_hasParen_11 ?_
        refine x_il1 dX11_hasParen_14 ?_
        have hb2 := hPb k
        refine x_iald (sh_313 hS) (lq_313 hS) (by omega) (by omega) dX11_hasParen_15 ?_
        refine x_topI (a' := V 313 k) rfl ?_
        refine x_bipush dX11_hasParen_16 ?_
        refine x_icmp_ne (tgt := 23) dX11_hasParen_18 (inr (by omega)) (inr (by decide)) (fun c18_3 => ?_) (fun c18_3 => ?_)
        · -- 18 ne -> 23
          refine x_inc1 dX11_hasParen_23 ?_
          refine x_goto (tgt := 2) dX11_hasParen_26 ?_
          exact x_fg (ih2 (k + 1) (by omega) (fun j j0 j1 => by rcases (show j < k ∨ j = k by omega) with q | q; (exact hno j j0 q); rw [q]; omega) (by omega)) (And.intro rfl (And.intro rfl trivial))
        · -- 18 ne -> 21
          refine x_iconst dX11_hasParen_21 ?_
          exact x_zret hQ (rI.mk (if_pos (by rw [findT_at (k := k) (by omega) (by omega) (decide_eq_true (by omega)) (fun j j0 j1 => decide_eq_false (hno j j0 j1))]; omega)) rfl) (by decide) dX11_hasParen_22
  exact x_fg (lp2 _ 0 (by omega) (fun j j0 j1 => by omega) (Nat.lt_succ_self _)) (And.intro rfl (And.intro rfl trivial))
set_option maxRecDepth 100000 in
set_option maxHeartbeats 4000000 in
theorem c_X11_goesOn {B : Bs} {S : Stt} {V : Va} (hS : Stat S) (h9 : 0 ≤ (V 308 9) ∧ (V 308 9) < 256) (hPb : AB (V 313)) (h17 : 0 ≤ (V 308 17) ∧ (V 308 17) ≤ 160) : C B yX11_goesOn cX11_goesOn 1 (some .boolean) 2 0 0 [vR B 308] S V (rI S V (if (V 308 9) = 43 ∨ (V 308 9) = 45 ∨ (V 308 9) = 42 ∨ (V 308 9) = 47 ∨ ((V 308 9) = 41 ∧ 0 ≤ findT (fun zz => decide ((V 313) zz = 40)) (V 308 17)) then 1 else 0)) := by
  refine C.of [some (vR B 308)] ?_
  intro Γ hQ
  refine x_al0 dX11_goesOn_0 ?_
  refine x_getI fl_X11_129 (sh_308 hS) (lq_308 hS) dX11_goesOn_1 ?_
  refine x_topI (a' := V 308 9) rfl ?_
  refine x_bipush dX11_goesOn_4 ?_
  refine x_icmp_eq (tgt := 52) dX11_goesOn_6 (inr (by omega)) (inr (by decide)) (fun c6_1 => ?_) (fun c6_1 => ?_)
  · -- 6 eq -> 52
    refine x_iconst dX11_goesOn_52 ?_
    refine x_goto (tgt := 57) dX11_goesOn_53 ?_
    exact x_zret hQ (rI.mk (by first | rfl | omega | (rw [if_pos (by omega)]) | (rw [if_neg (by omega)])) rfl) (by decide) dX11_goesOn_57
  · -- 6 eq -> 9
    refine x_al0 dX11_goesOn_9 ?_
    refine x_getI fl_X11_129 (sh_308 hS) (lq_308 hS) dX11_goesOn_10 ?_
    refine x_topI (a' := V 308 9) rfl ?_
    refine x_bipush dX11_goesOn_13 ?_
    refine x_icmp_eq (tgt := 52) dX11_goesOn_15 (inr (by omega)) (inr (by decide)) (fun c15_2 => ?_) (fun c15_2 => ?_)
    · -- 15 eq -> 52
      refine x_iconst dX11_goesOn_52 ?_
      refine x_goto (tgt := 57) dX11_goesOn_53 ?_
      exact x_zret hQ (rI.mk (by first | rfl | omega | (rw [if_pos (by omega)]) | (rw [if_neg (by omega)])) rfl) (by decide) dX11_goesOn_57
    · -- 15 eq -> 18
      refine x_al0 dX11_goesOn_18 ?_
      refine x_getI fl_X11_129 (sh_308 hS) (lq_308 hS) dX11_goesOn_19 ?_
      refine x_topI (a' := V 308 9) rfl ?_
      refine x_bipush dX11_goesOn_22 ?_
      refine x_icmp_eq (tgt := 52) dX11_goesOn_24 (inr (by omega)) (inr (by decide)) (fun c24_3 => ?_) (fun c24_3 => ?_)
      · -- 24 eq -> 52
        refine x_iconst dX11_goesOn_52 ?_
        refine x_goto (tgt := 57) dX11_goesOn_53 ?_
        exact x_zret hQ (rI.mk (by first | rfl | omega | (rw [if_pos (by omega)]) | (rw [if_neg (by omega)])) rfl) (by decide) dX11_goesOn_57
      · -- 24 eq -> 27
        refine x_al0 dX11_goesOn_27 ?_
        refine x_getI fl_X11_129 (sh_308 hS) (lq_308 hS) dX11_goesOn_28 ?_
        refine x_topI (a' := V 308 9) rfl ?_
        refine x_bipush dX11_goesOn_31 ?_
        refine x_icmp_eq (tgt := 52) dX11_goesOn_33 (inr (by omega)) (inr (by decide)) (fun c33_4 => ?_) (fun c33_4 => ?_)
        · -- 33 eq -> 52
          refine x_iconst dX11_goesOn_52 ?_
          refine x_goto (tgt := 57) dX11_goesOn_53 ?_
          exact x_zret hQ (rI.mk (by first | rfl | omega | (rw [if_pos (by omega)]) | (rw [if_neg (by omega)])) rfl) (by decide) dX11_goesOn_57
        · -- 33 eq -> 36
          refine x_al0 dX11_goesOn_36 ?_
          refine x_getI fl_X11_129 (sh_308 hS) (lq_308 hS) dX11_goesOn_37 ?_
          refine x_topI (a' := V 308 9) rfl ?_
          refine x_bipush dX11_goesOn_40 ?_
          refine x_icmp_ne (tgt := 56) dX11_goesOn_42 (inr (by omega)) (inr (by decide)) (fun c42_5 => ?_) (fun c42_5 => ?_)
          · -- 42 ne -> 56
            refine x_iconst dX11_goesOn_56 ?_
            exact x_zret hQ (rI.mk (by first | rfl | omega | (rw [if_pos (by omega)]) | (rw [if_neg (by omega)])) rfl) (by decide) dX11_goesOn_57
          · -- 42 ne -> 45
            refine x_al0 dX11_goesOn_45 ?_
            refine x_cVi mm_X11_hasParen ml_X11_200 dX11_goesOn_46 (c_X11_hasParen hS hPb (by omega)) (sh_308 hS) (lq_308 hS) ?_
            refine x_ifb_eq (tgt := 56) dX11_goesOn_49 (fun c49_6 => ?_) (fun c49_6 => ?_)
            · -- 49 eq -> 56
              refine x_iconst dX11_goesOn_56 ?_
              exact x_zret hQ (rI.mk (by first | rfl | omega | (rw [if_pos (by omega)]) | (rw [if_neg (by omega)])) rfl) (by decide) dX11_goesOn_57
            · -- 49 eq -> 52
              refine x_iconst dX11_goesOn_52 ?_
              refine x_goto (tgt := 57) dX11_goesOn_53 ?_
              exact x_zret hQ (rI.mk (by first | rfl | omega | (rw [if_pos (by omega)]) | (rw [if_neg (by omega)])) rfl) (by decide) dX11_goesOn_57
set_option maxRecDepth 100000 in
set_option maxHeartbeats 4000000 in
theorem c_X11_compareOf {B : Bs} {S : Stt} {V : Va} (hS : Stat S) (h9 : 0 ≤ (V 308 9) ∧ (V 308 9) < 256) : C B yX11_compareOf cX11_compareOf 1 (some .int) 1 0 0 [vR B 308] S V (rI S V (if (V 308 9) = 60 then 10 else if (V 308 9) = 4 then 11 else if (V 308 9) = 62 then 12 else if (V 308 9) = 5 then 13 else if (V 308 9) = 61 then 14 else if (V 308 9) = 35 then 15 else -1)) := by
  refine C.of [some (vR B 308)] ?_
  intro Γ hQ
  refine x_al0 dX11_compareOf_0 ?_
  refine x_getI fl_X11_129 (sh_308 hS) (lq_308 hS) dX11_compareOf_1 ?_
  refine x_topI (a' := V 308 9) rfl ?_
  refine x_bipush dX11_compareOf_4 ?_
  refine x_icmp_ne (tgt := 14) dX11_compareOf_6 (inr (by omega)) (inr (by decide)) (fun c6_1 => ?_) (fun c6_1 => ?_)
  · -- 6 ne -> 14
    refine x_al0 dX11_compareOf_14 ?_
    refine x_getI fl_X11_129 (sh_308 hS) (lq_308 hS) dX11_compareOf_15 ?_
    refine x_topI (a' := V 308 9) rfl ?_
    refine x_iconst dX11_compareOf_18 ?_
    refine x_icmp_ne (tgt := 27) dX11_compareOf_19 (inr (by omega)) (inr (by decide)) (fun c19_2 => ?_) (fun c19_2 => ?_)
    · -- 19 ne -> 27
      refine x_al0 dX11_compareOf_27 ?_
      refine x_getI fl_X11_129 (sh_308 hS) (lq_308 hS) dX11_compareOf_28 ?_
      refine x_topI (a' := V 308 9) rfl ?_
      refine x_bipush dX11_compareOf_31 ?_
      refine x_icmp_ne (tgt := 41) dX11_compareOf_33 (inr (by omega)) (inr (by decide)) (fun c33_3 => ?_) (fun c33_3 => ?_)
      · -- 33 ne -> 41
        refine x_al0 dX11_compareOf_41 ?_
        refine x_getI fl_X11_129 (sh_308 hS) (lq_308 hS) dX11_compareOf_42 ?_
        refine x_topI (a' := V 308 9) rfl ?_
        refine x_iconst dX11_compareOf_45 ?_
        refine x_icmp_ne (tgt := 54) dX11_compareOf_46 (inr (by omega)) (inr (by decide)) (fun c46_4 => ?_) (fun c46_4 => ?_)
        · -- 46 ne -> 54
          refine x_al0 dX11_compareOf_54 ?_
          refine x_getI fl_X11_129 (sh_308 hS) (lq_308 hS) dX11_compareOf_55 ?_
          refine x_topI (a' := V 308 9) rfl ?_
          refine x_bipush dX11_compareOf_58 ?_
          refine x_icmp_ne (tgt := 68) dX11_compareOf_60 (inr (by omega)) (inr (by decide)) (fun c60_5 => ?_) (fun c60_5 => ?_)
          · -- 60 ne -> 68
            refine x_al0 dX11_compareOf_68 ?_
            refine x_getI fl_X11_129 (sh_308 hS) (lq_308 hS) dX11_compareOf_69 ?_
            refine x_topI (a' := V 308 9) rfl ?_
            refine x_bipush dX11_compareOf_72 ?_
            refine x_icmp_ne (tgt := 82) dX11_compareOf_74 (inr (by omega)) (inr (by decide)) (fun c74_6 => ?_) (fun c74_6 => ?_)
            · -- 74 ne -> 82
              refine x_iconst dX11_compareOf_82 ?_
              exact x_iret hQ (rI.mk (by (repeat rw [if_neg (by omega)]); first | done | (rw [if_pos (by omega)])) rfl) dX11_compareOf_83
            · -- 74 ne -> 77
              refine x_bipush dX11_compareOf_77 ?_
              refine x_goto (tgt := 83) dX11_compareOf_79 ?_
              exact x_iret hQ (rI.mk (by (repeat rw [if_neg (by omega)]); first | done | (rw [if_pos (by omega)])) rfl) dX11_compareOf_83
          · -- 60 ne -> 63
            refine x_bipush dX11_compareOf_63 ?_
            refine x_goto (tgt := 83) dX11_compareOf_65 ?_
            exact x_iret hQ (rI.mk (by (repeat rw [if_neg (by omega)]); first | done | (rw [if_pos (by omega)])) rfl) dX11_compareOf_83
        · -- 46 ne -> 49
          refine x_bipush dX11_compareOf_49 ?_
          refine x_goto (tgt := 83) dX11_compareOf_51 ?_
          exact x_iret hQ (rI.mk (by (repeat rw [if_neg (by omega)]); first | done | (rw [if_pos (by omega)])) rfl) dX11_compareOf_83
      · -- 33 ne -> 36
        refine x_bipush dX11_compareOf_36 ?_
        refine x_goto (tgt := 83) dX11_compareOf_38 ?_
        exact x_iret hQ (rI.mk (by (repeat rw [if_neg (by omega)]); first | done | (rw [if_pos (by omega)])) rfl) dX11_compareOf_83
    · -- 19 ne -> 22
      refine x_bipush dX11_compareOf_22 ?_
      refine x_goto (tgt := 83) dX11_compareOf_24 ?_
      exact x_iret hQ (rI.mk (by (repeat rw [if_neg (by omega)]); first | done | (rw [if_pos (by omega)])) rfl) dX11_compareOf_83
  · -- 6 ne -> 9
    refine x_bipush dX11_compareOf_9 ?_
    refine x_goto (tgt := 83) dX11_compareOf_11 ?_
    exact x_iret hQ (rI.mk (by (repeat rw [if_neg (by omega)]); first | done | (rw [if_pos (by omega)])) rfl) dX11_compareOf_83
set_option maxRecDepth 100000 in
set_option maxHeartbeats 4000000 in
theorem c_X11_beginOne {B : Bs} {S : Stt} {V : Va} (u : Int) (p0 : Int) (o0 : Int) (t0 : Int) (wr0 : Int) (tx0 : Int → Int) (f0 : Int → Int) (p : Int) (w : Int) (pr : Int) (o : Int) (m : Nat) (Fs : List (Int × Int × Nat)) (em : List (Int × Int)) (hS : Stat S) (h19 : (V 308 19) = 0) (hTn : (V 308 4) ≤ 300) (hTp : ∀ k, 0 ≤ (V 312) k ∧ (V 312) k < 256) (ht0 : f0 12 = t0 ∧ 0 ≤ t0 ∧ t0 ≤ 2100) (hu : f0 20 = u ∧ InR u) (hwr : 0 ≤ wr0 ∧ wr0 ≤ p0) (ho0 : 0 ≤ o0) (hIV : IV (V 312) (V 308 4) u p0 o0 t0 wr0 tx0 f0 p w pr o m Fs em (V 308) (V 311) (V 313)) : C B yX11_beginOne cX11_beginOne 2 (some .int) 5 0 0 [vR B 308] S V (rP3 S V (IVP (V 312) (V 308 4) u p0 o0 t0 wr0 tx0 f0 (V 308 8))) := by
  refine C.of [some (vR B 308), none] ?_
  intro Γ hQ
  obtain ⟨i1, i2, i3, i4, i5, i6, i7, i8, i9, i10, i11, i12, i13, i14, i15, i16⟩ := id hIV
  obtain ⟨q1, q2, q3, q4, q5, q6, q7, q8, q9⟩ := id i1
  have hr := tok_r hTp q1.2
  have e12 : V 308 12 = t0 := (i15 12 (by omega)).trans ht0.1
  have e20 : V 308 20 = u := (i15 20 (by omega)).trans hu.1
  have hpl := pileL_len Fs (w, pr, m)
  have hpd := Pile_len i3
  have hop := opsN_0 Fs (w, pr, m)
  have hPm : Pile (V 313) (List.replicate m 2 ++ pileL Fs (w, pr, 0)) (V 308 17) := by rw [← pileL_m]; exact i3
  have hnm := PS_nm i1
  have hnr := nmOf_r (V 308 9) (V 308 11)
  have hml : (m : Int) ≤ (pileL Fs (w, pr, m)).length := by rw [pileL_m, List.length_append, List.length_replicate]; omega
  refine x_al0 dX11_beginOne_0 ?_
  refine x_getI fl_X11_129 (sh_308 hS) (lq_308 hS) dX11_beginOne_1 ?_
  refine x_topI (a' := V 308 9) rfl ?_
  refine x_iconst dX11_beginOne_4 ?_
  refine x_icmp_ne (tgt := 39) dX11_beginOne_5 (inr (by omega)) (inr (by decide)) (fun c5_1 => ?_) (fun c5_1 => ?_)
  · -- 5 ne -> 39
    refine x_al0 dX11_beginOne_39 ?_
    refine x_cVi mm_X11_nameOf ml_X11_190 dX11_beginOne_40 (c_X11_nameOf hS (by omega) (by omega)) (sh_308 hS) (lq_308 hS) ?_
    refine x_if_lt (tgt := 78) dX11_beginOne_43 (inr (by omega)) (fun c43_2 => ?_) (fun c43_2 => ?_)
    · -- 43 lt -> 78
      refine x_al0 dX11_beginOne_78 ?_
      refine x_getI fl_X11_129 (sh_308 hS) (lq_308 hS) dX11_beginOne_79 ?_
      refine x_topI (a' := V 308 9) rfl ?_
      refine x_bipush dX11_beginOne_82 ?_
      refine x_icmp_ne (tgt := 92) dX11_beginOne_84 (inr (by omega)) (inr (by decide)) (fun c84_3 => ?_) (fun c84_3 => ?_)
      · -- 84 ne -> 92
        refine x_al0 dX11_beginOne_92 ?_
        refine x_getI fl_X11_129 (sh_308 hS) (lq_308 hS) dX11_beginOne_93 ?_
        refine x_topI (a' := V 308 9) rfl ?_
        refine x_bipush dX11_beginOne_96 ?_
        refine x_icmp_ne (tgt := 105) dX11_beginOne_98 (inr (by omega)) (inr (by decide)) (fun c98_4 => ?_) (fun c98_4 => ?_)
        · -- 98 ne -> 105
          refine x_iconst dX11_beginOne_105 ?_
          refine x_is1 dX11_beginOne_106 ?_
          refine x_il1 dX11_beginOne_107 ?_
          refine x_if_ne (tgt := 113) dX11_beginOne_108 (inr (by decide)) (fun c108_5 => ?_) (fun c108_5 => ?_)
          · exact absurd c108_5 (by decide)
          · -- 108 ne -> 111
            refine x_iconst dX11_beginOne_111 ?_
            exact x_iret hQ ⟨1, V 308, V 311, V 313, Or.inr ⟨by decide, by decide, by decide, IV_fault hIV h19 (G_else (by omega) (by omega) (by omega) (by omega)) (by decide)⟩, rfl, rfl, (by rw [up_self, up_self, up_self])⟩ dX11_beginOne_112
        · -- 98 ne -> 101
          refine x_iconst dX11_beginOne_101 ?_
          refine x_goto (tgt := 106) dX11_beginOne_102 ?_
          refine x_is1 dX11_beginOne_106 ?_
          refine x_il1 dX11_beginOne_107 ?_
          refine x_if_ne (tgt := 113) dX11_beginOne_108 (inr (by decide)) (fun c108_6 => ?_) (fun c108_6 => ?_)
          · -- 108 ne -> 113
            refine x_al0 dX11_beginOne_113 ?_
            refine x_getI fl_X11_167 (sh_308 hS) (lq_308 hS) dX11_beginOne_114 ?_
            refine x_topI (a' := V 308 18) rfl ?_
            refine x_bipush dX11_beginOne_117 ?_
            refine x_icmp_ne (tgt := 124) dX11_beginOne_119 (inr (by omega)) (inr (by decide)) (fun c119_7 => ?_) (fun c119_7 => ?_)
            · -- 119 ne -> 124
              refine x_al0 dX11_beginOne_124 ?_
              refine x_dup dX11_beginOne_125 ?_
              refine x_getI fl_X11_167 (sh_308 hS) (lq_308 hS) dX11_beginOne_126 ?_
              refine x_topI (a' := V 308 18) rfl ?_
              refine x_iconst dX11_beginOne_129 ?_
              refine x_iadd dX11_beginOne_130 ?_
              refine x_putI fl_X11_167 (sh_308 hS) (lq_308 hS) dX11_beginOne_131 ?_
              refine x_mem (V' := (up V 308 (ua (V 308) 18 ((V 308 18) + 1)))) rfl ?_
              refine x_al0 dX11_beginOne_134 ?_
              refine x_il1 dX11_beginOne_135 ?_
              refine x_cVv mm_X11_push ml_X11_197 dX11_beginOne_136 (c_X11_push 2 hS (show 0 ≤ (V 308 17) ∧ (V 308 17) < 160 from (by omega))) (sh_308 hS) (lq_308 hS) ?_
              refine x_mem (V' := (up (up V 308 (ua (ua (V 308) 18 ((V 308 18) + 1)) 17 ((V 308 17) + 1))) 313 (ua (V 313) (V 308 17) 2))) (congrArg (fun z => up z 313 _) (up_up _ _ _ _)) ?_
              refine x_al0 dX11_beginOne_139 ?_
              refine x_cVv mm_X11_nextToken ml_X11_184 dX11_beginOne_140 (c_X11_nextToken hS (show 0 ≤ (V 308 4) ∧ (V 308 4) ≤ 300 from (by omega)) (show 0 ≤ (V 308 7) ∧ (V 308 7) ≤ (V 308 4) from (by omega)) (show ∀ k, 0 ≤ (V 312) k ∧ (V 312) k < 256 from hTp)) (sh_308 hS) (lq_308 hS) ?_
              refine x_mem (V' := (up (up V 308 (mTok (ua (ua (V 308) 18 ((V 308 18) + 1)) 17 ((V 308 17) + 1)) (V 312))) 313 (ua (V 313) (V 308 17) 2))) (up_k (by decide) (up_up _ _ _ _)) ?_
              refine x_iconst dX11_beginOne_143 ?_
              exact x_iret hQ ⟨0, _, V 311, _, Or.inl ⟨rfl, _, _, _, _, _, _, _, (by omega), IV_neg hTp hIV h19 (by omega) (by omega) (by omega)⟩, rfl, rfl, (upE (show up (up V 308 _) 311 (V 311) = up V 308 _ from up_self _ 311) rfl)⟩ dX11_beginOne_144
            · -- 119 ne -> 122
              refine x_iconst dX11_beginOne_122 ?_
              exact x_iret hQ ⟨3, V 308, V 311, V 313, Or.inr ⟨by decide, by decide, by decide, IV_fault hIV h19 (G_deep (by omega) (by omega) (by omega)) (by decide)⟩, rfl, rfl, (by rw [up_self, up_self, up_self])⟩ dX11_beginOne_123
          · exact absurd c108_6 (by decide)
      · -- 84 ne -> 87
        refine x_bipush dX11_beginOne_87 ?_
        refine x_goto (tgt := 106) dX11_beginOne_89 ?_
        refine x_is1 dX11_beginOne_106 ?_
        refine x_il1 dX11_beginOne_107 ?_
        refine x_if_ne (tgt := 113) dX11_beginOne_108 (inr (by decide)) (fun c108_8 => ?_) (fun c108_8 => ?_)
        · -- 108 ne -> 113
          refine x_al0 dX11_beginOne_113 ?_
          refine x_getI fl_X11_167 (sh_308 hS) (lq_308 hS) dX11_beginOne_114 ?_
          refine x_topI (a' := V 308 18) rfl ?_
          refine x_bipush dX11_beginOne_117 ?_
          refine x_icmp_ne (tgt := 124) dX11_beginOne_119 (inr (by omega)) (inr (by decide)) (fun c119_9 => ?_) (fun c119_9 => ?_)
          · -- 119 ne -> 124
            refine x_al0 dX11_beginOne_124 ?_
            refine x_dup dX11_beginOne_125 ?_
            refine x_getI fl_X11_167 (sh_308 hS) (lq_308 hS) dX11_beginOne_126 ?_
            refine x_topI (a' := V 308 18) rfl ?_
            refine x_iconst dX11_beginOne_129 ?_
            refine x_iadd dX11_beginOne_130 ?_
            refine x_putI fl_X11_167 (sh_308 hS) (lq_308 hS) dX11_beginOne_131 ?_
            refine x_mem (V' := (up V 308 (ua (V 308) 18 ((V 308 18) + 1)))) rfl ?_
            refine x_al0 dX11_beginOne_134 ?_
            refine x_il1 dX11_beginOne_135 ?_
            refine x_cVv mm_X11_push ml_X11_197 dX11_beginOne_136 (c_X11_push 40 hS (show 0 ≤ (V 308 17) ∧ (V 308 17) < 160 from (by omega))) (sh_308 hS) (lq_308 hS) ?_
            refine x_mem (V' := (up (up V 308 (ua (ua (V 308) 18 ((V 308 18) + 1)) 17 ((V 308 17) + 1))) 313 (ua (V 313) (V 308 17) 40))) (congrArg (fun z => up z 313 _) (up_up _ _ _ _)) ?_
            refine x_al0 dX11_beginOne_139 ?_
            refine x_cVv mm_X11_nextToken ml_X11_184 dX11_beginOne_140 (c_X11_nextToken hS (show 0 ≤ (V 308 4) ∧ (V 308 4) ≤ 300 from (by omega)) (show 0 ≤ (V 308 7) ∧ (V 308 7) ≤ (V 308 4) from (by omega)) (show ∀ k, 0 ≤ (V 312) k ∧ (V 312) k < 256 from hTp)) (sh_308 hS) (lq_308 hS) ?_
            refine x_mem (V' := (up (up V 308 (mTok (ua (ua (V 308) 18 ((V 308 18) + 1)) 17 ((V 308 17) + 1)) (V 312))) 313 (ua (V 313) (V 308 17) 40))) (up_k (by decide) (up_up _ _ _ _)) ?_
            refine x_iconst dX11_beginOne_143 ?_
            exact x_iret hQ ⟨0, _, V 311, _, Or.inl ⟨rfl, _, _, _, _, _, _, _, (by omega), IV_par hTp hIV h19 (by omega) (by omega) (by omega)⟩, rfl, rfl, (upE (show up (up V 308 _) 311 (V 311) = up V 308 _ from up_self _ 311) rfl)⟩ dX11_beginOne_144
          · -- 119 ne -> 122
            refine x_iconst dX11_beginOne_122 ?_
            exact x_iret hQ ⟨3, V 308, V 311, V 313, Or.inr ⟨by decide, by decide, by decide, IV_fault hIV h19 (G_deep (by omega) (by omega) (by omega)) (by decide)⟩, rfl, rfl, (by rw [up_self, up_self, up_self])⟩ dX11_beginOne_123
        · exact absurd c108_8 (by decide)
    · -- 43 lt -> 46
      have h2 := nmOf_2 (t := V 308 9) (w := V 308 11) (by omega)
      refine x_al0 dX11_beginOne_46 ?_
      refine x_al0 dX11_beginOne_47 ?_
      refine x_cVi mm_X11_nameOf ml_X11_190 dX11_beginOne_48 (c_X11_nameOf hS (by omega) (by omega)) (sh_308 hS) (lq_308 hS) ?_
      refine x_cVi mm_X11_isBarred ml_X11_194 dX11_beginOne_51 (c_X11_isBarred (nmOf (V 308 9) (V 308 11)) hS (inr (by omega)) (by rw [e20]; exact hu.2)) (sh_308 hS) (lq_308 hS) ?_
      refine x_ifb_eq (tgt := 59) dX11_beginOne_54 (fun c54_10 => ?_) (fun c54_10 => ?_)
      · -- 54 eq -> 59
        refine x_al0 dX11_beginOne_59 ?_
        refine x_iconst dX11_beginOne_60 ?_
        refine x_al0 dX11_beginOne_61 ?_
        refine x_cVi mm_X11_nameOf ml_X11_190 dX11_beginOne_62 (c_X11_nameOf hS (by omega) (by omega)) (sh_308 hS) (lq_308 hS) ?_
        refine x_cVv mm_X11_emit ml_X11_170 dX11_beginOne_65 (c_X11_emit 1 (nmOf (V 308 9) (V 308 11)) hS (by omega) (by omega)) (sh_308 hS) (lq_308 hS) ?_
        refine x_al0 dX11_beginOne_68 ?_
        refine x_cVv mm_X11_nextToken ml_X11_184 dX11_beginOne_69 (c_X11_nextToken hS (show 0 ≤ (V 308 4) ∧ (V 308 4) ≤ 300 from (by omega)) (show 0 ≤ (V 308 7) ∧ (V 308 7) ≤ (V 308 4) from (by omega)) (show ∀ k, 0 ≤ (V 312) k ∧ (V 312) k < 256 from hTp)) (sh_308 hS) (lq_308 hS) ?_
        refine x_mem (V' := (up (up V 308 (mTok (ua (V 308) 14 ((V 308 14) + 1)) (V 312))) 311 (ua (ua (V 311) ((V 308 12) + 100 + 2 * (V 308 14)) 1) ((V 308 12) + 100 + 2 * (V 308 14) + 1) (nmOf (V 308 9) (V 308 11))))) (up_k (by decide) (up_up _ _ _ _)) ?_
        refine x_al0 dX11_beginOne_72 ?_
        refine x_cVv mm_X11_whole ml_X11_187 dX11_beginOne_73 (c_X11_whole m (pileL Fs (w, pr, 0)) hS (show 0 ≤ (V 308 12) ∧ (V 308 12) ≤ 2100 from (by omega)) (show AB (V 313) from i16) (show 0 ≤ (V 308 14 + 1) ∧ (V 308 14 + 1) + m ≤ 300 from (by omega)) (show (V 308 17) ≤ 160 from (by omega)) (show Pile (V 313) (List.replicate m 2 ++ (pileL Fs (w, pr, 0))) (V 308 17) from hPm) (pileL_n2 ⟨i10.1, i10.2⟩) (show InR (V 308 18) from (inr (by omega)))) (sh_308 hS) (lq_308 hS) ?_
        refine x_mem (V' := (up (up V 308 (ua (ua (ua (ua (mTok (ua (V 308) 14 ((V 308 14) + 1)) (V 312)) 19 1) 17 ((V 308 17) - m)) 18 ((V 308 18) - m)) 14 ((V 308 14 + 1) + m))) 311 (emL (ua (ua (V 311) ((V 308 12) + 100 + 2 * (V 308 14)) 1) ((V 308 12) + 100 + 2 * (V 308 14) + 1) (nmOf (V 308 9) (V 308 11))) (V 308 12) (V 308 14 + 1) (repN m)))) (Eq.trans (congrArg (fun z => up z 311 _) (up_k (by decide) (up_up _ _ _ _))) (up_up _ _ _ _)) ?_
        refine x_iconst dX11_beginOne_76 ?_
        exact x_iret hQ ⟨0, _, _, V 313, Or.inl ⟨rfl, _, _, _, _, _, _, _, (by omega), IV_one (c1 := 1) (c2 := nmOf (V 308 9) (V 308 11)) hTp hIV h19 (by rw [hnm]; exact G_name (by omega) (by omega) (by rw [← e20, ← hnm]; omega)) (by omega) (by decide) (by omega)⟩, rfl, rfl, (by rw [e12]; exact up_self (up (up V 308 _) 311 _) 313)⟩ dX11_beginOne_77
      · -- 54 eq -> 57
        refine x_iconst dX11_beginOne_57 ?_
        exact x_iret hQ ⟨5, V 308, V 311, V 313, Or.inr ⟨by decide, by decide, by decide, IV_fault hIV h19 (G_nameF (by omega) (by omega) (by rw [← e20, ← hnm]; omega)) (by decide)⟩, rfl, rfl, (by rw [up_self, up_self, up_self])⟩ dX11_beginOne_58
  · -- 5 ne -> 8
    refine x_al0 dX11_beginOne_8 ?_
    refine x_getI fl_X11_135 (sh_308 hS) (lq_308 hS) dX11_beginOne_9 ?_
    refine x_topI (a' := V 308 10) rfl ?_
    refine x_sipush dX11_beginOne_12 ?_
    refine x_icmp_le (tgt := 20) dX11_beginOne_15 (inr (by omega)) (inr (by decide)) (fun c15_11 => ?_) (fun c15_11 => ?_)
    · -- 15 le -> 20
      refine x_al0 dX11_beginOne_20 ?_
      refine x_iconst dX11_beginOne_21 ?_
      refine x_al0 dX11_beginOne_22 ?_
      refine x_getI fl_X11_135 (sh_308 hS) (lq_308 hS) dX11_beginOne_23 ?_
      refine x_topI (a' := V 308 10) rfl ?_
      refine x_cVv mm_X11_emit ml_X11_170 dX11_beginOne_26 (c_X11_emit 0 (V 308 10) hS (by omega) (by omega)) (sh_308 hS) (lq_308 hS) ?_
      refine x_al0 dX11_beginOne_29 ?_
      refine x_cVv mm_X11_nextToken ml_X11_184 dX11_beginOne_30 (c_X11_nextToken hS (show 0 ≤ (V 308 4) ∧ (V 308 4) ≤ 300 from (by omega)) (show 0 ≤ (V 308 7) ∧ (V 308 7) ≤ (V 308 4) from (by omega)) (show ∀ k, 0 ≤ (V 312) k ∧ (V 312) k < 256 from hTp)) (sh_308 hS) (lq_308 hS) ?_
      refine x_mem (V' := (up (up V 308 (mTok (ua (V 308) 14 ((V 308 14) + 1)) (V 312))) 311 (ua (ua (V 311) ((V 308 12) + 100 + 2 * (V 308 14)) 0) ((V 308 12) + 100 + 2 * (V 308 14) + 1) (V 308 10)))) (up_k (by decide) (up_up _ _ _ _)) ?_
      refine x_al0 dX11_beginOne_33 ?_
      refine x_cVv mm_X11_whole ml_X11_187 dX11_beginOne_34 (c_X11_whole m (pileL Fs (w, pr, 0)) hS (show 0 ≤ (V 308 12) ∧ (V 308 12) ≤ 2100 from (by omega)) (show AB (V 313) from i16) (show 0 ≤ (V 308 14 + 1) ∧ (V 308 14 + 1) + m ≤ 300 from (by omega)) (show (V 308 17) ≤ 160 from (by omega)) (show Pile (V 313) (List.replicate m 2 ++ (pileL Fs (w, pr, 0))) (V 308 17) from hPm) (pileL_n2 ⟨i10.1, i10.2⟩) (show InR (V 308 18) from (inr (by omega)))) (sh_308 hS) (lq_308 hS) ?_
      refine x_mem (V' := (up (up V 308 (ua (ua (ua (ua (mTok (ua (V 308) 14 ((V 308 14) + 1)) (V 312)) 19 1) 17 ((V 308 17) - m)) 18 ((V 308 18) - m)) 14 ((V 308 14 + 1) + m))) 311 (emL (ua (ua (V 311) ((V 308 12) + 100 + 2 * (V 308 14)) 0) ((V 308 12) + 100 + 2 * (V 308 14) + 1) (V 308 10)) (V 308 12) (V 308 14 + 1) (repN m)))) (Eq.trans (congrArg (fun z => up z 311 _) (up_k (by decide) (up_up _ _ _ _))) (up_up _ _ _ _)) ?_
      refine x_iconst dX11_beginOne_37 ?_
      exact x_iret hQ ⟨0, _, _, V 313, Or.inl ⟨rfl, _, _, _, _, _, _, _, (by omega), IV_one (c1 := 0) (c2 := V 308 10) hTp hIV h19 (by have e := q6 (by omega); rw [e]; exact G_num (by omega) (by omega)) (by omega) (by decide) (by omega)⟩, rfl, rfl, (by rw [e12]; exact up_self (up (up V 308 _) 311 _) 313)⟩ dX11_beginOne_38
    · -- 15 le -> 18
      refine x_iconst dX11_beginOne_18 ?_
      exact x_iret hQ ⟨2, V 308, V 311, V 313, Or.inr ⟨by decide, by decide, by decide, IV_fault hIV h19 (G_numF (by omega) (by have := q6 (by omega); omega)) (by decide)⟩, rfl, rfl, (by rw [up_self, up_self, up_self])⟩ dX11_beginOne_19
