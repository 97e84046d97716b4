set_option maxRecDepth 100000 in
set_option maxHeartbeats 4000000 in
theorem c_X11_behindOne {B : Bs} {S : Stt} {V : Va} (u : Int) (p0 : Int) (o0 : Int) (t0 : Int) (wr0 : Int) (tx0 : Int → Int) (f0 : Int → Int) (p : Int) (w : Int) (pr : Int) (o : Int) (m : Nat) (Fs : List (Int × Int × Nat)) (em : List (Int × Int)) (hS : Stat S) (h19 : (V 308 19) = 1) (hgo : (V 308 9) = 43 ∨ (V 308 9) = 45 ∨ (V 308 9) = 42 ∨ (V 308 9) = 47 ∨ ((V 308 9) = 41 ∧ 0 ≤ findT (fun zz => decide ((V 313) zz = 40)) (V 308 17))) (hTn : (V 308 4) ≤ 300) (hTp : ∀ k, 0 ≤ (V 312) k ∧ (V 312) k < 256) (ht0 : f0 12 = t0 ∧ 0 ≤ t0 ∧ t0 ≤ 2100) (hu : f0 20 = u ∧ InR u) (hwr : 0 ≤ wr0 ∧ wr0 ≤ p0) (ho0 : 0 ≤ o0) (hIV : IV (V 312) (V 308 4) u p0 o0 t0 wr0 tx0 f0 p w pr o m Fs em (V 308) (V 311) (V 313)) : C B yX11_behindOne cX11_behindOne 2 (some .int) 4 0 0 [vR B 308] S V (rP3 S V (IVP (V 312) (V 308 4) u p0 o0 t0 wr0 tx0 f0 (V 308 8))) := by
  refine C.of [some (vR B 308), none] ?_
  intro Γ hQ
  obtain ⟨i1, i2, i3, i4, i5, i6, i7, i8, i9, i10, i11, i12, i13, i14, i15, i16⟩ := id hIV
  obtain ⟨q1, q2, q3, q4, q5, q6, q7, q8, q9⟩ := id i1
  have hr := tok_r hTp q1.2
  have e12 : V 308 12 = t0 := (i15 12 (by omega)).trans ht0.1
  have e20 : V 308 20 = u := (i15 20 (by omega)).trans hu.1
  have hpl := pileL_len Fs (w, pr, m)
  have hpd := Pile_len i3
  have hop := opsN_0 Fs (w, pr, m)
  have hm0 := i6 h19
  have hP3 : Pile (V 313) (prL pr ++ prL w ++ restL Fs) (V 308 17) := by rw [← pileL_0]; rw [hm0] at i3; exact i3
  have hP5 : Pile (V 313) (prL pr ++ (prL w ++ restL Fs)) (V 308 17) := by rw [← List.append_assoc]; exact hP3
  have hl3 : (pileL Fs (w, pr, m)).length = (prL pr ++ prL w).length + (restL Fs).length := by rw [hm0, pileL_0, List.length_append]
  have hl5 : (prL pr ++ prL w).length = (prL pr).length + (prL w).length := List.length_append
  refine x_al0 dX11_behindOne_0 ?_
  refine x_getI fl_X11_129 (sh_308 hS) (lq_308 hS) dX11_behindOne_1 ?_
  refine x_topI (a' := V 308 9) rfl ?_
  refine x_is1 dX11_behindOne_4 ?_
  refine x_il1 dX11_behindOne_5 ?_
  refine x_bipush dX11_behindOne_6 ?_
  refine x_icmp_eq (tgt := 17) dX11_behindOne_8 (inr (by omega)) (inr (by decide)) (fun c8_1 => ?_) (fun c8_1 => ?_)
  · -- 8 eq -> 17
    refine x_al0 dX11_behindOne_17 ?_
    refine x_iconst dX11_behindOne_18 ?_
    refine x_cVv mm_X11_settle ml_X11_204 dX11_behindOne_19 (c_X11_settle 3 (prL pr ++ prL w) (restL Fs) hS (by omega) i16 (inr (by decide)) (by omega) (by omega) hP3 (fun x hx => settle3_c i10 hx) (fun x L2 e => by have := restL_top e; omega)) (sh_308 hS) (lq_308 hS) ?_
    refine x_al0 dX11_behindOne_22 ?_
    refine x_il1 dX11_behindOne_23 ?_
    refine x_bipush dX11_behindOne_24 ?_
    refine x_icmp_ne (tgt := 33) dX11_behindOne_26 (inr (by omega)) (inr (by decide)) (fun c26_2 => ?_) (fun c26_2 => ?_)
    · -- 26 ne -> 33
      refine x_iconst dX11_behindOne_33 ?_
      refine x_cVv mm_X11_push ml_X11_197 dX11_behindOne_34 (c_X11_push 4 hS (show 0 ≤ ((V 308 17) - (prL pr ++ prL w).length) ∧ ((V 308 17) - (prL pr ++ prL w).length) < 160 from (by omega))) (sh_308 hS) (lq_308 hS) ?_
      refine x_mem (V' := (up (up (up V 308 (ua (ua (ua (V 308) 17 ((V 308 17) - (prL pr ++ prL w).length)) 14 ((V 308 14) + (prL pr ++ prL w).length)) 17 (((V 308 17) - (prL pr ++ prL w).length) + 1))) 311 (emL (V 311) (V 308 12) (V 308 14) ((prL pr ++ prL w).map fun zz => (zz, 0)))) 313 (ua (V 313) ((V 308 17) - (prL pr ++ prL w).length) 4))) (congrArg (fun z => up z 313 _) (up_k (by decide) (up_up _ _ _ _))) ?_
      refine x_al0 dX11_behindOne_37 ?_
      refine x_iconst dX11_behindOne_38 ?_
      refine x_putZ fl_X11_163 (sh_308 hS) (lq_308 hS) (by decide) dX11_behindOne_39 ?_
      refine x_mem (V' := (up (up (up V 308 (ua (ua (ua (ua (V 308) 17 ((V 308 17) - (prL pr ++ prL w).length)) 14 ((V 308 14) + (prL pr ++ prL w).length)) 17 (((V 308 17) - (prL pr ++ prL w).length) + 1)) 19 0)) 311 (emL (V 311) (V 308 12) (V 308 14) ((prL pr ++ prL w).map fun zz => (zz, 0)))) 313 (ua (V 313) ((V 308 17) - (prL pr ++ prL w).length) 4))) (st2_c (by decide) (st2_c (by decide) (st2_up _ _ _ _ _))) ?_
      refine x_goto (tgt := 115) dX11_behindOne_42 ?_
      refine x_al0 dX11_behindOne_115 ?_
      refine x_cVv mm_X11_nextToken ml_X11_184 dX11_behindOne_116 (c_X11_nextToken hS (show 0 ≤ (V 308 4) ∧ (V 308 4) ≤ 300 from (by omega)) (show 0 ≤ (V 308 7) ∧ (V 308 7) ≤ (V 308 4) from (by omega)) (show ∀ k, 0 ≤ (V 312) k ∧ (V 312) k < 256 from hTp)) (sh_308 hS) (lq_308 hS) ?_
      refine x_mem (V' := (up (up (up V 308 (mTok (ua (ua (ua (ua (V 308) 17 ((V 308 17) - (prL pr ++ prL w).length)) 14 ((V 308 14) + (prL pr ++ prL w).length)) 17 (((V 308 17) - (prL pr ++ prL w).length) + 1)) 19 0) (V 312))) 311 (emL (V 311) (V 308 12) (V 308 14) ((prL pr ++ prL w).map fun zz => (zz, 0)))) 313 (ua (V 313) ((V 308 17) - (prL pr ++ prL w).length) 4))) (up_k (by decide) (up_k (by decide) (up_up _ _ _ _))) ?_
      refine x_iconst dX11_behindOne_119 ?_
      exact x_iret hQ ⟨0, _, _, _, Or.inl ⟨rfl, _, _, _, _, _, _, _, (by omega), IV_add (x := 4) hTp hIV h19 (by omega) (by rw [if_neg (by omega)])⟩, rfl, rfl, (by rw [e12])⟩ dX11_behindOne_120
    · -- 26 ne -> 29
      refine x_iconst dX11_behindOne_29 ?_
      refine x_goto (tgt := 34) dX11_behindOne_30 ?_
      refine x_cVv mm_X11_push ml_X11_197 dX11_behindOne_34 (c_X11_push 3 hS (show 0 ≤ ((V 308 17) - (prL pr ++ prL w).length) ∧ ((V 308 17) - (prL pr ++ prL w).length) < 160 from (by omega))) (sh_308 hS) (lq_308 hS) ?_
      refine x_mem (V' := (up (up (up V 308 (ua (ua (ua (V 308) 17 ((V 308 17) - (prL pr ++ prL w).length)) 14 ((V 308 14) + (prL pr ++ prL w).length)) 17 (((V 308 17) - (prL pr ++ prL w).length) + 1))) 311 (emL (V 311) (V 308 12) (V 308 14) ((prL pr ++ prL w).map fun zz => (zz, 0)))) 313 (ua (V 313) ((V 308 17) - (prL pr ++ prL w).length) 3))) (congrArg (fun z => up z 313 _) (up_k (by decide) (up_up _ _ _ _))) ?_
      refine x_al0 dX11_behindOne_37 ?_
      refine x_iconst dX11_behindOne_38 ?_
      refine x_putZ fl_X11_163 (sh_308 hS) (lq_308 hS) (by decide) dX11_behindOne_39 ?_
      refine x_mem (V' := (up (up (up V 308 (ua (ua (ua (ua (V 308) 17 ((V 308 17) - (prL pr ++ prL w).length)) 14 ((V 308 14) + (prL pr ++ prL w).length)) 17 (((V 308 17) - (prL pr ++ prL w).length) + 1)) 19 0)) 311 (emL (V 311) (V 308 12) (V 308 14) ((prL pr ++ prL w).map fun zz => (zz, 0)))) 313 (ua (V 313) ((V 308 17) - (prL pr ++ prL w).length) 3))) (st2_c (by decide) (st2_c (by decide) (st2_up _ _ _ _ _))) ?_
      refine x_goto (tgt := 115) dX11_behindOne_42 ?_
      refine x_al0 dX11_behindOne_115 ?_
      refine x_cVv mm_X11_nextToken ml_X11_184 dX11_behindOne_116 (c_X11_nextToken hS (show 0 ≤ (V 308 4) ∧ (V 308 4) ≤ 300 from (by omega)) (show 0 ≤ (V 308 7) ∧ (V 308 7) ≤ (V 308 4) from (by omega)) (show ∀ k, 0 ≤ (V 312) k ∧ (V 312) k < 256 from hTp)) (sh_308 hS) (lq_308 hS) ?_
      refine x_mem (V' := (up (up (up V 308 (mTok (ua (ua (ua (ua (V 308) 17 ((V 308 17) - (prL pr ++ prL w).length)) 14 ((V 308 14) + (prL pr ++ prL w).length)) 17 (((V 308 17) - (prL pr ++ prL w).length) + 1)) 19 0) (V 312))) 311 (emL (V 311) (V 308 12) (V 308 14) ((prL pr ++ prL w).map fun zz => (zz, 0)))) 313 (ua (V 313) ((V 308 17) - (prL pr ++ prL w).length) 3))) (up_k (by decide) (up_k (by decide) (up_up _ _ _ _))) ?_
      refine x_iconst dX11_behindOne_119 ?_
      exact x_iret hQ ⟨0, _, _, _, Or.inl ⟨rfl, _, _, _, _, _, _, _, (by omega), IV_add (x := 3) hTp hIV h19 (by omega) (by rw [if_pos (by omega)])⟩, rfl, rfl, (by rw [e12])⟩ dX11_behindOne_120
  · -- 8 eq -> 11
    refine x_il1 dX11_behindOne_11 ?_
    refine x_bipush dX11_behindOne_12 ?_
    refine x_icmp_ne (tgt := 45) dX11_behindOne_14 (inr (by omega)) (inr (by decide)) (fun c14_3 => ?_) (fun c14_3 => ?_)
    · -- 14 ne -> 45
      refine x_il1 dX11_behindOne_45 ?_
      refine x_bipush dX11_behindOne_46 ?_
      refine x_icmp_eq (tgt := 57) dX11_behindOne_48 (inr (by omega)) (inr (by decide)) (fun c48_4 => ?_) (fun c48_4 => ?_)
      · -- 48 eq -> 57
        refine x_al0 dX11_behindOne_57 ?_
        refine x_iconst dX11_behindOne_58 ?_
        refine x_cVv mm_X11_settle ml_X11_204 dX11_behindOne_59 (c_X11_settle 5 (prL pr) (prL w ++ restL Fs) hS (by omega) i16 (inr (by decide)) (by omega) (by omega) hP5 (fun x hx => settle5_c i10 hx) (fun x L2 e => settle5_L i10 e)) (sh_308 hS) (lq_308 hS) ?_
        refine x_al0 dX11_behindOne_62 ?_
        refine x_il1 dX11_behindOne_63 ?_
        refine x_bipush dX11_behindOne_64 ?_
        refine x_icmp_ne (tgt := 73) dX11_behindOne_66 (inr (by omega)) (inr (by decide)) (fun c66_5 => ?_) (fun c66_5 => ?_)
        · -- 66 ne -> 73
          refine x_bipush dX11_behindOne_73 ?_
          refine x_cVv mm_X11_push ml_X11_197 dX11_behindOne_75 (c_X11_push 6 hS (show 0 ≤ ((V 308 17) - (prL pr).length) ∧ ((V 308 17) - (prL pr).length) < 160 from (by omega))) (sh_308 hS) (lq_308 hS) ?_
          refine x_mem (V' := (up (up (up V 308 (ua (ua (ua (V 308) 17 ((V 308 17) - (prL pr).length)) 14 ((V 308 14) + (prL pr).length)) 17 (((V 308 17) - (prL pr).length) + 1))) 311 (emL (V 311) (V 308 12) (V 308 14) ((prL pr).map fun zz => (zz, 0)))) 313 (ua (V 313) ((V 308 17) - (prL pr).length) 6))) (congrArg (fun z => up z 313 _) (up_k (by decide) (up_up _ _ _ _))) ?_
          refine x_al0 dX11_behindOne_78 ?_
          refine x_iconst dX11_behindOne_79 ?_
          refine x_putZ fl_X11_163 (sh_308 hS) (lq_308 hS) (by decide) dX11_behindOne_80 ?_
          refine x_mem (V' := (up (up (up V 308 (ua (ua (ua (ua (V 308) 17 ((V 308 17) - (prL pr).length)) 14 ((V 308 14) + (prL pr).length)) 17 (((V 308 17) - (prL pr).length) + 1)) 19 0)) 311 (emL (V 311) (V 308 12) (V 308 14) ((prL pr).map fun zz => (zz, 0)))) 313 (ua (V 313) ((V 308 17) - (prL pr).length) 6))) (st2_c (by decide) (st2_c (by decide) (st2_up _ _ _ _ _))) ?_
          refine x_goto (tgt := 115) dX11_behindOne_83 ?_
          refine x_al0 dX11_behindOne_115 ?_
          refine x_cVv mm_X11_nextToken ml_X11_184 dX11_behindOne_116 (c_X11_nextToken hS (show 0 ≤ (V 308 4) ∧ (V 308 4) ≤ 300 from (by omega)) (show 0 ≤ (V 308 7) ∧ (V 308 7) ≤ (V 308 4) from (by omega)) (show ∀ k, 0 ≤ (V 312) k ∧ (V 312) k < 256 from hTp)) (sh_308 hS) (lq_308 hS) ?_
          refine x_mem (V' := (up (up (up V 308 (mTok (ua (ua (ua (ua (V 308) 17 ((V 308 17) - (prL pr).length)) 14 ((V 308 14) + (prL pr).length)) 17 (((V 308 17) - (prL pr).length) + 1)) 19 0) (V 312))) 311 (emL (V 311) (V 308 12) (V 308 14) ((prL pr).map fun zz => (zz, 0)))) 313 (ua (V 313) ((V 308 17) - (prL pr).length) 6))) (up_k (by decide) (up_k (by decide) (up_up _ _ _ _))) ?_
          refine x_iconst dX11_behindOne_119 ?_
          exact x_iret hQ ⟨0, _, _, _, Or.inl ⟨rfl, _, _, _, _, _, _, _, (by omega), IV_mul (x := 6) hTp hIV h19 (by omega) (by rw [if_neg (by omega)])⟩, rfl, rfl, (by rw [e12])⟩ dX11_behindOne_120
        · -- 66 ne -> 69
          refine x_iconst dX11_behindOne_69 ?_
          refine x_goto (tgt := 75) dX11_behindOne_70 ?_
          refine x_cVv mm_X11_push ml_X11_197 dX11_behindOne_75 (c_X11_push 5 hS (show 0 ≤ ((V 308 17) - (prL pr).length) ∧ ((V 308 17) - (prL pr).length) < 160 from (by omega))) (sh_308 hS) (lq_308 hS) ?_
          refine x_mem (V' := (up (up (up V 308 (ua (ua (ua (V 308) 17 ((V 308 17) - (prL pr).length)) 14 ((V 308 14) + (prL pr).length)) 17 (((V 308 17) - (prL pr).length) + 1))) 311 (emL (V 311) (V 308 12) (V 308 14) ((prL pr).map fun zz => (zz, 0)))) 313 (ua (V 313) ((V 308 17) - (prL pr).length) 5))) (congrArg (fun z => up z 313 _) (up_k (by decide) (up_up _ _ _ _))) ?_
          refine x_al0 dX11_behindOne_78 ?_
          refine x_iconst dX11_behindOne_79 ?_
          refine x_putZ fl_X11_163 (sh_308 hS) (lq_308 hS) (by decide) dX11_behindOne_80 ?_
          refine x_mem (V' := (up (up (up V 308 (ua (ua (ua (ua (V 308) 17 ((V 308 17) - (prL pr).length)) 14 ((V 308 14) + (prL pr).length)) 17 (((V 308 17) - (prL pr).length) + 1)) 19 0)) 311 (emL (V 311) (V 308 12) (V 308 14) ((prL pr).map fun zz => (zz, 0)))) 313 (ua (V 313) ((V 308 17) - (prL pr).length) 5))) (st2_c (by decide) (st2_c (by decide) (st2_up _ _ _ _ _))) ?_
          refine x_goto (tgt := 115) dX11_behindOne_83 ?_
          refine x_al0 dX11_behindOne_115 ?_
          refine x_cVv mm_X11_nextToken ml_X11_184 dX11_behindOne_116 (c_X11_nextToken hS (show 0 ≤ (V 308 4) ∧ (V 308 4) ≤ 300 from (by omega)) (show 0 ≤ (V 308 7) ∧ (V 308 7) ≤ (V 308 4) from (by omega)) (show ∀ k, 0 ≤ (V 312) k ∧ (V 312) k < 256 from hTp)) (sh_308 hS) (lq_308 hS) ?_
          refine x_mem (V' := (up (up (up V 308 (mTok (ua (ua (ua (ua (V 308) 17 ((V 308 17) - (prL pr).length)) 14 ((V 308 14) + (prL pr).length)) 17 (((V 308 17) - (prL pr).length) + 1)) 19 0) (V 312))) 311 (emL (V 311) (V 308 12) (V 308 14) ((prL pr).map fun zz => (zz, 0)))) 313 (ua (V 313) ((V 308 17) - (prL pr).length) 5))) (up_k (by decide) (up_k (by decide) (up_up _ _ _ _))) ?_
          refine x_iconst dX11_behindOne_119 ?_
          exact x_iret hQ ⟨0, _, _, _, Or.inl ⟨rfl, _, _, _, _, _, _, _, (by omega), IV_mul (x := 5) hTp hIV h19 (by omega) (by rw [if_pos (by omega)])⟩, rfl, rfl, (by rw [e12])⟩ dX11_behindOne_120
      · -- 48 eq -> 51
        refine x_il1 dX11_behindOne_51 ?_
        refine x_bipush dX11_behindOne_52 ?_
        refine x_icmp_ne (tgt := 86) dX11_behindOne_54 (inr (by omega)) (inr (by decide)) (fun c54_6 => ?_) (fun c54_6 => ?_)
        · -- 54 ne -> 86
          have ht41 : V 308 9 = 41 := by omega
          have hFs : Fs ≠ [] := (paren_iff (w := w) (pr := pr) ⟨i10.1, i10.2⟩ (by rw [hm0] at i3; exact i3)).mp (by rcases hgo with z | z | z | z | z; (omega); (omega); (omega); (omega); exact z.2)
          obtain ⟨g1, F1, hF⟩ : ∃ g F, Fs = g :: F := by cases Fs with | nil => exact absurd rfl hFs | cons g F => exact ⟨g, F, rfl⟩
          obtain ⟨w1, p1, m1⟩ := g1
          have hsh := i11 (w1, p1, m1) (by rw [hF]; simp)
          have hPd := Pile_drop hP3
          rw [hF] at hPd
          have hPm : Pile (V 313) (List.replicate m1 2 ++ pileL F1 (w1, p1, 0)) (V 308 17 - (prL pr ++ prL w).length - 1) := by rw [← pileL_m]; exact hPd.2.2
          have hl1 : (restL Fs).length = 1 + m1 + (pileL F1 (w1, p1, 0)).length := by rw [hF]; simp only [restL, List.length_cons]; rw [pileL_m, List.length_append, List.length_replicate]; omega
          refine x_al0 dX11_behindOne_86 ?_
          refine x_iconst dX11_behindOne_87 ?_
          refine x_cVv mm_X11_settle ml_X11_204 dX11_behindOne_88 (c_X11_settle 3 (prL pr ++ prL w) (restL Fs) hS (by omega) i16 (inr (by decide)) (by omega) (by omega) hP3 (fun x hx => settle3_c i10 hx) (fun x L2 e => by have := restL_top e; omega)) (sh_308 hS) (lq_308 hS) ?_
          refine x_al0 dX11_behindOne_91 ?_
          refine x_dup dX11_behindOne_92 ?_
          refine x_getI fl_X11_160 (sh_308 hS) (lq_308 hS) dX11_behindOne_93 ?_
          refine x_topI (a' := (V 308 17) - (prL pr ++ prL w).length) (show (ua (ua (V 308) 17 ((V 308 17) - (prL pr ++ prL w).length)) 14 ((V 308 14) + (prL pr ++ prL w).length)) 17 = (V 308 17) - (prL pr ++ prL w).length from ((ua_ne (by decide)).trans (ua_same _ _ _))) ?_
          refine x_iconst dX11_behindOne_96 ?_
          refine x_isub dX11_behindOne_97 ?_
          refine x_putI fl_X11_160 (sh_308 hS) (lq_308 hS) dX11_behindOne_98 ?_
          refine x_mem (V' := (up (up V 308 (ua (ua (ua (V 308) 17 ((V 308 17) - (prL pr ++ prL w).length)) 14 ((V 308 14) + (prL pr ++ prL w).length)) 17 (((V 308 17) - (prL pr ++ prL w).length) - 1))) 311 (emL (V 311) (V 308 12) (V 308 14) ((prL pr ++ prL w).map fun zz => (zz, 0))))) (st2_c (by decide) (st2_up _ _ _ _ _)) ?_
          refine x_al0 dX11_behindOne_101 ?_
          refine x_dup dX11_behindOne_102 ?_
          refine x_getI fl_X11_167 (sh_308 hS) (lq_308 hS) dX11_behindOne_103 ?_
          refine x_topI (a' := V 308 18) (show (ua (ua (ua (V 308) 17 ((V 308 17) - (prL pr ++ prL w).length)) 14 ((V 308 14) + (prL pr ++ prL w).length)) 17 (((V 308 17) - (prL pr ++ prL w).length) - 1)) 18 = V 308 18 from ((ua_ne (by decide)).trans ((ua_ne (by decide)).trans (ua_ne (by decide))))) ?_
          refine x_iconst dX11_behindOne_106 ?_
          refine x_isub dX11_behindOne_107 ?_
          refine x_putI fl_X11_167 (sh_308 hS) (lq_308 hS) dX11_behindOne_108 ?_
          refine x_mem (V' := (up (up V 308 (ua (ua (ua (ua (V 308) 17 ((V 308 17) - (prL pr ++ prL w).length)) 14 ((V 308 14) + (prL pr ++ prL w).length)) 17 (((V 308 17) - (prL pr ++ prL w).length) - 1)) 18 ((V 308 18) - 1))) 311 (emL (V 311) (V 308 12) (V 308 14) ((prL pr ++ prL w).map fun zz => (zz, 0))))) (st2_c (by decide) (st2_up _ _ _ _ _)) ?_
          refine x_al0 dX11_behindOne_111 ?_
          refine x_cVv mm_X11_whole ml_X11_187 dX11_behindOne_112 (c_X11_whole m1 (pileL F1 (w1, p1, 0)) hS (show 0 ≤ (V 308 12) ∧ (V 308 12) ≤ 2100 from (by omega)) (show AB (V 313) from i16) (show 0 ≤ ((V 308 14) + (prL pr ++ prL w).length) ∧ ((V 308 14) + (prL pr ++ prL w).length) + m1 ≤ 300 from (by omega)) (show (((V 308 17) - (prL pr ++ prL w).length) - 1) ≤ 160 from (by omega)) (show Pile (V 313) (List.replicate m1 2 ++ (pileL F1 (w1, p1, 0))) (((V 308 17) - (prL pr ++ prL w).length) - 1) from hPm) (pileL_n2 ⟨hsh.1, hsh.2⟩) (show InR ((V 308 18) - 1) from (inr (by omega)))) (sh_308 hS) (lq_308 hS) ?_
          refine x_mem (V' := (up (up V 308 (ua (ua (ua (ua (ua (ua (ua (ua (V 308) 17 ((V 308 17) - (prL pr ++ prL w).length)) 14 ((V 308 14) + (prL pr ++ prL w).length)) 17 (((V 308 17) - (prL pr ++ prL w).length) - 1)) 18 ((V 308 18) - 1)) 19 1) 17 ((((V 308 17) - (prL pr ++ prL w).length) - 1) - m1)) 18 (((V 308 18) - 1) - m1)) 14 (((V 308 14) + (prL pr ++ prL w).length) + m1))) 311 (emL (emL (V 311) (V 308 12) (V 308 14) ((prL pr ++ prL w).map fun zz => (zz, 0))) (V 308 12) ((V 308 14) + (prL pr ++ prL w).length) (repN m1)))) (Eq.trans (congrArg (fun z => up z 311 _) (up_k (by decide) (up_up _ _ _ _))) (up_up _ _ _ _)) ?_
          refine x_al0 dX11_behindOne_115 ?_
          refine x_cVv mm_X11_nextToken ml_X11_184 dX11_behindOne_116 (c_X11_nextToken hS (show 0 ≤ (V 308 4) ∧ (V 308 4) ≤ 300 from (by omega)) (show 0 ≤ (V 308 7) ∧ (V 308 7) ≤ (V 308 4) from (by omega)) (show ∀ k, 0 ≤ (V 312) k ∧ (V 312) k < 256 from hTp)) (sh_308 hS) (lq_308 hS) ?_
          refine x_mem (V' := (up (up V 308 (mTok (ua (ua (ua (ua (ua (ua (ua (ua (V 308) 17 ((V 308 17) - (prL pr ++ prL w).length)) 14 ((V 308 14) + (prL pr ++ prL w).length)) 17 (((V 308 17) - (prL pr ++ prL w).length) - 1)) 18 ((V 308 18) - 1)) 19 1) 17 ((((V 308 17) - (prL pr ++ prL w).length) - 1) - m1)) 18 (((V 308 18) - 1) - m1)) 14 (((V 308 14) + (prL pr ++ prL w).length) + m1)) (V 312))) 311 (emL (emL (V 311) (V 308 12) (V 308 14) ((prL pr ++ prL w).map fun zz => (zz, 0))) (V 308 12) ((V 308 14) + (prL pr ++ prL w).length) (repN m1)))) (up_k (by decide) (up_up _ _ _ _)) ?_
          refine x_iconst dX11_behindOne_119 ?_
          exact x_iret hQ ⟨0, _, _, V 313, Or.inl ⟨rfl, _, _, _, _, _, _, _, (by omega), IV_close hTp hIV h19 (by omega) hF⟩, rfl, rfl, (by rw [e12]; exact up_self (up (up V 308 _) 311 _) 313)⟩ dX11_behindOne_120
        · -- 54 ne -> 57
          refine x_al0 dX11_behindOne_57 ?_
          refine x_iconst dX11_behindOne_58 ?_
          refine x_cVv mm_X11_settle ml_X11_204 dX11_behindOne_59 (c_X11_settle 5 (prL pr) (prL w ++ restL Fs) hS (by omega) i16 (inr (by decide)) (by omega) (by omega) hP5 (fun x hx => settle5_c i10 hx) (fun x L2 e => settle5_L i10 e)) (sh_308 hS) (lq_308 hS) ?_
          refine x_al0 dX11_behindOne_62 ?_
          refine x_il1 dX11_behindOne_63 ?_
          refine x_bipush dX11_behindOne_64 ?_
          refine x_icmp_ne (tgt := 73) dX11_behindOne_66 (inr (by omega)) (inr (by decide)) (fun c66_7 => ?_) (fun c66_7 => ?_)
          · -- 66 ne -> 73
            refine x_bipush dX11_behindOne_73 ?_
            refine x_cVv mm_X11_push ml_X11_197 dX11_behindOne_75 (c_X11_push 6 hS (show 0 ≤ ((V 308 17) - (prL pr).length) ∧ ((V 308 17) - (prL pr).length) < 160 from (by omega))) (sh_308 hS) (lq_308 hS) ?_
            refine x_mem (V' := (up (up (up V 308 (ua (ua (ua (V 308) 17 ((V 308 17) - (prL pr).length)) 14 ((V 308 14) + (prL pr).length)) 17 (((V 308 17) - (prL pr).length) + 1))) 311 (emL (V 311) (V 308 12) (V 308 14) ((prL pr).map fun zz => (zz, 0)))) 313 (ua (V 313) ((V 308 17) - (prL pr).length) 6))) (congrArg (fun z => up z 313 _) (up_k (by decide) (up_up _ _ _ _))) ?_
            refine x_al0 dX11_behindOne_78 ?_
            refine x_iconst dX11_behindOne_79 ?_
            refine x_putZ fl_X11_163 (sh_308 hS) (lq_308 hS) (by decide) dX11_behindOne_80 ?_
            refine x_mem (V' := (up (up (up V 308 (ua (ua (ua (ua (V 308) 17 ((V 308 17) - (prL pr).length)) 14 ((V 308 14) + (prL pr).length)) 17 (((V 308 17) - (prL pr).length) + 1)) 19 0)) 311 (emL (V 311) (V 308 12) (V 308 14) ((prL pr).map fun zz => (zz, 0)))) 313 (ua (V 313) ((V 308 17) - (prL pr).length) 6))) (st2_c (by decide) (st2_c (by decide) (st2_up _ _ _ _ _))) ?_
            refine x_goto (tgt := 115) dX11_behindOne_83 ?_
            refine x_al0 dX11_behindOne_115 ?_
            refine x_cVv mm_X11_nextToken ml_X11_184 dX11_behindOne_116 (c_X11_nextToken hS (show 0 ≤ (V 308 4) ∧ (V 308 4) ≤ 300 from (by omega)) (show 0 ≤ (V 308 7) ∧ (V 308 7) ≤ (V 308 4) from (by omega)) (show ∀ k, 0 ≤ (V 312) k ∧ (V 312) k < 256 from hTp)) (sh_308 hS) (lq_308 hS) ?_
            refine x_mem (V' := (up (up (up V 308 (mTok (ua (ua (ua (ua (V 308) 17 ((V 308 17) - (prL pr).length)) 14 ((V 308 14) + (prL pr).length)) 17 (((V 308 17) - (prL pr).length) + 1)) 19 0) (V 312))) 311 (emL (V 311) (V 308 12) (V 308 14) ((prL pr).map fun zz => (zz, 0)))) 313 (ua (V 313) ((V 308 17) - (prL pr).length) 6))) (up_k (by decide) (up_k (by decide) (up_up _ _ _ _))) ?_
            refine x_iconst dX11_behindOne_119 ?_
            exact x_iret hQ ⟨0, _, _, _, Or.inl ⟨rfl, _, _, _, _, _, _, _, (by omega), IV_mul (x := 6) hTp hIV h19 (by omega) (by rw [if_neg (by omega)])⟩, rfl, rfl, (by rw [e12])⟩ dX11_behindOne_120
          · -- 66 ne -> 69
            refine x_iconst dX11_behindOne_69 ?_
            refine x_goto (tgt := 75) dX11_behindOne_70 ?_
            refine x_cVv mm_X11_push ml_X11_197 dX11_behindOne_75 (c_X11_push 5 hS (show 0 ≤ ((V 308 17) - (prL pr).length) ∧ ((V 308 17) - (prL pr).length) < 160 from (by omega))) (sh_308 hS) (lq_308 hS) ?_
            refine x_mem (V' := (up (up (up V 308 (ua (ua (ua (V 308) 17 ((V 308 17) - (prL pr).length)) 14 ((V 308 14) + (prL pr).length)) 17 (((V 308 17) - (prL pr).length) + 1))) 311 (emL (V 311) (V 308 12) (V 308 14) ((prL pr).map fun zz => (zz, 0)))) 313 (ua (V 313) ((V 308 17) - (prL pr).length) 5))) (congrArg (fun z => up z 313 _) (up_k (by decide) (up_up _ _ _ _))) ?_
            refine x_al0 dX11_behindOne_78 ?_
            refine x_iconst dX11_behindOne_79 ?_
            refine x_putZ fl_X11_163 (sh_308 hS) (lq_308 hS) (by decide) dX11_behindOne_80 ?_
            refine x_mem (V' := (up (up (up V 308 (ua (ua (ua (ua (V 308) 17 ((V 308 17) - (prL pr).length)) 14 ((V 308 14) + (prL pr).length)) 17 (((V 308 17) - (prL pr).length) + 1)) 19 0)) 311 (emL (V 311) (V 308 12) (V 308 14) ((prL pr).map fun zz => (zz, 0)))) 313 (ua (V 313) ((V 308 17) - (prL pr).length) 5))) (st2_c (by decide) (st2_c (by decide) (st2_up _ _ _ _ _))) ?_
            refine x_goto (tgt := 115) dX11_behindOne_83 ?_
            refine x_al0 dX11_behindOne_115 ?_
            refine x_cVv mm_X11_nextToken ml_X11_184 dX11_behindOne_116 (c_X11_nextToken hS (show 0 ≤ (V 308 4) ∧ (V 308 4) ≤ 300 from (by omega)) (show 0 ≤ (V 308 7) ∧ (V 308 7) ≤ (V 308 4) from (by omega)) (show ∀ k, 0 ≤ (V 312) k ∧ (V 312) k < 256 from hTp)) (sh_308 hS) (lq_308 hS) ?_
            refine x_mem (V' := (up (up (up V 308 (mTok (ua (ua (ua (ua (V 308) 17 ((V 308 17) - (prL pr).length)) 14 ((V 308 14) + (prL pr).length)) 17 (((V 308 17) - (prL pr).length) + 1)) 19 0) (V 312))) 311 (emL (V 311) (V 308 12) (V 308 14) ((prL pr).map fun zz => (zz, 0)))) 313 (ua (V 313) ((V 308 17) - (prL pr).length) 5))) (up_k (by decide) (up_k (by decide) (up_up _ _ _ _))) ?_
            refine x_iconst dX11_behindOne_119 ?_
            exact x_iret hQ ⟨0, _, _, _, Or.inl ⟨rfl, _, _, _, _, _, _, _, (by omega), IV_mul (x := 5) hTp hIV h19 (by omega) (by rw [if_pos (by omega)])⟩, rfl, rfl, (by rw [e12])⟩ dX11_behindOne_120
    · -- 14 ne -> 17
      refine x_al0 dX11_behindOne_17 ?_
      refine x_iconst dX11_behindOne_18 ?_
      refine x_cVv mm_X11_settle ml_X11_204 dX11_behindOne_19 (c_X11_settle 3 (prL pr ++ prL w) (restL Fs) hS (by omega) i16 (inr (by decide)) (by omega) (by omega) hP3 (fun x hx => settle3_c i10 hx) (fun x L2 e => by have := restL_top e; omega)) (sh_308 hS) (lq_308 hS) ?_
      refine x_al0 dX11_behindOne_22 ?_
      refine x_il1 dX11_behindOne_23 ?_
      refine x_bipush dX11_behindOne_24 ?_
      refine x_icmp_ne (tgt := 33) dX11_behindOne_26 (inr (by omega)) (inr (by decide)) (fun c26_8 => ?_) (fun c26_8 => ?_)
      · -- 26 ne -> 33
        refine x_iconst dX11_behindOne_33 ?_
        refine x_cVv mm_X11_push ml_X11_197 dX11_behindOne_34 (c_X11_push 4 hS (show 0 ≤ ((V 308 17) - (prL pr ++ prL w).length) ∧ ((V 308 17) - (prL pr ++ prL w).length) < 160 from (by omega))) (sh_308 hS) (lq_308 hS) ?_
        refine x_mem (V' := (up (up (up V 308 (ua (ua (ua (V 308) 17 ((V 308 17) - (prL pr ++ prL w).length)) 14 ((V 308 14) + (prL pr ++ prL w).length)) 17 (((V 308 17) - (prL pr ++ prL w).length) + 1))) 311 (emL (V 311) (V 308 12) (V 308 14) ((prL pr ++ prL w).map fun zz => (zz, 0)))) 313 (ua (V 313) ((V 308 17) - (prL pr ++ prL w).length) 4))) (congrArg (fun z => up z 313 _) (up_k (by decide) (up_up _ _ _ _))) ?_
        refine x_al0 dX11_behindOne_37 ?_
        refine x_iconst dX11_behindOne_38 ?_
        refine x_putZ fl_X11_163 (sh_308 hS) (lq_308 hS) (by decide) dX11_behindOne_39 ?_
        refine x_mem (V' := (up (up (up V 308 (ua (ua (ua (ua (V 308) 17 ((V 308 17) - (prL pr ++ prL w).length)) 14 ((V 308 14) + (prL pr ++ prL w).length)) 17 (((V 308 17) - (prL pr ++ prL w).length) + 1)) 19 0)) 311 (emL (V 311) (V 308 12) (V 308 14) ((prL pr ++ prL w).map fun zz => (zz, 0)))) 313 (ua (V 313) ((V 308 17) - (prL pr ++ prL w).length) 4))) (st2_c (by decide) (st2_c (by decide) (st2_up _ _ _ _ _))) ?_
        refine x_goto (tgt := 115) dX11_behindOne_42 ?_
        refine x_al0 dX11_behindOne_115 ?_
        refine x_cVv mm_X11_nextToken ml_X11_184 dX11_behindOne_116 (c_X11_nextToken hS (show 0 ≤ (V 308 4) ∧ (V 308 4) ≤ 300 from (by omega)) (show 0 ≤ (V 308 7) ∧ (V 308 7) ≤ (V 308 4) from (by omega)) (show ∀ k, 0 ≤ (V 312) k ∧ (V 312) k < 256 from hTp)) (sh_308 hS) (lq_308 hS) ?_
        refine x_mem (V' := (up (up (up V 308 (mTok (ua (ua (ua (ua (V 308) 17 ((V 308 17) - (prL pr ++ prL w).length)) 14 ((V 308 14) + (prL pr ++ prL w).length)) 17 (((V 308 17) - (prL pr ++ prL w).length) + 1)) 19 0) (V 312))) 311 (emL (V 311) (V 308 12) (V 308 14) ((prL pr ++ prL w).map fun zz => (zz, 0)))) 313 (ua (V 313) ((V 308 17) - (prL pr ++ prL w).length) 4))) (up_k (by decide) (up_k (by decide) (up_up _ _ _ _))) ?_
        refine x_iconst dX11_behindOne_119 ?_
        exact x_iret hQ ⟨0, _, _, _, Or.inl ⟨rfl, _, _, _, _, _, _, _, (by omega), IV_add (x := 4) hTp hIV h19 (by omega) (by rw [if_neg (by omega)])⟩, rfl, rfl, (by rw [e12])⟩ dX11_behindOne_120
      · -- 26 ne -> 29
        refine x_iconst dX11_behindOne_29 ?_
        refine x_goto (tgt := 34) dX11_behindOne_30 ?_
        refine x_cVv mm_X11_push ml_X11_197 dX11_behindOne_34 (c_X11_push 3 hS (show 0 ≤ ((V 308 17) - (prL pr ++ prL w).length) ∧ ((V 308 17) - (prL pr ++ prL w).length) < 160 from (by omega))) (sh_308 hS) (lq_308 hS) ?_
        refine x_mem (V' := (up (up (up V 308 (ua (ua (ua (V 308) 17 ((V 308 17) - (prL pr ++ prL w).length)) 14 ((V 308 14) + (prL pr ++ prL w).length)) 17 (((V 308 17) - (prL pr ++ prL w).length) + 1))) 311 (emL (V 311) (V 308 12) (V 308 14) ((prL pr ++ prL w).map fun zz => (zz, 0)))) 313 (ua (V 313) ((V 308 17) - (prL pr ++ prL w).length) 3))) (congrArg (fun z => up z 313 _) (up_k (by decide) (up_up _ _ _ _))) ?_
        refine x_al0 dX11_behindOne_37 ?_
        refine x_iconst dX11_behindOne_38 ?_
        refine x_putZ fl_X11_163 (sh_308 hS) (lq_308 hS) (by decide) dX11_behindOne_39 ?_
        refine x_mem (V' := (up (up (up V 308 (ua (ua (ua (ua (V 308) 17 ((V 308 17) - (prL pr ++ prL w).length)) 14 ((V 308 14) + (prL pr ++ prL w).length)) 17 (((V 308 17) - (prL pr ++ prL w).length) + 1)) 19 0)) 311 (emL (V 311) (V 308 12) (V 308 14) ((prL pr ++ prL w).map fun zz => (zz, 0)))) 313 (ua (V 313) ((V 308 17) - (prL pr ++ prL w).length) 3))) (st2_c (by decide) (st2_c (by decide) (st2_up _ _ _ _ _))) ?_
        refine x_goto (tgt := 115) dX11_behindOne_42 ?_
        refine x_al0 dX11_behindOne_115 ?_
        refine x_cVv mm_X11_nextToken ml_X11_184 dX11_behindOne_116 (c_X11_nextToken hS (show 0 ≤ (V 308 4) ∧ (V 308 4) ≤ 300 from (by omega)) (show 0 ≤ (V 308 7) ∧ (V 308 7) ≤ (V 308 4) from (by omega)) (show ∀ k, 0 ≤ (V 312) k ∧ (V 312) k < 256 from hTp)) (sh_308 hS) (lq_308 hS) ?_
        refine x_mem (V' := (up (up (up V 308 (mTok (ua (ua (ua (ua (V 308) 17 ((V 308 17) - (prL pr ++ prL w).length)) 14 ((V 308 14) + (prL pr ++ prL w).length)) 17 (((V 308 17) - (prL pr ++ prL w).length) + 1)) 19 0) (V 312))) 311 (emL (V 311) (V 308 12) (V 308 14) ((prL pr ++ prL w).map fun zz => (zz, 0)))) 313 (ua (V 313) ((V 308 17) - (prL pr ++ prL w).length) 3))) (up_k (by decide) (up_k (by decide) (up_up _ _ _ _))) ?_
        refine x_iconst dX11_behindOne_119 ?_
        exact x_iret hQ ⟨0, _, _, _, Or.inl ⟨rfl, _, _, _, _, _, _, _, (by omega), IV_add (x := 3) hTp hIV h19 (by omega) (by rw [if_pos (by omega)])⟩, rfl, rfl, (by rw [e12])⟩ dX11_behindOne_120
set_option maxRecDepth 100000 in
set_option maxHeartbeats 4000000 in
theorem c_X11_summed {B : Bs} {S : Stt} {V : Va} (p0 : Int) (hS : Stat S) (hTn : (V 308 4) ≤ 300) (hTp : ∀ k, 0 ≤ (V 312) k ∧ (V 312) k < 256) (h12 : 0 ≤ (V 308 12) ∧ (V 308 12) ≤ 2100) (h20 : InR (V 308 20)) (hwr : 0 ≤ (V 308 14) ∧ (V 308 14) ≤ p0) (h18 : 0 ≤ (V 308 18) ∧ (V 308 18) ≤ 8) (hPb : AB (V 313)) (hPS : PS (V 312) (V 308 4) p0 (V 308)) : C B yX11_summed cX11_summed 2 (some .int) 6 0 0 [vR B 308] S V (rP3 S V (SuP (V 312) (V 308 4) (V 308 20) p0 (V 308 18) (V 308 12) (V 308 14) (V 311) (V 308))) := by
  refine C.of [some (vR B 308), none] ?_
  intro Γ hQ
  refine x_al0 dX11_summed_0 ?_
  refine x_iconst dX11_summed_1 ?_
  refine x_putI fl_X11_160 (sh_308 hS) (lq_308 hS) dX11_summed_2 ?_
  refine x_mem (V' := (up V 308 (ua (V 308) 17 0))) rfl ?_
  refine x_al0 dX11_summed_5 ?_
  refine x_iconst dX11_summed_6 ?_
  refine x_putZ fl_X11_163 (sh_308 hS) (lq_308 hS) (by decide) dX11_summed_7 ?_
  refine x_mem (V' := (up V 308 (ua (ua (V 308) 17 0) 19 0))) (st2_up _ _ _ _ _) ?_
  have lp10 : ∀ (N10 : Nat) (f : Int → Int) (tx : Int → Int) (pl : Int → Int), (∃ p w pr o m Fs em, IV (V 312) (V 308 4) (V 308 20) p0 (V 308 18) (V 308 12) (V 308 14) (V 311) (V 308) p w pr o m Fs em f tx pl) → (V 308 4 - f 8).toNat < N10 → X Γ B RX11 "summed" cX11_summed 2 (some .int) 6 0 0 10 [some (vR B 308), none] [] 0 0 S (up (up (up V 308 f) 311 tx) 313 pl) := by
    intro N10
    induction N10 with
    | zero => intro f tx pl hJ hN; exact absurd hN (Nat.not_lt_zero _)
    | succ N10 ih10 =>
      intro f tx pl hJ hN10
      obtain ⟨p, w, pr, o, m, Fs, em, hIV⟩ := hJ
      obtain ⟨i1, i2, i3, i4, i5, i6, i7, i8, i9, i10, i11, i12, i13, i14, i15, i16⟩ := id hIV
      obtain ⟨q1, q2, q3, q4, q5, q6, q7, q8, q9⟩ := id i1
      have hr := tok_r hTp q1.2
      have e12 : f 12 = V 308 12 := i15 12 (by omega)
      have e4 : f 4 = V 308 4 := q2
      have hpl := pileL_len Fs (w, pr, m)
      have hpd := Pile_len i3
      have hop := opsN_0 Fs (w, pr, m)
      refine x_al0 dX11_summed_10 ?_
      refine x_getZ fl_X11_163 (sh_308 hS) (lq_308 hS) dX11_summed_11 ?_
      refine x_topI (a' := f 19) rfl ?_
      refine x_if_eq (tgt := 24) dX11_summed_14 (inr (by omega)) (fun c14_1 => ?_) (fun c14_1 => ?_)
      · -- 14 eq -> 24
        refine x_al0 dX11_summed_24 ?_
        refine x_getZ fl_X11_163 (sh_308 hS) (lq_308 hS) dX11_summed_25 ?_
        refine x_topI (a' := f 19) rfl ?_
        refine x_if_eq (tgt := 38) dX11_summed_28 (inr (by omega)) (fun c28_2 => ?_) (fun c28_2 => ?_)
        · -- 28 eq -> 38
          refine x_al0 dX11_summed_38 ?_
          refine x_cVi3 mm_X11_beginOne ml_X11_213 dX11_summed_39 (c_X11_beginOne (V 308 20) p0 (V 308 18) (V 308 12) (V 308 14) (V 311) (V 308) p w pr o m Fs em hS (show f 19 = 0 by omega) (show f 4 ≤ 300 by omega) hTp ⟨rfl, h12.1, h12.2⟩ ⟨rfl, h20⟩ hwr (by omega) (show IV (V 312) (f 4) (V 308 20) p0 (V 308 18) (V 308 12) (V 308 14) (V 311) (V 308) p w pr o m Fs em f tx pl by rw [e4]; exact hIV)) (sh_308 hS) (lq_308 hS) (fun r3 f3 tx3 pl3 hp3 => ?_)
          have hq : IVP (V 312) (V 308 4) (V 308 20) p0 (V 308 18) (V 308 12) (V 308 14) (V 311) (V 308) (f 8) r3 f3 tx3 pl3 := by rw [← e4]; exact hp3
          have hrr : 0 ≤ r3 ∧ r3 < 10 := by rcases hq with z | z; (have := z.1; omega); exact ⟨z.2.2.1, z.2.1⟩
          refine x_mem (V' := (up (up (up V 308 f3) 311 tx3) 313 pl3)) (Eq.trans (Eq.trans (congrArg (fun z => up z 313 _) (congrArg (fun z => up z 311 _) (up_k (by decide) (up_k (by decide) (up_up _ _ _ _))))) (congrArg (fun z => up z 313 _) (up_k (by decide) (up_up _ _ _ _)))) (up_up _ _ _ _)) ?_
          refine x_is1 dX11_summed_42 ?_
          refine x_il1 dX11_summed_43 ?_
          refine x_if_eq (tgt := 49) dX11_summed_44 (inr (by omega)) (fun c44_4 => ?_) (fun c44_4 => ?_)
          · -- 44 eq -> 49
            refine x_goto (tgt := 10) dX11_summed_49 ?_
            have hq2 := hq.resolve_right (fun z => absurd z.1 (by omega))
            obtain ⟨_, p2, w2, pr2, o2, m2, Fs2, em2, hlt, hIV2⟩ := hq2
            have hr2 := tok_r hTp hIV2.1.1.2
            have h82 := hIV2.1.2.2.2.1
            exact x_fg (ih10 f3 tx3 pl3 ⟨_, _, _, _, _, _, _, hIV2⟩ (by omega)) (And.intro rfl trivial)
          · -- 44 eq -> 47
            refine x_il1 dX11_summed_47 ?_
            exact x_iret hQ ⟨r3, f3, tx3, pl3, Or.inr (by rcases hq with z | z; (exact absurd z.1 (by omega)); exact z), rfl, rfl, rfl⟩ dX11_summed_48
        · -- 28 eq -> 31
          refine x_al0 dX11_summed_31 ?_
          refine x_cVi3 mm_X11_behindOne ml_X11_210 dX11_summed_32 (c_X11_behindOne (V 308 20) p0 (V 308 18) (V 308 12) (V 308 14) (V 311) (V 308) p w pr o m Fs em hS (show f 19 = 1 by omega) (show f 9 = 43 ∨ f 9 = 45 ∨ f 9 = 42 ∨ f 9 = 47 ∨ (f 9 = 41 ∧ 0 ≤ findT (fun zz => decide (pl zz = 40)) (f 17)) by first | assumption | (exfalso; omega)) (show f 4 ≤ 300 by omega) hTp ⟨rfl, h12.1, h12.2⟩ ⟨rfl, h20⟩ hwr (by omega) (show IV (V 312) (f 4) (V 308 20) p0 (V 308 18) (V 308 12) (V 308 14) (V 311) (V 308) p w pr o m Fs em f tx pl by rw [e4]; exact hIV)) (sh_308 hS) (lq_308 hS) (fun r5 f5 tx5 pl5 hp5 => ?_)
          have hq : IVP (V 312) (V 308 4) (V 308 20) p0 (V 308 18) (V 308 12) (V 308 14) (V 311) (V 308) (f 8) r5 f5 tx5 pl5 := by rw [← e4]; exact hp5
          have hrr : 0 ≤ r5 ∧ r5 < 10 := by rcases hq with z | z; (have := z.1; omega); exact ⟨z.2.2.1, z.2.1⟩
          refine x_mem (V' := (up (up (up V 308 f5) 311 tx5) 313 pl5)) (Eq.trans (Eq.trans (congrArg (fun z => up z 313 _) (congrArg (fun z => up z 311 _) (up_k (by decide) (up_k (by decide) (up_up _ _ _ _))))) (congrArg (fun z => up z 313 _) (up_k (by decide) (up_up _ _ _ _)))) (up_up _ _ _ _)) ?_
          refine x_goto (tgt := 42) dX11_summed_35 ?_
          refine x_is1 dX11_summed_42 ?_
          refine x_il1 dX11_summed_43 ?_
          refine x_if_eq (tgt := 49) dX11_summed_44 (inr (by omega)) (fun c44_6 => ?_) (fun c44_6 => ?_)
          · -- 44 eq -> 49
            refine x_goto (tgt := 10) dX11_summed_49 ?_
            have hq2 := hq.resolve_right (fun z => absurd z.1 (by omega))
            obtain ⟨_, p2, w2, pr2, o2, m2, Fs2, em2, hlt, hIV2⟩ := hq2
            have hr2 := tok_r hTp hIV2.1.1.2
            have h82 := hIV2.1.2.2.2.1
            exact x_fg (ih10 f5 tx5 pl5 ⟨_, _, _, _, _, _, _, hIV2⟩ (by omega)) (And.intro rfl trivial)
          · -- 44 eq -> 47
            refine x_il1 dX11_summed_47 ?_
            exact x_iret hQ ⟨r5, f5, tx5, pl5, Or.inr (by rcases hq with z | z; (exact absurd z.1 (by omega)); exact z), rfl, rfl, rfl⟩ dX11_summed_48
      · -- 14 eq -> 17
        refine x_al0 dX11_summed_17 ?_
        refine x_cVi mm_X11_goesOn ml_X11_207 dX11_summed_18 (c_X11_goesOn hS (show 0 ≤ (f 9) ∧ (f 9) < 256 from (by omega)) (show AB pl from i16) (show 0 ≤ (f 17) ∧ (f 17) ≤ 160 from (by omega))) (sh_308 hS) (lq_308 hS) ?_
        refine x_top (v' := vI (if (f 9) = 43 ∨ (f 9) = 45 ∨ (f 9) = 42 ∨ (f 9) = 47 ∨ ((f 9) = 41 ∧ 0 ≤ findT (fun zz => decide (pl zz = 40)) (f 17)) then 1 else 0)) rfl ?_
        refine x_ifb_eq (tgt := 52) dX11_summed_21 (fun c21_7 => ?_) (fun c21_7 => ?_)
        · -- 21 eq -> 52
          have h19 : f 19 = 1 := by omega
          have hm0 := i6 h19
          have hP3 : Pile pl (prL pr ++ prL w ++ restL Fs) (f 17) := by rw [← pileL_0]; rw [hm0] at i3; exact i3
          have hl3 : (pileL Fs (w, pr, m)).length = (prL pr ++ prL w).length + (restL Fs).length := by rw [hm0, pileL_0, List.length_append]
          have hng : ¬ (f 9 = 43 ∨ f 9 = 45 ∨ f 9 = 42 ∨ f 9 = 47 ∨ (f 9 = 41 ∧ 0 ≤ findT (fun zz => decide (pl zz = 40)) (f 17))) := by assumption
          refine x_al0 dX11_summed_52 ?_
          refine x_iconst dX11_summed_53 ?_
          refine x_cVv mm_X11_settle ml_X11_204 dX11_summed_54 (c_X11_settle 3 (prL pr ++ prL w) (restL Fs) hS (show 0 ≤ (f 12) ∧ (f 12) ≤ 2100 from (by omega)) (show AB pl from i16) (inr (by decide)) (show 0 ≤ (f 14) ∧ (f 14) + (prL pr ++ prL w).length ≤ 300 from (by omega)) (show (f 17) ≤ 160 from (by omega)) (show Pile pl ((prL pr ++ prL w) ++ (restL Fs)) (f 17) from hP3) (fun x hx => settle3_c i10 hx) (fun x L2 e => by have := restL_top e; omega)) (sh_308 hS) (lq_308 hS) ?_
          refine x_mem (V' := (up (up (up V 308 (ua (ua f 17 ((f 17) - (prL pr ++ prL w).length)) 14 ((f 14) + (prL pr ++ prL w).length))) 311 (emL tx (f 12) (f 14) ((prL pr ++ prL w).map fun zz => (zz, 0)))) 313 pl)) (Eq.trans (congrArg (fun z => up z 311 _) (up_k (by decide) (up_k (by decide) (up_up _ _ _ _)))) (up_k (by decide) (up_up _ _ _ _))) ?_
          refine x_al0 dX11_summed_57 ?_
          refine x_getI fl_X11_160 (sh_308 hS) (lq_308 hS) dX11_summed_58 ?_
          refine x_topI (a' := (f 17) - (prL pr ++ prL w).length) (show (ua (ua f 17 ((f 17) - (prL pr ++ prL w).length)) 14 ((f 14) + (prL pr ++ prL w).length)) 17 = (f 17) - (prL pr ++ prL w).length from ((ua_ne (by decide)).trans (ua_same _ _ _))) ?_
          refine x_if_le (tgt := 68) dX11_summed_61 (inr (by omega)) (fun c61_8 => ?_) (fun c61_8 => ?_)
          · -- 61 le -> 68
            have hfe : (restL Fs).length = 0 := by omega
            refine x_iconst dX11_summed_68 ?_
            exact x_iret hQ ⟨0, (ua (ua f 17 ((f 17) - (prL pr ++ prL w).length)) 14 ((f 14) + (prL pr ++ prL w).length)), (emL tx (f 12) (f 14) ((prL pr ++ prL w).map fun zz => (zz, 0))), pl, (by rw [e12]; first | exact (Or.inl (IV_end hIV h19 hng hfe)) | exact (Or.inr ⟨by decide, by decide, by decide, IV_endF hIV h19 hng hfe⟩)), rfl, rfl, rfl⟩ dX11_summed_69
          · -- 61 le -> 64
            have hfe : 0 < (restL Fs).length := by omega
            refine x_iconst dX11_summed_64 ?_
            refine x_goto (tgt := 69) dX11_summed_65 ?_
            exact x_iret hQ ⟨1, (ua (ua f 17 ((f 17) - (prL pr ++ prL w).length)) 14 ((f 14) + (prL pr ++ prL w).length)), (emL tx (f 12) (f 14) ((prL pr ++ prL w).map fun zz => (zz, 0))), pl, (by rw [e12]; first | exact (Or.inl (IV_end hIV h19 hng hfe)) | exact (Or.inr ⟨by decide, by decide, by decide, IV_endF hIV h19 hng hfe⟩)), rfl, rfl, rfl⟩ dX11_summed_69
        · -- 21 eq -> 24
          refine x_al0 dX11_summed_24 ?_
          refine x_getZ fl_X11_163 (sh_308 hS) (lq_308 hS) dX11_summed_25 ?_
          refine x_topI (a' := f 19) rfl ?_
          refine x_if_eq (tgt := 38) dX11_summed_28 (inr (by omega)) (fun c28_9 => ?_) (fun c28_9 => ?_)
          · -- 28 eq -> 38
            refine x_al0 dX11_summed_38 ?_
            refine x_cVi3 mm_X11_beginOne ml_X11_213 dX11_summed_39 (c_X11_beginOne (V 308 20) p0 (V 308 18) (V 308 12) (V 308 14) (V 311) (V 308) p w pr o m Fs em hS (show f 19 = 0 by omega) (show f 4 ≤ 300 by omega) hTp ⟨rfl, h12.1, h12.2⟩ ⟨rfl, h20⟩ hwr (by omega) (show IV (V 312) (f 4) (V 308 20) p0 (V 308 18) (V 308 12) (V 308 14) (V 311) (V 308) p w pr o m Fs em f tx pl by rw [e4]; exact hIV)) (sh_308 hS) (lq_308 hS) (fun r10 f10 tx10 pl10 hp10 => ?_)
            have hq : IVP (V 312) (V 308 4) (V 308 20) p0 (V 308 18) (V 308 12) (V 308 14) (V 311) (V 308) (f 8) r10 f10 tx10 pl10 := by rw [← e4]; exact hp10
            have hrr : 0 ≤ r10 ∧ r10 < 10 := by rcases hq with z | z; (have := z.1; omega); exact ⟨z.2.2.1, z.2.1⟩
            refine x_mem (V' := (up (up (up V 308 f10) 311 tx10) 313 pl10)) (Eq.trans (Eq.trans (congrArg (fun z => up z 313 _) (congrArg (fun z => up z 311 _) (up_k (by decide) (up_k (by decide) (up_up _ _ _ _))))) (congrArg (fun z => up z 313 _) (up_k (by decide) (up_up _ _ _ _)))) (up_up _ _ _ _)) ?_
            refine x_is1 dX11_summed_42 ?_
            refine x_il1 dX11_summed_43 ?_
            refine x_if_eq (tgt := 49) dX11_summed_44 (inr (by omega)) (fun c44_11 => ?_) (fun c44_11 => ?_)
            · -- 44 eq -> 49
              refine x_goto (tgt := 10) dX11_summed_49 ?_
              have hq2 := hq.resolve_right (fun z => absurd z.1 (by omega))
              obtain ⟨_, p2, w2, pr2, o2, m2, Fs2, em2, hlt, hIV2⟩ := hq2
              have hr2 := tok_r hTp hIV2.1.1.2
              have h82 := hIV2.1.2.2.2.1
              exact x_fg (ih10 f10 tx10 pl10 ⟨_, _, _, _, _, _, _, hIV2⟩ (by omega)) (And.intro rfl trivial)
            · -- 44 eq -> 47
              refine x_il1 dX11_summed_47 ?_
              exact x_iret hQ ⟨r10, f10, tx10, pl10, Or.inr (by rcases hq with z | z; (exact absurd z.1 (by omega)); exact z), rfl, rfl, rfl⟩ dX11_summed_48
          · -- 28 eq -> 31
            refine x_al0 dX11_summed_31 ?_
            refine x_cVi3 mm_X11_behindOne ml_X11_210 dX11_summed_32 (c_X11_behindOne (V 308 20) p0 (V 308 18) (V 308 12) (V 308 14) (V 311) (V 308) p w pr o m Fs em hS (show f 19 = 1 by omega) (show f 9 = 43 ∨ f 9 = 45 ∨ f 9 = 42 ∨ f 9 = 47 ∨ (f 9 = 41 ∧ 0 ≤ findT (fun zz => decide (pl zz = 40)) (f 17)) by first | assumption | (exfalso; omega)) (show f 4 ≤ 300 by omega) hTp ⟨rfl, h12.1, h12.2⟩ ⟨rfl, h20⟩ hwr (by omega) (show IV (V 312) (f 4) (V 308 20) p0 (V 308 18) (V 308 12) (V 308 14) (V 311) (V 308) p w pr o m Fs em f tx pl by rw [e4]; exact hIV)) (sh_308 hS) (lq_308 hS) (fun r12 f12 tx12 pl12 hp12 => ?_)
            have hq : IVP (V 312) (V 308 4) (V 308 20) p0 (V 308 18) (V 308 12) (V 308 14) (V 311) (V 308) (f 8) r12 f12 tx12 pl12 := by rw [← e4]; exact hp12
            have hrr : 0 ≤ r12 ∧ r12 < 10 := by rcases hq with z | z; (have := z.1; omega); exact ⟨z.2.2.1, z.2.1⟩
            refine x_mem (V' := (up (up (up V 308 f12) 311 tx12) 313 pl12)) (Eq.trans (Eq.trans (congrArg (fun z => up z 313 _) (congrArg (fun z => up z 311 _) (up_k (by decide) (up_k (by decide) (up_up _ _ _ _))))) (congrArg (fun z => up z 313 _) (up_k (by decide) (up_up _ _ _ _)))) (up_up _ _ _ _)) ?_
            refine x_goto (tgt := 42) dX11_summed_35 ?_
            refine x_is1 dX11_summed_42 ?_
            refine x_il1 dX11_summed_43 ?_
            refine x_if_eq (tgt := 49) dX11_summed_44 (inr (by omega)) (fun c44_13 => ?_) (fun c44_13 => ?_)
            · -- 44 eq -> 49
              refine x_goto (tgt := 10) dX11_summed_49 ?_
              have hq2 := hq.resolve_right (fun z => absurd z.1 (by omega))
              obtain ⟨_, p2, w2, pr2, o2, m2, Fs2, em2, hlt, hIV2⟩ := hq2
              have hr2 := tok_r hTp hIV2.1.1.2
              have h82 := hIV2.1.2.2.2.1
              exact x_fg (ih10 f12 tx12 pl12 ⟨_, _, _, _, _, _, _, hIV2⟩ (by omega)) (And.intro rfl trivial)
            · -- 44 eq -> 47
              refine x_il1 dX11_summed_47 ?_
              exact x_iret hQ ⟨r12, f12, tx12, pl12, Or.inr (by rcases hq with z | z; (exact absurd z.1 (by omega)); exact z), rfl, rfl, rfl⟩ dX11_summed_48
  refine x_mem (V' := (up (up (up V 308 (ua (ua (V 308) 17 0) 19 0)) 311 (V 311)) 313 (V 313))) (Eq.trans (show _ = (up (up V 308 (ua (ua (V 308) 17 0) 19 0)) 311 (V 311)) from (Eq.symm (up_self _ 311))) (show _ = (up (up (up V 308 (ua (ua (V 308) 17 0) 19 0)) 311 (V 311)) 313 (V 313)) from (Eq.symm (up_self _ 313)))) ?_
  exact x_fg (lp10 _ (ua (ua (V 308) 17 0) 19 0) (V 311) (V 313) ⟨p0, 0, 0, V 308 18, 0, [], [], IV_start hPS h18.2 hPb⟩ (Nat.lt_succ_self _)) (And.intro rfl trivial)
