set_option maxRecDepth 100000 in
set_option maxHeartbeats 4000000 in
theorem c_X3_take {B : Bs} {S : Stt} {V : Va} (good : Int) (oth : Int) (hS : Stat S) (hg : good = 0 ∨ good = 1) (h8 : 0 ≤ (V 277 8) ∧ (V 277 8) < 301) (h7 : InR (V 277 7)) (h2 : InR (V 277 2)) (hoth : InR oth) : C B yX3_take cX3_take 3 (some .boolean) 1 0 0 [vR B 277, vI good, vI oth] S V (rI S (up V 277 (takF (V 277) (V 280) good oth)) (takV (V 277) good)) := by
  refine C.of [some (vR B 277), some (vI good), some (vI oth)] ?_
  intro Γ hQ
  refine x_al0 dX3_take_0 ?_
  refine x_getI fl_X3_15 (sh_277 hS) (lq_277 hS) dX3_take_1 ?_
  refine x_topI (a' := V 277 2) rfl ?_
  refine x_if_eq (tgt := 9) dX3_take_4 (inr (by omega)) (fun c4_1 => ?_) (fun c4_1 => ?_)
  · -- 4 eq -> 9
    refine x_il1 dX3_take_9 ?_
    refine x_if_ne (tgt := 33) dX3_take_10 (inr (by omega)) (fun c10_2 => ?_) (fun c10_2 => ?_)
    · -- 10 ne -> 33
      refine x_al0 dX3_take_33 ?_
      refine x_getI fl_X3_52 (sh_277 hS) (lq_277 hS) dX3_take_34 ?_
      refine x_topI (a' := V 277 8) rfl ?_
      refine x_iconst dX3_take_37 ?_
      refine x_iadd dX3_take_38 ?_
      refine x_al0 dX3_take_39 ?_
      refine x_getI fl_X3_75 (sh_277 hS) (lq_277 hS) dX3_take_40 ?_
      refine x_topI (a' := V 277 7) rfl ?_
      refine x_icmp_ge (tgt := 56) dX3_take_43 (inr (by omega)) (inr (by omega)) (fun c43_3 => ?_) (fun c43_3 => ?_)
      · -- 43 ge -> 56
        refine x_iconst dX3_take_56 ?_
        exact x_zret hQ (rI.mk (by simp only [takV]; rw [if_neg (by omega)]; omega) (by simp only [takF]; rw [if_neg (by omega), if_neg (by omega), if_neg (by omega), up_self])) (by decide) dX3_take_57
      · -- 43 ge -> 46
        refine x_al0 dX3_take_46 ?_
        refine x_dup dX3_take_47 ?_
        refine x_getI fl_X3_52 (sh_277 hS) (lq_277 hS) dX3_take_48 ?_
        refine x_topI (a' := V 277 8) rfl ?_
        refine x_iconst dX3_take_51 ?_
        refine x_iadd dX3_take_52 ?_
        refine x_putI fl_X3_52 (sh_277 hS) (lq_277 hS) dX3_take_53 ?_
        refine x_mem (V' := (up V 277 (ua (V 277) 8 ((V 277 8) + 1)))) rfl ?_
        refine x_iconst dX3_take_56 ?_
        exact x_zret hQ (rI.mk (by simp only [takV]; rw [if_neg (by omega)]; omega) (by simp only [takF]; rw [if_neg (by omega), if_neg (by omega), if_pos (by omega)])) (by decide) dX3_take_57
    · -- 10 ne -> 13
      refine x_al0 dX3_take_13 ?_
      refine x_il2 dX3_take_14 ?_
      refine x_putI fl_X3_15 (sh_277 hS) (lq_277 hS) dX3_take_15 ?_
      refine x_mem (V' := (up V 277 (ua (V 277) 2 oth))) rfl ?_
      refine x_al0 dX3_take_18 ?_
      refine x_al0 dX3_take_19 ?_
      refine x_getR fl_X3_25 (sh_277 hS) (lq_277 hS) (rf_277_5 hS) dX3_take_20 ?_
      refine x_al0 dX3_take_23 ?_
      refine x_getI fl_X3_52 (sh_277 hS) (lq_277 hS) dX3_take_24 ?_
      refine x_topI (a' := V 277 8) (show (ua (V 277) 2 oth) 8 = V 277 8 from (ua_ne (by decide))) ?_
      refine x_iald (sh_280 hS) (lq_280 hS) (by omega) (by omega) dX3_take_27 ?_
      refine x_topI (a' := V 280 (V 277 8)) rfl ?_
      refine x_putI fl_X3_19 (sh_277 hS) (lq_277 hS) dX3_take_28 ?_
      refine x_mem (V' := (up V 277 (ua (ua (V 277) 2 oth) 3 (V 280 (V 277 8))))) (st2_up _ _ _ _ _) ?_
      refine x_iconst dX3_take_31 ?_
      exact x_zret hQ (rI.mk (by simp only [takV]; rw [if_neg (by omega)]; omega) (by simp only [takF]; rw [if_neg (by omega), if_pos (by omega)])) (by decide) dX3_take_32
  · -- 4 eq -> 7
    refine x_iconst dX3_take_7 ?_
    exact x_zret hQ (rI.mk (by simp only [takV]; rw [if_pos (by omega)]) (by rw [takF_f (by omega), up_self])) (by decide) dX3_take_8
set_option maxRecDepth 100000 in
set_option maxHeartbeats 4000000 in
theorem c_X3_emit {B : Bs} {S : Stt} {V : Va} (op : Int) (hS : Stat S) (h13 : 0 ≤ (V 277 13) ∧ (V 277 13) ≤ 300) : C B yX3_emit cX3_emit 2 none 1 0 0 [vR B 277, vI op] S V (rV S (up (up V 277 (emf (V 277))) 283 (emc (V 277) (V 283) op))) := by
  refine C.of [some (vR B 277), some (vI op)] ?_
  intro Γ hQ
  refine x_al0 dX3_emit_0 ?_
  refine x_getI fl_X3_58 (sh_277 hS) (lq_277 hS) dX3_emit_1 ?_
  refine x_topI (a' := V 277 13) rfl ?_
  refine x_al0 dX3_emit_4 ?_
  refine x_getR fl_X3_34 (sh_277 hS) (lq_277 hS) (rf_277_12 hS) dX3_emit_5 ?_
  refine x_alen (by decide) (sh_283 hS) (lq_283 hS) dX3_emit_8 ?_
  refine x_topI (a' := 300) rfl ?_
  refine x_icmp_ge (tgt := 32) dX3_emit_9 (inr (by omega)) (inr (by decide)) (fun c9_1 => ?_) (fun c9_1 => ?_)
  · -- 9 ge -> 32
    exact x_vret hQ (rV.mk (by simp only [emf, emc]; rw [if_neg (by omega), if_neg (by omega), up_self, up_self])) dX3_emit_32
  · -- 9 ge -> 12
    refine x_al0 dX3_emit_12 ?_
    refine x_getR fl_X3_34 (sh_277 hS) (lq_277 hS) (rf_277_12 hS) dX3_emit_13 ?_
    refine x_al0 dX3_emit_16 ?_
    refine x_getI fl_X3_58 (sh_277 hS) (lq_277 hS) dX3_emit_17 ?_
    refine x_topI (a' := V 277 13) rfl ?_
    refine x_il1 dX3_emit_20 ?_
    refine x_iast (sh_283 hS) (lq_283 hS) (by omega) (by omega) dX3_emit_21 ?_
    refine x_mem (V' := (up V 283 (ua (V 283) (V 277 13) op))) rfl ?_
    refine x_al0 dX3_emit_22 ?_
    refine x_dup dX3_emit_23 ?_
    refine x_getI fl_X3_58 (sh_277 hS) (lq_277 hS) dX3_emit_24 ?_
    refine x_topI (a' := V 277 13) rfl ?_
    refine x_iconst dX3_emit_27 ?_
    refine x_iadd dX3_emit_28 ?_
    refine x_putI fl_X3_58 (sh_277 hS) (lq_277 hS) dX3_emit_29 ?_
    refine x_mem (V' := (up (up V 277 (ua (V 277) 13 ((V 277 13) + 1))) 283 (ua (V 283) (V 277 13) op))) (st2_c (by decide) rfl) ?_
    exact x_vret hQ (rV.mk (by simp only [emf, emc]; rw [if_pos (by omega), if_pos (by omega)])) dX3_emit_32
set_option maxRecDepth 100000 in
set_option maxHeartbeats 4000000 in
theorem c_X3_readOne_s {B : Bs} {S : Stt} (hS : Stat S) (T : Int → Int) (n u : Int) (N d : Nat) (hd : d ≤ 8) (ih : ∀ e : Nat, e < d → OneC B S T n u N e ∧ SumC B S T n u N e) : OneC B S T n u N d := by
  unfold OneC
  intro V i hH hR
  refine C.of [some (vR B 277), some (vI (8 - (d : Int))), none, none] ?_
  intro Γ hQ
  have hK := hH.1
  have h7 := hH.2.1
  have hn := hH.2.2.1
  have hTp := hH.2.2.2
  have r2 := hR.1
  have r8 := hR.2.1
  have r3 := hR.2.2.1
  have r13 := hR.2.2.2.1
  have r9 := UQ_mk hR.2.2.2.2
  have hp := pos_le hTp hn.1 i
  have hk := hK.2.1 i r3
  have htk : V 279 (V 277 8) = cTk T n (pos T n i) := by rw [r8]; exact hk.1
  have hvl : V 281 (V 277 8) = cVl T n (pos T n i) := by rw [r8]; exact hk.2.2
  have hsr : V 280 (V 277 8) = tPl T n (pos T n i) := by rw [r8]; exact hk.2.1
  have hq := TkQ_mk htk
  have kr := hq.r
  have hN := hK.1
  have hv := (cVl_q hTp hp.2).1
  rw [← hvl] at hv
  have hpr := (tok_r hTp hp.2).2.1
  have hpr0 := (tok_r hTp hp.2).1
  have r91 := r9.r
  clear hk
  refine x_al0 dX3_readOne_0 ?_
  refine x_getR fl_X3_22 (sh_277 hS) (lq_277 hS) (rf_277_4 hS) dX3_readOne_1 ?_
  refine x_al0 dX3_readOne_4 ?_
  refine x_getI fl_X3_52 (sh_277 hS) (lq_277 hS) dX3_readOne_5 ?_
  refine x_topI (a' := V 277 8) rfl ?_
  refine x_iald (sh_279 hS) (lq_279 hS) (by omega) (by omega) dX3_readOne_8 ?_
  refine x_topI (a' := V 279 (V 277 8)) rfl ?_
  refine x_is2 dX3_readOne_9 ?_
  refine x_al0 dX3_readOne_10 ?_
  refine x_getR fl_X3_28 (sh_277 hS) (lq_277 hS) (rf_277_6 hS) dX3_readOne_11 ?_
  refine x_al0 dX3_readOne_14 ?_
  refine x_getI fl_X3_52 (sh_277 hS) (lq_277 hS) dX3_readOne_15 ?_
  refine x_topI (a' := V 277 8) rfl ?_
  refine x_iald (sh_281 hS) (lq_281 hS) (by omega) (by omega) dX3_readOne_18 ?_
  refine x_topI (a' := V 281 (V 277 8)) rfl ?_
  refine x_is3 dX3_readOne_19 ?_
  refine x_il2 dX3_readOne_20 ?_
  refine x_iconst dX3_readOne_21 ?_
  refine x_icmp_ne (tgt := 51) dX3_readOne_22 (inr (by omega)) (inr (by decide)) (fun c22_1 => ?_) (fun c22_1 => ?_)
  · -- 22 ne -> 51
    have t1n := hq.b2 (by omega)
    refine x_il2 dX3_readOne_51 ?_
    refine x_bipush dX3_readOne_52 ?_
    refine x_icmp_lt (tgt := 90) dX3_readOne_54 (inr (by omega)) (inr (by decide)) (fun c54_2 => ?_) (fun c54_2 => ?_)
    · -- 54 lt -> 90
      have tnn := hq.bn (by omega)
      refine x_il2 dX3_readOne_90 ?_
      refine x_iconst dX3_readOne_91 ?_
      refine x_icmp_ne (tgt := 148) dX3_readOne_92 (inr (by omega)) (inr (by decide)) (fun c92_3 => ?_) (fun c92_3 => ?_)
      · -- 92 ne -> 148
        have t40n := hq.b4 (by omega)
        refine x_il2 dX3_readOne_148 ?_
        refine x_bipush dX3_readOne_149 ?_
        refine x_icmp_ne (tgt := 189) dX3_readOne_151 (inr (by omega)) (inr (by decide)) (fun c151_4 => ?_) (fun c151_4 => ?_)
        · -- 151 ne -> 189
          have t45n := hq.b7 (by omega)
          refine x_al0 dX3_readOne_189 ?_
          refine x_iconst dX3_readOne_190 ?_
          refine x_iconst dX3_readOne_191 ?_
          refine x_cVi mm_X3_take ml_X3_125 dX3_readOne_192 (c_X3_take 0 1 hS (by omega) (by omega) (inr (by omega)) (inr (by omega)) (inr (by decide))) (sh_277 hS) (lq_277 hS) ?_ (hlev := by omega)
          refine x_mem (V' := (up V 277 (ua (ua (V 277) 2 1) 3 (V 280 (V 277 8))))) (upE rfl (takF_0 (show (V 277) 2 = 0 by omega))) ?_
          refine x_topI (a' := 0) (takV_1 (show (V 277) 2 = 0 by omega)) ?_
          refine x_pop dX3_readOne_195 ?_
          exact x_vret hQ ⟨ua (ua (V 277) 2 1) 3 (V 280 (V 277 8)), V 283, CP_f (sr := V 280) ⟨r8, r3⟩ (by omega) (by decide) hsr (G_else t1n tnn t40n t45n), rfl, rfl, (show up (up V 277 _) 283 (V 283) = up V 277 _ from up_self _ 283)⟩ dX3_readOne_196
        · -- 151 ne -> 154
          have t45 := hq.a7 (by omega)
          have hiN := TkR_lt hK r3 (by omega)
          refine x_al0 dX3_readOne_154 ?_
          refine x_il1 dX3_readOne_155 ?_
          refine x_bipush dX3_readOne_156 ?_
          refine x_icmp_ge (tgt := 165) dX3_readOne_158 (inr (by omega)) (inr (by decide)) (fun c158_5 => ?_) (fun c158_5 => ?_)
          · -- 158 ge -> 165
            refine x_iconst dX3_readOne_165 ?_
            refine x_iconst dX3_readOne_166 ?_
            refine x_cVi mm_X3_take ml_X3_125 dX3_readOne_167 (c_X3_take 0 3 hS (by omega) (by omega) (inr (by omega)) (inr (by omega)) (inr (by decide))) (sh_277 hS) (lq_277 hS) ?_ (hlev := by omega)
            refine x_mem (V' := (up V 277 (ua (ua (V 277) 2 3) 3 (V 280 (V 277 8))))) (upE rfl (takF_0 (show (V 277) 2 = 0 by omega))) ?_
            refine x_topI (a' := 0) (takV_1 (show (V 277) 2 = 0 by omega)) ?_
            refine x_if_eq (tgt := 196) dX3_readOne_170 (inr (by decide)) (fun c170_6 => ?_) (fun c170_6 => ?_)
            · -- 170 eq -> 196
              exact x_vret hQ ⟨ua (ua (V 277) 2 3) 3 (V 280 (V 277 8)), V 283, CP_f (sr := V 280) ⟨r8, r3⟩ (by omega) (by decide) hsr (G_deep (by omega) tnn (by omega)), rfl, rfl, (show up (up V 277 _) 283 (V 283) = up V 277 _ from up_self _ 283)⟩ dX3_readOne_196
            · exact absurd c170_6 (by decide)
          · -- 158 ge -> 161
            refine x_iconst dX3_readOne_161 ?_
            refine x_goto (tgt := 166) dX3_readOne_162 ?_
            refine x_iconst dX3_readOne_166 ?_
            refine x_cVi mm_X3_take ml_X3_125 dX3_readOne_167 (c_X3_take 1 3 hS (by omega) (by omega) (inr (by omega)) (inr (by omega)) (inr (by decide))) (sh_277 hS) (lq_277 hS) ?_ (hlev := by omega)
            refine x_mem (V' := (up V 277 (ua (V 277) 8 (V 277 8 + 1)))) (upE rfl (takF_1 (show (V 277) 2 = 0 by omega) (show (V 277) 8 + 1 < (V 277) 7 by omega))) ?_
            refine x_topI (a' := 1) (takV_1 (show (V 277) 2 = 0 by omega)) ?_
            refine x_if_eq (tgt := 196) dX3_readOne_170 (inr (by decide)) (fun c170_7 => ?_) (fun c170_7 => ?_)
            · exact absurd c170_7 (by decide)
            · -- 170 eq -> 173
              refine x_al0 dX3_readOne_173 ?_
              refine x_il1 dX3_readOne_174 ?_
              refine x_iconst dX3_readOne_175 ?_
              refine x_iadd dX3_readOne_176 ?_
              refine x_topI (a' := 8 - ((d - 1 : Nat) : Int)) (by omega) ?_
              refine x_cVcp mm_X3_readOne ml_X3_160 dX3_readOne_177 ((ih (d - 1) (by omega)).1 (up V 277 (ua (V 277) 8 (V 277 8 + 1))) (i + 1) (RdH_c hH rfl rfl rfl (show (ua (V 277) 8 (V 277 8 + 1)) 7 = V 277 7 by simp only [ua]; (repeat rw [if_neg (by decide)]))) (show RdS (ua (V 277) 8 (V 277 8 + 1)) (i + 1) N u from ⟨Eq.trans (show (ua (V 277) 8 (V 277 8 + 1)) 2 = V 277 2 from (ua_ne (by decide))) (by omega), Eq.trans (show (ua (V 277) 8 (V 277 8 + 1)) 8 = V 277 8 + 1 from (ua_same _ _ _)) (by omega), by omega, (by rw [(show (ua (V 277) 8 (V 277 8 + 1)) 13 = V 277 13 from (ua_ne (by decide)))]; omega), Eq.trans (show (ua (V 277) 8 (V 277 8 + 1)) 9 = V 277 9 from (ua_ne (by decide))) (UQ_un r9)⟩)) (sh_277 hS) (lq_277 hS) (fun f1 cd1 hc1r => ?_) (hlev := by omega)
              have hc1 : CP T n N (i + 1) (G T n u 0 (8 - ((d - 1 : Nat) : Int)) 0 (pos T n (i + 1))) (ua (V 277) 8 (V 277 8 + 1)) (V 283) f1 cd1 := hc1r
              clear hc1r
              have hc1q := CP_q hc1 hN (by rw [(show (ua (V 277) 8 (V 277 8 + 1)) 13 = V 277 13 from (ua_ne (by decide)))]; omega)
              have hc1_7 : f1 7 = V 277 7 := Eq.trans hc1q.2.2.2.1 (show (ua (V 277) 8 (V 277 8 + 1)) 7 = V 277 7 from (ua_ne (by decide)))
              have hc1_9 : f1 9 = V 277 9 := Eq.trans hc1q.2.2.2.2 (show (ua (V 277) 8 (V 277 8 + 1)) 9 = V 277 9 from (ua_ne (by decide)))
              refine x_mem (V' := (up (up V 277 f1) 283 cd1)) (congrArg (fun z => up z 283 _) (up_up _ _ _ _)) ?_
              rw [show 8 - ((d - 1 : Nat) : Int) = (8 - (d : Int)) + 1 by omega] at hc1
              refine x_al0 dX3_readOne_180 ?_
              refine x_bipush dX3_readOne_181 ?_
              refine x_cVv mm_X3_emit ml_X3_157 dX3_readOne_183 (c_X3_emit (-40) hS (show 0 ≤ (f1 13) ∧ (f1 13) ≤ 300 from (by omega))) (sh_277 hS) (lq_277 hS) ?_ (hlev := by omega)
              refine x_mem (V' := (up (up V 277 (emf f1)) 283 (emc f1 cd1 (-40)))) (Eq.trans (congrArg (fun z => up z 283 _) (up_k (by decide) (up_up _ _ _ _))) (up_up _ _ _ _)) ?_
              refine x_goto (tgt := 196) dX3_readOne_186 ?_
              exact x_vret hQ ⟨emf f1, emc f1 cd1 (-40), CP_neg (TkR_lt hK r3 (by omega)) hR hN t45 tnn (by omega) hc1, rfl, rfl, rfl⟩ dX3_readOne_196
      · -- 92 ne -> 95
        have t40 := hq.a4 (by omega)
        have hiN := TkR_lt hK r3 (by omega)
        refine x_al0 dX3_readOne_95 ?_
        refine x_il1 dX3_readOne_96 ?_
        refine x_bipush dX3_readOne_97 ?_
        refine x_icmp_ge (tgt := 106) dX3_readOne_99 (inr (by omega)) (inr (by decide)) (fun c99_8 => ?_) (fun c99_8 => ?_)
        · -- 99 ge -> 106
          refine x_iconst dX3_readOne_106 ?_
          refine x_iconst dX3_readOne_107 ?_
          refine x_cVi mm_X3_take ml_X3_125 dX3_readOne_108 (c_X3_take 0 3 hS (by omega) (by omega) (inr (by omega)) (inr (by omega)) (inr (by decide))) (sh_277 hS) (lq_277 hS) ?_ (hlev := by omega)
          refine x_mem (V' := (up V 277 (ua (ua (V 277) 2 3) 3 (V 280 (V 277 8))))) (upE rfl (takF_0 (show (V 277) 2 = 0 by omega))) ?_
          refine x_topI (a' := 0) (takV_1 (show (V 277) 2 = 0 by omega)) ?_
          refine x_if_eq (tgt := 196) dX3_readOne_111 (inr (by decide)) (fun c111_9 => ?_) (fun c111_9 => ?_)
          · -- 111 eq -> 196
            exact x_vret hQ ⟨ua (ua (V 277) 2 3) 3 (V 280 (V 277 8)), V 283, CP_f (sr := V 280) ⟨r8, r3⟩ (by omega) (by decide) hsr (G_deep (by omega) tnn (by omega)), rfl, rfl, (show up (up V 277 _) 283 (V 283) = up V 277 _ from up_self _ 283)⟩ dX3_readOne_196
          · exact absurd c111_9 (by decide)
        · -- 99 ge -> 102
          refine x_iconst dX3_readOne_102 ?_
          refine x_goto (tgt := 107) dX3_readOne_103 ?_
          refine x_iconst dX3_readOne_107 ?_
          refine x_cVi mm_X3_take ml_X3_125 dX3_readOne_108 (c_X3_take 1 3 hS (by omega) (by omega) (inr (by omega)) (inr (by omega)) (inr (by decide))) (sh_277 hS) (lq_277 hS) ?_ (hlev := by omega)
          refine x_mem (V' := (up V 277 (ua (V 277) 8 (V 277 8 + 1)))) (upE rfl (takF_1 (show (V 277) 2 = 0 by omega) (show (V 277) 8 + 1 < (V 277) 7 by omega))) ?_
          refine x_topI (a' := 1) (takV_1 (show (V 277) 2 = 0 by omega)) ?_
          refine x_if_eq (tgt := 196) dX3_readOne_111 (inr (by decide)) (fun c111_10 => ?_) (fun c111_10 => ?_)
          · exact absurd c111_10 (by decide)
          · -- 111 eq -> 114
            refine x_al0 dX3_readOne_114 ?_
            refine x_il1 dX3_readOne_115 ?_
            refine x_iconst dX3_readOne_116 ?_
            refine x_iadd dX3_readOne_117 ?_
            refine x_topI (a' := 8 - ((d - 1 : Nat) : Int)) (by omega) ?_
            refine x_cVcp mm_X3_readSum ml_X3_133 dX3_readOne_118 ((ih (d - 1) (by omega)).2 (up V 277 (ua (V 277) 8 (V 277 8 + 1))) (i + 1) (RdH_c hH rfl rfl rfl (show (ua (V 277) 8 (V 277 8 + 1)) 7 = V 277 7 by simp only [ua]; (repeat rw [if_neg (by decide)]))) (show RdS (ua (V 277) 8 (V 277 8 + 1)) (i + 1) N u from ⟨Eq.trans (show (ua (V 277) 8 (V 277 8 + 1)) 2 = V 277 2 from (ua_ne (by decide))) (by omega), Eq.trans (show (ua (V 277) 8 (V 277 8 + 1)) 8 = V 277 8 + 1 from (ua_same _ _ _)) (by omega), by omega, (by rw [(show (ua (V 277) 8 (V 277 8 + 1)) 13 = V 277 13 from (ua_ne (by decide)))]; omega), Eq.trans (show (ua (V 277) 8 (V 277 8 + 1)) 9 = V 277 9 from (ua_ne (by decide))) (UQ_un r9)⟩)) (sh_277 hS) (lq_277 hS) (fun f1 cd1 hc1r => ?_) (hlev := by omega)
            have hc1 : CP T n N (i + 1) (G T n u 1 (8 - ((d - 1 : Nat) : Int)) 0 (pos T n (i + 1))) (ua (V 277) 8 (V 277 8 + 1)) (V 283) f1 cd1 := hc1r
            clear hc1r
            have hc1q := CP_q hc1 hN (by rw [(show (ua (V 277) 8 (V 277 8 + 1)) 13 = V 277 13 from (ua_ne (by decide)))]; omega)
            have hc1_7 : f1 7 = V 277 7 := Eq.trans hc1q.2.2.2.1 (show (ua (V 277) 8 (V 277 8 + 1)) 7 = V 277 7 from (ua_ne (by decide)))
            have hc1_9 : f1 9 = V 277 9 := Eq.trans hc1q.2.2.2.2 (show (ua (V 277) 8 (V 277 8 + 1)) 9 = V 277 9 from (ua_ne (by decide)))
            refine x_mem (V' := (up (up V 277 f1) 283 cd1)) (congrArg (fun z => up z 283 _) (up_up _ _ _ _)) ?_
            rw [show 8 - ((d - 1 : Nat) : Int) = (8 - (d : Int)) + 1 by omega] at hc1
            refine x_al0 dX3_readOne_121 ?_
            refine x_al0 dX3_readOne_122 ?_
            refine x_getR fl_X3_22 (sh_277 hS) (lq_277 hS) (rf_277_4 hS) dX3_readOne_123 ?_
            refine x_al0 dX3_readOne_126 ?_
            refine x_getI fl_X3_52 (sh_277 hS) (lq_277 hS) dX3_readOne_127 ?_
            refine x_topI (a' := f1 8) rfl ?_
            have hb5 := TkR_r hK (show 0 ≤ f1 8 by omega) (by omega)
            refine x_iald (sh_279 hS) (lq_279 hS) (by omega) (by omega) dX3_readOne_130 ?_
            refine x_topI (a' := V 279 (f1 8)) rfl ?_
            refine x_iconst dX3_readOne_131 ?_
            refine x_icmp_ne (tgt := 139) dX3_readOne_132 (inr (by omega)) (inr (by decide)) (fun c132_11 => ?_) (fun c132_11 => ?_)
            · -- 132 ne -> 139
              refine x_iconst dX3_readOne_139 ?_
              refine x_iconst dX3_readOne_140 ?_
              refine x_cVi mm_X3_take ml_X3_125 dX3_readOne_141 (c_X3_take 0 1 hS (by omega) (show 0 ≤ (f1 8) ∧ (f1 8) < 301 from (by omega)) (show InR (f1 7) from (inr (by omega))) (show InR (f1 2) from (inr (by omega))) (inr (by decide))) (sh_277 hS) (lq_277 hS) ?_ (hlev := by omega)
              refine x_topI (a' := takV f1 0) rfl ?_
              refine x_mem (V' := (up (up V 277 (takF f1 (V 280) 0 1)) 283 cd1)) (up_k (by decide) (up_up _ _ _ _)) ?_
              refine x_pop dX3_readOne_144 ?_
              refine x_goto (tgt := 196) dX3_readOne_145 ?_
              exact x_vret hQ ⟨takF f1 (V 280) 0 1, cd1, CP_par hN (TkR_lt hK r3 (by omega)) hR (fun k hk => (hK.2.1 k hk).2.1) h7 t40 tnn (by omega) (fun k hk z => TkR_lt hK hk (by omega)) hc1 (fun k hk e => by have q := (hK.2.1 k hk).1; rw [← e] at q; have y5 := (tk_q q).2.2.2.2.1; omega), rfl, rfl, rfl⟩ dX3_readOne_196
            · -- 132 ne -> 135
              refine x_iconst dX3_readOne_135 ?_
              refine x_goto (tgt := 140) dX3_readOne_136 ?_
              refine x_iconst dX3_readOne_140 ?_
              refine x_cVi mm_X3_take ml_X3_125 dX3_readOne_141 (c_X3_take 1 1 hS (by omega) (show 0 ≤ (f1 8) ∧ (f1 8) < 301 from (by omega)) (show InR (f1 7) from (inr (by omega))) (show InR (f1 2) from (inr (by omega))) (inr (by decide))) (sh_277 hS) (lq_277 hS) ?_ (hlev := by omega)
              refine x_topI (a' := takV f1 1) rfl ?_
              refine x_mem (V' := (up (up V 277 (takF f1 (V 280) 1 1)) 283 cd1)) (up_k (by decide) (up_up _ _ _ _)) ?_
              refine x_pop dX3_readOne_144 ?_
              refine x_goto (tgt := 196) dX3_readOne_145 ?_
              exact x_vret hQ ⟨takF f1 (V 280) 1 1, cd1, CP_par hN (TkR_lt hK r3 (by omega)) hR (fun k hk => (hK.2.1 k hk).2.1) h7 t40 tnn (by omega) (fun k hk z => TkR_lt hK hk (by omega)) hc1 (fun k hk e => by have q := (hK.2.1 k hk).1; rw [← e] at q; have y5 := (tk_q q).2.2.2.2.1; omega), rfl, rfl, rfl⟩ dX3_readOne_196
    · -- 54 lt -> 57
      have tn0 := hq.an (by omega)
      have tn1 := hq.en tn0
      have tnr := hq.nr
      have tnt := nmOf_2 tn0
      have hiN := TkR_lt hK r3 (by omega)
      refine x_al0 dX3_readOne_57 ?_
      refine x_il2 dX3_readOne_58 ?_
      refine x_bipush dX3_readOne_59 ?_
      refine x_icmp_lt (tgt := 71) dX3_readOne_61 (inr (by omega)) (inr (by decide)) (fun c61_12 => ?_) (fun c61_12 => ?_)
      · -- 61 lt -> 71
        refine x_iconst dX3_readOne_71 ?_
        refine x_goto (tgt := 76) dX3_readOne_72 ?_
        refine x_iconst dX3_readOne_76 ?_
        refine x_cVi mm_X3_take ml_X3_125 dX3_readOne_77 (c_X3_take 1 5 hS (by omega) (by omega) (inr (by omega)) (inr (by omega)) (inr (by decide))) (sh_277 hS) (lq_277 hS) ?_ (hlev := by omega)
        refine x_mem (V' := (up V 277 (ua (V 277) 8 (V 277 8 + 1)))) (upE rfl (takF_1 (show (V 277) 2 = 0 by omega) (show (V 277) 8 + 1 < (V 277) 7 by omega))) ?_
        refine x_topI (a' := 1) (takV_1 (show (V 277) 2 = 0 by omega)) ?_
        refine x_pop dX3_readOne_80 ?_
        refine x_al0 dX3_readOne_81 ?_
        refine x_il2 dX3_readOne_82 ?_
        refine x_ineg dX3_readOne_83 ?_
        refine x_cVv mm_X3_emit ml_X3_157 dX3_readOne_84 (c_X3_emit (-(V 279 (V 277 8))) hS (show 0 ≤ (V 277 13) ∧ (V 277 13) ≤ 300 from (by omega))) (sh_277 hS) (lq_277 hS) ?_ (hlev := by omega)
        refine x_mem (V' := (up (up V 277 (emf (ua (V 277) 8 (V 277 8 + 1)))) 283 (emc (ua (V 277) 8 (V 277 8 + 1)) (V 283) (-(V 279 (V 277 8)))))) (congrArg (fun z => up z 283 _) (up_up _ _ _ _)) ?_
        refine x_mem (V' := (up (up V 277 (ua (ua (V 277) 8 (V 277 8 + 1)) 13 (V 277 13 + 1))) 283 (ua (V 283) (V 277 13) (-(V 279 (V 277 8)))))) (upE (upE rfl ((if_pos (show (ua (V 277) 8 (V 277 8 + 1)) 13 < 300 by rw [(show (ua (V 277) 8 (V 277 8 + 1)) 13 = V 277 13 from (ua_ne (by decide)))]; omega)).trans (congrArg (fun zz => ua (ua (V 277) 8 (V 277 8 + 1)) 13 (zz + 1)) (show (ua (V 277) 8 (V 277 8 + 1)) 13 = V 277 13 from (ua_ne (by decide)))))) ((if_pos (show (ua (V 277) 8 (V 277 8 + 1)) 13 < 300 by rw [(show (ua (V 277) 8 (V 277 8 + 1)) 13 = V 277 13 from (ua_ne (by decide)))]; omega)).trans (congrArg (fun zz => ua (V 283) zz (-(V 279 (V 277 8)))) (show (ua (V 277) 8 (V 277 8 + 1)) 13 = V 277 13 from (ua_ne (by decide)))))) ?_
        refine x_goto (tgt := 196) dX3_readOne_87 ?_
        exact x_vret hQ ⟨ua (ua (V 277) 8 (V 277 8 + 1)) 13 (V 277 13 + 1), ua (V 283) (V 277 13) (-(V 279 (V 277 8))), CP_one (u := u) (c := (1, tNm T n (pos T n i))) (TkR_lt hK r3 (by omega)) hR ((enc_1 rfl).trans (by show -(32 + tNm T n (pos T n i)) = _; omega)) (G_name t1n tn0 (fun z => by first | (exfalso; omega) | (exact z.2 (r9.x (by omega))))), rfl, rfl, rfl⟩ dX3_readOne_196
      · -- 61 lt -> 64
        refine x_al0 dX3_readOne_64 ?_
        refine x_getZ fl_X3_129 (sh_277 hS) (lq_277 hS) dX3_readOne_65 ?_
        refine x_topI (a' := V 277 9) rfl ?_
        refine x_if_eq (tgt := 75) dX3_readOne_68 (inr (by omega)) (fun c68_13 => ?_) (fun c68_13 => ?_)
        · -- 68 eq -> 75
          refine x_iconst dX3_readOne_75 ?_
          refine x_iconst dX3_readOne_76 ?_
          refine x_cVi mm_X3_take ml_X3_125 dX3_readOne_77 (c_X3_take 0 5 hS (by omega) (by omega) (inr (by omega)) (inr (by omega)) (inr (by decide))) (sh_277 hS) (lq_277 hS) ?_ (hlev := by omega)
          refine x_mem (V' := (up V 277 (ua (ua (V 277) 2 5) 3 (V 280 (V 277 8))))) (upE rfl (takF_0 (show (V 277) 2 = 0 by omega))) ?_
          refine x_topI (a' := 0) (takV_1 (show (V 277) 2 = 0 by omega)) ?_
          refine x_pop dX3_readOne_80 ?_
          refine x_al0 dX3_readOne_81 ?_
          refine x_il2 dX3_readOne_82 ?_
          refine x_ineg dX3_readOne_83 ?_
          refine x_cVv mm_X3_emit ml_X3_157 dX3_readOne_84 (c_X3_emit (-(V 279 (V 277 8))) hS (show 0 ≤ (V 277 13) ∧ (V 277 13) ≤ 300 from (by omega))) (sh_277 hS) (lq_277 hS) ?_ (hlev := by omega)
          refine x_mem (V' := (up (up V 277 (emf (ua (ua (V 277) 2 5) 3 (V 280 (V 277 8))))) 283 (emc (ua (ua (V 277) 2 5) 3 (V 280 (V 277 8))) (V 283) (-(V 279 (V 277 8)))))) (congrArg (fun z => up z 283 _) (up_up _ _ _ _)) ?_
          refine x_goto (tgt := 196) dX3_readOne_87 ?_
          exact x_vret hQ ⟨emf (ua (ua (V 277) 2 5) 3 (V 280 (V 277 8))), emc (ua (ua (V 277) 2 5) 3 (V 280 (V 277 8))) (V 283) (-(V 279 (V 277 8))), CP_e (cd1 := V 283) (CP_f (sr := V 280) ⟨r8, r3⟩ (by omega) (by decide) hsr (G_nameF t1n tn0 ⟨by omega, fun z => by have q := r9.y z; omega⟩)) (by rw [ua_ne (by decide), ua_same]; decide), rfl, rfl, rfl⟩ dX3_readOne_196
        · -- 68 eq -> 71
          refine x_iconst dX3_readOne_71 ?_
          refine x_goto (tgt := 76) dX3_readOne_72 ?_
          refine x_iconst dX3_readOne_76 ?_
          refine x_cVi mm_X3_take ml_X3_125 dX3_readOne_77 (c_X3_take 1 5 hS (by omega) (by omega) (inr (by omega)) (inr (by omega)) (inr (by decide))) (sh_277 hS) (lq_277 hS) ?_ (hlev := by omega)
          refine x_mem (V' := (up V 277 (ua (V 277) 8 (V 277 8 + 1)))) (upE rfl (takF_1 (show (V 277) 2 = 0 by omega) (show (V 277) 8 + 1 < (V 277) 7 by omega))) ?_
          refine x_topI (a' := 1) (takV_1 (show (V 277) 2 = 0 by omega)) ?_
          refine x_pop dX3_readOne_80 ?_
          refine x_al0 dX3_readOne_81 ?_
          refine x_il2 dX3_readOne_82 ?_
          refine x_ineg dX3_readOne_83 ?_
          refine x_cVv mm_X3_emit ml_X3_157 dX3_readOne_84 (c_X3_emit (-(V 279 (V 277 8))) hS (show 0 ≤ (V 277 13) ∧ (V 277 13) ≤ 300 from (by omega))) (sh_277 hS) (lq_277 hS) ?_ (hlev := by omega)
          refine x_mem (V' := (up (up V 277 (emf (ua (V 277) 8 (V 277 8 + 1)))) 283 (emc (ua (V 277) 8 (V 277 8 + 1)) (V 283) (-(V 279 (V 277 8)))))) (congrArg (fun z => up z 283 _) (up_up _ _ _ _)) ?_
          refine x_mem (V' := (up (up V 277 (ua (ua (V 277) 8 (V 277 8 + 1)) 13 (V 277 13 + 1))) 283 (ua (V 283) (V 277 13) (-(V 279 (V 277 8)))))) (upE (upE rfl ((if_pos (show (ua (V 277) 8 (V 277 8 + 1)) 13 < 300 by rw [(show (ua (V 277) 8 (V 277 8 + 1)) 13 = V 277 13 from (ua_ne (by decide)))]; omega)).trans (congrArg (fun zz => ua (ua (V 277) 8 (V 277 8 + 1)) 13 (zz + 1)) (show (ua (V 277) 8 (V 277 8 + 1)) 13 = V 277 13 from (ua_ne (by decide)))))) ((if_pos (show (ua (V 277) 8 (V 277 8 + 1)) 13 < 300 by rw [(show (ua (V 277) 8 (V 277 8 + 1)) 13 = V 277 13 from (ua_ne (by decide)))]; omega)).trans (congrArg (fun zz => ua (V 283) zz (-(V 279 (V 277 8)))) (show (ua (V 277) 8 (V 277 8 + 1)) 13 = V 277 13 from (ua_ne (by decide)))))) ?_
          refine x_goto (tgt := 196) dX3_readOne_87 ?_
          exact x_vret hQ ⟨ua (ua (V 277) 8 (V 277 8 + 1)) 13 (V 277 13 + 1), ua (V 283) (V 277 13) (-(V 279 (V 277 8))), CP_one (u := u) (c := (1, tNm T n (pos T n i))) (TkR_lt hK r3 (by omega)) hR ((enc_1 rfl).trans (by show -(32 + tNm T n (pos T n i)) = _; omega)) (G_name t1n tn0 (fun z => by first | (exfalso; omega) | (exact z.2 (r9.x (by omega))))), rfl, rfl, rfl⟩ dX3_readOne_196
  · -- 22 ne -> 25
    have t1 := hq.a2 (by omega)
    have hiN := TkR_lt hK r3 (by omega)
    refine x_al0 dX3_readOne_25 ?_
    refine x_il3 dX3_readOne_26 ?_
    refine x_sipush dX3_readOne_27 ?_
    refine x_icmp_gt (tgt := 37) dX3_readOne_30 (inr (by omega)) (inr (by decide)) (fun c30_14 => ?_) (fun c30_14 => ?_)
    · -- 30 gt -> 37
      refine x_iconst dX3_readOne_37 ?_
      refine x_iconst dX3_readOne_38 ?_
      refine x_cVi mm_X3_take ml_X3_125 dX3_readOne_39 (c_X3_take 0 2 hS (by omega) (by omega) (inr (by omega)) (inr (by omega)) (inr (by decide))) (sh_277 hS) (lq_277 hS) ?_ (hlev := by omega)
      refine x_mem (V' := (up V 277 (ua (ua (V 277) 2 2) 3 (V 280 (V 277 8))))) (upE rfl (takF_0 (show (V 277) 2 = 0 by omega))) ?_
      refine x_topI (a' := 0) (takV_1 (show (V 277) 2 = 0 by omega)) ?_
      refine x_pop dX3_readOne_42 ?_
      refine x_al0 dX3_readOne_43 ?_
      refine x_il3 dX3_readOne_44 ?_
      refine x_cVv mm_X3_emit ml_X3_157 dX3_readOne_45 (c_X3_emit (V 281 (V 277 8)) hS (show 0 ≤ (V 277 13) ∧ (V 277 13) ≤ 300 from (by omega))) (sh_277 hS) (lq_277 hS) ?_ (hlev := by omega)
      refine x_mem (V' := (up (up V 277 (emf (ua (ua (V 277) 2 2) 3 (V 280 (V 277 8))))) 283 (emc (ua (ua (V 277) 2 2) 3 (V 280 (V 277 8))) (V 283) (V 281 (V 277 8))))) (congrArg (fun z => up z 283 _) (up_up _ _ _ _)) ?_
      refine x_goto (tgt := 196) dX3_readOne_48 ?_
      exact x_vret hQ ⟨emf (ua (ua (V 277) 2 2) 3 (V 280 (V 277 8))), emc (ua (ua (V 277) 2 2) 3 (V 280 (V 277 8))) (V 283) (V 281 (V 277 8)), CP_e (cd1 := V 283) (CP_f (sr := V 280) ⟨r8, r3⟩ (by omega) (by decide) hsr (G_numF t1 (by have q := ((cVl_q hTp hp.2).2 t1).1; rw [← hvl] at q; omega))) (by rw [ua_ne (by decide), ua_same]; decide), rfl, rfl, rfl⟩ dX3_readOne_196
    · -- 30 gt -> 33
      refine x_iconst dX3_readOne_33 ?_
      refine x_goto (tgt := 38) dX3_readOne_34 ?_
      refine x_iconst dX3_readOne_38 ?_
      refine x_cVi mm_X3_take ml_X3_125 dX3_readOne_39 (c_X3_take 1 2 hS (by omega) (by omega) (inr (by omega)) (inr (by omega)) (inr (by decide))) (sh_277 hS) (lq_277 hS) ?_ (hlev := by omega)
      refine x_mem (V' := (up V 277 (ua (V 277) 8 (V 277 8 + 1)))) (upE rfl (takF_1 (show (V 277) 2 = 0 by omega) (show (V 277) 8 + 1 < (V 277) 7 by omega))) ?_
      refine x_topI (a' := 1) (takV_1 (show (V 277) 2 = 0 by omega)) ?_
      refine x_pop dX3_readOne_42 ?_
      refine x_al0 dX3_readOne_43 ?_
      refine x_il3 dX3_readOne_44 ?_
      refine x_cVv mm_X3_emit ml_X3_157 dX3_readOne_45 (c_X3_emit (V 281 (V 277 8)) hS (show 0 ≤ (V 277 13) ∧ (V 277 13) ≤ 300 from (by omega))) (sh_277 hS) (lq_277 hS) ?_ (hlev := by omega)
      refine x_mem (V' := (up (up V 277 (emf (ua (V 277) 8 (V 277 8 + 1)))) 283 (emc (ua (V 277) 8 (V 277 8 + 1)) (V 283) (V 281 (V 277 8))))) (congrArg (fun z => up z 283 _) (up_up _ _ _ _)) ?_
      refine x_mem (V' := (up (up V 277 (ua (ua (V 277) 8 (V 277 8 + 1)) 13 (V 277 13 + 1))) 283 (ua (V 283) (V 277 13) (V 281 (V 277 8))))) (upE (upE rfl ((if_pos (show (ua (V 277) 8 (V 277 8 + 1)) 13 < 300 by rw [(show (ua (V 277) 8 (V 277 8 + 1)) 13 = V 277 13 from (ua_ne (by decide)))]; omega)).trans (congrArg (fun zz => ua (ua (V 277) 8 (V 277 8 + 1)) 13 (zz + 1)) (show (ua (V 277) 8 (V 277 8 + 1)) 13 = V 277 13 from (ua_ne (by decide)))))) ((if_pos (show (ua (V 277) 8 (V 277 8 + 1)) 13 < 300 by rw [(show (ua (V 277) 8 (V 277 8 + 1)) 13 = V 277 13 from (ua_ne (by decide)))]; omega)).trans (congrArg (fun zz => ua (V 283) zz (V 281 (V 277 8))) (show (ua (V 277) 8 (V 277 8 + 1)) 13 = V 277 13 from (ua_ne (by decide)))))) ?_
      refine x_goto (tgt := 196) dX3_readOne_48 ?_
      exact x_vret hQ ⟨ua (ua (V 277) 8 (V 277 8 + 1)) 13 (V 277 13 + 1), ua (V 283) (V 277 13) (V 281 (V 277 8)), CP_one (u := u) (c := (0, tNum T n (pos T n i))) (TkR_lt hK r3 (by omega)) hR (by have q := (cVl_q hTp hp.2).2 t1; rw [← hvl] at q; have q1 := q.1.mp (by omega); exact (enc_0 rfl).trans (q.2 q1).symm) (G_num t1 (by have q := ((cVl_q hTp hp.2).2 t1).1; rw [← hvl] at q; exact q.mp (by omega))), rfl, rfl, rfl⟩ dX3_readOne_196
