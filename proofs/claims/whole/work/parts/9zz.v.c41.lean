set_option maxRecDepth 100000 in
set_option maxHeartbeats 4000000 in
theorem c_X3_read {B : Bs} {S : Stt} {V : Va} (hS : Stat S) (hTp : ∀ k, 0 ≤ V 278 k ∧ V 278 k < 256) (hn : 0 ≤ V 277 1 ∧ V 277 1 ≤ 300) : C B yX3_read cX3_read 2 (some (.object "NineGraves$Text")) 24 6 428 [vR B 277] S V (rRd B S V) := by
  refine C.of [some (vR B 277), none] ?_
  intro Γ hQ
  refine x_al0 dX3_read_0 ?_
  refine x_cVvR mm_X3_split ml_X3_49 dX3_read_1 (c_X3_split hS hTp hn) (sh_277 hS) (lq_277 hS) (fun W1 hw1 => ?_)
  obtain ⟨N, tk, sr, vl, hWe, hTk⟩ := hw1
  refine x_mem (V' := (up (up (up (up V 277 (ua (V 277) 7 (N + 1))) 279 tk) 280 sr) 281 vl)) hWe ?_
  clear hWe
  refine x_al0 dX3_read_4 ?_
  refine x_iconst dX3_read_5 ?_
  refine x_putI fl_X3_46 (sh_277 hS) (lq_277 hS) dX3_read_6 ?_
  refine x_mem (V' := (up (up (up (up V 277 (ua (ua (V 277) 7 (N + 1)) 1 0)) 279 tk) 280 sr) 281 vl)) (st2_c (by decide) (st2_c (by decide) (st2_c (by decide) (st2_up _ _ _ _ _)))) ?_
  refine x_al0 dX3_read_9 ?_
  refine x_iconst dX3_read_10 ?_
  refine x_putI fl_X3_15 (sh_277 hS) (lq_277 hS) dX3_read_11 ?_
  refine x_mem (V' := (up (up (up (up V 277 (ua (ua (ua (V 277) 7 (N + 1)) 1 0) 2 0)) 279 tk) 280 sr) 281 vl)) (st2_c (by decide) (st2_c (by decide) (st2_c (by decide) (st2_up _ _ _ _ _)))) ?_
  refine x_al0 dX3_read_14 ?_
  refine x_iconst dX3_read_15 ?_
  refine x_putI fl_X3_19 (sh_277 hS) (lq_277 hS) dX3_read_16 ?_
  refine x_mem (V' := (up (up (up (up V 277 (ua (ua (ua (ua (V 277) 7 (N + 1)) 1 0) 2 0) 3 (-1))) 279 tk) 280 sr) 281 vl)) (st2_c (by decide) (st2_c (by decide) (st2_c (by decide) (st2_up _ _ _ _ _)))) ?_
  refine x_al0 dX3_read_19 ?_
  refine x_iconst dX3_read_20 ?_
  refine x_putI fl_X3_52 (sh_277 hS) (lq_277 hS) dX3_read_21 ?_
  refine x_mem (V' := (up (up (up (up V 277 (ua (ua (ua (ua (ua (V 277) 7 (N + 1)) 1 0) 2 0) 3 (-1)) 8 0)) 279 tk) 280 sr) 281 vl)) (st2_c (by decide) (st2_c (by decide) (st2_c (by decide) (st2_up _ _ _ _ _)))) ?_
  refine x_al0 dX3_read_24 ?_
  refine x_iconst dX3_read_25 ?_
  refine x_putI fl_X3_55 (sh_277 hS) (lq_277 hS) dX3_read_26 ?_
  refine x_mem (V' := (up (up (up (up V 277 (ua (ua (ua (ua (ua (ua (V 277) 7 (N + 1)) 1 0) 2 0) 3 (-1)) 8 0) 11 0)) 279 tk) 280 sr) 281 vl)) (st2_c (by decide) (st2_c (by decide) (st2_c (by decide) (st2_up _ _ _ _ _)))) ?_
  refine x_al0 dX3_read_29 ?_
  refine x_iconst dX3_read_30 ?_
  refine x_putI fl_X3_58 (sh_277 hS) (lq_277 hS) dX3_read_31 ?_
  refine x_mem (V' := (up (up (up (up V 277 (ua (ua (ua (ua (ua (ua (ua (V 277) 7 (N + 1)) 1 0) 2 0) 3 (-1)) 8 0) 11 0) 13 0)) 279 tk) 280 sr) 281 vl)) (st2_c (by decide) (st2_c (by decide) (st2_c (by decide) (st2_up _ _ _ _ _)))) ?_
  refine x_al0 dX3_read_34 ?_
  refine x_getR fl_X3_37 (sh_277 hS) (lq_277 hS) (rf_277_14 hS) dX3_read_35 ?_
  refine x_iconst dX3_read_38 ?_
  refine x_cSv mm_J7_fill_53178 ml_X3_61 dX3_read_39 (c_J7_fill_284 (-1) hS) ?_
  refine x_mem (V' := (up (up (up (up (up V 277 (ua (ua (ua (ua (ua (ua (ua (V 277) 7 (N + 1)) 1 0) 2 0) 3 (-1)) 8 0) 11 0) 13 0)) 279 tk) 280 sr) 281 vl) 284 (filK (V 284) (fun _ => (-1)) 3))) rfl ?_
  refine x_al0 dX3_read_42 ?_
  refine x_getR fl_X3_43 (sh_277 hS) (lq_277 hS) (rf_277_16 hS) dX3_read_43 ?_
  refine x_iconst dX3_read_46 ?_
  refine x_cSv mm_J7_fill_53178 ml_X3_61 dX3_read_47 (c_J7_fill_286 0 hS) ?_
  refine x_mem (V' := (up (up (up (up (up (up V 277 (ua (ua (ua (ua (ua (ua (ua (V 277) 7 (N + 1)) 1 0) 2 0) 3 (-1)) 8 0) 11 0) 13 0)) 279 tk) 280 sr) 281 vl) 284 (filK (V 284) (fun _ => (-1)) 3)) 286 (filK (V 286) (fun _ => 0) 20))) rfl ?_
  refine x_iconst dX3_read_50 ?_
  refine x_is1 dX3_read_51 ?_
  have lp52 : ∀ (N52 : Nat) (c : Int) (f : Int → Int) (cl : Int → Int) (cd : Int → Int) (fr : Int → Int) (tw : Int → Int) (my : Int → Int), (0 ≤ c ∧ c ≤ 25) → (RdX (V 278) (V 277 1) N c f cl cd fr tw my) → (25 - c).toNat < N52 → X Γ B RX3 "read" cX3_read 2 (some (.object "NineGraves$Text")) 24 6 428 52 [some (vR B 277), some (vI c)] [] 0 0 S (up (up (up (up (up (up (up (up (up V 277 f) 279 tk) 280 sr) 281 vl) 282 cl) 283 cd) 284 fr) 285 tw) 286 my) := by
    intro N52
    induction N52 with
    | zero => intro c f cl cd fr tw my hc hX hN; exact absurd hN (Nat.not_lt_zero _)
    | succ N52 ih52 =>
      intro c f cl cd fr tw my hc hX hN52
      have hxq := RdX_q hX
      have hbk := TkR_r hTk hxq.2.1.1 hxq.2.1.2
      have hN3 := hTk.1
      refine x_il1 dX3_read_52 ?_
      refine x_bipush dX3_read_53 ?_
      refine x_icmp_gt (tgt := 87) dX3_read_55 (inr (by omega)) (inr (by decide)) (fun c55_2 => ?_) (fun c55_2 => ?_)
      · -- 55 gt -> 87
        refine x_al0 dX3_read_87 ?_
        refine x_getI fl_X3_15 (sh_277 hS) (lq_277 hS) dX3_read_88 ?_
        refine x_topI (a' := f 2) rfl ?_
        refine x_if_ne (tgt := 105) dX3_read_91 (inr (by omega)) (fun c91_3 => ?_) (fun c91_3 => ?_)
        · -- 91 ne -> 105
          refine x_widen (kc' := 6) (ks' := 428) (by decide) (by decide) ?_
          refine x_null dX3_read_105 ?_
          exact x_aret (r := none) hQ ⟨hX.1.1, fun q q0 q1 => (by simp only [up]; (repeat rw [if_neg (by omega)])), Or.inl (by obtain ⟨q, cs, z1, z2, z3, z4, _⟩ := hX.2.resolve_left (fun ⟨cs, i, z, _⟩ => absurd z.1.1 (by omega)); exact ⟨q, cs, z1, z2, z3, z4, rfl, rfl⟩)⟩ dX3_read_106
        · -- 91 ne -> 94
          have hz : f 2 = 0 := by omega
          obtain ⟨cs, i, hI, hlen, hL⟩ := hX.2.resolve_right (fun ⟨q, _, _, z, _⟩ => z hz)
          have htt : tTok (V 278) (V 277 1) (pos (V 278) (V 277 1) i) = 0 := by by_cases c25 : 24 < c; (have := hxq.2.2 hz; omega); (have z := (TkQ_mk (show tk (f 8) = cTk (V 278) (V 277 1) (pos (V 278) (V 277 1) i) by rw [hI.1.2.2.1]; exact (hTk.2.1 i hI.1.2.2.2.1).1)).a0 (by omega); exact z)
          have hR0 : TxR (V 278) (V 277 1) 0 (pos (V 278) (V 277 1) i) cs := hL 1 0 _ cs (Or.inl ⟨htt, rfl, rfl, rfl⟩)
          have h326 : 326 ≤ S.2.2 := hS.2.2
          obtain ⟨V3, hV3⟩ : ∃ z : Va, z = (up (up (up (up (up (up (up (up (up V 277 f) 279 tk) 280 sr) 281 vl) 282 cl) 283 cd) 284 fr) 285 tw) 286 my) := ⟨_, rfl⟩
          have v277 : V3 277 = f := by rw [hV3]; rfl
          have v282 : V3 282 = cl := by rw [hV3]; rfl
          have v283 : V3 283 = cd := by rw [hV3]; rfl
          have v284 : V3 284 = fr := by rw [hV3]; rfl
          have v285 : V3 285 = tw := by rw [hV3]; rfl
          have v286 : V3 286 = my := by rw [hV3]; rfl
          have vot : ∀ q, (q < 277 ∨ 286 < q ∨ q = 278) → V3 q = V q := fun q hq => by rw [hV3]; simp only [up]; (repeat rw [if_neg (by omega)])
          rw [← hV3]
          refine x_newo (ci := 8) (by decide) cl_X3_70 ins_8 (tb_1 20 rfl rfl) ⟨by decide, by decide⟩ dX3_read_94 ?_
          refine x_dup dX3_read_97 ?_
          refine x_al0 dX3_read_98 ?_
          have nv : ∀ q, q < S.2.2 → nV S V3 (fun _ => 0) q = V3 q := fun q hq => up_ne (by omega)
          refine x_cItx mm_X8_init ml_X3_72 dX3_read_99 (c_X8_init S.2.2 cs.length (codeL cs).length (Stat_nS hS _) rfl h326 (up_same _ _ _) (by rw [nv 277 (by omega), v277]; exact hI.1.2.2.2.2.2.1) hI.1.2.2.2.2.2.2.1 (by rw [nv 277 (by omega), v277]; exact hI.1.2.2.2.2.2.2.2.1) (by have := hI.1.2.2.2.2.2.2.2.2; have := hI.1.2.2.2.1; have := hTk.1; omega)) (fun S4 V4 h4 => ?_)
          obtain ⟨-, g1, g2, g3, ⟨g4, g5, g6, g7, g8, g9⟩, g10⟩ := h4
          refine x_goto (tgt := 106) dX3_read_102 ?_
          have vq : ∀ q, q < S.2.2 → V4 q = V3 q := fun q hq => (g10 q hq).2.2.trans (nv q hq)
          refine x_aret (r := some S.2.2) hQ ⟨?_, fun q q0 q1 => ?_, Or.inr ⟨_, cs, hR0, ?_, ?_, rfl, g2, g1, g3, ⟨g4, ?_⟩, fun q hq => ⟨?_, ?_⟩⟩⟩ dX3_read_106
          · rw [vq 277 (by omega), v277]; exact hX.1.1
          · rw [vq q q0]; exact vot q q1
          · rw [vq 277 (by omega), v277]; exact hz
          · rw [vq 277 (by omega), v277]; exact hI.1.2.1
          · rw [g7, g8, g9, nv 284 (by omega), nv 285 (by omega), nv 286 (by omega), v284, v285, v286]
            exact TxD_mk hTk.1 hI (fun k k0 k1 => by rw [g5 k k0 k1, nv 282 (by omega), v282]) (fun k k0 k1 => by rw [g6 k k0 k1, nv 283 (by omega), v283])
          · rw [(g10 q hq).1]; exact up_ne (by omega)
          · rw [(g10 q hq).2.1]; exact up_ne (by omega)
      · -- 55 gt -> 58
        refine x_al0 dX3_read_58 ?_
        refine x_getI fl_X3_15 (sh_277 hS) (lq_277 hS) dX3_read_59 ?_
        refine x_topI (a' := f 2) rfl ?_
        refine x_if_ne (tgt := 87) dX3_read_62 (inr (by omega)) (fun c62_4 => ?_) (fun c62_4 => ?_)
        · -- 62 ne -> 87
          refine x_al0 dX3_read_87 ?_
          refine x_getI fl_X3_15 (sh_277 hS) (lq_277 hS) dX3_read_88 ?_
          refine x_topI (a' := f 2) rfl ?_
          refine x_if_ne (tgt := 105) dX3_read_91 (inr (by omega)) (fun c91_5 => ?_) (fun c91_5 => ?_)
          · -- 91 ne -> 105
            refine x_widen (kc' := 6) (ks' := 428) (by decide) (by decide) ?_
            refine x_null dX3_read_105 ?_
            exact x_aret (r := none) hQ ⟨hX.1.1, fun q q0 q1 => (by simp only [up]; (repeat rw [if_neg (by omega)])), Or.inl (by obtain ⟨q, cs, z1, z2, z3, z4, _⟩ := hX.2.resolve_left (fun ⟨cs, i, z, _⟩ => absurd z.1.1 (by omega)); exact ⟨q, cs, z1, z2, z3, z4, rfl, rfl⟩)⟩ dX3_read_106
          · -- 91 ne -> 94
            have hz : f 2 = 0 := by omega
            obtain ⟨cs, i, hI, hlen, hL⟩ := hX.2.resolve_right (fun ⟨q, _, _, z, _⟩ => z hz)
            have htt : tTok (V 278) (V 277 1) (pos (V 278) (V 277 1) i) = 0 := by by_cases c25 : 24 < c; (have := hxq.2.2 hz; omega); (have z := (TkQ_mk (show tk (f 8) = cTk (V 278) (V 277 1) (pos (V 278) (V 277 1) i) by rw [hI.1.2.2.1]; exact (hTk.2.1 i hI.1.2.2.2.1).1)).a0 (by omega); exact z)
            have hR0 : TxR (V 278) (V 277 1) 0 (pos (V 278) (V 277 1) i) cs := hL 1 0 _ cs (Or.inl ⟨htt, rfl, rfl, rfl⟩)
            have h326 : 326 ≤ S.2.2 := hS.2.2
            obtain ⟨V3, hV3⟩ : ∃ z : Va, z = (up (up (up (up (up (up (up (up (up V 277 f) 279 tk) 280 sr) 281 vl) 282 cl) 283 cd) 284 fr) 285 tw) 286 my) := ⟨_, rfl⟩
            have v277 : V3 277 = f := by rw [hV3]; rfl
            have v282 : V3 282 = cl := by rw [hV3]; rfl
            have v283 : V3 283 = cd := by rw [hV3]; rfl
            have v284 : V3 284 = fr := by rw [hV3]; rfl
            have v285 : V3 285 = tw := by rw [hV3]; rfl
            have v286 : V3 286 = my := by rw [hV3]; rfl
            have vot : ∀ q, (q < 277 ∨ 286 < q ∨ q = 278) → V3 q = V q := fun q hq => by rw [hV3]; simp only [up]; (repeat rw [if_neg (by omega)])
            rw [← hV3]
            refine x_newo (ci := 8) (by decide) cl_X3_70 ins_8 (tb_1 20 rfl rfl) ⟨by decide, by decide⟩ dX3_read_94 ?_
            refine x_dup dX3_read_97 ?_
            refine x_al0 dX3_read_98 ?_
            have nv : ∀ q, q < S.2.2 → nV S V3 (fun _ => 0) q = V3 q := fun q hq => up_ne (by omega)
            refine x_cItx mm_X8_init ml_X3_72 dX3_read_99 (c_X8_init S.2.2 cs.length (codeL cs).length (Stat_nS hS _) rfl h326 (up_same _ _ _) (by rw [nv 277 (by omega), v277]; exact hI.1.2.2.2.2.2.1) hI.1.2.2.2.2.2.2.1 (by rw [nv 277 (by omega), v277]; exact hI.1.2.2.2.2.2.2.2.1) (by have := hI.1.2.2.2.2.2.2.2.2; have := hI.1.2.2.2.1; have := hTk.1; omega)) (fun S4 V4 h4 => ?_)
            obtain ⟨-, g1, g2, g3, ⟨g4, g5, g6, g7, g8, g9⟩, g10⟩ := h4
            refine x_goto (tgt := 106) dX3_read_102 ?_
            have vq : ∀ q, q < S.2.2 → V4 q = V3 q := fun q hq => (g10 q hq).2.2.trans (nv q hq)
            refine x_aret (r := some S.2.2) hQ ⟨?_, fun q q0 q1 => ?_, Or.inr ⟨_, cs, hR0, ?_, ?_, rfl, g2, g1, g3, ⟨g4, ?_⟩, fun q hq => ⟨?_, ?_⟩⟩⟩ dX3_read_106
            · rw [vq 277 (by omega), v277]; exact hX.1.1
            · rw [vq q q0]; exact vot q q1
            · rw [vq 277 (by omega), v277]; exact hz
            · rw [vq 277 (by omega), v277]; exact hI.1.2.1
            · rw [g7, g8, g9, nv 284 (by omega), nv 285 (by omega), nv 286 (by omega), v284, v285, v286]
              exact TxD_mk hTk.1 hI (fun k k0 k1 => by rw [g5 k k0 k1, nv 282 (by omega), v282]) (fun k k0 k1 => by rw [g6 k k0 k1, nv 283 (by omega), v283])
            · rw [(g10 q hq).1]; exact up_ne (by omega)
            · rw [(g10 q hq).2.1]; exact up_ne (by omega)
        · -- 62 ne -> 65
          refine x_al0 dX3_read_65 ?_
          refine x_getR fl_X3_22 (sh_277 hS) (lq_277 hS) (rf_277_4 hS) dX3_read_66 ?_
          refine x_al0 dX3_read_69 ?_
          refine x_getI fl_X3_52 (sh_277 hS) (lq_277 hS) dX3_read_70 ?_
          refine x_topI (a' := f 8) rfl ?_
          refine x_iald (sh_279 hS) (lq_279 hS) (by omega) (by omega) dX3_read_73 ?_
          refine x_topI (a' := tk (f 8)) rfl ?_
          refine x_if_eq (tgt := 87) dX3_read_74 (inr (by omega)) (fun c74_6 => ?_) (fun c74_6 => ?_)
          · -- 74 eq -> 87
            refine x_al0 dX3_read_87 ?_
            refine x_getI fl_X3_15 (sh_277 hS) (lq_277 hS) dX3_read_88 ?_
            refine x_topI (a' := f 2) rfl ?_
            refine x_if_ne (tgt := 105) dX3_read_91 (inr (by omega)) (fun c91_7 => ?_) (fun c91_7 => ?_)
            · -- 91 ne -> 105
              refine x_widen (kc' := 6) (ks' := 428) (by decide) (by decide) ?_
              refine x_null dX3_read_105 ?_
              exact x_aret (r := none) hQ ⟨hX.1.1, fun q q0 q1 => (by simp only [up]; (repeat rw [if_neg (by omega)])), Or.inl (by obtain ⟨q, cs, z1, z2, z3, z4, _⟩ := hX.2.resolve_left (fun ⟨cs, i, z, _⟩ => absurd z.1.1 (by omega)); exact ⟨q, cs, z1, z2, z3, z4, rfl, rfl⟩)⟩ dX3_read_106
            · -- 91 ne -> 94
              have hz : f 2 = 0 := by omega
              obtain ⟨cs, i, hI, hlen, hL⟩ := hX.2.resolve_right (fun ⟨q, _, _, z, _⟩ => z hz)
              have htt : tTok (V 278) (V 277 1) (pos (V 278) (V 277 1) i) = 0 := by by_cases c25 : 24 < c; (have := hxq.2.2 hz; omega); (have z := (TkQ_mk (show tk (f 8) = cTk (V 278) (V 277 1) (pos (V 278) (V 277 1) i) by rw [hI.1.2.2.1]; exact (hTk.2.1 i hI.1.2.2.2.1).1)).a0 (by omega); exact z)
              have hR0 : TxR (V 278) (V 277 1) 0 (pos (V 278) (V 277 1) i) cs := hL 1 0 _ cs (Or.inl ⟨htt, rfl, rfl, rfl⟩)
              have h326 : 326 ≤ S.2.2 := hS.2.2
              obtain ⟨V3, hV3⟩ : ∃ z : Va, z = (up (up (up (up (up (up (up (up (up V 277 f) 279 tk) 280 sr) 281 vl) 282 cl) 283 cd) 284 fr) 285 tw) 286 my) := ⟨_, rfl⟩
              have v277 : V3 277 = f := by rw [hV3]; rfl
              have v282 : V3 282 = cl := by rw [hV3]; rfl
              have v283 : V3 283 = cd := by rw [hV3]; rfl
              have v284 : V3 284 = fr := by rw [hV3]; rfl
              have v285 : V3 285 = tw := by rw [hV3]; rfl
              have v286 : V3 286 = my := by rw [hV3]; rfl
              have vot : ∀ q, (q < 277 ∨ 286 < q ∨ q = 278) → V3 q = V q := fun q hq => by rw [hV3]; simp only [up]; (repeat rw [if_neg (by omega)])
              rw [← hV3]
              refine x_newo (ci := 8) (by decide) cl_X3_70 ins_8 (tb_1 20 rfl rfl) ⟨by decide, by decide⟩ dX3_read_94 ?_
              refine x_dup dX3_read_97 ?_
              refine x_al0 dX3_read_98 ?_
              have nv : ∀ q, q < S.2.2 → nV S V3 (fun _ => 0) q = V3 q := fun q hq => up_ne (by omega)
              refine x_cItx mm_X8_init ml_X3_72 dX3_read_99 (c_X8_init S.2.2 cs.length (codeL cs).length (Stat_nS hS _) rfl h326 (up_same _ _ _) (by rw [nv 277 (by omega), v277]; exact hI.1.2.2.2.2.2.1) hI.1.2.2.2.2.2.2.1 (by rw [nv 277 (by omega), v277]; exact hI.1.2.2.2.2.2.2.2.1) (by have := hI.1.2.2.2.2.2.2.2.2; have := hI.1.2.2.2.1; have := hTk.1; omega)) (fun S4 V4 h4 => ?_)
              obtain ⟨-, g1, g2, g3, ⟨g4, g5, g6, g7, g8, g9⟩, g10⟩ := h4
              refine x_goto (tgt := 106) dX3_read_102 ?_
              have vq : ∀ q, q < S.2.2 → V4 q = V3 q := fun q hq => (g10 q hq).2.2.trans (nv q hq)
              refine x_aret (r := some S.2.2) hQ ⟨?_, fun q q0 q1 => ?_, Or.inr ⟨_, cs, hR0, ?_, ?_, rfl, g2, g1, g3, ⟨g4, ?_⟩, fun q hq => ⟨?_, ?_⟩⟩⟩ dX3_read_106
              · rw [vq 277 (by omega), v277]; exact hX.1.1
              · rw [vq q q0]; exact vot q q1
              · rw [vq 277 (by omega), v277]; exact hz
              · rw [vq 277 (by omega), v277]; exact hI.1.2.1
              · rw [g7, g8, g9, nv 284 (by omega), nv 285 (by omega), nv 286 (by omega), v284, v285, v286]
                exact TxD_mk hTk.1 hI (fun k k0 k1 => by rw [g5 k k0 k1, nv 282 (by omega), v282]) (fun k k0 k1 => by rw [g6 k k0 k1, nv 283 (by omega), v283])
              · rw [(g10 q hq).1]; exact up_ne (by omega)
              · rw [(g10 q hq).2.1]; exact up_ne (by omega)
          · -- 74 eq -> 77
            refine x_al0 dX3_read_77 ?_
            have hz : f 2 = 0 := by omega
            obtain ⟨cs, i, hI, hlen, hL⟩ := hX.2.resolve_right (fun ⟨q, _, _, z, _⟩ => z hz)
            have htt : tTok (V 278) (V 277 1) (pos (V 278) (V 277 1) i) ≠ 0 := by have z := (TkQ_mk (show tk (f 8) = cTk (V 278) (V 277 1) (pos (V 278) (V 277 1) i) by rw [hI.1.2.2.1]; exact (hTk.2.1 i hI.1.2.2.2.1).1)).b0 (by omega); exact z
            refine x_cVrc mm_X3_readClause ml_X3_67 dX3_read_78 (c_X3_readClause (V := (up (up (up (up (up (up (up (up (up V 277 f) 279 tk) 280 sr) 281 vl) 282 cl) 283 cd) 284 fr) 285 tw) 286 my)) (V 278) (V 277 1) N i cs hS (show RdH (V 278) (V 277 1) N (up (up (up (up (up (up (up (up (up V 277 f) 279 tk) 280 sr) 281 vl) 282 cl) 283 cd) 284 fr) 285 tw) 286 my) from ⟨hTk, hX.1.2, hn, hTp⟩) hI) (sh_277 hS) (lq_277 hS) (fun f1 cl1 cd1 fr1 tw1 my1 hc1 => ?_)
            have hc1 : ClC (V 278) (V 277 1) N cs i f f1 cl1 cd1 fr1 tw1 my1 := hc1
            refine x_mem (V' := (up (up (up (up (up (up (up (up (up V 277 f1) 279 tk) 280 sr) 281 vl) 282 cl1) 283 cd1) 284 fr1) 285 tw1) 286 my1)) (Eq.trans (Eq.trans (Eq.trans (Eq.trans (Eq.trans (congrArg (fun z => up z 286 _) (congrArg (fun z => up z 285 _) (congrArg (fun z => up z 284 _) (congrArg (fun z => up z 283 _) (congrArg (fun z => up z 282 _) (up_k (by decide) (up_k (by decide) (up_k (by decide) (up_k (by decide) (up_k (by decide) (up_k (by decide) (up_k (by decide) (up_k (by decide) (up_up _ _ _ _)))))))))))))) (congrArg (fun z => up z 286 _) (congrArg (fun z => up z 285 _) (congrArg (fun z => up z 284 _) (congrArg (fun z => up z 283 _) (up_k (by decide) (up_k (by decide) (up_k (by decide) (up_k (by decide) (up_up _ _ _ _)))))))))) (congrArg (fun z => up z 286 _) (congrArg (fun z => up z 285 _) (congrArg (fun z => up z 284 _) (up_k (by decide) (up_k (by decide) (up_k (by decide) (up_up _ _ _ _)))))))) (congrArg (fun z => up z 286 _) (congrArg (fun z => up z 285 _) (up_k (by decide) (up_k (by decide) (up_up _ _ _ _)))))) (congrArg (fun z => up z 286 _) (up_k (by decide) (up_up _ _ _ _)))) (up_up _ _ _ _)) ?_
            refine x_inc1 dX3_read_81 ?_
            refine x_goto (tgt := 52) dX3_read_84 ?_
            exact x_fg (ih52 (c + 1) f1 cl1 cd1 fr1 tw1 my1 (by omega) (RdX_s hX.1 hL hlen htt hc1) (by omega)) (And.intro rfl (And.intro rfl trivial))
  refine x_mem (V' := (up (up (up (up (up (up (up (up (up V 277 (ua (ua (ua (ua (ua (ua (ua (V 277) 7 (N + 1)) 1 0) 2 0) 3 (-1)) 8 0) 11 0) 13 0)) 279 tk) 280 sr) 281 vl) 282 (V 282)) 283 (V 283)) 284 (filK (V 284) (fun _ => (-1)) 3)) 285 (V 285)) 286 (filK (V 286) (fun _ => 0) 20))) (Eq.trans (Eq.trans (show _ = (up (up (up (up (up (up (up V 277 (ua (ua (ua (ua (ua (ua (ua (V 277) 7 (N + 1)) 1 0) 2 0) 3 (-1)) 8 0) 11 0) 13 0)) 279 tk) 280 sr) 281 vl) 282 (V 282)) 284 (filK (V 284) (fun _ => (-1)) 3)) 286 (filK (V 286) (fun _ => 0) 20)) from (Eq.trans (Eq.symm (up_self _ 282)) (up_k (by decide) (up_k (by decide) rfl)))) (show _ = (up (up (up (up (up (up (up (up V 277 (ua (ua (ua (ua (ua (ua (ua (V 277) 7 (N + 1)) 1 0) 2 0) 3 (-1)) 8 0) 11 0) 13 0)) 279 tk) 280 sr) 281 vl) 282 (V 282)) 283 (V 283)) 284 (filK (V 284) (fun _ => (-1)) 3)) 286 (filK (V 286) (fun _ => 0) 20)) from (Eq.trans (Eq.symm (up_self _ 283)) (up_k (by decide) (up_k (by decide) rfl))))) (show _ = (up (up (up (up (up (up (up (up (up V 277 (ua (ua (ua (ua (ua (ua (ua (V 277) 7 (N + 1)) 1 0) 2 0) 3 (-1)) 8 0) 11 0) 13 0)) 279 tk) 280 sr) 281 vl) 282 (V 282)) 283 (V 283)) 284 (filK (V 284) (fun _ => (-1)) 3)) 285 (V 285)) 286 (filK (V 286) (fun _ => 0) 20)) from (Eq.trans (Eq.symm (up_self _ 285)) (up_k (by decide) rfl)))) ?_
  exact x_fg (lp52 _ 0 (ua (ua (ua (ua (ua (ua (ua (V 277) 7 (N + 1)) 1 0) 2 0) 3 (-1)) 8 0) 11 0) 13 0) (V 282) (V 283) (filK (V 284) (fun _ => (-1)) 3) (V 285) (filK (V 286) (fun _ => 0) 20) (by omega) ⟨⟨rfl, rfl⟩, Or.inl ⟨[], 0, CsI_0 rfl rfl rfl rfl rfl rfl (fun s s0 s1 => filK_in s0 s1) (fun v v0 v1 => filK_in v0 v1), rfl, fun m r q d h => ⟨m, h⟩⟩⟩ (Nat.lt_succ_self _)) (And.intro rfl (And.intro rfl trivial))
