theorem bN_zero (m : Int) (h : 0 ≤ m) : bN 0 m = 0 := by
  have z : ∀ q : Nat, bN 0 (q : Int) = 0 := by
    intro q
    induction q with
    | zero => rfl
    | succ q ih =>
      have e : bN 0 ((q : Int) + 1) = bN 0 q + 0 / p2 q % 2 := sumT_s _ (by omega)
      rw [show ((q + 1 : Nat) : Int) = (q : Int) + 1 by omega, e, ih, Int.zero_ediv]
      rfl
  have := z m.toNat
  rwa [show ((m.toNat : Nat) : Int) = m by omega] at this

set_option maxRecDepth 100000 in
set_option maxHeartbeats 4000000 in
theorem c_X4_bitOf {B : Bs} {S : Stt} {V : Va} (i : Int) (hi : 0 ≤ i ∧ i ≤ 7) : C B yX4_bitOf cX4_bitOf 1 (some .int) 1 0 0 [vI i] S V (rI S V (bitI i)) := by
  refine C.of [some (vI i)] ?_
  intro Γ hQ
  have hp7 : p2 7 = 128 := by decide
  have hpa := p2_pos i
  have hpb := p2_le (t := i) (u := 7) (by omega)
  refine x_iconst dX4_bitOf_0 ?_
  refine x_il0 dX4_bitOf_1 ?_
  refine x_shl1 (by omega) (by omega) dX4_bitOf_2 ?_
  refine x_iconst dX4_bitOf_3 ?_
  refine x_ishr (inr (by omega)) (by decide) (by decide) dX4_bitOf_4 ?_
  exact x_iret hQ (rI.mk (bitI_eq hi.1) rfl) dX4_bitOf_5
set_option maxRecDepth 100000 in
set_option maxHeartbeats 4000000 in
theorem c_X4_milesBy {B : Bs} {S : Stt} {V : Va} (rest : Int) (last : Int) (next : Int) (hS : Stat S) (hr : 0 ≤ rest ∧ rest < 128) (hl : 0 ≤ last ∧ last < 8) (hx : 1 ≤ next ∧ next < 8) (hbt : rest / p2 (next - 1) % 2 = 1) : C B yX4_milesBy cX4_milesBy 4 (some .int) 2 0 0 [vR B 303, vI rest, vI last, vI next] S V (rI S V ((V 306) (last * 8 + next) + (V 307) ((rest - p2 (next - 1)) * 8 + next))) := by
  refine C.of [some (vR B 303), some (vI rest), some (vI last), some (vI next)] ?_
  intro Γ hQ
  have hbs := (bit_sub hr.1 (by omega) hbt).1
  have hpp := p2_pos (next - 1)
  refine x_al0 dX4_milesBy_0 ?_
  refine x_getR fl_X4_18 (sh_303 hS) (lq_303 hS) (rf_303_3 hS) dX4_milesBy_1 ?_
  refine x_il2 dX4_milesBy_4 ?_
  refine x_bipush dX4_milesBy_5 ?_
  refine x_imul dX4_milesBy_7 ?_
  refine x_il3 dX4_milesBy_8 ?_
  refine x_iadd dX4_milesBy_9 ?_
  refine x_iald (sh_306 hS) (lq_306 hS) (by omega) (by omega) dX4_milesBy_10 ?_
  refine x_topI (a' := V 306 ((last * 8) + next)) rfl ?_
  refine x_al0 dX4_milesBy_11 ?_
  refine x_getR fl_X4_21 (sh_303 hS) (lq_303 hS) (rf_303_4 hS) dX4_milesBy_12 ?_
  refine x_il1 dX4_milesBy_15 ?_
  refine x_il3 dX4_milesBy_16 ?_
  refine x_cSi mm_X4_bitOf ml_X4_62 dX4_milesBy_17 (c_X4_bitOf next (by omega)) ?_
  refine x_ixor (by omega) (bitI_r (by omega) (by omega)).1 dX4_milesBy_20 ?_
  refine x_topI (a' := rest - p2 (next - 1)) (by simp only [bitI]; rw [if_neg (by omega)]; exact bxor_sub hr.1 (by omega) hbt) ?_
  refine x_bipush dX4_milesBy_21 ?_
  refine x_imul dX4_milesBy_23 ?_
  refine x_il3 dX4_milesBy_24 ?_
  refine x_iadd dX4_milesBy_25 ?_
  refine x_iald (sh_307 hS) (lq_307 hS) (by omega) (by omega) dX4_milesBy_26 ?_
  refine x_topI (a' := V 307 (((rest - p2 (next - 1)) * 8) + next)) rfl ?_
  refine x_iadd dX4_milesBy_27 ?_
  exact x_iret hQ (rI.mk (by first | rfl | omega | (rw [if_pos (by omega)]) | (rw [if_neg (by omega)])) rfl) dX4_milesBy_28
set_option maxRecDepth 100000 in
set_option maxHeartbeats 4000000 in
theorem c_X4_fewestMiles {B : Bs} {S : Stt} {V : Va} (rest : Int) (last : Int) (hS : Stat S) (hr : 0 ≤ rest ∧ rest < 128) (hl : 0 ≤ last ∧ last < 8) (hn : 1 ≤ (V 303 5) ∧ (V 303 5) ≤ 8) (hD6 : ∀ q, 0 ≤ (V 306) q ∧ (V 306) q ≤ 198) (hH7 : ∀ q, 0 ≤ (V 307) q ∧ (V 307) q ≤ 1584) : C B yX4_fewestMiles cX4_fewestMiles 5 (some .int) 3 0 0 [vR B 303, vI rest, vI last] S V (rI S V (fwV (fun i j => (V 306) (i * 8 + j)) (V 303 5) (V 307) rest last)) := by
  refine C.of [some (vR B 303), some (vI rest), some (vI last), none, none] ?_
  intro Γ hQ
  refine x_il1 dX4_fewestMiles_0 ?_
  refine x_if_ne (tgt := 14) dX4_fewestMiles_1 (inr (by omega)) (fun c1_1 => ?_) (fun c1_1 => ?_)
  · -- 1 ne -> 14
    refine x_sipush dX4_fewestMiles_14 ?_
    refine x_is3 dX4_fewestMiles_17 ?_
    refine x_iconst dX4_fewestMiles_18 ?_
    refine x_is4 dX4_fewestMiles_19 ?_
    have lp21 : ∀ (N21 : Nat) (f : Int) (next : Int), (1 ≤ next ∧ next ≤ V 303 5) → (0 ≤ f ∧ f ≤ 1584) → (f = fwK (fun i j => V 306 (i * 8 + j)) (V 307) rest last (next - 1).toNat) → (V 303 5 - next).toNat < N21 → X Γ B RX4 "fewestMiles" cX4_fewestMiles 5 (some .int) 3 0 0 21 [some (vR B 303), some (vI rest), some (vI last), some (vI f), some (vI next)] [] 0 0 S V := by
      intro N21
      induction N21 with
      | zero => intro f next hx hfr hf hN; exact absurd hN (Nat.not_lt_zero _)
      | succ N21 ih21 =>
        intro f next hx hfr hf hN21
        refine x_il4 dX4_fewestMiles_21 ?_
        refine x_al0 dX4_fewestMiles_23 ?_
        refine x_getI fl_X4_53 (sh_303 hS) (lq_303 hS) dX4_fewestMiles_24 ?_
        refine x_topI (a' := V 303 5) rfl ?_
        refine x_icmp_ge (tgt := 59) dX4_fewestMiles_27 (inr (by omega)) (inr (by omega)) (fun c27_2 => ?_) (fun c27_2 => ?_)
        · -- 27 ge -> 59
          refine x_il3 dX4_fewestMiles_59 ?_
          exact x_iret hQ (rI.mk (by simp only [fwV]; rw [if_neg (by omega), hf, show next = V 303 5 by omega]) rfl) dX4_fewestMiles_60
        · -- 27 ge -> 30
          refine x_il1 dX4_fewestMiles_30 ?_
          refine x_il4 dX4_fewestMiles_31 ?_
          refine x_cSi mm_X4_bitOf ml_X4_62 dX4_fewestMiles_33 (c_X4_bitOf next (by omega)) ?_
          refine x_iand (by omega) (bitI_r (by omega) (by omega)).1 dX4_fewestMiles_36 ?_
          refine x_if_eq (tgt := 53) dX4_fewestMiles_37 (inr (by have := band_r (x := rest) (y := bitI next) (by omega); omega)) (fun c37_3 => ?_) (fun c37_3 => ?_)
          · -- 37 eq -> 53
            refine x_inc4 dX4_fewestMiles_53 ?_
            refine x_goto (tgt := 21) dX4_fewestMiles_56 ?_
            exact x_fg (ih21 f (next + 1) (by omega) (by first | omega | (split <;> omega)) (by rw [show (next + 1 - 1).toNat = (next - 1).toNat + 1 by omega]; simp only [fwK]; rw [show (((next - 1).toNat : Nat) : Int) = next - 1 by omega, show next - 1 + 1 = next by omega, ← hf]; first | (rw [if_pos hbt]) | (rw [if_neg (by have := band_off hr.1 hx.1 (by assumption); omega)])) (by omega)) (And.intro rfl (And.intro rfl (And.intro rfl (And.intro rfl (And.intro rfl trivial)))))
          · -- 37 eq -> 40
            have hbt := band_on hr.1 hx.1 c37_3
            have q6 := hD6 (last * 8 + next)
            have q7 := hH7 ((rest - p2 (next - 1)) * 8 + next)
            refine x_il3 dX4_fewestMiles_40 ?_
            refine x_al0 dX4_fewestMiles_41 ?_
            refine x_il1 dX4_fewestMiles_42 ?_
            refine x_il2 dX4_fewestMiles_43 ?_
            refine x_il4 dX4_fewestMiles_44 ?_
            refine x_cVi mm_X4_milesBy ml_X4_71 dX4_fewestMiles_46 (c_X4_milesBy rest last next hS (by omega) (by omega) (by omega) hbt) (sh_303 hS) (lq_303 hS) ?_
            refine x_mmin ml_X4_75 dX4_fewestMiles_49 (inr (by omega)) (inr (by omega)) ?_
            refine x_is3 dX4_fewestMiles_52 ?_
            refine x_inc4 dX4_fewestMiles_53 ?_
            refine x_goto (tgt := 21) dX4_fewestMiles_56 ?_
            exact x_fg (ih21 (if (V 306) (last * 8 + next) + (V 307) ((rest - p2 (next - 1)) * 8 + next) < f then (V 306) (last * 8 + next) + (V 307) ((rest - p2 (next - 1)) * 8 + next) else f) (next + 1) (by omega) (by first | omega | (split <;> omega)) (by rw [show (next + 1 - 1).toNat = (next - 1).toNat + 1 by omega]; simp only [fwK]; rw [show (((next - 1).toNat : Nat) : Int) = next - 1 by omega, show next - 1 + 1 = next by omega, ← hf]; first | (rw [if_pos hbt]) | (rw [if_neg (by have := band_off hr.1 hx.1 (by assumption); omega)])) (by omega)) (And.intro rfl (And.intro rfl (And.intro rfl (And.intro rfl (And.intro rfl trivial)))))
    exact x_fg (lp21 _ 1584 1 (by omega) (by omega) rfl (Nat.lt_succ_self _)) (And.intro rfl (And.intro rfl (And.intro rfl (And.intro rfl (And.intro rfl trivial)))))
  · -- 1 ne -> 4
    refine x_al0 dX4_fewestMiles_4 ?_
    refine x_getR fl_X4_18 (sh_303 hS) (lq_303 hS) (rf_303_3 hS) dX4_fewestMiles_5 ?_
    refine x_il2 dX4_fewestMiles_8 ?_
    refine x_bipush dX4_fewestMiles_9 ?_
    refine x_imul dX4_fewestMiles_11 ?_
    refine x_iald (sh_306 hS) (lq_306 hS) (by omega) (by omega) dX4_fewestMiles_12 ?_
    refine x_topI (a' := V 306 (last * 8)) rfl ?_
    exact x_iret hQ (rI.mk (by simp only [fwV]; rw [if_pos (by omega), Int.add_zero]) rfl) dX4_fewestMiles_13
set_option maxRecDepth 100000 in
set_option maxHeartbeats 4000000 in
theorem c_X4_measure {B : Bs} {S : Stt} {V : Va} (hS : Stat S) (hn : 1 ≤ (V 303 5) ∧ (V 303 5) ≤ 8) (hD6 : ∀ q, 0 ≤ (V 306) q ∧ (V 306) q ≤ 198) (hH7 : ∀ q, 0 ≤ (V 307) q ∧ (V 307) q ≤ 1584) : C B yX4_measure cX4_measure 4 none 4 0 0 [vR B 303] S V (rVR S (fun VN => ∃ h, VN = up (up V 303 (ua (V 303) 8 (h ((p2 (V 303 5 - 1) - 1) * 8)))) 307 h ∧ TabP (fun i j => V 306 (i * 8 + j)) (V 303 5) h (p2 (V 303 5 - 1)) 0 ∧ ∀ q, 0 ≤ h q ∧ h q ≤ 1584)) := by
  refine C.of [some (vR B 303), none, none, none] ?_
  intro Γ hQ
  have hp7 : p2 7 = 128 := by decide
  have hpa := p2_pos (V 303 5 - 1)
  have hpb := p2_le (t := V 303 5 - 1) (u := 7) (by omega)
  have hDr : ∀ i j, 0 ≤ i → i < V 303 5 → 0 ≤ j → j < V 303 5 → 0 ≤ (fun i j => V 306 (i * 8 + j)) i j ∧ (fun i j => V 306 (i * 8 + j)) i j ≤ 198 := fun i j _ _ _ _ => hD6 _
  refine x_iconst dX4_measure_0 ?_
  refine x_al0 dX4_measure_1 ?_
  refine x_getI fl_X4_53 (sh_303 hS) (lq_303 hS) dX4_measure_2 ?_
  refine x_topI (a' := V 303 5) rfl ?_
  refine x_iconst dX4_measure_5 ?_
  refine x_isub dX4_measure_6 ?_
  refine x_shl1 (by omega) (by omega) dX4_measure_7 ?_
  refine x_iconst dX4_measure_8 ?_
  refine x_isub dX4_measure_9 ?_
  refine x_is1 dX4_measure_10 ?_
  refine x_iconst dX4_measure_11 ?_
  refine x_is2 dX4_measure_12 ?_
  have lp13 : ∀ (N13 : Nat) (R : Int) (h : Int → Int), (0 ≤ R ∧ R ≤ p2 (V 303 5 - 1)) → (∀ q, 0 ≤ h q ∧ h q ≤ 1584) → (TabP (fun i j => V 306 (i * 8 + j)) (V 303 5) h R 0) → (p2 (V 303 5 - 1) - R).toNat < N13 → X Γ B RX4 "measure" cX4_measure 4 none 4 0 0 13 [some (vR B 303), some (vI ((p2 ((V 303 5) - 1)) - 1)), some (vI R), none] [] 0 0 S (up V 307 h) := by
    intro N13
    induction N13 with
    | zero => intro R h hR hh hP hN; exact absurd hN (Nat.not_lt_zero _)
    | succ N13 ih13 =>
      intro R h hR hh hP hN13
      refine x_il2 dX4_measure_13 ?_
      refine x_il1 dX4_measure_14 ?_
      refine x_icmp_gt (tgt := 66) dX4_measure_15 (inr (by omega)) (inr (by omega)) (fun c15_1 => ?_) (fun c15_1 => ?_)
      · -- 15 gt -> 66
        refine x_al0 dX4_measure_66 ?_
        refine x_al0 dX4_measure_67 ?_
        refine x_getR fl_X4_21 (sh_303 hS) (lq_303 hS) (rf_303_4 hS) dX4_measure_68 ?_
        refine x_il1 dX4_measure_71 ?_
        refine x_bipush dX4_measure_72 ?_
        refine x_imul dX4_measure_74 ?_
        refine x_iald (sh_307 hS) (lq_307 hS) (by omega) (by omega) dX4_measure_75 ?_
        refine x_topI (a' := h (((p2 ((V 303 5) - 1)) - 1) * 8)) rfl ?_
        refine x_putI fl_X4_68 (sh_303 hS) (lq_303 hS) dX4_measure_76 ?_
        refine x_mem (V' := (up (up V 303 (ua (V 303) 8 (h (((p2 ((V 303 5) - 1)) - 1) * 8)))) 307 h)) (st2_c (by decide) rfl) ?_
        exact x_vret hQ ⟨rfl, rfl, h, rfl, (by have q := hP; rw [show R = p2 (V 303 5 - 1) by omega] at q; exact q), hh⟩ dX4_measure_79
      · -- 15 gt -> 18
        refine x_iconst dX4_measure_18 ?_
        refine x_is3 dX4_measure_19 ?_
        have lp20 : ∀ (N20 : Nat) (L : Int) (h : Int → Int), (0 ≤ L ∧ L ≤ V 303 5) → (∀ q, 0 ≤ h q ∧ h q ≤ 1584) → (TabP (fun i j => V 306 (i * 8 + j)) (V 303 5) h R L) → (V 303 5 - L).toNat < N20 → X Γ B RX4 "measure" cX4_measure 4 none 4 0 0 20 [some (vR B 303), some (vI ((p2 ((V 303 5) - 1)) - 1)), some (vI R), some (vI L)] [] 0 0 S (up V 307 h) := by
          intro N20
          induction N20 with
          | zero => intro L h hL hh2 hP2 hN; exact absurd hN (Nat.not_lt_zero _)
          | succ N20 ih20 =>
            intro L h hL hh2 hP2 hN20
            refine x_il3 dX4_measure_20 ?_
            refine x_al0 dX4_measure_21 ?_
            refine x_getI fl_X4_53 (sh_303 hS) (lq_303 hS) dX4_measure_22 ?_
            refine x_topI (a' := V 303 5) rfl ?_
            refine x_icmp_ge (tgt := 60) dX4_measure_25 (inr (by omega)) (inr (by omega)) (fun c25_2 => ?_) (fun c25_2 => ?_)
            · -- 25 ge -> 60
              refine x_inc2 dX4_measure_60 ?_
              refine x_goto (tgt := 13) dX4_measure_63 ?_
              exact x_fg (ih13 (R + 1) h (by omega) hh2 (by have q := hP2; rw [show L = V 303 5 by omega] at q; exact TabP_n q) (by omega)) (And.intro rfl (And.intro rfl (And.intro rfl trivial)))
            · -- 25 ge -> 28
              refine x_il2 dX4_measure_28 ?_
              refine x_il3 dX4_measure_29 ?_
              refine x_cSi mm_X4_bitOf ml_X4_62 dX4_measure_30 (c_X4_bitOf L (by omega)) ?_
              refine x_iand (by omega) (bitI_r (by omega) (by omega)).1 dX4_measure_33 ?_
              refine x_if_ne (tgt := 54) dX4_measure_34 (inr (by have := band_r (x := R) (y := bitI L) (by omega); omega)) (fun c34_3 => ?_) (fun c34_3 => ?_)
              · -- 34 ne -> 54
                refine x_inc3 dX4_measure_54 ?_
                refine x_goto (tgt := 20) dX4_measure_57 ?_
                exact x_fg (ih20 (L + 1) h (by omega) hh2 (TabP_no hP2 (fun z => absurd (band_of hR.1 z) (by assumption))) (by omega)) (And.intro rfl (And.intro rfl (And.intro rfl (And.intro rfl trivial))))
              · -- 34 ne -> 37
                have hfv := fwV_r (D := fun i j => V 306 (i * 8 + j)) (n := V 303 5) (h := h) (rest := R) (last := L) (hDr L 0 (by omega) (by omega) (by omega) (by omega)) (fun i => (hD6 _).1) hh2
                refine x_al0 dX4_measure_37 ?_
                refine x_getR fl_X4_21 (sh_303 hS) (lq_303 hS) (rf_303_4 hS) dX4_measure_38 ?_
                refine x_il2 dX4_measure_41 ?_
                refine x_bipush dX4_measure_42 ?_
                refine x_imul dX4_measure_44 ?_
                refine x_il3 dX4_measure_45 ?_
                refine x_iadd dX4_measure_46 ?_
                refine x_al0 dX4_measure_47 ?_
                refine x_il2 dX4_measure_48 ?_
                refine x_il3 dX4_measure_49 ?_
                refine x_cVi mm_X4_fewestMiles ml_X4_65 dX4_measure_50 (c_X4_fewestMiles R L hS (by omega) (by omega) (show 1 ≤ (V 303 5) ∧ (V 303 5) ≤ 8 from hn) (show ∀ q, 0 ≤ (V 306) q ∧ (V 306) q ≤ 198 from hD6) (show ∀ q, 0 ≤ h q ∧ h q ≤ 1584 from hh2)) (sh_303 hS) (lq_303 hS) ?_
                refine x_topI (a' := fwV (fun i j => (V 306) (i * 8 + j)) (V 303 5) h R L) rfl ?_
                refine x_iast (sh_307 hS) (lq_307 hS) (by omega) (by omega) dX4_measure_53 ?_
                refine x_mem (V' := (up V 307 (ua h ((R * 8) + L) (fwV (fun i j => (V 306) (i * 8 + j)) (V 303 5) h R L)))) (st2_up _ _ _ _ _) ?_
                refine x_inc3 dX4_measure_54 ?_
                refine x_goto (tgt := 20) dX4_measure_57 ?_
                exact x_fg (ih20 (L + 1) (ua h ((R * 8) + L) (fwV (fun i j => (V 306) (i * 8 + j)) (V 303 5) h R L)) (by omega) (fun q => by simp only [ua]; split; (exact hfv); (exact hh2 q)) (TabP_s hn hDr hP2 ⟨hR.1, by omega⟩ ⟨hL.1, by omega⟩ (by by_cases z : L = 0; (exact Or.inl z); (exact Or.inr (band_off hR.1 (by omega) (by assumption)))) rfl) (by omega)) (And.intro rfl (And.intro rfl (And.intro rfl (And.intro rfl trivial))))
        exact x_fg (lp20 _ 0 h (by omega) hh hP (Nat.lt_succ_self _)) (And.intro rfl (And.intro rfl (And.intro rfl (And.intro rfl trivial))))
  refine x_mem (V' := (up V 307 (V 307))) (show _ = (up V 307 (V 307)) from (Eq.symm (up_self _ 307))) ?_
  exact x_fg (lp13 _ 0 (V 307) (by omega) hH7 (fun rest last r0 r1 l0 l1 c o => by omega) (Nat.lt_succ_self _)) (And.intro rfl (And.intro rfl (And.intro rfl trivial)))
set_option maxRecDepth 100000 in
set_option maxHeartbeats 4000000 in
theorem c_X4_walk {B : Bs} {S : Stt} {V : Va} (hS : Stat S) (hn : 1 ≤ (V 303 5) ∧ (V 303 5) ≤ 8) (hD6 : ∀ q, 0 ≤ (V 306) q ∧ (V 306) q ≤ 198) (hH7 : ∀ q, 0 ≤ (V 307) q ∧ (V 307) q ≤ 1584) (hT : TabP (fun i j => (V 306) (i * 8 + j)) (V 303 5) (V 307) (p2 ((V 303 5) - 1)) 0) : C B yX4_walk cX4_walk 6 none 3 0 0 [vR B 303] S V (rVR S (fun VN => ∃ wy w rs, VN = up V 305 wy ∧ PathI (V 303 5) rs w (V 303 5) ∧ (∀ m, 1 ≤ m → m < V 303 5 → WkE (fun i j => V 306 (i * 8 + j)) (V 303 5) (V 307) rs w m) ∧ ∀ m, 0 ≤ m → m < V 303 5 → wy m = V 304 (w m))) := by
  refine C.of [some (vR B 303), none, none, none, none, none] ?_
  intro Γ hQ
  have hp7 : p2 7 = 128 := by decide
  have hpa := p2_pos (V 303 5 - 1)
  have hpb := p2_le (t := V 303 5 - 1) (u := 7) (by omega)
  refine x_iconst dX4_walk_0 ?_
  refine x_al0 dX4_walk_1 ?_
  refine x_getI fl_X4_53 (sh_303 hS) (lq_303 hS) dX4_walk_2 ?_
  refine x_topI (a' := V 303 5) rfl ?_
  refine x_iconst dX4_walk_5 ?_
  refine x_isub dX4_walk_6 ?_
  refine x_shl1 (by omega) (by omega) dX4_walk_7 ?_
  refine x_iconst dX4_walk_8 ?_
  refine x_isub dX4_walk_9 ?_
  refine x_is1 dX4_walk_10 ?_
  refine x_iconst dX4_walk_11 ?_
  refine x_is2 dX4_walk_12 ?_
  refine x_al0 dX4_walk_13 ?_
  refine x_getR fl_X4_15 (sh_303 hS) (lq_303 hS) (rf_303_2 hS) dX4_walk_14 ?_
  refine x_iconst dX4_walk_17 ?_
  refine x_al0 dX4_walk_18 ?_
  refine x_getR fl_X4_9 (sh_303 hS) (lq_303 hS) (rf_303_1 hS) dX4_walk_19 ?_
  refine x_iconst dX4_walk_22 ?_
  refine x_iald (sh_304 hS) (lq_304 hS) (by omega) (by omega) dX4_walk_23 ?_
  refine x_topI (a' := V 304 0) rfl ?_
  refine x_iast (sh_305 hS) (lq_305 hS) (by omega) (by omega) dX4_walk_24 ?_
  refine x_mem (V' := (up V 305 (ua (V 305) 0 (V 304 0)))) rfl ?_
  refine x_iconst dX4_walk_25 ?_
  refine x_is3 dX4_walk_26 ?_
  have lp27 : ∀ (N27 : Nat) (i : Int) (rest : Int) (last : Int) (wy : Int → Int) (rs : Int → Int) (w : Int → Int), (1 ≤ i ∧ i ≤ V 303 5) → (PathI (V 303 5) rs w i) → (∀ m, 1 ≤ m → m < i → WkE (fun i j => V 306 (i * 8 + j)) (V 303 5) (V 307) rs w m) → (rest = rs (i - 1)) → (last = w (i - 1)) → (∀ m, 0 ≤ m → m < i → wy m = V 304 (w m)) → (V 303 5 - i).toNat < N27 → X Γ B RX4 "walk" cX4_walk 6 none 3 0 0 27 [some (vR B 303), some (vI rest), some (vI last), some (vI i), none, none] [] 0 0 S (up V 305 wy) := by
    intro N27
    induction N27 with
    | zero => intro i rest last wy rs w hi hPI hE hrest hlast hwy hN; exact absurd hN (Nat.not_lt_zero _)
    | succ N27 ih27 =>
      intro i rest last wy rs w hi hPI hE hrest hlast hwy hN27
      have pbi := path_bI hn.1 hPI (m := i - 1) (by omega) (by omega)
      rw [← hrest] at pbi
      have plast : 0 ≤ last ∧ last < V 303 5 ∧ tCond rest last := by rw [hlast, hrest]; by_cases z : i = 1; (rw [z, show (1 : Int) - 1 = 0 by omega, hPI.1]; exact ⟨by omega, by omega, Or.inl rfl⟩); (have s := hPI.2.2 (i - 1) (by omega) (by omega); have b := (path_bI hn.1 hPI (m := i - 1) (by omega) (by omega)).2 (w (i - 1)) s.1 s.2.1; refine ⟨by have := s.1; omega, s.2.1, Or.inr ?_⟩; rcases bit_01 (rs (i - 1)) (w (i - 1) - 1) with y | y; (exact y); (exact absurd rfl (b.mp y (i - 1) (by omega) (by omega))))
      have hte := hT rest last pbi.1.1 pbi.1.2.1 plast.1 plast.2.1 plast.2.2 (Or.inl pbi.1.2.1)
      refine x_il3 dX4_walk_27 ?_
      refine x_al0 dX4_walk_28 ?_
      refine x_getI fl_X4_53 (sh_303 hS) (lq_303 hS) dX4_walk_29 ?_
      refine x_topI (a' := V 303 5) rfl ?_
      refine x_icmp_ge (tgt := 130) dX4_walk_32 (inr (by omega)) (inr (by omega)) (fun c32_1 => ?_) (fun c32_1 => ?_)
      · -- 32 ge -> 130
        exact x_vret hQ ⟨rfl, rfl, wy, w, rs, rfl, (by have q := hPI; rw [show i = V 303 5 by omega] at q; exact q), (fun m m0 m1 => hE m m0 (by omega)), fun m m0 m1 => hwy m m0 (by omega)⟩ dX4_walk_130
      · -- 32 ge -> 35
        refine x_iconst dX4_walk_35 ?_
        refine x_is4 dX4_walk_36 ?_
        have lp38 : ∀ (N38 : Nat) (next : Int), (1 ≤ next ∧ next ≤ V 303 5) → (∀ y, 1 ≤ y → y < next → rest / p2 (y - 1) % 2 = 1 → V 306 (last * 8 + y) + V 307 ((rest - p2 (y - 1)) * 8 + y) ≠ V 307 (rest * 8 + last)) → (V 303 5 - next).toNat < N38 → X Γ B RX4 "walk" cX4_walk 6 none 3 0 0 38 [some (vR B 303), some (vI rest), some (vI last), some (vI i), some (vI next), none] [] 0 0 S (up V 305 wy) := by
          intro N38
          induction N38 with
          | zero => intro next hx hno hN; exact absurd hN (Nat.not_lt_zero _)
          | succ N38 ih38 =>
            intro next hx hno hN38
            have hex := hte.2.2.1 (fun z => by have b := pbi.1.2.2; rw [z] at b; have b0 : bN 0 (V 303 5 - 1) = 0 := bN_zero _ (by omega); omega)
            refine x_il4 dX4_walk_38 ?_
            refine x_al0 dX4_walk_40 ?_
            refine x_getI fl_X4_53 (sh_303 hS) (lq_303 hS) dX4_walk_41 ?_
            refine x_topI (a' := V 303 5) rfl ?_
            refine x_icmp_ge (tgt := 124) dX4_walk_44 (inr (by omega)) (inr (by omega)) (fun c44_2 => ?_) (fun c44_2 => ?_)
            · -- 44 ge -> 124
              refine x_inc3 dX4_walk_124 ?_
              refine x_goto (tgt := 27) dX4_walk_127 ?_
              exact x_fg (ih27 (i + 1) rest last wy rs w (by exfalso; obtain ⟨x, x0, x1, x2, x3⟩ := hex; exact hno x x0 (by omega) x2 x3.symm) (by exfalso; obtain ⟨x, x0, x1, x2, x3⟩ := hex; exact hno x x0 (by omega) x2 x3.symm) (by exfalso; obtain ⟨x, x0, x1, x2, x3⟩ := hex; exact hno x x0 (by omega) x2 x3.symm) (by exfalso; obtain ⟨x, x0, x1, x2, x3⟩ := hex; exact hno x x0 (by omega) x2 x3.symm) (by exfalso; obtain ⟨x, x0, x1, x2, x3⟩ := hex; exact hno x x0 (by omega) x2 x3.symm) (by exfalso; obtain ⟨x, x0, x1, x2, x3⟩ := hex; exact hno x x0 (by omega) x2 x3.symm) (by omega)) (And.intro rfl (And.intro rfl (And.intro rfl (And.intro rfl trivial))))
            · -- 44 ge -> 47
              refine x_il1 dX4_walk_47 ?_
              refine x_il4 dX4_walk_48 ?_
              refine x_cSi mm_X4_bitOf ml_X4_62 dX4_walk_50 (c_X4_bitOf next (by omega)) ?_
              refine x_iand (by omega) (bitI_r (by omega) (by omega)).1 dX4_walk_53 ?_
              refine x_if_eq (tgt := 61) dX4_walk_54 (inr (by have := band_r (x := rest) (y := bitI next) (by omega); omega)) (fun c54_3 => ?_) (fun c54_3 => ?_)
              · -- 54 eq -> 61
                refine x_iconst dX4_walk_61 ?_
                refine x_is5 dX4_walk_62 ?_
                refine x_il5 dX4_walk_64 ?_
                refine x_if_eq (tgt := 118) dX4_walk_66 (inr (by decide)) (fun c66_4 => ?_) (fun c66_4 => ?_)
                · -- 66 eq -> 118
                  refine x_inc4 dX4_walk_118 ?_
                  refine x_goto (tgt := 38) dX4_walk_121 ?_
                  exact x_fg (ih38 (next + 1) (by omega) (fun y y0 y1 y2 => by rcases (show y < next ∨ y = next by omega) with z | z; (exact hno y y0 z y2); (rw [z] at y2 ⊢; first | (have := band_off pbi.1.1 hx.1 (by assumption); omega) | assumption)) (by omega)) (And.intro rfl (And.intro rfl (And.intro rfl (And.intro rfl (And.intro rfl trivial)))))
                · exact absurd c66_4 (by decide)
              · -- 54 eq -> 57
                have hbt := band_on pbi.1.1 hx.1 c54_3
                refine x_iconst dX4_walk_57 ?_
                refine x_goto (tgt := 62) dX4_walk_58 ?_
                refine x_is5 dX4_walk_62 ?_
                refine x_il5 dX4_walk_64 ?_
                refine x_if_eq (tgt := 118) dX4_walk_66 (inr (by decide)) (fun c66_5 => ?_) (fun c66_5 => ?_)
                · exact absurd c66_5 (by decide)
                · -- 66 eq -> 69
                  refine x_al0 dX4_walk_69 ?_
                  refine x_il1 dX4_walk_70 ?_
                  refine x_il2 dX4_walk_71 ?_
                  refine x_il4 dX4_walk_72 ?_
                  refine x_cVi mm_X4_milesBy ml_X4_71 dX4_walk_74 (c_X4_milesBy rest last next hS (by omega) (by omega) (by omega) hbt) (sh_303 hS) (lq_303 hS) ?_
                  refine x_topI (a' := (V 306) (last * 8 + next) + (V 307) ((rest - p2 (next - 1)) * 8 + next)) rfl ?_
                  have q6 := hD6 (last * 8 + next)
                  have q7 := hH7 ((rest - p2 (next - 1)) * 8 + next)
                  have q8 := hH7 (rest * 8 + last)
                  refine x_al0 dX4_walk_77 ?_
                  refine x_getR fl_X4_21 (sh_303 hS) (lq_303 hS) (rf_303_4 hS) dX4_walk_78 ?_
                  refine x_il1 dX4_walk_81 ?_
                  refine x_bipush dX4_walk_82 ?_
                  refine x_imul dX4_walk_84 ?_
                  refine x_il2 dX4_walk_85 ?_
                  refine x_iadd dX4_walk_86 ?_
                  refine x_iald (sh_307 hS) (lq_307 hS) (by omega) (by omega) dX4_walk_87 ?_
                  refine x_topI (a' := V 307 ((rest * 8) + last)) rfl ?_
                  refine x_icmp_ne (tgt := 118) dX4_walk_88 (inr (by omega)) (inr (by omega)) (fun c88_6 => ?_) (fun c88_6 => ?_)
                  · -- 88 ne -> 118
                    refine x_inc4 dX4_walk_118 ?_
                    refine x_goto (tgt := 38) dX4_walk_121 ?_
                    exact x_fg (ih38 (next + 1) (by omega) (fun y y0 y1 y2 => by rcases (show y < next ∨ y = next by omega) with z | z; (exact hno y y0 z y2); (rw [z] at y2 ⊢; first | (have := band_off pbi.1.1 hx.1 (by assumption); omega) | assumption)) (by omega)) (And.intro rfl (And.intro rfl (And.intro rfl (And.intro rfl (And.intro rfl trivial)))))
                  · -- 88 ne -> 91
                    have hfd := c88_6
                    refine x_al0 dX4_walk_91 ?_
                    refine x_getR fl_X4_15 (sh_303 hS) (lq_303 hS) (rf_303_2 hS) dX4_walk_92 ?_
                    refine x_il3 dX4_walk_95 ?_
                    refine x_al0 dX4_walk_96 ?_
                    refine x_getR fl_X4_9 (sh_303 hS) (lq_303 hS) (rf_303_1 hS) dX4_walk_97 ?_
                    refine x_il4 dX4_walk_100 ?_
                    refine x_iald (sh_304 hS) (lq_304 hS) (by omega) (by omega) dX4_walk_102 ?_
                    refine x_topI (a' := V 304 next) rfl ?_
                    refine x_iast (sh_305 hS) (lq_305 hS) (by omega) (by omega) dX4_walk_103 ?_
                    refine x_mem (V' := (up V 305 (ua wy i (V 304 next)))) (st2_up _ _ _ _ _) ?_
                    refine x_il1 dX4_walk_104 ?_
                    refine x_il4 dX4_walk_105 ?_
                    refine x_cSi mm_X4_bitOf ml_X4_62 dX4_walk_107 (c_X4_bitOf next (by omega)) ?_
                    refine x_ixor (by omega) (bitI_r (by omega) (by omega)).1 dX4_walk_110 ?_
                    refine x_topI (a' := rest - p2 (next - 1)) (by simp only [bitI]; rw [if_neg (by omega)]; exact bxor_sub pbi.1.1 (by omega) hbt) ?_
                    refine x_is1 dX4_walk_111 ?_
                    refine x_il4 dX4_walk_112 ?_
                    refine x_is2 dX4_walk_114 ?_
                    refine x_goto (tgt := 124) dX4_walk_115 ?_
                    refine x_inc3 dX4_walk_124 ?_
                    refine x_goto (tgt := 27) dX4_walk_127 ?_
                    exact x_fg (ih27 (i + 1) (rest - p2 (next - 1)) next (ua wy i (V 304 next)) (ua rs i (rest - p2 (next - 1))) (ua w i next) (by omega) (by rw [hrest] at hbt ⊢; exact path_ext hPI (by omega) ⟨by omega, by omega⟩ hbt) (by rw [hrest, hlast] at hno; rw [hrest] at ⊢; exact WkE_ext hE (by omega) (by rw [← hrest, ← hlast]; exact hfd) hno) (by rw [show i + 1 - 1 = i by omega, ua_same]) (by rw [show i + 1 - 1 = i by omega, ua_same]) (fun m m0 m1 => by by_cases z : m = i; (rw [z, ua_same, ua_same]); (rw [ua_ne z, ua_ne z]; exact hwy m m0 (by omega))) (by omega)) (And.intro rfl (And.intro rfl (And.intro rfl (And.intro rfl trivial))))
        exact x_fg (lp38 _ 1 (by omega) (fun y y0 y1 => by omega) (Nat.lt_succ_self _)) (And.intro rfl (And.intro rfl (And.intro rfl (And.intro rfl (And.intro rfl trivial)))))
  exact x_fg (lp27 _ 1 ((p2 ((V 303 5) - 1)) - 1) 0 (ua (V 305) 0 (V 304 0)) (fun _ => p2 (V 303 5 - 1) - 1) (fun _ => 0) (by omega) ⟨rfl, rfl, fun m m0 m1 => by omega⟩ (fun m m0 m1 => by omega) rfl rfl (fun m m0 m1 => by rw [show m = 0 by omega, ua_same]) (Nat.lt_succ_self _)) (And.intro rfl (And.intro rfl (And.intro rfl (And.intro rfl trivial))))
