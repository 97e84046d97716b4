set_option maxRecDepth 100000 in
set_option maxHeartbeats 4000000 in
theorem c_X6_gather {B : Bs} {S : Stt} {V : Va} (a : Int → Int) (tx : Int → Int) (hS : Stat S) (hW : WSim V 1 a) (hB : WB V 1) (hM : MIv a) (hTx : TSim S V 133 a tx) (hst : 0 ≤ (V 289 10) ∧ (V 289 10) < 1024) : C B yX6_gather cX6_gather 2 (some .boolean) 6 0 0 [vR B 289] S V (rIR S (if mAc a tx (V 289 10) (a 1).toNat ≤ 12 then 1 else 0) (fun VN => (∀ q : Nat, q < 287 ∨ 290 < q → VN q = V q) ∧ (∀ k, k ≠ 9 → VN 289 k = V 289 k) ∧ (0 ≤ VN 289 9 ∧ VN 289 9 ≤ 12) ∧ (mAc a tx (V 289 10) (a 1).toNat ≤ 12 → VN 289 9 = mAc a tx (V 289 10) (a 1).toNat ∧ VN 290 = mAr a tx (V 289 10) (V 290) (a 1).toNat))) := by
  refine C.of [some (vR B 289), none] ?_
  intro Γ hQ
  have w7 : V 1 7 = a 0 := hW.1.1
  have w8 : V 1 8 = a 3 := hW.1.2.1
  have w9 : V 1 9 = a 4 := hW.1.2.2
  have w55 : V 5 5 = a 1 := hW.2.2.2.1.1
  have i0 := hM.1.2.1
  have i1 := hM.1.2.2.1
  have i2 := hM.1.2.2.2.1
  have i4 := hM.1.2.2.2.2.1
  have i3 := hM.2.1
  refine x_al0 dX6_gather_0 ?_
  refine x_iconst dX6_gather_1 ?_
  refine x_putI fl_X6_68 (sh_289 hS) (lq_289 hS) dX6_gather_2 ?_
  refine x_mem (V' := (up V 289 (ua (V 289) 9 0))) rfl ?_
  refine x_iconst dX6_gather_5 ?_
  refine x_is1 dX6_gather_6 ?_
  have lp7 : ∀ (N7 : Nat) (b : Int) (c : Int) (bo : Int → Int) (f : Int → Int) (g : Int → Int), (0 ≤ b ∧ b ≤ a 1) → (0 ≤ c ∧ c ≤ 12) → (c = mAc a tx (V 289 10) b.toNat ∧ bo = mAr a tx (V 289 10) (V 290) b.toNat) → (a 1 - b).toNat < N7 → X Γ B RX6 "gather" cX6_gather 2 (some .boolean) 6 0 0 7 [some (vR B 289), some (vI b)] [] 0 0 S (up (up (up (up V 287 f) 288 g) 289 (ua (V 289) 9 c)) 290 bo) := by
    intro N7
    induction N7 with
    | zero => intro b c bo f g hb hc12 hcb hN; exact absurd hN (Nat.not_lt_zero _)
    | succ N7 ih7 =>
      intro b c bo f g hb hc12 hcb hN7
      refine x_il1 dX6_gather_7 ?_
      refine x_al0 dX6_gather_8 ?_
      refine x_getR fl_X6_37 (sh_289 hS) (lq_289 hS) (rf_289_0 hS) dX6_gather_9 ?_
      refine x_getR fl_X6_71 (sh_1 hS) (lq_1 hS) (rf_1_3 hS) dX6_gather_12 ?_
      refine x_getI fl_X6_74 (sh_5 hS) (lq_5 hS) dX6_gather_15 ?_
      refine x_topI (a' := V 5 5) rfl ?_
      refine x_icmp_ge (tgt := 91) dX6_gather_18 (inr (by omega)) (inr (by omega)) (fun c18_1 => ?_) (fun c18_1 => ?_)
      · -- 18 ge -> 91
        refine x_iconst dX6_gather_91 ?_
        exact x_zret hQ (by have e : b.toNat = (a 1).toNat := (by omega); rw [e] at hcb; exact ⟨(by rw [if_pos (by omega)]), rfl, (fun j hj => by rw [up_ne (by omega), up_ne (by omega), up_ne (by omega), up_ne (by omega)]), (fun j hj => ua_ne hj), hc12, fun _ => hcb⟩) (by decide) dX6_gather_92
      · -- 18 ge -> 21
        have kb := W_bone hW hM (b := b) (by omega) (by omega)
        have hat : V 8 b = a (30 + 6 * b + 3) := kb.1.2.2.1
        have i0 := hM.1.2.1
        have tb : 0 ≤ V 8 b ∧ V 8 b < 10 := by have y := (hM.2.2.2.2.2.2.1 b hb.1 (by omega)).2.2.1; have y2 : gNow a b 2 = a (30 + 6 * b + 3) := (by simp only [gNow]; congr 1; omega); omega
        have hdv := Int.ediv_nonneg hst.1 (Int.le_of_lt (p2_pos (V 8 b)))
        have hdl := Int.ediv_le_self (p2 (V 8 b)) hst.1
        refine x_al0 dX6_gather_21 ?_
        refine x_getI fl_X6_33 (sh_289 hS) (lq_289 hS) dX6_gather_22 ?_
        refine x_topI (a' := V 289 10) (show (ua (V 289) 9 c) 10 = V 289 10 from (ua_ne (by decide))) ?_
        refine x_al0 dX6_gather_25 ?_
        refine x_getR fl_X6_37 (sh_289 hS) (lq_289 hS) (rf_289_0 hS) dX6_gather_26 ?_
        refine x_getR fl_X6_71 (sh_1 hS) (lq_1 hS) (rf_1_3 hS) dX6_gather_29 ?_
        refine x_getR fl_X6_79 (sh_5 hS) (lq_5 hS) (rf_5_2 hS) dX6_gather_32 ?_
        refine x_il1 dX6_gather_35 ?_
        refine x_iald (sh_8 hS) (lq_8 hS) (by omega) (by omega) dX6_gather_36 ?_
        refine x_topI (a' := V 8 b) rfl ?_
        refine x_ishr (inr (by omega)) (by omega) (by omega) dX6_gather_37 ?_
        refine x_iconst dX6_gather_38 ?_
        refine x_and1 dX6_gather_39 ?_
        refine x_if_eq (tgt := 85) dX6_gather_40 (inr (by omega)) (fun c40_2 => ?_) (fun c40_2 => ?_)
        · -- 40 eq -> 85
          refine x_inc1 dX6_gather_85 ?_
          refine x_goto (tgt := 7) dX6_gather_88 ?_
          exact x_fg (ih7 (b + 1) c bo f g (by omega) (by omega) (by first | exact mA_on hb.1 (mAp_on hat tb (by omega) (by assumption)) hcb.1 hcb.2 | exact mA_no hb.1 (mAp_no1 hat tb (by omega)) hcb.1 hcb.2 | exact mA_no hb.1 (fun z => absurd z.2 (by assumption)) hcb.1 hcb.2) (by omega)) (And.intro rfl (And.intro rfl trivial))
        · -- 40 eq -> 43
          refine x_al0 dX6_gather_43 ?_
          refine x_getR fl_X6_41 (sh_289 hS) (lq_289 hS) (rf_289_1 hS) dX6_gather_44 ?_
          refine x_il1 dX6_gather_47 ?_
          refine x_cVic mm_X2_isHoly ml_X6_82 dX6_gather_48 (c_X2_isHoly b a tx hS (WSim_c (fun q q0 q1 => by rw [up_ne (by omega), up_ne (by omega), up_ne (by omega), up_ne (by omega)]) hW) (WB_c (fun q q0 q1 => by rw [up_ne (by omega), up_ne (by omega), up_ne (by omega), up_ne (by omega)]) hB) hM (TSim_c (fun q q0 => by rw [up_ne (by omega), up_ne (by omega), up_ne (by omega), up_ne (by omega)]) rfl hTx) (by omega)) (sh_287 hS) (lq_287 hS) (fun f3 g3 => ?_)
          refine x_mem (V' := (up (up (up (up V 287 f3) 288 g3) 289 (ua (V 289) 9 c)) 290 bo)) (Eq.trans (congrArg (fun z => up z 288 _) (up_k (by decide) (up_k (by decide) (up_k (by decide) (up_up _ _ _ _))))) (up_k (by decide) (up_k (by decide) (up_up _ _ _ _)))) ?_
          refine x_ifb_eq (tgt := 85) dX6_gather_51 (fun c51_4 => ?_) (fun c51_4 => ?_)
          · -- 51 eq -> 85
            refine x_inc1 dX6_gather_85 ?_
            refine x_goto (tgt := 7) dX6_gather_88 ?_
            exact x_fg (ih7 (b + 1) c bo f3 g3 (by omega) (by omega) (by first | exact mA_on hb.1 (mAp_on hat tb (by omega) (by assumption)) hcb.1 hcb.2 | exact mA_no hb.1 (mAp_no1 hat tb (by omega)) hcb.1 hcb.2 | exact mA_no hb.1 (fun z => absurd z.2 (by assumption)) hcb.1 hcb.2) (by omega)) (And.intro rfl (And.intro rfl trivial))
          · -- 51 eq -> 54
            refine x_al0 dX6_gather_54 ?_
            refine x_getI fl_X6_68 (sh_289 hS) (lq_289 hS) dX6_gather_55 ?_
            refine x_topI (a' := c) (show (ua (V 289) 9 c) 9 = c from (ua_same _ _ _)) ?_
            refine x_bipush dX6_gather_58 ?_
            refine x_icmp_lt (tgt := 65) dX6_gather_60 (inr (by omega)) (inr (by decide)) (fun c60_5 => ?_) (fun c60_5 => ?_)
            · -- 60 lt -> 65
              refine x_al0 dX6_gather_65 ?_
              refine x_getR fl_X6_9 (sh_289 hS) (lq_289 hS) (rf_289_2 hS) dX6_gather_66 ?_
              refine x_al0 dX6_gather_69 ?_
              refine x_getI fl_X6_68 (sh_289 hS) (lq_289 hS) dX6_gather_70 ?_
              refine x_topI (a' := c) (show (ua (V 289) 9 c) 9 = c from (ua_same _ _ _)) ?_
              refine x_il1 dX6_gather_73 ?_
              refine x_iast (sh_290 hS) (lq_290 hS) (by omega) (by omega) dX6_gather_74 ?_
              refine x_mem (V' := (up (up (up (up V 287 f3) 288 g3) 289 (ua (V 289) 9 c)) 290 (ua bo c b))) (st2_up _ _ _ _ _) ?_
              refine x_al0 dX6_gather_75 ?_
              refine x_dup dX6_gather_76 ?_
              refine x_getI fl_X6_68 (sh_289 hS) (lq_289 hS) dX6_gather_77 ?_
              refine x_topI (a' := c) (show (ua (V 289) 9 c) 9 = c from (ua_same _ _ _)) ?_
              refine x_iconst dX6_gather_80 ?_
              refine x_iadd dX6_gather_81 ?_
              refine x_putI fl_X6_68 (sh_289 hS) (lq_289 hS) dX6_gather_82 ?_
              refine x_mem (V' := (up (up (up (up V 287 f3) 288 g3) 289 (ua (ua (V 289) 9 c) 9 (c + 1))) 290 (ua bo c b))) (st2_c (by decide) (st2_up _ _ _ _ _)) ?_
              refine x_inc1 dX6_gather_85 ?_
              refine x_goto (tgt := 7) dX6_gather_88 ?_
              refine x_mem (V' := (up (up (up (up V 287 f3) 288 g3) 289 (ua (V 289) 9 (c + 1))) 290 (ua bo c b))) (upE (upE (upE (upE rfl rfl) rfl) (by first | rfl | exact ua_ua _ _ _ _ | exact (ua_ua _ _ _ _).symm)) rfl) ?_
              exact x_fg (ih7 (b + 1) (c + 1) (ua bo c b) f3 g3 (by omega) (by omega) (by first | exact mA_on hb.1 (mAp_on hat tb (by omega) (by assumption)) hcb.1 hcb.2 | exact mA_no hb.1 (mAp_no1 hat tb (by omega)) hcb.1 hcb.2 | exact mA_no hb.1 (fun z => absurd z.2 (by assumption)) hcb.1 hcb.2) (by omega)) (And.intro rfl (And.intro rfl trivial))
            · -- 60 lt -> 63
              refine x_iconst dX6_gather_63 ?_
              exact x_zret hQ (by have z := mAc_mono a tx (V 289 10) (b + 1).toNat ((a 1).toNat - (b + 1).toNat); have y := (mA_on hb.1 (mAp_on hat tb (by omega) (by assumption)) hcb.1 hcb.2).1; rw [show (b + 1).toNat + ((a 1).toNat - (b + 1).toNat) = (a 1).toNat by omega] at z; exact ⟨(by rw [if_neg (by omega)]), rfl, (fun j hj => by rw [up_ne (by omega), up_ne (by omega), up_ne (by omega), up_ne (by omega)]), (fun j hj => ua_ne hj), hc12, fun q => by omega⟩) (by decide) dX6_gather_64
  refine x_mem (V' := (up (up (up (up V 287 (V 287)) 288 (V 288)) 289 (ua (V 289) 9 0)) 290 (V 290))) (Eq.trans (Eq.trans (show _ = (up (up V 287 (V 287)) 289 (ua (V 289) 9 0)) from (Eq.trans (Eq.symm (up_self _ 287)) (up_k (by decide) rfl))) (show _ = (up (up (up V 287 (V 287)) 288 (V 288)) 289 (ua (V 289) 9 0)) from (Eq.trans (Eq.symm (up_self _ 288)) (up_k (by decide) rfl)))) (show _ = (up (up (up (up V 287 (V 287)) 288 (V 288)) 289 (ua (V 289) 9 0)) 290 (V 290)) from (Eq.symm (up_self _ 290)))) ?_
  exact x_fg (lp7 _ 0 0 (V 290) (V 287) (V 288) (by omega) (by omega) ⟨rfl, rfl⟩ (Nat.lt_succ_self _)) (And.intro rfl (And.intro rfl trivial))
