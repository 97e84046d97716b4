set_option maxRecDepth 100000 in
set_option maxHeartbeats 4000000 in
theorem c_X11_readText {B : Bs} {S : Stt} {V : Va} (hS : Stat S) (hT : 0 ≤ (V 308 4) ∧ (V 308 4) ≤ 300) (hTp : ∀ k, 0 ≤ (V 312) k ∧ (V 312) k < 256) (hX : AB (V 311)) (hPb : AB (V 313)) (ht3 : 0 ≤ (V 309 3) ∧ (V 309 3) ≤ 3) (h10 : 0 ≤ (V 308 10) ∧ (V 308 10) < 1000000) (h11 : 0 ≤ (V 308 11) ∧ (V 308 11) < 72057594037927936) : C B yX11_readText cX11_readText 2 (some .int) 10 0 0 [vR B 308] S V (rP3 S V (TxE (V 312) (V 308 4) (700 * (V 309 3)) (V 308) (V 311))) := by
  refine C.of [some (vR B 308), none] ?_
  intro Γ hQ
  refine x_al0 dX11_readText_0 ?_
  refine x_sipush dX11_readText_1 ?_
  refine x_al0 dX11_readText_4 ?_
  refine x_getR fl_X11_7 (sh_308 hS) (lq_308 hS) (rf_308_0 hS) dX11_readText_5 ?_
  refine x_iconst dX11_readText_8 ?_
  refine x_iald (sh_309 hS) (lq_309 hS) (by omega) (by omega) dX11_readText_9 ?_
  refine x_topI (a' := V 309 3) rfl ?_
  refine x_imul dX11_readText_10 ?_
  refine x_putI fl_X11_154 (sh_308 hS) (lq_308 hS) dX11_readText_11 ?_
  refine x_mem (V' := (up V 308 (ua (V 308) 12 (700 * (V 309 3))))) rfl ?_
  refine x_al0 dX11_readText_14 ?_
  refine x_getR fl_X11_16 (sh_308 hS) (lq_308 hS) (rf_308_2 hS) dX11_readText_15 ?_
  refine x_al0 dX11_readText_18 ?_
  refine x_getI fl_X11_154 (sh_308 hS) (lq_308 hS) dX11_readText_19 ?_
  refine x_topI (a' := 700 * (V 309 3)) (show (ua (V 308) 12 (700 * (V 309 3))) 12 = 700 * (V 309 3) from (ua_same _ _ _)) ?_
  refine x_iconst dX11_readText_22 ?_
  refine x_iast (sh_311 hS) (lq_311 hS) (by omega) (by omega) dX11_readText_23 ?_
  refine x_mem (V' := (up (up V 308 (ua (V 308) 12 (700 * (V 309 3)))) 311 (ua (V 311) (700 * (V 309 3)) 0))) rfl ?_
  refine x_al0 dX11_readText_24 ?_
  refine x_iconst dX11_readText_25 ?_
  refine x_putI fl_X11_157 (sh_308 hS) (lq_308 hS) dX11_readText_26 ?_
  refine x_mem (V' := (up (up V 308 (ua (ua (V 308) 12 (700 * (V 309 3))) 14 0)) 311 (ua (V 311) (700 * (V 309 3)) 0))) (st2_c (by decide) (st2_up _ _ _ _ _)) ?_
  refine x_al0 dX11_readText_29 ?_
  refine x_iconst dX11_readText_30 ?_
  refine x_putI fl_X11_167 (sh_308 hS) (lq_308 hS) dX11_readText_31 ?_
  refine x_mem (V' := (up (up V 308 (ua (ua (ua (V 308) 12 (700 * (V 309 3))) 14 0) 18 0)) 311 (ua (V 311) (700 * (V 309 3)) 0))) (st2_c (by decide) (st2_up _ _ _ _ _)) ?_
  refine x_al0 dX11_readText_34 ?_
  refine x_iconst dX11_readText_35 ?_
  refine x_putI fl_X11_253 (sh_308 hS) (lq_308 hS) dX11_readText_36 ?_
  refine x_mem (V' := (up (up V 308 (ua (ua (ua (ua (V 308) 12 (700 * (V 309 3))) 14 0) 18 0) 21 0)) 311 (ua (V 311) (700 * (V 309 3)) 0))) (st2_c (by decide) (st2_up _ _ _ _ _)) ?_
  refine x_al0 dX11_readText_39 ?_
  refine x_iconst dX11_readText_40 ?_
  refine x_putI fl_X11_120 (sh_308 hS) (lq_308 hS) dX11_readText_41 ?_
  refine x_mem (V' := (up (up V 308 (ua (ua (ua (ua (ua (V 308) 12 (700 * (V 309 3))) 14 0) 18 0) 21 0) 7 0)) 311 (ua (V 311) (700 * (V 309 3)) 0))) (st2_c (by decide) (st2_up _ _ _ _ _)) ?_
  refine x_al0 dX11_readText_44 ?_
  refine x_cVv mm_X11_nextToken ml_X11_184 dX11_readText_45 (c_X11_nextToken hS (show 0 ≤ (V 308 4) ∧ (V 308 4) ≤ 300 from (by omega)) (show 0 ≤ 0 ∧ 0 ≤ (V 308 4) from (by omega)) (show ∀ k, 0 ≤ (V 312) k ∧ (V 312) k < 256 from hTp)) (sh_308 hS) (lq_308 hS) ?_
  refine x_mem (V' := (up (up V 308 (mTok (ua (ua (ua (ua (ua (V 308) 12 (700 * (V 309 3))) 14 0) 18 0) 21 0) 7 0) (V 312))) 311 (ua (V 311) (700 * (V 309 3)) 0))) (up_k (by decide) (up_up _ _ _ _)) ?_
  have lp48 : ∀ (N48 : Nat) (cs : List Cls) (p : Int) (f : Int → Int) (tx : Int → Int) (pl : Int → Int), (TxI (V 312) (V 308 4) (700 * V 309 3) cs p f tx) → (TxF (700 * V 309 3) (V 308) (V 311) f tx pl) → (∀ m r q d, RdR (V 312) (V 308 4) m cs p r q d → TxR (V 312) (V 308 4) r q d) → (V 308 4 - p).toNat < N48 → X Γ B RX11 "readText" cX11_readText 2 (some .int) 10 0 0 48 [some (vR B 308), none] [] 0 0 S (up (up (up V 308 f) 311 tx) 313 pl) := by
    intro N48
    induction N48 with
    | zero => intro cs p f tx pl hI hF hL hN; exact absurd hN (Nat.not_lt_zero _)
    | succ N48 ih48 =>
      intro cs p f tx pl hI hF hL hN48
      have e4 : f 4 = V 308 4 := hI.1.2.1
      have e12 : f 12 = 700 * V 309 3 := hI.2.1
      have pt := PS_tok hTp hI.1
      have e9 := hI.1.2.2.2.2.1
      have e1 := hI.1.1
      refine x_al0 dX11_readText_48 ?_
      refine x_getI fl_X11_129 (sh_308 hS) (lq_308 hS) dX11_readText_49 ?_
      refine x_topI (a' := f 9) rfl ?_
      refine x_if_eq (tgt := 69) dX11_readText_52 (inr (by omega)) (fun c52_1 => ?_) (fun c52_1 => ?_)
      · -- 52 eq -> 69
        refine x_iconst dX11_readText_69 ?_
        exact x_iret hQ ⟨0, f, tx, pl, TxE_0 hF hI hL (by omega), rfl, rfl, rfl⟩ dX11_readText_70
      · -- 52 eq -> 55
        refine x_al0 dX11_readText_55 ?_
        refine x_cVi3 mm_X11_clause ml_X11_262 dX11_readText_56 (c_X11_clause cs p hS (show f 4 ≤ 300 by omega) hTp (show 0 ≤ f 12 ∧ f 12 ≤ 2100 by omega) (show AB tx from hF.2.2.1) hF.2.2.2 (show TxI (V 312) (f 4) (f 12) cs p f tx by rw [e4, e12]; exact hI)) (sh_308 hS) (lq_308 hS) (fun rq fq txq plq hq => ?_)
        have hq2 : CluP (V 312) (f 4) (f 12) cs p f tx rq fq txq plq := hq
        clear hq
        rw [e4, e12] at hq2
        have hrr : 0 ≤ rq ∧ rq < 10 := by obtain ⟨_, _, _, _, _, z, _⟩ := hq2; exact z
        refine x_mem (V' := (up (up (up V 308 fq) 311 txq) 313 plq)) (Eq.trans (Eq.trans (congrArg (fun z => up z 313 _) (congrArg (fun z => up z 311 _) (up_k (by decide) (up_k (by decide) (up_up _ _ _ _))))) (congrArg (fun z => up z 313 _) (up_k (by decide) (up_up _ _ _ _)))) (up_up _ _ _ _)) ?_
        refine x_is1 dX11_readText_59 ?_
        refine x_il1 dX11_readText_60 ?_
        refine x_if_eq (tgt := 66) dX11_readText_61 (inr (by omega)) (fun c61_2 => ?_) (fun c61_2 => ?_)
        · -- 61 eq -> 66
          refine x_goto (tgt := 48) dX11_readText_66 ?_
          have hrq0 : rq = 0 := by omega
          rw [hrq0] at hq2
          have htk : tTok (V 312) (V 308 4) p ≠ 0 := by omega
          obtain ⟨q2, c, z1, z2, z3, z4, z5⟩ := id hq2
          have z6 := (z5 rfl).1
          have z7 := z2.1
          exact x_fg (ih48 (cs ++ [c]) q2 fq txq plq (z5 rfl).2 (TxF_t hF z3) (fun m r q' d hd => hL (m + 1) r q' d (Or.inr ⟨htk, 0, q2, c, z1, Or.inr ⟨rfl, hd⟩⟩)) (by omega)) (And.intro rfl trivial)
        · -- 61 eq -> 64
          refine x_il1 dX11_readText_64 ?_
          exact x_iret hQ ⟨rq, fq, txq, plq, TxE_f hF hL (by omega) (by omega) hq2, rfl, rfl, rfl⟩ dX11_readText_65
  refine x_mem (V' := (up (up (up V 308 (mTok (ua (ua (ua (ua (ua (V 308) 12 (700 * (V 309 3))) 14 0) 18 0) 21 0) 7 0) (V 312))) 311 (ua (V 311) (700 * (V 309 3)) 0)) 313 (V 313))) (show _ = (up (up (up V 308 (mTok (ua (ua (ua (ua (ua (V 308) 12 (700 * (V 309 3))) 14 0) 18 0) 21 0) 7 0) (V 312))) 311 (ua (V 311) (700 * (V 309 3)) 0)) 313 (V 313)) from (Eq.symm (up_self _ 313))) ?_
  exact x_fg (lp48 _ ([]) 0 (mTok (ua (ua (ua (ua (ua (V 308) 12 (700 * (V 309 3))) 14 0) 18 0) 21 0) 7 0) (V 312)) (ua (V 311) (700 * (V 309 3)) 0) (V 313) (TxI_0 hTp (by omega) rfl h10 h11 (ua_same _ _ _) rfl rfl rfl rfl rfl) ⟨fun k hk => (mTok_k (by omega)).trans (by rw [ua_ne (by omega), ua_ne (by omega), ua_ne (by omega), ua_ne (by omega), ua_ne (by omega)]), fun k hk => ua_ne (by omega), AB_ua hX (by decide), hPb⟩ (fun m r q d h => ⟨m, h⟩) (Nat.lt_succ_self _)) (And.intro rfl trivial)
set_option maxRecDepth 100000 in
set_option maxHeartbeats 4000000 in
theorem c_X11_text {B : Bs} {S : Stt} {V : Va} (hS : Stat S) (hT : 0 ≤ (V 308 4) ∧ (V 308 4) ≤ 300) (hTp : ∀ k, 0 ≤ (V 312) k ∧ (V 312) k < 256) (hX : AB (V 311)) (hPb : AB (V 313)) (ht3 : 0 ≤ (V 309 3) ∧ (V 309 3) ≤ 4) (h10 : 0 ≤ (V 308 10) ∧ (V 308 10) < 1000000) (h11 : 0 ≤ (V 308 11) ∧ (V 308 11) < 72057594037927936) : C B yX11_text cX11_text 1 (some .int) 11 0 0 [vR B 308] S V (rIX S (fun v VN => TexM V v VN)) := by
  refine C.of [some (vR B 308)] ?_
  intro Γ hQ
  refine x_al0 dX11_text_0 ?_
  refine x_getR fl_X11_7 (sh_308 hS) (lq_308 hS) (rf_308_0 hS) dX11_text_1 ?_
  refine x_iconst dX11_text_4 ?_
  refine x_iald (sh_309 hS) (lq_309 hS) (by omega) (by omega) dX11_text_5 ?_
  refine x_topI (a' := V 309 3) rfl ?_
  refine x_iconst dX11_text_6 ?_
  refine x_icmp_ne (tgt := 12) dX11_text_7 (inr (by omega)) (inr (by decide)) (fun c7_1 => ?_) (fun c7_1 => ?_)
  · -- 7 ne -> 12
    refine x_al0 dX11_text_12 ?_
    refine x_al0 dX11_text_13 ?_
    refine x_cVi3 mm_X11_readText ml_X11_265 dX11_text_14 (c_X11_readText hS hT hTp hX hPb (by omega) h10 h11) (sh_308 hS) (lq_308 hS) (fun rq fq txq plq hq => ?_)
    have hq2 : TxE (V 312) (V 308 4) (700 * V 309 3) (V 308) (V 311) rq fq txq plq := hq
    clear hq
    obtain ⟨q, cs, z1, z2, z3, z4, z5⟩ := hq2
    have e8 := z2.2.2.2.1
    have r8 := (tok_r hTp z2.1.2).1
    have r9 := (tok_r hTp z2.1.2).2.1
    have r0 := z2.1
    refine x_putI fl_X11_22 (sh_308 hS) (lq_308 hS) dX11_text_17 ?_
    refine x_mem (V' := (up (up (up V 308 (ua fq 5 rq)) 311 txq) 313 plq)) (st2_c (by decide) (st2_c (by decide) (st2_up _ _ _ _ _))) ?_
    refine x_al0 dX11_text_20 ?_
    refine x_al0 dX11_text_21 ?_
    refine x_getI fl_X11_22 (sh_308 hS) (lq_308 hS) dX11_text_22 ?_
    refine x_topI (a' := rq) (show (ua fq 5 rq) 5 = rq from (ua_same _ _ _)) ?_
    refine x_if_ne (tgt := 32) dX11_text_25 (inr (by omega)) (fun c25_2 => ?_) (fun c25_2 => ?_)
    · -- 25 ne -> 32
      refine x_al0 dX11_text_32 ?_
      refine x_getI fl_X11_126 (sh_308 hS) (lq_308 hS) dX11_text_33 ?_
      refine x_topI (a' := fq 8) (show (ua fq 5 rq) 8 = fq 8 from (ua_ne (by decide))) ?_
      refine x_putI fl_X11_26 (sh_308 hS) (lq_308 hS) dX11_text_36 ?_
      refine x_mem (V' := (up (up (up V 308 (ua (ua fq 5 rq) 6 (fq 8))) 311 txq) 313 plq)) (st2_c (by decide) (st2_c (by decide) (st2_up _ _ _ _ _))) ?_
      refine x_al0 dX11_text_39 ?_
      refine x_iconst dX11_text_40 ?_
      refine x_putI fl_X11_114 (sh_308 hS) (lq_308 hS) dX11_text_41 ?_
      refine x_mem (V' := (up (up (up V 308 (ua (ua (ua fq 5 rq) 6 (fq 8)) 4 0)) 311 txq) 313 plq)) (st2_c (by decide) (st2_c (by decide) (st2_up _ _ _ _ _))) ?_
      refine x_al0 dX11_text_44 ?_
      refine x_getI fl_X11_22 (sh_308 hS) (lq_308 hS) dX11_text_45 ?_
      refine x_topI (a' := rq) (show (ua (ua (ua fq 5 rq) 6 (fq 8)) 4 0) 5 = rq from ((ua_ne (by decide)).trans ((ua_ne (by decide)).trans (ua_same _ _ _)))) ?_
      refine x_if_eq (tgt := 53) dX11_text_48 (inr (by omega)) (fun c48_3 => ?_) (fun c48_3 => ?_)
      · -- 48 eq -> 53
        refine x_al0 dX11_text_53 ?_
        refine x_getR fl_X11_7 (sh_308 hS) (lq_308 hS) (rf_308_0 hS) dX11_text_54 ?_
        refine x_iconst dX11_text_57 ?_
        refine x_dup2 dX11_text_58 ?_
        refine x_iald (sh_309 hS) (lq_309 hS) (by omega) (by omega) dX11_text_59 ?_
        refine x_topI (a' := V 309 3) rfl ?_
        refine x_iconst dX11_text_60 ?_
        refine x_iadd dX11_text_61 ?_
        refine x_iast (sh_309 hS) (lq_309 hS) (by omega) (by omega) dX11_text_62 ?_
        refine x_mem (V' := (up (up (up (up V 308 (ua (ua (ua fq 5 rq) 6 (fq 8)) 4 0)) 309 (ua (V 309) 3 ((V 309 3) + 1))) 311 txq) 313 plq)) (st2_c (by decide) (st2_c (by decide) rfl)) ?_
        refine x_al0 dX11_text_63 ?_
        refine x_getR fl_X11_7 (sh_308 hS) (lq_308 hS) (rf_308_0 hS) dX11_text_64 ?_
        refine x_iconst dX11_text_67 ?_
        refine x_iald (sh_309 hS) (lq_309 hS) (by omega) (by omega) dX11_text_68 ?_
        refine x_topI (a' := (V 309 3) + 1) (show (ua (V 309) 3 ((V 309 3) + 1)) 3 = (V 309 3) + 1 from (ua_same _ _ _)) ?_
        refine x_iconst dX11_text_69 ?_
        refine x_isub dX11_text_70 ?_
        exact x_iret hQ (by exfalso; omega) dX11_text_71
      · -- 48 eq -> 51
        refine x_iconst dX11_text_51 ?_
        exact x_iret hQ ⟨_, rfl, rfl, Or.inr ⟨by omega, rq, q, cs, fq, txq, plq, z1, z2, z3, z4, z5, (by rw [if_neg (by omega)]), (by have y : ¬ rq = 0 := (by omega); rw [if_neg y, if_neg y, ← e8]; exact (upE (upE (show up (up V 308 _) 309 (V 309) = up V 308 _ from up_self _ 309).symm rfl) rfl))⟩⟩ dX11_text_52
    · -- 25 ne -> 28
      refine x_iconst dX11_text_28 ?_
      refine x_goto (tgt := 36) dX11_text_29 ?_
      refine x_putI fl_X11_26 (sh_308 hS) (lq_308 hS) dX11_text_36 ?_
      refine x_mem (V' := (up (up (up V 308 (ua (ua fq 5 rq) 6 (-1))) 311 txq) 313 plq)) (st2_c (by decide) (st2_c (by decide) (st2_up _ _ _ _ _))) ?_
      refine x_al0 dX11_text_39 ?_
      refine x_iconst dX11_text_40 ?_
      refine x_putI fl_X11_114 (sh_308 hS) (lq_308 hS) dX11_text_41 ?_
      refine x_mem (V' := (up (up (up V 308 (ua (ua (ua fq 5 rq) 6 (-1)) 4 0)) 311 txq) 313 plq)) (st2_c (by decide) (st2_c (by decide) (st2_up _ _ _ _ _))) ?_
      refine x_al0 dX11_text_44 ?_
      refine x_getI fl_X11_22 (sh_308 hS) (lq_308 hS) dX11_text_45 ?_
      refine x_topI (a' := rq) (show (ua (ua (ua fq 5 rq) 6 (-1)) 4 0) 5 = rq from ((ua_ne (by decide)).trans ((ua_ne (by decide)).trans (ua_same _ _ _)))) ?_
      refine x_if_eq (tgt := 53) dX11_text_48 (inr (by omega)) (fun c48_4 => ?_) (fun c48_4 => ?_)
      · -- 48 eq -> 53
        refine x_al0 dX11_text_53 ?_
        refine x_getR fl_X11_7 (sh_308 hS) (lq_308 hS) (rf_308_0 hS) dX11_text_54 ?_
        refine x_iconst dX11_text_57 ?_
        refine x_dup2 dX11_text_58 ?_
        refine x_iald (sh_309 hS) (lq_309 hS) (by omega) (by omega) dX11_text_59 ?_
        refine x_topI (a' := V 309 3) rfl ?_
        refine x_iconst dX11_text_60 ?_
        refine x_iadd dX11_text_61 ?_
        refine x_iast (sh_309 hS) (lq_309 hS) (by omega) (by omega) dX11_text_62 ?_
        refine x_mem (V' := (up (up (up (up V 308 (ua (ua (ua fq 5 rq) 6 (-1)) 4 0)) 309 (ua (V 309) 3 ((V 309 3) + 1))) 311 txq) 313 plq)) (st2_c (by decide) (st2_c (by decide) rfl)) ?_
        refine x_al0 dX11_text_63 ?_
        refine x_getR fl_X11_7 (sh_308 hS) (lq_308 hS) (rf_308_0 hS) dX11_text_64 ?_
        refine x_iconst dX11_text_67 ?_
        refine x_iald (sh_309 hS) (lq_309 hS) (by omega) (by omega) dX11_text_68 ?_
        refine x_topI (a' := (V 309 3) + 1) (show (ua (V 309) 3 ((V 309 3) + 1)) 3 = (V 309 3) + 1 from (ua_same _ _ _)) ?_
        refine x_iconst dX11_text_69 ?_
        refine x_isub dX11_text_70 ?_
        exact x_iret hQ ⟨_, rfl, rfl, Or.inr ⟨by omega, rq, q, cs, fq, txq, plq, z1, z2, z3, z4, z5, (by rw [if_pos (by omega)]; omega), (by have y : rq = 0 := (by omega); rw [if_pos y, if_pos y])⟩⟩ dX11_text_71
      · -- 48 eq -> 51
        refine x_iconst dX11_text_51 ?_
        exact x_iret hQ (by exfalso; omega) dX11_text_52
  · -- 7 ne -> 10
    refine x_iconst dX11_text_10 ?_
    exact x_iret hQ ⟨_, rfl, rfl, Or.inl ⟨by omega, rfl, rfl⟩⟩ dX11_text_11
