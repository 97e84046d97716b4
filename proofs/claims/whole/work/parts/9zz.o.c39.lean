set_option maxRecDepth 100000 in
set_option maxHeartbeats 4000000 in
theorem c_X3_readNumbers {B : Bs} {S : Stt} {V : Va} (word : Int) (x : Int) (T : Int → Int) (n : Int) (N : Nat) (i : Nat) (K : Int → Prop) (hS : Stat S) (hH : RdH T n N V) (hMb : ∀ v, 0 ≤ v → v ≤ 19 → 0 ≤ (V 286) v ∧ (V 286) v ≤ 9) (hKm : ∀ v, 0 ≤ v → v ≤ 19 → ((V 286) v ≠ 0 ↔ K v)) (r2 : (V 277 2) = 0) (r33 : (V 277 3) = -1) (r8 : (V 277 8) = i) (r3 : i ≤ N) (hw : 19 ≤ word ∧ word ≤ 24) (hx : 0 ≤ x ∧ x ≤ 92) : C B yX3_readNumbers cX3_readNumbers 3 none 4 0 0 [vR B 277, vI word, vI x] S V (rNc S V (fun f cl my => NuC T n N i K (word - 16) x (V 277) (V 282) (V 286) f cl my)) := by
  refine C.of [some (vR B 277), some (vI word), some (vI x)] ?_
  intro Γ hQ
  have hK := hH.1
  have h7 := hH.2.1
  have hn := hH.2.2.1
  have hTp := hH.2.2.2
  have hN := hK.1
  have hbk := TkR_r hK (show 0 ≤ V 277 8 by omega) (by omega)
  have hbv := TkR_v hTp hn.1 hK (show 0 ≤ V 277 8 by omega) (by omega)
  refine x_il1 dX3_readNumbers_0 ?_
  by_cases hs1 : word = 19
  · refine x_tswIn (tgt := 36) (off := 35) dX3_readNumbers_1 19 hs1 ?_
    refine x_al0 dX3_readNumbers_36 ?_
    refine x_cVmy mm_X3_readMany ml_X3_144 dX3_readNumbers_37 (c_X3_readMany T n N i K hS hH hMb hKm r2 r33 r8 r3) (sh_277 hS) (lq_277 hS) (fun fq my hq => ?_)
    refine x_goto (tgt := 290) dX3_readNumbers_40 ?_
    exact x_vret hQ ⟨fq, V 282, my, (by obtain ⟨R, q1, a, b, q2, q3, q4, q5⟩ := hq; exact ⟨R, [a, b], Or.inl ⟨by omega, q1⟩, q2, q3, fun _ _ => rfl, fun z => absurd (show word - 16 = 3 by omega) z, fun _ => ⟨a, b, rfl, q4, q5⟩⟩), rfl, rfl, (congrArg (fun z => up z 286 my) (show up (up V 277 fq) 282 (V 282) = up V 277 fq from up_self _ 282))⟩ dX3_readNumbers_290
  by_cases hs2 : word = 20
  · refine x_tswIn (tgt := 43) (off := 42) dX3_readNumbers_1 20 hs2 ?_
    have hns : NcS T n N i (numR T n (itm (word - 16)) (pos T n i)) [] [(1, 0, 15), (0, wTo, 0), (1, 0, 9), (0, wFor, 0), (1, 1, 99)] (V 277) := Or.inl ⟨r2, r33, i, Nat.le_refl _, r3, r8, by rw [show word - 16 = 4 by omega]; simp only [preN, List.nil_append]; rfl⟩
    obtain ⟨R, hRe⟩ : ∃ z, z = numR T n (itm (word - 16)) (pos T n i) := ⟨_, rfl⟩
    rw [← hRe] at hns
    refine x_al0 dX3_readNumbers_43 ?_
    refine x_getR fl_X3_31 (sh_277 hS) (lq_277 hS) (rf_277_10 hS) dX3_readNumbers_44 ?_
    refine x_il2 dX3_readNumbers_47 ?_
    refine x_iconst dX3_readNumbers_48 ?_
    refine x_iadd dX3_readNumbers_49 ?_
    refine x_al0 dX3_readNumbers_50 ?_
    refine x_iconst dX3_readNumbers_51 ?_
    refine x_bipush dX3_readNumbers_52 ?_
    refine x_cVnu mm_X3_readNumber ml_X3_147 dX3_readNumbers_54 (c_X3_readNumber 0 15 T n N i R [] [(0, wTo, 0), (1, 0, 9), (0, wFor, 0), (1, 1, 99)] hS (RdH_c hH rfl rfl rfl (show V 277 7 = V 277 7 from rfl)) (show NcS T n N i R [] ((1, 0, 15) :: [(0, wTo, 0), (1, 0, 9), (0, wFor, 0), (1, 1, 99)]) (V 277) from hns) (by decide)) (sh_277 hS) (lq_277 hS) (fun v1 f1 hr1 => ?_)
    obtain ⟨hv1, hn1x, hf1x⟩ := hr1
    have hn1 : NcS T n N i R ([] ++ [v1]) [(0, wTo, 0), (1, 0, 9), (0, wFor, 0), (1, 1, 99)] f1 := hn1x
    have hn1q := NcS_q hn1
    have hf1 : ∀ k, k ≠ 2 → k ≠ 3 → k ≠ 8 → f1 k = V 277 k := fun k k2 k3 k8 => (hf1x k k2 k3 k8).trans rfl
    have hbk1 := TkR_r hK hn1q.2.1 hn1q.2.2
    have hf17 := hf1 7 (by decide) (by decide) (by decide)
    clear hn1x hf1x
    refine x_iast (sh_282 hS) (lq_282 hS) (by omega) (by omega) dX3_readNumbers_57 ?_
    refine x_mem (V' := (up (up V 277 f1) 282 (ua (V 282) (x + 1) v1))) rfl ?_
    refine x_al0 dX3_readNumbers_58 ?_
    refine x_al0 dX3_readNumbers_59 ?_
    refine x_getR fl_X3_22 (sh_277 hS) (lq_277 hS) (rf_277_4 hS) dX3_readNumbers_60 ?_
    refine x_al0 dX3_readNumbers_63 ?_
    refine x_getI fl_X3_52 (sh_277 hS) (lq_277 hS) dX3_readNumbers_64 ?_
    refine x_topI (a' := f1 8) rfl ?_
    refine x_iald (sh_279 hS) (lq_279 hS) (by omega) (by omega) dX3_readNumbers_67 ?_
    refine x_topI (a' := V 279 (f1 8)) rfl ?_
    refine x_bipush dX3_readNumbers_68 ?_
    refine x_icmp_ne (tgt := 77) dX3_readNumbers_70 (inr (by omega)) (inr (by decide)) (fun c70_3 => ?_) (fun c70_3 => ?_)
    · -- 70 ne -> 77
      refine x_iconst dX3_readNumbers_77 ?_
      refine x_iconst dX3_readNumbers_78 ?_
      refine x_cVi mm_X3_take ml_X3_125 dX3_readNumbers_79 (c_X3_take 0 1 hS (by omega) (show 0 ≤ (f1 8) ∧ (f1 8) < 301 from (by omega)) (show InR (f1 7) from (inr (by omega))) (show InR (f1 2) from (inr (by omega))) (inr (by decide))) (sh_277 hS) (lq_277 hS) ?_
      refine x_topI (a' := takV f1 0) rfl ?_
      refine x_mem (V' := (up (up V 277 (takF f1 (V 280) 0 1)) 282 (ua (V 282) (x + 1) v1))) (up_k (by decide) (up_up _ _ _ _)) ?_
      obtain ⟨f2, hf2e⟩ : ∃ z : Int → Int, z = takF f1 (V 280) 0 1 := ⟨_, rfl⟩
      have hn2 : NcS T n N i R ([] ++ [v1]) [(1, 0, 9), (0, wFor, 0), (1, 1, 99)] f2 := by rw [hf2e]; exact NcS_take (by omega) (fun k hk => (hK.2.1 k hk).2.1) hn1 (fun j hj e => by have y := TkQ_mk (show V 279 (f1 8) = cTk T n (pos T n j) by rw [e]; exact (hK.2.1 j hj).1); have x := y.w (k := 10) (by decide) rfl; first | (have x1 := x.mp (by omega); exact Or.inl ⟨rfl, TkR_lt hK hj (by omega), x1.1, x1.2⟩) | exact Or.inr ⟨rfl, fun x1 => by have x2 := x.mpr x1; omega⟩)
      have hf2 : ∀ k, k ≠ 2 → k ≠ 3 → k ≠ 8 → f2 k = V 277 k := fun k k2 k3 k8 => by rw [hf2e]; exact (takF_k ⟨k2, k3, k8⟩).trans (hf1 k k2 k3 k8)
      refine x_mem (V' := (up (up V 277 f2) 282 (ua (V 282) (x + 1) v1))) (upE (upE rfl hf2e.symm) rfl) ?_
      clear hf2e
      have hn2q := NcS_q hn2
      have hf27 := hf2 7 (by decide) (by decide) (by decide)
      refine x_pop dX3_readNumbers_82 ?_
      refine x_al0 dX3_readNumbers_83 ?_
      refine x_getR fl_X3_31 (sh_277 hS) (lq_277 hS) (rf_277_10 hS) dX3_readNumbers_84 ?_
      refine x_il2 dX3_readNumbers_87 ?_
      refine x_iconst dX3_readNumbers_88 ?_
      refine x_iadd dX3_readNumbers_89 ?_
      refine x_al0 dX3_readNumbers_90 ?_
      refine x_iconst dX3_readNumbers_91 ?_
      refine x_bipush dX3_readNumbers_92 ?_
      refine x_cVnu mm_X3_readNumber ml_X3_147 dX3_readNumbers_94 (c_X3_readNumber 0 9 T n N i R ([] ++ [v1]) [(0, wFor, 0), (1, 1, 99)] hS (RdH_c hH rfl rfl rfl (show f2 7 = V 277 7 from hf2 7 (by decide) (by decide) (by decide))) (show NcS T n N i R ([] ++ [v1]) ((1, 0, 9) :: [(0, wFor, 0), (1, 1, 99)]) f2 from hn2) (by decide)) (sh_277 hS) (lq_277 hS) (fun v3 f3 hr3 => ?_)
      obtain ⟨hv3, hn3x, hf3x⟩ := hr3
      have hn3 : NcS T n N i R (([] ++ [v1]) ++ [v3]) [(0, wFor, 0), (1, 1, 99)] f3 := hn3x
      have hn3q := NcS_q hn3
      have hf3 : ∀ k, k ≠ 2 → k ≠ 3 → k ≠ 8 → f3 k = V 277 k := fun k k2 k3 k8 => (hf3x k k2 k3 k8).trans (hf2 k k2 k3 k8)
      have hbk3 := TkR_r hK hn3q.2.1 hn3q.2.2
      have hf37 := hf3 7 (by decide) (by decide) (by decide)
      clear hn3x hf3x
      refine x_mem (V' := (up (up V 277 f3) 282 (ua (V 282) (x + 1) v1))) (up_k (by decide) (up_up _ _ _ _)) ?_
      refine x_iast (sh_282 hS) (lq_282 hS) (by omega) (by omega) dX3_readNumbers_97 ?_
      refine x_mem (V' := (up (up V 277 f3) 282 (ua (ua (V 282) (x + 1) v1) (x + 2) v3))) (st2_up _ _ _ _ _) ?_
      refine x_al0 dX3_readNumbers_98 ?_
      refine x_al0 dX3_readNumbers_99 ?_
      refine x_getR fl_X3_22 (sh_277 hS) (lq_277 hS) (rf_277_4 hS) dX3_readNumbers_100 ?_
      refine x_al0 dX3_readNumbers_103 ?_
      refine x_getI fl_X3_52 (sh_277 hS) (lq_277 hS) dX3_readNumbers_104 ?_
      refine x_topI (a' := f3 8) rfl ?_
      refine x_iald (sh_279 hS) (lq_279 hS) (by omega) (by omega) dX3_readNumbers_107 ?_
      refine x_topI (a' := V 279 (f3 8)) rfl ?_
      refine x_bipush dX3_readNumbers_108 ?_
      refine x_icmp_ne (tgt := 117) dX3_readNumbers_110 (inr (by omega)) (inr (by decide)) (fun c110_4 => ?_) (fun c110_4 => ?_)
      · -- 110 ne -> 117
        refine x_iconst dX3_readNumbers_117 ?_
        refine x_iconst dX3_readNumbers_118 ?_
        refine x_cVi mm_X3_take ml_X3_125 dX3_readNumbers_119 (c_X3_take 0 1 hS (by omega) (show 0 ≤ (f3 8) ∧ (f3 8) < 301 from (by omega)) (show InR (f3 7) from (inr (by omega))) (show InR (f3 2) from (inr (by omega))) (inr (by decide))) (sh_277 hS) (lq_277 hS) ?_
        refine x_topI (a' := takV f3 0) rfl ?_
        refine x_mem (V' := (up (up V 277 (takF f3 (V 280) 0 1)) 282 (ua (ua (V 282) (x + 1) v1) (x + 2) v3))) (up_k (by decide) (up_up _ _ _ _)) ?_
        obtain ⟨f4, hf4e⟩ : ∃ z : Int → Int, z = takF f3 (V 280) 0 1 := ⟨_, rfl⟩
        have hn4 : NcS T n N i R (([] ++ [v1]) ++ [v3]) [(1, 1, 99)] f4 := by rw [hf4e]; exact NcS_take (by omega) (fun k hk => (hK.2.1 k hk).2.1) hn3 (fun j hj e => by have y := TkQ_mk (show V 279 (f3 8) = cTk T n (pos T n j) by rw [e]; exact (hK.2.1 j hj).1); have x := y.w (k := 11) (by decide) rfl; first | (have x1 := x.mp (by omega); exact Or.inl ⟨rfl, TkR_lt hK hj (by omega), x1.1, x1.2⟩) | exact Or.inr ⟨rfl, fun x1 => by have x2 := x.mpr x1; omega⟩)
        have hf4 : ∀ k, k ≠ 2 → k ≠ 3 → k ≠ 8 → f4 k = V 277 k := fun k k2 k3 k8 => by rw [hf4e]; exact (takF_k ⟨k2, k3, k8⟩).trans (hf3 k k2 k3 k8)
        refine x_mem (V' := (up (up V 277 f4) 282 (ua (ua (V 282) (x + 1) v1) (x + 2) v3))) (upE (upE rfl hf4e.symm) rfl) ?_
        clear hf4e
        have hn4q := NcS_q hn4
        have hf47 := hf4 7 (by decide) (by decide) (by decide)
        refine x_pop dX3_readNumbers_122 ?_
        refine x_al0 dX3_readNumbers_123 ?_
        refine x_getR fl_X3_31 (sh_277 hS) (lq_277 hS) (rf_277_10 hS) dX3_readNumbers_124 ?_
        refine x_il2 dX3_readNumbers_127 ?_
        refine x_iconst dX3_readNumbers_128 ?_
        refine x_iadd dX3_readNumbers_129 ?_
        refine x_al0 dX3_readNumbers_130 ?_
        refine x_iconst dX3_readNumbers_131 ?_
        refine x_bipush dX3_readNumbers_132 ?_
        refine x_cVnu mm_X3_readNumber ml_X3_147 dX3_readNumbers_134 (c_X3_readNumber 1 99 T n N i R (([] ++ [v1]) ++ [v3]) [] hS (RdH_c hH rfl rfl rfl (show f4 7 = V 277 7 from hf4 7 (by decide) (by decide) (by decide))) (show NcS T n N i R (([] ++ [v1]) ++ [v3]) ((1, 1, 99) :: []) f4 from hn4) (by decide)) (sh_277 hS) (lq_277 hS) (fun v5 f5 hr5 => ?_)
        obtain ⟨hv5, hn5x, hf5x⟩ := hr5
        have hn5 : NcS T n N i R ((([] ++ [v1]) ++ [v3]) ++ [v5]) [] f5 := hn5x
        have hn5q := NcS_q hn5
        have hf5 : ∀ k, k ≠ 2 → k ≠ 3 → k ≠ 8 → f5 k = V 277 k := fun k k2 k3 k8 => (hf5x k k2 k3 k8).trans (hf4 k k2 k3 k8)
        have hbk5 := TkR_r hK hn5q.2.1 hn5q.2.2
        have hf57 := hf5 7 (by decide) (by decide) (by decide)
        clear hn5x hf5x
        refine x_mem (V' := (up (up V 277 f5) 282 (ua (ua (V 282) (x + 1) v1) (x + 2) v3))) (up_k (by decide) (up_up _ _ _ _)) ?_
        refine x_iast (sh_282 hS) (lq_282 hS) (by omega) (by omega) dX3_readNumbers_137 ?_
        refine x_mem (V' := (up (up V 277 f5) 282 (ua (ua (ua (V 282) (x + 1) v1) (x + 2) v3) (x + 3) v5))) (st2_up _ _ _ _ _) ?_
        refine x_goto (tgt := 290) dX3_readNumbers_138 ?_
        exact x_vret hQ ⟨f5, ua (ua (ua (V 282) (x + 1) v1) (x + 2) v3) (x + 3) v5, V 286, ⟨R, ((([] ++ [v1]) ++ [v3]) ++ [v5]), Or.inr ⟨by omega, hRe⟩, NcS_e hn5, hf5, (fun k hk => by simp only [ua]; rw [if_neg (by omega)]; rw [if_neg (by omega)]; rw [if_neg (by omega)]), fun _ => ⟨rfl, (nu_at3 _ _ _ _ _)⟩, fun z => by omega⟩, rfl, rfl, (show up (up (up V 277 _) 282 _) 286 (V 286) = up (up V 277 _) 282 _ from up_self _ 286)⟩ dX3_readNumbers_290
      · -- 110 ne -> 113
        refine x_iconst dX3_readNumbers_113 ?_
        refine x_goto (tgt := 118) dX3_readNumbers_114 ?_
        refine x_iconst dX3_readNumbers_118 ?_
        refine x_cVi mm_X3_take ml_X3_125 dX3_readNumbers_119 (c_X3_take 1 1 hS (by omega) (show 0 ≤ (f3 8) ∧ (f3 8) < 301 from (by omega)) (show InR (f3 7) from (inr (by omega))) (show InR (f3 2) from (inr (by omega))) (inr (by decide))) (sh_277 hS) (lq_277 hS) ?_
        refine x_topI (a' := takV f3 1) rfl ?_
        refine x_mem (V' := (up (up V 277 (takF f3 (V 280) 1 1)) 282 (ua (ua (V 282) (x + 1) v1) (x + 2) v3))) (up_k (by decide) (up_up _ _ _ _)) ?_
        obtain ⟨f6, hf6e⟩ : ∃ z : Int → Int, z = takF f3 (V 280) 1 1 := ⟨_, rfl⟩
        have hn6 : NcS T n N i R (([] ++ [v1]) ++ [v3]) [(1, 1, 99)] f6 := by rw [hf6e]; exact NcS_take (by omega) (fun k hk => (hK.2.1 k hk).2.1) hn3 (fun j hj e => by have y := TkQ_mk (show V 279 (f3 8) = cTk T n (pos T n j) by rw [e]; exact (hK.2.1 j hj).1); have x := y.w (k := 11) (by decide) rfl; first | (have x1 := x.mp (by omega); exact Or.inl ⟨rfl, TkR_lt hK hj (by omega), x1.1, x1.2⟩) | exact Or.inr ⟨rfl, fun x1 => by have x2 := x.mpr x1; omega⟩)
        have hf6 : ∀ k, k ≠ 2 → k ≠ 3 → k ≠ 8 → f6 k = V 277 k := fun k k2 k3 k8 => by rw [hf6e]; exact (takF_k ⟨k2, k3, k8⟩).trans (hf3 k k2 k3 k8)
        refine x_mem (V' := (up (up V 277 f6) 282 (ua (ua (V 282) (x + 1) v1) (x + 2) v3))) (upE (upE rfl hf6e.symm) rfl) ?_
        clear hf6e
        have hn6q := NcS_q hn6
        have hf67 := hf6 7 (by decide) (by decide) (by decide)
        refine x_pop dX3_readNumbers_122 ?_
        refine x_al0 dX3_readNumbers_123 ?_
        refine x_getR fl_X3_31 (sh_277 hS) (lq_277 hS) (rf_277_10 hS) dX3_readNumbers_124 ?_
        refine x_il2 dX3_readNumbers_127 ?_
        refine x_iconst dX3_readNumbers_128 ?_
        refine x_iadd dX3_readNumbers_129 ?_
        refine x_al0 dX3_readNumbers_130 ?_
        refine x_iconst dX3_readNumbers_131 ?_
        refine x_bipush dX3_readNumbers_132 ?_
        refine x_cVnu mm_X3_readNumber ml_X3_147 dX3_readNumbers_134 (c_X3_readNumber 1 99 T n N i R (([] ++ [v1]) ++ [v3]) [] hS (RdH_c hH rfl rfl rfl (show f6 7 = V 277 7 from hf6 7 (by decide) (by decide) (by decide))) (show NcS T n N i R (([] ++ [v1]) ++ [v3]) ((1, 1, 99) :: []) f6 from hn6) (by decide)) (sh_277 hS) (lq_277 hS) (fun v7 f7 hr7 => ?_)
        obtain ⟨hv7, hn7x, hf7x⟩ := hr7
        have hn7 : NcS T n N i R ((([] ++ [v1]) ++ [v3]) ++ [v7]) [] f7 := hn7x
        have hn7q := NcS_q hn7
        have hf7 : ∀ k, k ≠ 2 → k ≠ 3 → k ≠ 8 → f7 k = V 277 k := fun k k2 k3 k8 => (hf7x k k2 k3 k8).trans (hf6 k k2 k3 k8)
        have hbk7 := TkR_r hK hn7q.2.1 hn7q.2.2
        have hf77 := hf7 7 (by decide) (by decide) (by decide)
        clear hn7x hf7x
        refine x_mem (V' := (up (up V 277 f7) 282 (ua (ua (V 282) (x + 1) v1) (x + 2) v3))) (up_k (by decide) (up_up _ _ _ _)) ?_
        refine x_iast (sh_282 hS) (lq_282 hS) (by omega) (by omega) dX3_readNumbers_137 ?_
        refine x_mem (V' := (up (up V 277 f7) 282 (ua (ua (ua (V 282) (x + 1) v1) (x + 2) v3) (x + 3) v7))) (st2_up _ _ _ _ _) ?_
        refine x_goto (tgt := 290) dX3_readNumbers_138 ?_
        exact x_vret hQ ⟨f7, ua (ua (ua (V 282) (x + 1) v1) (x + 2) v3) (x + 3) v7, V 286, ⟨R, ((([] ++ [v1]) ++ [v3]) ++ [v7]), Or.inr ⟨by omega, hRe⟩, NcS_e hn7, hf7, (fun k hk => by simp only [ua]; rw [if_neg (by omega)]; rw [if_neg (by omega)]; rw [if_neg (by omega)]), fun _ => ⟨rfl, (nu_at3 _ _ _ _ _)⟩, fun z => by omega⟩, rfl, rfl, (show up (up (up V 277 _) 282 _) 286 (V 286) = up (up V 277 _) 282 _ from up_self _ 286)⟩ dX3_readNumbers_290
    · -- 70 ne -> 73
      refine x_iconst dX3_readNumbers_73 ?_
      refine x_goto (tgt := 78) dX3_readNumbers_74 ?_
      refine x_iconst dX3_readNumbers_78 ?_
      refine x_cVi mm_X3_take ml_X3_125 dX3_readNumbers_79 (c_X3_take 1 1 hS (by omega) (show 0 ≤ (f1 8) ∧ (f1 8) < 301 from (by omega)) (show InR (f1 7) from (inr (by omega))) (show InR (f1 2) from (inr (by omega))) (inr (by decide))) (sh_277 hS) (lq_277 hS) ?_
      refine x_topI (a' := takV f1 1) rfl ?_
      refine x_mem (V' := (up (up V 277 (takF f1 (V 280) 1 1)) 282 (ua (V 282) (x + 1) v1))) (up_k (by decide) (up_up _ _ _ _)) ?_
      obtain ⟨f8, hf8e⟩ : ∃ z : Int → Int, z = takF f1 (V 280) 1 1 := ⟨_, rfl⟩
      have hn8 : NcS T n N i R ([] ++ [v1]) [(1, 0, 9), (0, wFor, 0), (1, 1, 99)] f8 := by rw [hf8e]; exact NcS_take (by omega) (fun k hk => (hK.2.1 k hk).2.1) hn1 (fun j hj e => by have y := TkQ_mk (show V 279 (f1 8) = cTk T n (pos T n j) by rw [e]; exact (hK.2.1 j hj).1); have x := y.w (k := 10) (by decide) rfl; first | (have x1 := x.mp (by omega); exact Or.inl ⟨rfl, TkR_lt hK hj (by omega), x1.1, x1.2⟩) | exact Or.inr ⟨rfl, fun x1 => by have x2 := x.mpr x1; omega⟩)
      have hf8 : ∀ k, k ≠ 2 → k ≠ 3 → k ≠ 8 → f8 k = V 277 k := fun k k2 k3 k8 => by rw [hf8e]; exact (takF_k ⟨k2, k3, k8⟩).trans (hf1 k k2 k3 k8)
      refine x_mem (V' := (up (up V 277 f8) 282 (ua (V 282) (x + 1) v1))) (upE (upE rfl hf8e.symm) rfl) ?_
      clear hf8e
      have hn8q := NcS_q hn8
      have hf87 := hf8 7 (by decide) (by decide) (by decide)
      refine x_pop dX3_readNumbers_82 ?_
      refine x_al0 dX3_readNumbers_83 ?_
      refine x_getR fl_X3_31 (sh_277 hS) (lq_277 hS) (rf_277_10 hS) dX3_readNumbers_84 ?_
      refine x_il2 dX3_readNumbers_87 ?_
      refine x_iconst dX3_readNumbers_88 ?_
      refine x_iadd dX3_readNumbers_89 ?_
      refine x_al0 dX3_readNumbers_90 ?_
      refine x_iconst dX3_readNumbers_91 ?_
      refine x_bipush dX3_readNumbers_92 ?_
      refine x_cVnu mm_X3_readNumber ml_X3_147 dX3_readNumbers_94 (c_X3_readNumber 0 9 T n N i R ([] ++ [v1]) [(0, wFor, 0), (1, 1, 99)] hS (RdH_c hH rfl rfl rfl (show f8 7 = V 277 7 from hf8 7 (by decide) (by decide) (by decide))) (show NcS T n N i R ([] ++ [v1]) ((1, 0, 9) :: [(0, wFor, 0), (1, 1, 99)]) f8 from hn8) (by decide)) (sh_277 hS) (lq_277 hS) (fun v9 f9 hr9 => ?_)
      obtain ⟨hv9, hn9x, hf9x⟩ := hr9
      have hn9 : NcS T n N i R (([] ++ [v1]) ++ [v9]) [(0, wFor, 0), (1, 1, 99)] f9 := hn9x
      have hn9q := NcS_q hn9
      have hf9 : ∀ k, k ≠ 2 → k ≠ 3 → k ≠ 8 → f9 k = V 277 k := fun k k2 k3 k8 => (hf9x k k2 k3 k8).trans (hf8 k k2 k3 k8)
      have hbk9 := TkR_r hK hn9q.2.1 hn9q.2.2
      have hf97 := hf9 7 (by decide) (by decide) (by decide)
      clear hn9x hf9x
      refine x_mem (V' := (up (up V 277 f9) 282 (ua (V 282) (x + 1) v1))) (up_k (by decide) (up_up _ _ _ _)) ?_
      refine x_iast (sh_282 hS) (lq_282 hS) (by omega) (by omega) dX3_readNumbers_97 ?_
      refine x_mem (V' := (up (up V 277 f9) 282 (ua (ua (V 282) (x + 1) v1) (x + 2) v9))) (st2_up _ _ _ _ _) ?_
      refine x_al0 dX3_readNumbers_98 ?_
      refine x_al0 dX3_readNumbers_99 ?_
      refine x_getR fl_X3_22 (sh_277 hS) (lq_277 hS) (rf_277_4 hS) dX3_readNumbers_100 ?_
      refine x_al0 dX3_readNumbers_103 ?_
      refine x_getI fl_X3_52 (sh_277 hS) (lq_277 hS) dX3_readNumbers_104 ?_
      refine x_topI (a' := f9 8) rfl ?_
      refine x_iald (sh_279 hS) (lq_279 hS) (by omega) (by omega) dX3_readNumbers_107 ?_
      refine x_topI (a' := V 279 (f9 8)) rfl ?_
      refine x_bipush dX3_readNumbers_108 ?_
      refine x_icmp_ne (tgt := 117) dX3_readNumbers_110 (inr (by omega)) (inr (by decide)) (fun c110_5 => ?_) (fun c110_5 => ?_)
      · -- 110 ne -> 117
        refine x_iconst dX3_readNumbers_117 ?_
        refine x_iconst dX3_readNumbers_118 ?_
        refine x_cVi mm_X3_take ml_X3_125 dX3_readNumbers_119 (c_X3_take 0 1 hS (by omega) (show 0 ≤ (f9 8) ∧ (f9 8) < 301 from (by omega)) (show InR (f9 7) from (inr (by omega))) (show InR (f9 2) from (inr (by omega))) (inr (by decide))) (sh_277 hS) (lq_277 hS) ?_
        refine x_topI (a' := takV f9 0) rfl ?_
        refine x_mem (V' := (up (up V 277 (takF f9 (V 280) 0 1)) 282 (ua (ua (V 282) (x + 1) v1) (x + 2) v9))) (up_k (by decide) (up_up _ _ _ _)) ?_
        obtain ⟨f10, hf10e⟩ : ∃ z : Int → Int, z = takF f9 (V 280) 0 1 := ⟨_, rfl⟩
        have hn10 : NcS T n N i R (([] ++ [v1]) ++ [v9]) [(1, 1, 99)] f10 := by rw [hf10e]; exact NcS_take (by omega) (fun k hk => (hK.2.1 k hk).2.1) hn9 (fun j hj e => by have y := TkQ_mk (show V 279 (f9 8) = cTk T n (pos T n j) by rw [e]; exact (hK.2.1 j hj).1); have x := y.w (k := 11) (by decide) rfl; first | (have x1 := x.mp (by omega); exact Or.inl ⟨rfl, TkR_lt hK hj (by omega), x1.1, x1.2⟩) | exact Or.inr ⟨rfl, fun x1 => by have x2 := x.mpr x1; omega⟩)
        have hf10 : ∀ k, k ≠ 2 → k ≠ 3 → k ≠ 8 → f10 k = V 277 k := fun k k2 k3 k8 => by rw [hf10e]; exact (takF_k ⟨k2, k3, k8⟩).trans (hf9 k k2 k3 k8)
        refine x_mem (V' := (up (up V 277 f10) 282 (ua (ua (V 282) (x + 1) v1) (x + 2) v9))) (upE (upE rfl hf10e.symm) rfl) ?_
        clear hf10e
        have hn10q := NcS_q hn10
        have hf107 := hf10 7 (by decide) (by decide) (by decide)
        refine x_pop dX3_readNumbers_122 ?_
        refine x_al0 dX3_readNumbers_123 ?_
        refine x_getR fl_X3_31 (sh_277 hS) (lq_277 hS) (rf_277_10 hS) dX3_readNumbers_124 ?_
        refine x_il2 dX3_readNumbers_127 ?_
        refine x_iconst dX3_readNumbers_128 ?_
        refine x_iadd dX3_readNumbers_129 ?_
        refine x_al0 dX3_readNumbers_130 ?_
        refine x_iconst dX3_readNumbers_131 ?_
        refine x_bipush dX3_readNumbers_132 ?_
        refine x_cVnu mm_X3_readNumber ml_X3_147 dX3_readNumbers_134 (c_X3_readNumber 1 99 T n N i R (([] ++ [v1]) ++ [v9]) [] hS (RdH_c hH rfl rfl rfl (show f10 7 = V 277 7 from hf10 7 (by decide) (by decide) (by decide))) (show NcS T n N i R (([] ++ [v1]) ++ [v9]) ((1, 1, 99) :: []) f10 from hn10) (by decide)) (sh_277 hS) (lq_277 hS) (fun v11 f11 hr11 => ?_)
        obtain ⟨hv11, hn11x, hf11x⟩ := hr11
        have hn11 : NcS T n N i R ((([] ++ [v1]) ++ [v9]) ++ [v11]) [] f11 := hn11x
        have hn11q := NcS_q hn11
        have hf11 : ∀ k, k ≠ 2 → k ≠ 3 → k ≠ 8 → f11 k = V 277 k := fun k k2 k3 k8 => (hf11x k k2 k3 k8).trans (hf10 k k2 k3 k8)
        have hbk11 := TkR_r hK hn11q.2.1 hn11q.2.2
        have hf117 := hf11 7 (by decide) (by decide) (by decide)
        clear hn11x hf11x
        refine x_mem (V' := (up (up V 277 f11) 282 (ua (ua (V 282) (x + 1) v1) (x + 2) v9))) (up_k (by decide) (up_up _ _ _ _)) ?_
        refine x_iast (sh_282 hS) (lq_282 hS) (by omega) (by omega) dX3_readNumbers_137 ?_
        refine x_mem (V' := (up (up V 277 f11) 282 (ua (ua (ua (V 282) (x + 1) v1) (x + 2) v9) (x + 3) v11))) (st2_up _ _ _ _ _) ?_
        refine x_goto (tgt := 290) dX3_readNumbers_138 ?_
        exact x_vret hQ ⟨f11, ua (ua (ua (V 282) (x + 1) v1) (x + 2) v9) (x + 3) v11, V 286, ⟨R, ((([] ++ [v1]) ++ [v9]) ++ [v11]), Or.inr ⟨by omega, hRe⟩, NcS_e hn11, hf11, (fun k hk => by simp only [ua]; rw [if_neg (by omega)]; rw [if_neg (by omega)]; rw [if_neg (by omega)]), fun _ => ⟨rfl, (nu_at3 _ _ _ _ _)⟩, fun z => by omega⟩, rfl, rfl, (show up (up (up V 277 _) 282 _) 286 (V 286) = up (up V 277 _) 282 _ from up_self _ 286)⟩ dX3_readNumbers_290
      · -- 110 ne -> 113
        refine x_iconst dX3_readNumbers_113 ?_
        refine x_goto (tgt := 118) dX3_readNumbers_114 ?_
        refine x_iconst dX3_readNumbers_118 ?_
        refine x_cVi mm_X3_take ml_X3_125 dX3_readNumbers_119 (c_X3_take 1 1 hS (by omega) (show 0 ≤ (f9 8) ∧ (f9 8) < 301 from (by omega)) (show InR (f9 7) from (inr (by omega))) (show InR (f9 2) from (inr (by omega))) (inr (by decide))) (sh_277 hS) (lq_277 hS) ?_
        refine x_topI (a' := takV f9 1) rfl ?_
        refine x_mem (V' := (up (up V 277 (takF f9 (V 280) 1 1)) 282 (ua (ua (V 282) (x + 1) v1) (x + 2) v9))) (up_k (by decide) (up_up _ _ _ _)) ?_
        obtain ⟨f12, hf12e⟩ : ∃ z : Int → Int, z = takF f9 (V 280) 1 1 := ⟨_, rfl⟩
        have hn12 : NcS T n N i R (([] ++ [v1]) ++ [v9]) [(1, 1, 99)] f12 := by rw [hf12e]; exact NcS_take (by omega) (fun k hk => (hK.2.1 k hk).2.1) hn9 (fun j hj e => by have y := TkQ_mk (show V 279 (f9 8) = cTk T n (pos T n j) by rw [e]; exact (hK.2.1 j hj).1); have x := y.w (k := 11) (by decide) rfl; first | (have x1 := x.mp (by omega); exact Or.inl ⟨rfl, TkR_lt hK hj (by omega), x1.1, x1.2⟩) | exact Or.inr ⟨rfl, fun x1 => by have x2 := x.mpr x1; omega⟩)
        have hf12 : ∀ k, k ≠ 2 → k ≠ 3 → k ≠ 8 → f12 k = V 277 k := fun k k2 k3 k8 => by rw [hf12e]; exact (takF_k ⟨k2, k3, k8⟩).trans (hf9 k k2 k3 k8)
        refine x_mem (V' := (up (up V 277 f12) 282 (ua (ua (V 282) (x + 1) v1) (x + 2) v9))) (upE (upE rfl hf12e.symm) rfl) ?_
        clear hf12e
        have hn12q := NcS_q hn12
        have hf127 := hf12 7 (by decide) (by decide) (by decide)
        refine x_pop dX3_readNumbers_122 ?_
        refine x_al0 dX3_readNumbers_123 ?_
        refine x_getR fl_X3_31 (sh_277 hS) (lq_277 hS) (rf_277_10 hS) dX3_readNumbers_124 ?_
        refine x_il2 dX3_readNumbers_127 ?_
        refine x_iconst dX3_readNumbers_128 ?_
        refine x_iadd dX3_readNumbers_129 ?_
        refine x_al0 dX3_readNumbers_130 ?_
        refine x_iconst dX3_readNumbers_131 ?_
        refine x_bipush dX3_readNumbers_132 ?_
        refine x_cVnu mm_X3_readNumber ml_X3_147 dX3_readNumbers_134 (c_X3_readNumber 1 99 T n N i R (([] ++ [v1]) ++ [v9]) [] hS (RdH_c hH rfl rfl rfl (show f12 7 = V 277 7 from hf12 7 (by decide) (by decide) (by decide))) (show NcS T n N i R (([] ++ [v1]) ++ [v9]) ((1, 1, 99) :: []) f12 from hn12) (by decide)) (sh_277 hS) (lq_277 hS) (fun v13 f13 hr13 => ?_)
        obtain ⟨hv13, hn13x, hf13x⟩ := hr13
        have hn13 : NcS T n N i R ((([] ++ [v1]) ++ [v9]) ++ [v13]) [] f13 := hn13x
        have hn13q := NcS_q hn13
        have hf13 : ∀ k, k ≠ 2 → k ≠ 3 → k ≠ 8 → f13 k = V 277 k := fun k k2 k3 k8 => (hf13x k k2 k3 k8).trans (hf12 k k2 k3 k8)
        have hbk13 := TkR_r hK hn13q.2.1 hn13q.2.2
        have hf137 := hf13 7 (by decide) (by decide) (by decide)
        clear hn13x hf13x
        refine x_mem (V' := (up (up V 277 f13) 282 (ua (ua (V 282) (x + 1) v1) (x + 2) v9))) (up_k (by decide) (up_up _ _ _ _)) ?_
        refine x_iast (sh_282 hS) (lq_282 hS) (by omega) (by omega) dX3_readNumbers_137 ?_
        refine x_mem (V' := (up (up V 277 f13) 282 (ua (ua (ua (V 282) (x + 1) v1) (x + 2) v9) (x + 3) v13))) (st2_up _ _ _ _ _) ?_
        refine x_goto (tgt := 290) dX3_readNumbers_138 ?_
        exact x_vret hQ ⟨f13, ua (ua (ua (V 282) (x + 1) v1) (x + 2) v9) (x + 3) v13, V 286, ⟨R, ((([] ++ [v1]) ++ [v9]) ++ [v13]), Or.inr ⟨by omega, hRe⟩, NcS_e hn13, hf13, (fun k hk => by simp only [ua]; rw [if_neg (by omega)]; rw [if_neg (by omega)]; rw [if_neg (by omega)]), fun _ => ⟨rfl, (nu_at3 _ _ _ _ _)⟩, fun z => by omega⟩, rfl, rfl, (show up (up (up V 277 _) 282 _) 286 (V 286) = up (up V 277 _) 282 _ from up_self _ 286)⟩ dX3_readNumbers_290
  by_cases hs6 : word = 21
  · refine x_tswIn (tgt := 141) (off := 140) dX3_readNumbers_1 21 hs6 ?_
    have hns : NcS T n N i (numR T n (itm (word - 16)) (pos T n i)) [] [(1, 0, 15), (0, wWith, 0), (1, 0, 15)] (V 277) := Or.inl ⟨r2, r33, i, Nat.le_refl _, r3, r8, by rw [show word - 16 = 5 by omega]; simp only [preN, List.nil_append]; rfl⟩
    obtain ⟨R, hRe⟩ : ∃ z, z = numR T n (itm (word - 16)) (pos T n i) := ⟨_, rfl⟩
    rw [← hRe] at hns
    refine x_al0 dX3_readNumbers_141 ?_
    refine x_getR fl_X3_31 (sh_277 hS) (lq_277 hS) (rf_277_10 hS) dX3_readNumbers_142 ?_
    refine x_il2 dX3_readNumbers_145 ?_
    refine x_iconst dX3_readNumbers_146 ?_
    refine x_iadd dX3_readNumbers_147 ?_
    refine x_al0 dX3_readNumbers_148 ?_
    refine x_iconst dX3_readNumbers_149 ?_
    refine x_bipush dX3_readNumbers_150 ?_
    refine x_cVnu mm_X3_readNumber ml_X3_147 dX3_readNumbers_152 (c_X3_readNumber 0 15 T n N i R [] [(0, wWith, 0), (1, 0, 15)] hS (RdH_c hH rfl rfl rfl (show V 277 7 = V 277 7 from rfl)) (show NcS T n N i R [] ((1, 0, 15) :: [(0, wWith, 0), (1, 0, 15)]) (V 277) from hns) (by decide)) (sh_277 hS) (lq_277 hS) (fun v14 f14 hr14 => ?_)
    obtain ⟨hv14, hn14x, hf14x⟩ := hr14
    have hn14 : NcS T n N i R ([] ++ [v14]) [(0, wWith, 0), (1, 0, 15)] f14 := hn14x
    have hn14q := NcS_q hn14
    have hf14 : ∀ k, k ≠ 2 → k ≠ 3 → k ≠ 8 → f14 k = V 277 k := fun k k2 k3 k8 => (hf14x k k2 k3 k8).trans rfl
    have hbk14 := TkR_r hK hn14q.2.1 hn14q.2.2
    have hf147 := hf14 7 (by decide) (by decide) (by decide)
    clear hn14x hf14x
    refine x_iast (sh_282 hS) (lq_282 hS) (by omega) (by omega) dX3_readNumbers_155 ?_
    refine x_mem (V' := (up (up V 277 f14) 282 (ua (V 282) (x + 1) v14))) rfl ?_
    refine x_al0 dX3_readNumbers_156 ?_
    refine x_al0 dX3_readNumbers_157 ?_
    refine x_getR fl_X3_22 (sh_277 hS) (lq_277 hS) (rf_277_4 hS) dX3_readNumbers_158 ?_
    refine x_al0 dX3_readNumbers_161 ?_
    refine x_getI fl_X3_52 (sh_277 hS) (lq_277 hS) dX3_readNumbers_162 ?_
    refine x_topI (a' := f14 8) rfl ?_
    refine x_iald (sh_279 hS) (lq_279 hS) (by omega) (by omega) dX3_readNumbers_165 ?_
    refine x_topI (a' := V 279 (f14 8)) rfl ?_
    refine x_bipush dX3_readNumbers_166 ?_
    refine x_icmp_ne (tgt := 175) dX3_readNumbers_168 (inr (by omega)) (inr (by decide)) (fun c168_7 => ?_) (fun c168_7 => ?_)
    · -- 168 ne -> 175
      refine x_iconst dX3_readNumbers_175 ?_
      refine x_iconst dX3_readNumbers_176 ?_
      refine x_cVi mm_X3_take ml_X3_125 dX3_readNumbers_177 (c_X3_take 0 1 hS (by omega) (show 0 ≤ (f14 8) ∧ (f14 8) < 301 from (by omega)) (show InR (f14 7) from (inr (by omega))) (show InR (f14 2) from (inr (by omega))) (inr (by decide))) (sh_277 hS) (lq_277 hS) ?_
      refine x_topI (a' := takV f14 0) rfl ?_
      refine x_mem (V' := (up (up V 277 (takF f14 (V 280) 0 1)) 282 (ua (V 282) (x + 1) v14))) (up_k (by decide) (up_up _ _ _ _)) ?_
      obtain ⟨f15, hf15e⟩ : ∃ z : Int → Int, z = takF f14 (V 280) 0 1 := ⟨_, rfl⟩
      have hn15 : NcS T n N i R ([] ++ [v14]) [(1, 0, 15)] f15 := by rw [hf15e]; exact NcS_take (by omega) (fun k hk => (hK.2.1 k hk).2.1) hn14 (fun j hj e => by have y := TkQ_mk (show V 279 (f14 8) = cTk T n (pos T n j) by rw [e]; exact (hK.2.1 j hj).1); have x := y.w (k := 12) (by decide) rfl; first | (have x1 := x.mp (by omega); exact Or.inl ⟨rfl, TkR_lt hK hj (by omega), x1.1, x1.2⟩) | exact Or.inr ⟨rfl, fun x1 => by have x2 := x.mpr x1; omega⟩)
      have hf15 : ∀ k, k ≠ 2 → k ≠ 3 → k ≠ 8 → f15 k = V 277 k := fun k k2 k3 k8 => by rw [hf15e]; exact (takF_k ⟨k2, k3, k8⟩).trans (hf14 k k2 k3 k8)
      refine x_mem (V' := (up (up V 277 f15) 282 (ua (V 282) (x + 1) v14))) (upE (upE rfl hf15e.symm) rfl) ?_
      clear hf15e
      have hn15q := NcS_q hn15
      have hf157 := hf15 7 (by decide) (by decide) (by decide)
      refine x_pop dX3_readNumbers_180 ?_
      refine x_al0 dX3_readNumbers_181 ?_
      refine x_getR fl_X3_31 (sh_277 hS) (lq_277 hS) (rf_277_10 hS) dX3_readNumbers_182 ?_
      refine x_il2 dX3_readNumbers_185 ?_
      refine x_iconst dX3_readNumbers_186 ?_
      refine x_iadd dX3_readNumbers_187 ?_
      refine x_al0 dX3_readNumbers_188 ?_
      refine x_iconst dX3_readNumbers_189 ?_
      refine x_bipush dX3_readNumbers_190 ?_
      refine x_cVnu mm_X3_readNumber ml_X3_147 dX3_readNumbers_192 (c_X3_readNumber 0 15 T n N i R ([] ++ [v14]) [] hS (RdH_c hH rfl rfl rfl (show f15 7 = V 277 7 from hf15 7 (by decide) (by decide) (by decide))) (show NcS T n N i R ([] ++ [v14]) ((1, 0, 15) :: []) f15 from hn15) (by decide)) (sh_277 hS) (lq_277 hS) (fun v16 f16 hr16 => ?_)
      obtain ⟨hv16, hn16x, hf16x⟩ := hr16
      have hn16 : NcS T n N i R (([] ++ [v14]) ++ [v16]) [] f16 := hn16x
      have hn16q := NcS_q hn16
      have hf16 : ∀ k, k ≠ 2 → k ≠ 3 → k ≠ 8 → f16 k = V 277 k := fun k k2 k3 k8 => (hf16x k k2 k3 k8).trans (hf15 k k2 k3 k8)
      have hbk16 := TkR_r hK hn16q.2.1 hn16q.2.2
      have hf167 := hf16 7 (by decide) (by decide) (by decide)
      clear hn16x hf16x
      refine x_mem (V' := (up (up V 277 f16) 282 (ua (V 282) (x + 1) v14))) (up_k (by decide) (up_up _ _ _ _)) ?_
      refine x_iast (sh_282 hS) (lq_282 hS) (by omega) (by omega) dX3_readNumbers_195 ?_
      refine x_mem (V' := (up (up V 277 f16) 282 (ua (ua (V 282) (x + 1) v14) (x + 2) v16))) (st2_up _ _ _ _ _) ?_
      refine x_goto (tgt := 290) dX3_readNumbers_196 ?_
      exact x_vret hQ ⟨f16, ua (ua (V 282) (x + 1) v14) (x + 2) v16, V 286, ⟨R, (([] ++ [v14]) ++ [v16]), Or.inr ⟨by omega, hRe⟩, NcS_e hn16, hf16, (fun k hk => by simp only [ua]; rw [if_neg (by omega)]; rw [if_neg (by omega)]), fun _ => ⟨rfl, (nu_at2 _ _ _ _)⟩, fun z => by omega⟩, rfl, rfl, (show up (up (up V 277 _) 282 _) 286 (V 286) = up (up V 277 _) 282 _ from up_self _ 286)⟩ dX3_readNumbers_290
    · -- 168 ne -> 171
      refine x_iconst dX3_readNumbers_171 ?_
      refine x_goto (tgt := 176) dX3_readNumbers_172 ?_
      refine x_iconst dX3_readNumbers_176 ?_
      refine x_cVi mm_X3_take ml_X3_125 dX3_readNumbers_177 (c_X3_take 1 1 hS (by omega) (show 0 ≤ (f14 8) ∧ (f14 8) < 301 from (by omega)) (show InR (f14 7) from (inr (by omega))) (show InR (f14 2) from (inr (by omega))) (inr (by decide))) (sh_277 hS) (lq_277 hS) ?_
      refine x_topI (a' := takV f14 1) rfl ?_
      refine x_mem (V' := (up (up V 277 (takF f14 (V 280) 1 1)) 282 (ua (V 282) (x + 1) v14))) (up_k (by decide) (up_up _ _ _ _)) ?_
      obtain ⟨f17, hf17e⟩ : ∃ z : Int → Int, z = takF f14 (V 280) 1 1 := ⟨_, rfl⟩
      have hn17 : NcS T n N i R ([] ++ [v14]) [(1, 0, 15)] f17 := by rw [hf17e]; exact NcS_take (by omega) (fun k hk => (hK.2.1 k hk).2.1) hn14 (fun j hj e => by have y := TkQ_mk (show V 279 (f14 8) = cTk T n (pos T n j) by rw [e]; exact (hK.2.1 j hj).1); have x := y.w (k := 12) (by decide) rfl; first | (have x1 := x.mp (by omega); exact Or.inl ⟨rfl, TkR_lt hK hj (by omega), x1.1, x1.2⟩) | exact Or.inr ⟨rfl, fun x1 => by have x2 := x.mpr x1; omega⟩)
      have hf17 : ∀ k, k ≠ 2 → k ≠ 3 → k ≠ 8 → f17 k = V 277 k := fun k k2 k3 k8 => by rw [hf17e]; exact (takF_k ⟨k2, k3, k8⟩).trans (hf14 k k2 k3 k8)
      refine x_mem (V' := (up (up V 277 f17) 282 (ua (V 282) (x + 1) v14))) (upE (upE rfl hf17e.symm) rfl) ?_
      clear hf17e
      have hn17q := NcS_q hn17
      have hf177 := hf17 7 (by decide) (by decide) (by decide)
      refine x_pop dX3_readNumbers_180 ?_
      refine x_al0 dX3_readNumbers_181 ?_
      refine x_getR fl_X3_31 (sh_277 hS) (lq_277 hS) (rf_277_10 hS) dX3_readNumbers_182 ?_
      refine x_il2 dX3_readNumbers_185 ?_
      refine x_iconst dX3_readNumbers_186 ?_
      refine x_iadd dX3_readNumbers_187 ?_
      refine x_al0 dX3_readNumbers_188 ?_
      refine x_iconst dX3_readNumbers_189 ?_
      refine x_bipush dX3_readNumbers_190 ?_
      refine x_cVnu mm_X3_readNumber ml_X3_147 dX3_readNumbers_192 (c_X3_readNumber 0 15 T n N i R ([] ++ [v14]) [] hS (RdH_c hH rfl rfl rfl (show f17 7 = V 277 7 from hf17 7 (by decide) (by decide) (by decide))) (show NcS T n N i R ([] ++ [v14]) ((1, 0, 15) :: []) f17 from hn17) (by decide)) (sh_277 hS) (lq_277 hS) (fun v18 f18 hr18 => ?_)
      obtain ⟨hv18, hn18x, hf18x⟩ := hr18
      have hn18 : NcS T n N i R (([] ++ [v14]) ++ [v18]) [] f18 := hn18x
      have hn18q := NcS_q hn18
      have hf18 : ∀ k, k ≠ 2 → k ≠ 3 → k ≠ 8 → f18 k = V 277 k := fun k k2 k3 k8 => (hf18x k k2 k3 k8).trans (hf17 k k2 k3 k8)
      have hbk18 := TkR_r hK hn18q.2.1 hn18q.2.2
      have hf187 := hf18 7 (by decide) (by decide) (by decide)
      clear hn18x hf18x
      refine x_mem (V' := (up (up V 277 f18) 282 (ua (V 282) (x + 1) v14))) (up_k (by decide) (up_up _ _ _ _)) ?_
      refine x_iast (sh_282 hS) (lq_282 hS) (by omega) (by omega) dX3_readNumbers_195 ?_
      refine x_mem (V' := (up (up V 277 f18) 282 (ua (ua (V 282) (x + 1) v14) (x + 2) v18))) (st2_up _ _ _ _ _) ?_
      refine x_goto (tgt := 290) dX3_readNumbers_196 ?_
      exact x_vret hQ ⟨f18, ua (ua (V 282) (x + 1) v14) (x + 2) v18, V 286, ⟨R, (([] ++ [v14]) ++ [v18]), Or.inr ⟨by omega, hRe⟩, NcS_e hn18, hf18, (fun k hk => by simp only [ua]; rw [if_neg (by omega)]; rw [if_neg (by omega)]), fun _ => ⟨rfl, (nu_at2 _ _ _ _)⟩, fun z => by omega⟩, rfl, rfl, (show up (up (up V 277 _) 282 _) 286 (V 286) = up (up V 277 _) 282 _ from up_self _ 286)⟩ dX3_readNumbers_290
  by_cases hs8 : word = 22
  · refine x_tswIn (tgt := 199) (off := 198) dX3_readNumbers_1 22 hs8 ?_
    have hns : NcS T n N i (numR T n (itm (word - 16)) (pos T n i)) [] [(1, 0, 15), (0, wTo, 0), (1, 0, 9)] (V 277) := Or.inl ⟨r2, r33, i, Nat.le_refl _, r3, r8, by rw [show word - 16 = 6 by omega]; simp only [preN, List.nil_append]; rfl⟩
    obtain ⟨R, hRe⟩ : ∃ z, z = numR T n (itm (word - 16)) (pos T n i) := ⟨_, rfl⟩
    rw [← hRe] at hns
    refine x_al0 dX3_readNumbers_199 ?_
    refine x_getR fl_X3_31 (sh_277 hS) (lq_277 hS) (rf_277_10 hS) dX3_readNumbers_200 ?_
    refine x_il2 dX3_readNumbers_203 ?_
    refine x_iconst dX3_readNumbers_204 ?_
    refine x_iadd dX3_readNumbers_205 ?_
    refine x_al0 dX3_readNumbers_206 ?_
    refine x_iconst dX3_readNumbers_207 ?_
    refine x_bipush dX3_readNumbers_208 ?_
    refine x_cVnu mm_X3_readNumber ml_X3_147 dX3_readNumbers_210 (c_X3_readNumber 0 15 T n N i R [] [(0, wTo, 0), (1, 0, 9)] hS (RdH_c hH rfl rfl rfl (show V 277 7 = V 277 7 from rfl)) (show NcS T n N i R [] ((1, 0, 15) :: [(0, wTo, 0), (1, 0, 9)]) (V 277) from hns) (by decide)) (sh_277 hS) (lq_277 hS) (fun v19 f19 hr19 => ?_)
    obtain ⟨hv19, hn19x, hf19x⟩ := hr19
    have hn19 : NcS T n N i R ([] ++ [v19]) [(0, wTo, 0), (1, 0, 9)] f19 := hn19x
    have hn19q := NcS_q hn19
    have hf19 : ∀ k, k ≠ 2 → k ≠ 3 → k ≠ 8 → f19 k = V 277 k := fun k k2 k3 k8 => (hf19x k k2 k3 k8).trans rfl
    have hbk19 := TkR_r hK hn19q.2.1 hn19q.2.2
    have hf197 := hf19 7 (by decide) (by decide) (by decide)
    clear hn19x hf19x
    refine x_iast (sh_282 hS) (lq_282 hS) (by omega) (by omega) dX3_readNumbers_213 ?_
    refine x_mem (V' := (up (up V 277 f19) 282 (ua (V 282) (x + 1) v19))) rfl ?_
    refine x_al0 dX3_readNumbers_214 ?_
    refine x_al0 dX3_readNumbers_215 ?_
    refine x_getR fl_X3_22 (sh_277 hS) (lq_277 hS) (rf_277_4 hS) dX3_readNumbers_216 ?_
    refine x_al0 dX3_readNumbers_219 ?_
    refine x_getI fl_X3_52 (sh_277 hS) (lq_277 hS) dX3_readNumbers_220 ?_
    refine x_topI (a' := f19 8) rfl ?_
    refine x_iald (sh_279 hS) (lq_279 hS) (by omega) (by omega) dX3_readNumbers_223 ?_
    refine x_topI (a' := V 279 (f19 8)) rfl ?_
    refine x_bipush dX3_readNumbers_224 ?_
    refine x_icmp_ne (tgt := 233) dX3_readNumbers_226 (inr (by omega)) (inr (by decide)) (fun c226_9 => ?_) (fun c226_9 => ?_)
    · -- 226 ne -> 233
      refine x_iconst dX3_readNumbers_233 ?_
      refine x_iconst dX3_readNumbers_234 ?_
      refine x_cVi mm_X3_take ml_X3_125 dX3_readNumbers_235 (c_X3_take 0 1 hS (by omega) (show 0 ≤ (f19 8) ∧ (f19 8) < 301 from (by omega)) (show InR (f19 7) from (inr (by omega))) (show InR (f19 2) from (inr (by omega))) (inr (by decide))) (sh_277 hS) (lq_277 hS) ?_
      refine x_topI (a' := takV f19 0) rfl ?_
      refine x_mem (V' := (up (up V 277 (takF f19 (V 280) 0 1)) 282 (ua (V 282) (x + 1) v19))) (up_k (by decide) (up_up _ _ _ _)) ?_
      obtain ⟨f20, hf20e⟩ : ∃ z : Int → Int, z = takF f19 (V 280) 0 1 := ⟨_, rfl⟩
      have hn20 : NcS T n N i R ([] ++ [v19]) [(1, 0, 9)] f20 := by rw [hf20e]; exact NcS_take (by omega) (fun k hk => (hK.2.1 k hk).2.1) hn19 (fun j hj e => by have y := TkQ_mk (show V 279 (f19 8) = cTk T n (pos T n j) by rw [e]; exact (hK.2.1 j hj).1); have x := y.w (k := 10) (by decide) rfl; first | (have x1 := x.mp (by omega); exact Or.inl ⟨rfl, TkR_lt hK hj (by omega), x1.1, x1.2⟩) | exact Or.inr ⟨rfl, fun x1 => by have x2 := x.mpr x1; omega⟩)
      have hf20 : ∀ k, k ≠ 2 → k ≠ 3 → k ≠ 8 → f20 k = V 277 k := fun k k2 k3 k8 => by rw [hf20e]; exact (takF_k ⟨k2, k3, k8⟩).trans (hf19 k k2 k3 k8)
      refine x_mem (V' := (up (up V 277 f20) 282 (ua (V 282) (x + 1) v19))) (upE (upE rfl hf20e.symm) rfl) ?_
      clear hf20e
      have hn20q := NcS_q hn20
      have hf207 := hf20 7 (by decide) (by decide) (by decide)
      refine x_pop dX3_readNumbers_238 ?_
      refine x_al0 dX3_readNumbers_239 ?_
      refine x_getR fl_X3_31 (sh_277 hS) (lq_277 hS) (rf_277_10 hS) dX3_readNumbers_240 ?_
      refine x_il2 dX3_readNumbers_243 ?_
      refine x_iconst dX3_readNumbers_244 ?_
      refine x_iadd dX3_readNumbers_245 ?_
      refine x_al0 dX3_readNumbers_246 ?_
      refine x_iconst dX3_readNumbers_247 ?_
      refine x_bipush dX3_readNumbers_248 ?_
      refine x_cVnu mm_X3_readNumber ml_X3_147 dX3_readNumbers_250 (c_X3_readNumber 0 9 T n N i R ([] ++ [v19]) [] hS (RdH_c hH rfl rfl rfl (show f20 7 = V 277 7 from hf20 7 (by decide) (by decide) (by decide))) (show NcS T n N i R ([] ++ [v19]) ((1, 0, 9) :: []) f20 from hn20) (by decide)) (sh_277 hS) (lq_277 hS) (fun v21 f21 hr21 => ?_)
      obtain ⟨hv21, hn21x, hf21x⟩ := hr21
      have hn21 : NcS T n N i R (([] ++ [v19]) ++ [v21]) [] f21 := hn21x
      have hn21q := NcS_q hn21
      have hf21 : ∀ k, k ≠ 2 → k ≠ 3 → k ≠ 8 → f21 k = V 277 k := fun k k2 k3 k8 => (hf21x k k2 k3 k8).trans (hf20 k k2 k3 k8)
      have hbk21 := TkR_r hK hn21q.2.1 hn21q.2.2
      have hf217 := hf21 7 (by decide) (by decide) (by decide)
      clear hn21x hf21x
      refine x_mem (V' := (up (up V 277 f21) 282 (ua (V 282) (x + 1) v19))) (up_k (by decide) (up_up _ _ _ _)) ?_
      refine x_iast (sh_282 hS) (lq_282 hS) (by omega) (by omega) dX3_readNumbers_253 ?_
      refine x_mem (V' := (up (up V 277 f21) 282 (ua (ua (V 282) (x + 1) v19) (x + 2) v21))) (st2_up _ _ _ _ _) ?_
      refine x_goto (tgt := 290) dX3_readNumbers_254 ?_
      exact x_vret hQ ⟨f21, ua (ua (V 282) (x + 1) v19) (x + 2) v21, V 286, ⟨R, (([] ++ [v19]) ++ [v21]), Or.inr ⟨by omega, hRe⟩, NcS_e hn21, hf21, (fun k hk => by simp only [ua]; rw [if_neg (by omega)]; rw [if_neg (by omega)]), fun _ => ⟨rfl, (nu_at2 _ _ _ _)⟩, fun z => by omega⟩, rfl, rfl, (show up (up (up V 277 _) 282 _) 286 (V 286) = up (up V 277 _) 282 _ from up_self _ 286)⟩ dX3_readNumbers_290
    · -- 226 ne -> 229
      refine x_iconst dX3_readNumbers_229 ?_
      refine x_goto (tgt := 234) dX3_readNumbers_230 ?_
      refine x_iconst dX3_readNumbers_234 ?_
      refine x_cVi mm_X3_take ml_X3_125 dX3_readNumbers_235 (c_X3_take 1 1 hS (by omega) (show 0 ≤ (f19 8) ∧ (f19 8) < 301 from (by omega)) (show InR (f19 7) from (inr (by omega))) (show InR (f19 2) from (inr (by omega))) (inr (by decide))) (sh_277 hS) (lq_277 hS) ?_
      refine x_topI (a' := takV f19 1) rfl ?_
      refine x_mem (V' := (up (up V 277 (takF f19 (V 280) 1 1)) 282 (ua (V 282) (x + 1) v19))) (up_k (by decide) (up_up _ _ _ _)) ?_
      obtain ⟨f22, hf22e⟩ : ∃ z : Int → Int, z = takF f19 (V 280) 1 1 := ⟨_, rfl⟩
      have hn22 : NcS T n N i R ([] ++ [v19]) [(1, 0, 9)] f22 := by rw [hf22e]; exact NcS_take (by omega) (fun k hk => (hK.2.1 k hk).2.1) hn19 (fun j hj e => by have y := TkQ_mk (show V 279 (f19 8) = cTk T n (pos T n j) by rw [e]; exact (hK.2.1 j hj).1); have x := y.w (k := 10) (by decide) rfl; first | (have x1 := x.mp (by omega); exact Or.inl ⟨rfl, TkR_lt hK hj (by omega), x1.1, x1.2⟩) | exact Or.inr ⟨rfl, fun x1 => by have x2 := x.mpr x1; omega⟩)
      have hf22 : ∀ k, k ≠ 2 → k ≠ 3 → k ≠ 8 → f22 k = V 277 k := fun k k2 k3 k8 => by rw [hf22e]; exact (takF_k ⟨k2, k3, k8⟩).trans (hf19 k k2 k3 k8)
      refine x_mem (V' := (up (up V 277 f22) 282 (ua (V 282) (x + 1) v19))) (upE (upE rfl hf22e.symm) rfl) ?_
      clear hf22e
      have hn22q := NcS_q hn22
      have hf227 := hf22 7 (by decide) (by decide) (by decide)
      refine x_pop dX3_readNumbers_238 ?_
      refine x_al0 dX3_readNumbers_239 ?_
      refine x_getR fl_X3_31 (sh_277 hS) (lq_277 hS) (rf_277_10 hS) dX3_readNumbers_240 ?_
      refine x_il2 dX3_readNumbers_243 ?_
      refine x_iconst dX3_readNumbers_244 ?_
      refine x_iadd dX3_readNumbers_245 ?_
      refine x_al0 dX3_readNumbers_246 ?_
      refine x_iconst dX3_readNumbers_247 ?_
      refine x_bipush dX3_readNumbers_248 ?_
      refine x_cVnu mm_X3_readNumber ml_X3_147 dX3_readNumbers_250 (c_X3_readNumber 0 9 T n N i R ([] ++ [v19]) [] hS (RdH_c hH rfl rfl rfl (show f22 7 = V 277 7 from hf22 7 (by decide) (by decide) (by decide))) (show NcS T n N i R ([] ++ [v19]) ((1, 0, 9) :: []) f22 from hn22) (by decide)) (sh_277 hS) (lq_277 hS) (fun v23 f23 hr23 => ?_)
      obtain ⟨hv23, hn23x, hf23x⟩ := hr23
      have hn23 : NcS T n N i R (([] ++ [v19]) ++ [v23]) [] f23 := hn23x
      have hn23q := NcS_q hn23
      have hf23 : ∀ k, k ≠ 2 → k ≠ 3 → k ≠ 8 → f23 k = V 277 k := fun k k2 k3 k8 => (hf23x k k2 k3 k8).trans (hf22 k k2 k3 k8)
      have hbk23 := TkR_r hK hn23q.2.1 hn23q.2.2
      have hf237 := hf23 7 (by decide) (by decide) (by decide)
      clear hn23x hf23x
      refine x_mem (V' := (up (up V 277 f23) 282 (ua (V 282) (x + 1) v19))) (up_k (by decide) (up_up _ _ _ _)) ?_
      refine x_iast (sh_282 hS) (lq_282 hS) (by omega) (by omega) dX3_readNumbers_253 ?_
      refine x_mem (V' := (up (up V 277 f23) 282 (ua (ua (V 282) (x + 1) v19) (x + 2) v23))) (st2_up _ _ _ _ _) ?_
      refine x_goto (tgt := 290) dX3_readNumbers_254 ?_
      exact x_vret hQ ⟨f23, ua (ua (V 282) (x + 1) v19) (x + 2) v23, V 286, ⟨R, (([] ++ [v19]) ++ [v23]), Or.inr ⟨by omega, hRe⟩, NcS_e hn23, hf23, (fun k hk => by simp only [ua]; rw [if_neg (by omega)]; rw [if_neg (by omega)]), fun _ => ⟨rfl, (nu_at2 _ _ _ _)⟩, fun z => by omega⟩, rfl, rfl, (show up (up (up V 277 _) 282 _) 286 (V 286) = up (up V 277 _) 282 _ from up_self _ 286)⟩ dX3_readNumbers_290
  by_cases hs10 : word = 23
  · refine x_tswIn (tgt := 257) (off := 256) dX3_readNumbers_1 23 hs10 ?_
    have hns : NcS T n N i (numR T n (itm (word - 16)) (pos T n i)) [] [(1, 0, 9)] (V 277) := Or.inl ⟨r2, r33, i, Nat.le_refl _, r3, r8, by rw [show word - 16 = 7 by omega]; simp only [preN, List.nil_append]; rfl⟩
    obtain ⟨R, hRe⟩ : ∃ z, z = numR T n (itm (word - 16)) (pos T n i) := ⟨_, rfl⟩
    rw [← hRe] at hns
    refine x_al0 dX3_readNumbers_257 ?_
    refine x_getR fl_X3_31 (sh_277 hS) (lq_277 hS) (rf_277_10 hS) dX3_readNumbers_258 ?_
    refine x_il2 dX3_readNumbers_261 ?_
    refine x_iconst dX3_readNumbers_262 ?_
    refine x_iadd dX3_readNumbers_263 ?_
    refine x_al0 dX3_readNumbers_264 ?_
    refine x_iconst dX3_readNumbers_265 ?_
    refine x_bipush dX3_readNumbers_266 ?_
    refine x_cVnu mm_X3_readNumber ml_X3_147 dX3_readNumbers_268 (c_X3_readNumber 0 9 T n N i R [] [] hS (RdH_c hH rfl rfl rfl (show V 277 7 = V 277 7 from rfl)) (show NcS T n N i R [] ((1, 0, 9) :: []) (V 277) from hns) (by decide)) (sh_277 hS) (lq_277 hS) (fun v24 f24 hr24 => ?_)
    obtain ⟨hv24, hn24x, hf24x⟩ := hr24
    have hn24 : NcS T n N i R ([] ++ [v24]) [] f24 := hn24x
    have hn24q := NcS_q hn24
    have hf24 : ∀ k, k ≠ 2 → k ≠ 3 → k ≠ 8 → f24 k = V 277 k := fun k k2 k3 k8 => (hf24x k k2 k3 k8).trans rfl
    have hbk24 := TkR_r hK hn24q.2.1 hn24q.2.2
    have hf247 := hf24 7 (by decide) (by decide) (by decide)
    clear hn24x hf24x
    refine x_iast (sh_282 hS) (lq_282 hS) (by omega) (by omega) dX3_readNumbers_271 ?_
    refine x_mem (V' := (up (up V 277 f24) 282 (ua (V 282) (x + 1) v24))) rfl ?_
    refine x_goto (tgt := 290) dX3_readNumbers_272 ?_
    exact x_vret hQ ⟨f24, ua (V 282) (x + 1) v24, V 286, ⟨R, ([] ++ [v24]), Or.inr ⟨by omega, hRe⟩, NcS_e hn24, hf24, (fun k hk => by simp only [ua]; rw [if_neg (by omega)]), fun _ => ⟨rfl, (nu_at1 _ _ _)⟩, fun z => by omega⟩, rfl, rfl, (show up (up (up V 277 _) 282 _) 286 (V 286) = up (up V 277 _) 282 _ from up_self _ 286)⟩ dX3_readNumbers_290
  refine x_tswOut (tgt := 275) dX3_readNumbers_1 (inr (by omega)) (by omega) ?_
  have hns : NcS T n N i (numR T n (itm (word - 16)) (pos T n i)) [] [(1, 0, 99)] (V 277) := Or.inl ⟨r2, r33, i, Nat.le_refl _, r3, r8, by rw [show word - 16 = 8 by omega]; simp only [preN, List.nil_append]; rfl⟩
  obtain ⟨R, hRe⟩ : ∃ z, z = numR T n (itm (word - 16)) (pos T n i) := ⟨_, rfl⟩
  rw [← hRe] at hns
  refine x_al0 dX3_readNumbers_275 ?_
  refine x_getR fl_X3_31 (sh_277 hS) (lq_277 hS) (rf_277_10 hS) dX3_readNumbers_276 ?_
  refine x_il2 dX3_readNumbers_279 ?_
  refine x_iconst dX3_readNumbers_280 ?_
  refine x_iadd dX3_readNumbers_281 ?_
  refine x_al0 dX3_readNumbers_282 ?_
  refine x_iconst dX3_readNumbers_283 ?_
  refine x_bipush dX3_readNumbers_284 ?_
  refine x_cVnu mm_X3_readNumber ml_X3_147 dX3_readNumbers_286 (c_X3_readNumber 0 99 T n N i R [] [] hS (RdH_c hH rfl rfl rfl (show V 277 7 = V 277 7 from rfl)) (show NcS T n N i R [] ((1, 0, 99) :: []) (V 277) from hns) (by decide)) (sh_277 hS) (lq_277 hS) (fun v25 f25 hr25 => ?_)
  obtain ⟨hv25, hn25x, hf25x⟩ := hr25
  have hn25 : NcS T n N i R ([] ++ [v25]) [] f25 := hn25x
  have hn25q := NcS_q hn25
  have hf25 : ∀ k, k ≠ 2 → k ≠ 3 → k ≠ 8 → f25 k = V 277 k := fun k k2 k3 k8 => (hf25x k k2 k3 k8).trans rfl
  have hbk25 := TkR_r hK hn25q.2.1 hn25q.2.2
  have hf257 := hf25 7 (by decide) (by decide) (by decide)
  clear hn25x hf25x
  refine x_iast (sh_282 hS) (lq_282 hS) (by omega) (by omega) dX3_readNumbers_289 ?_
  refine x_mem (V' := (up (up V 277 f25) 282 (ua (V 282) (x + 1) v25))) rfl ?_
  exact x_vret hQ ⟨f25, ua (V 282) (x + 1) v25, V 286, ⟨R, ([] ++ [v25]), Or.inr ⟨by omega, hRe⟩, NcS_e hn25, hf25, (fun k hk => by simp only [ua]; rw [if_neg (by omega)]), fun _ => ⟨rfl, (nu_at1 _ _ _)⟩, fun z => by omega⟩, rfl, rfl, (show up (up (up V 277 _) 282 _) 286 (V 286) = up (up V 277 _) 282 _ from up_self _ 286)⟩ dX3_readNumbers_290
