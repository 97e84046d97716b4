def worC (i : Nat) : List CelM := (((14, 0), (uq (uq (uq (uq (uq (uq (uq (fun _ => none) 0 (some (i + 1))) 1 (some (i + 2))) 2 (some (i + 3))) 3 (some (i + 4))) 4 (some (i + 10))) 5 (some (i + 132))) 6 (some (i + 133))), (ua (fun _ => 0) 9 (-1))) :: (nC (0, 10) :: (nC (0, 10) :: (nC (0, 16) :: ((bonC (i + 4)) ++ ((stpC (i + 10)) ++ (nC (3, 4) :: ((seeC (i + 133)) ++ []))))))))
set_option maxRecDepth 100000 in
set_option maxHeartbeats 4000000 in
theorem c_X9_init {B : Bs} (M0 : List CelM) : C B yX9_init cX9_init 1 none 4 137 1819 [vR B M0.length] (sO (M0 ++ [nC (14, 0)])) (vO (M0 ++ [nC (14, 0)])) (rV (sO (M0 ++ worC M0.length)) (vO (M0 ++ worC M0.length))) := by
  refine C.of [some (vR B M0.length)] ?_
  intro Γ hQ
  have e0 : nC (14, 0) = ((14, 0), (fun _ => none), (fun _ => 0)) := rfl
  rw [e0]
  refine x_al0 dX9_init_0 ?_
  refine x_objInit (tb_1 35 rfl rfl) obj_i obj_c dX9_init_1 ?_
  refine x_al0 dX9_init_4 ?_
  refine x_bipush dX9_init_5 ?_
  refine l_newi (N := 10) (m := (M0.length + 1)) (M' := (M0 ++ (((14, 0), (fun _ => none), (fun _ => 0)) :: (nC (0, 10) :: [])))) (lA _ _ (by rfl)) (aA _ _ (by simp only [List.cons_append, List.append_assoc, List.nil_append])) dX9_init_7 ?_
  refine l_putQ (M' := (M0 ++ (((14, 0), (uq (fun _ => none) 0 (some (M0.length + 1))), (fun _ => 0)) :: (nC (0, 10) :: [])))) fl_X9_9 (by rw [gA0]) (hA0 _ _ _) (sA0 _ _ _ _ _) dX9_init_9 ?_
  refine x_al0 dX9_init_12 ?_
  refine x_bipush dX9_init_13 ?_
  refine l_newi (N := 10) (m := (M0.length + 2)) (M' := (M0 ++ (((14, 0), (uq (fun _ => none) 0 (some (M0.length + 1))), (fun _ => 0)) :: (nC (0, 10) :: (nC (0, 10) :: []))))) (lA _ _ (by rfl)) (aA _ _ (by simp only [List.cons_append, List.append_assoc, List.nil_append])) dX9_init_15 ?_
  refine l_putQ (M' := (M0 ++ (((14, 0), (uq (uq (fun _ => none) 0 (some (M0.length + 1))) 1 (some (M0.length + 2))), (fun _ => 0)) :: (nC (0, 10) :: (nC (0, 10) :: []))))) fl_X9_15 (by rw [gA0]) (hA0 _ _ _) (sA0 _ _ _ _ _) dX9_init_17 ?_
  refine x_al0 dX9_init_20 ?_
  refine x_bipush dX9_init_21 ?_
  refine l_newi (N := 16) (m := (M0.length + 3)) (M' := (M0 ++ (((14, 0), (uq (uq (fun _ => none) 0 (some (M0.length + 1))) 1 (some (M0.length + 2))), (fun _ => 0)) :: (nC (0, 10) :: (nC (0, 10) :: (nC (0, 16) :: [])))))) (lA _ _ (by rfl)) (aA _ _ (by simp only [List.cons_append, List.append_assoc, List.nil_append])) dX9_init_23 ?_
  refine l_putQ (M' := (M0 ++ (((14, 0), (uq (uq (uq (fun _ => none) 0 (some (M0.length + 1))) 1 (some (M0.length + 2))) 2 (some (M0.length + 3))), (fun _ => 0)) :: (nC (0, 10) :: (nC (0, 10) :: (nC (0, 16) :: [])))))) fl_X9_18 (by rw [gA0]) (hA0 _ _ _) (sA0 _ _ _ _ _) dX9_init_25 ?_
  refine x_al0 dX9_init_28 ?_
  refine l_newo (ci := 0) (m := (M0.length + 4)) (M' := (M0 ++ (((14, 0), (uq (uq (uq (fun _ => none) 0 (some (M0.length + 1))) 1 (some (M0.length + 2))) 2 (some (M0.length + 3))), (fun _ => 0)) :: (nC (0, 10) :: (nC (0, 10) :: (nC (0, 16) :: (nC (5, 0) :: []))))))) (by decide) cl_X9_21 is_X0 (lA _ _ (by rfl)) (aA _ _ (by simp only [List.cons_append, List.append_assoc, List.nil_append])) dX9_init_29 ?_
  refine x_dup dX9_init_32 ?_
  have hC33 := c_X0_init (B := B) (M0 ++ (((14, 0), (uq (uq (uq (fun _ => none) 0 (some (M0.length + 1))) 1 (some (M0.length + 2))) 2 (some (M0.length + 3))), (fun _ => 0)) :: (nC (0, 10) :: (nC (0, 10) :: (nC (0, 16) :: [])))))
  rw [lA M0 (((14, 0), (uq (uq (uq (fun _ => none) 0 (some (M0.length + 1))) 1 (some (M0.length + 2))) 2 (some (M0.length + 3))), (fun _ => 0)) :: (nC (0, 10) :: (nC (0, 10) :: (nC (0, 16) :: [])))) (n := 4) (by rfl), List.append_assoc, List.append_assoc] at hC33
  simp only [List.cons_append, List.append_assoc, List.nil_append] at hC33
  refine l_callIN (M1 := (M0 ++ (((14, 0), (uq (uq (uq (fun _ => none) 0 (some (M0.length + 1))) 1 (some (M0.length + 2))) 2 (some (M0.length + 3))), (fun _ => 0)) :: (nC (0, 10) :: (nC (0, 10) :: (nC (0, 16) :: ((bonC (M0.length + 4)) ++ []))))))) mm_X0_init nw_X9_23 dX9_init_33 hC33 ?_
  refine l_putQ (M' := (M0 ++ (((14, 0), (uq (uq (uq (uq (fun _ => none) 0 (some (M0.length + 1))) 1 (some (M0.length + 2))) 2 (some (M0.length + 3))) 3 (some (M0.length + 4))), (fun _ => 0)) :: (nC (0, 10) :: (nC (0, 10) :: (nC (0, 16) :: ((bonC (M0.length + 4)) ++ []))))))) fl_X9_24 (by rw [gA0]) (hA0 _ _ _) (sA0 _ _ _ _ _) dX9_init_36 ?_
  refine x_al0 dX9_init_39 ?_
  refine l_newo (ci := 7) (m := (M0.length + 10)) (M' := (M0 ++ (((14, 0), (uq (uq (uq (uq (fun _ => none) 0 (some (M0.length + 1))) 1 (some (M0.length + 2))) 2 (some (M0.length + 3))) 3 (some (M0.length + 4))), (fun _ => 0)) :: (nC (0, 10) :: (nC (0, 10) :: (nC (0, 16) :: ((bonC (M0.length + 4)) ++ (nC (12, 0) :: [])))))))) (by decide) cl_X9_28 is_X7 (lA _ _ (by rfl)) (aA _ _ (by simp only [List.cons_append, List.append_assoc, List.nil_append])) dX9_init_40 ?_
  refine x_dup dX9_init_43 ?_
  have hC44 := c_X7_init (B := B) (M0 ++ (((14, 0), (uq (uq (uq (uq (fun _ => none) 0 (some (M0.length + 1))) 1 (some (M0.length + 2))) 2 (some (M0.length + 3))) 3 (some (M0.length + 4))), (fun _ => 0)) :: (nC (0, 10) :: (nC (0, 10) :: (nC (0, 16) :: ((bonC (M0.length + 4)) ++ []))))))
  rw [lA M0 (((14, 0), (uq (uq (uq (uq (fun _ => none) 0 (some (M0.length + 1))) 1 (some (M0.length + 2))) 2 (some (M0.length + 3))) 3 (some (M0.length + 4))), (fun _ => 0)) :: (nC (0, 10) :: (nC (0, 10) :: (nC (0, 16) :: ((bonC (M0.length + 4)) ++ []))))) (n := 10) (by rfl), List.append_assoc, List.append_assoc] at hC44
  simp only [List.cons_append, List.append_assoc, List.nil_append] at hC44
  refine l_callI (M1 := (M0 ++ (((14, 0), (uq (uq (uq (uq (fun _ => none) 0 (some (M0.length + 1))) 1 (some (M0.length + 2))) 2 (some (M0.length + 3))) 3 (some (M0.length + 4))), (fun _ => 0)) :: (nC (0, 10) :: (nC (0, 10) :: (nC (0, 16) :: ((bonC (M0.length + 4)) ++ ((stpC (M0.length + 10)) ++ [])))))))) mm_X7_init ml_X9_30 dX9_init_44 hC44 ?_
  refine l_putQ (M' := (M0 ++ (((14, 0), (uq (uq (uq (uq (uq (fun _ => none) 0 (some (M0.length + 1))) 1 (some (M0.length + 2))) 2 (some (M0.length + 3))) 3 (some (M0.length + 4))) 4 (some (M0.length + 10))), (fun _ => 0)) :: (nC (0, 10) :: (nC (0, 10) :: (nC (0, 16) :: ((bonC (M0.length + 4)) ++ ((stpC (M0.length + 10)) ++ [])))))))) fl_X9_31 (by rw [gA0]) (hA0 _ _ _) (sA0 _ _ _ _ _) dX9_init_47 ?_
  refine x_al0 dX9_init_50 ?_
  refine x_iconst dX9_init_51 ?_
  refine l_newq (kd := 3) (N := 4) (m := (M0.length + 132)) (M' := (M0 ++ (((14, 0), (uq (uq (uq (uq (uq (fun _ => none) 0 (some (M0.length + 1))) 1 (some (M0.length + 2))) 2 (some (M0.length + 3))) 3 (some (M0.length + 4))) 4 (some (M0.length + 10))), (fun _ => 0)) :: (nC (0, 10) :: (nC (0, 10) :: (nC (0, 16) :: ((bonC (M0.length + 4)) ++ ((stpC (M0.length + 10)) ++ (nC (3, 4) :: []))))))))) (by decide) cl_X9_35 (lA _ _ (by rfl)) (aA _ _ (by simp only [List.cons_append, List.append_assoc, List.nil_append])) dX9_init_52 ?_
  refine l_putQ (M' := (M0 ++ (((14, 0), (uq (uq (uq (uq (uq (uq (fun _ => none) 0 (some (M0.length + 1))) 1 (some (M0.length + 2))) 2 (some (M0.length + 3))) 3 (some (M0.length + 4))) 4 (some (M0.length + 10))) 5 (some (M0.length + 132))), (fun _ => 0)) :: (nC (0, 10) :: (nC (0, 10) :: (nC (0, 16) :: ((bonC (M0.length + 4)) ++ ((stpC (M0.length + 10)) ++ (nC (3, 4) :: []))))))))) fl_X9_37 (by rw [gA0]) (hA0 _ _ _) (sA0 _ _ _ _ _) dX9_init_55 ?_
  refine x_al0 dX9_init_58 ?_
  refine l_newo (ci := 5) (m := (M0.length + 133)) (M' := (M0 ++ (((14, 0), (uq (uq (uq (uq (uq (uq (fun _ => none) 0 (some (M0.length + 1))) 1 (some (M0.length + 2))) 2 (some (M0.length + 3))) 3 (some (M0.length + 4))) 4 (some (M0.length + 10))) 5 (some (M0.length + 132))), (fun _ => 0)) :: (nC (0, 10) :: (nC (0, 10) :: (nC (0, 16) :: ((bonC (M0.length + 4)) ++ ((stpC (M0.length + 10)) ++ (nC (3, 4) :: (nC (10, 0) :: [])))))))))) (by decide) cl_X9_41 is_X5 (lA _ _ (by rfl)) (aA _ _ (by simp only [List.cons_append, List.append_assoc, List.nil_append])) dX9_init_59 ?_
  refine x_dup dX9_init_62 ?_
  have hC63 := c_X5_init (B := B) (M0 ++ (((14, 0), (uq (uq (uq (uq (uq (uq (fun _ => none) 0 (some (M0.length + 1))) 1 (some (M0.length + 2))) 2 (some (M0.length + 3))) 3 (some (M0.length + 4))) 4 (some (M0.length + 10))) 5 (some (M0.length + 132))), (fun _ => 0)) :: (nC (0, 10) :: (nC (0, 10) :: (nC (0, 16) :: ((bonC (M0.length + 4)) ++ ((stpC (M0.length + 10)) ++ (nC (3, 4) :: []))))))))
  rw [lA M0 (((14, 0), (uq (uq (uq (uq (uq (uq (fun _ => none) 0 (some (M0.length + 1))) 1 (some (M0.length + 2))) 2 (some (M0.length + 3))) 3 (some (M0.length + 4))) 4 (some (M0.length + 10))) 5 (some (M0.length + 132))), (fun _ => 0)) :: (nC (0, 10) :: (nC (0, 10) :: (nC (0, 16) :: ((bonC (M0.length + 4)) ++ ((stpC (M0.length + 10)) ++ (nC (3, 4) :: []))))))) (n := 133) (by rfl), List.append_assoc, List.append_assoc] at hC63
  simp only [List.cons_append, List.append_assoc, List.nil_append] at hC63
  refine l_callIN (M1 := (M0 ++ (((14, 0), (uq (uq (uq (uq (uq (uq (fun _ => none) 0 (some (M0.length + 1))) 1 (some (M0.length + 2))) 2 (some (M0.length + 3))) 3 (some (M0.length + 4))) 4 (some (M0.length + 10))) 5 (some (M0.length + 132))), (fun _ => 0)) :: (nC (0, 10) :: (nC (0, 10) :: (nC (0, 16) :: ((bonC (M0.length + 4)) ++ ((stpC (M0.length + 10)) ++ (nC (3, 4) :: ((seeC (M0.length + 133)) ++ [])))))))))) mm_X5_init nw_X9_43 dX9_init_63 hC63 ?_
  refine l_putQ (M' := (M0 ++ (((14, 0), (uq (uq (uq (uq (uq (uq (uq (fun _ => none) 0 (some (M0.length + 1))) 1 (some (M0.length + 2))) 2 (some (M0.length + 3))) 3 (some (M0.length + 4))) 4 (some (M0.length + 10))) 5 (some (M0.length + 132))) 6 (some (M0.length + 133))), (fun _ => 0)) :: (nC (0, 10) :: (nC (0, 10) :: (nC (0, 16) :: ((bonC (M0.length + 4)) ++ ((stpC (M0.length + 10)) ++ (nC (3, 4) :: ((seeC (M0.length + 133)) ++ [])))))))))) fl_X9_44 (by rw [gA0]) (hA0 _ _ _) (sA0 _ _ _ _ _) dX9_init_66 ?_
  refine x_al0 dX9_init_69 ?_
  refine x_iconst dX9_init_70 ?_
  refine l_putI (M' := (M0 ++ (((14, 0), (uq (uq (uq (uq (uq (uq (uq (fun _ => none) 0 (some (M0.length + 1))) 1 (some (M0.length + 2))) 2 (some (M0.length + 3))) 3 (some (M0.length + 4))) 4 (some (M0.length + 10))) 5 (some (M0.length + 132))) 6 (some (M0.length + 133))), (ua (fun _ => 0) 9 (-1))) :: (nC (0, 10) :: (nC (0, 10) :: (nC (0, 16) :: ((bonC (M0.length + 4)) ++ ((stpC (M0.length + 10)) ++ (nC (3, 4) :: ((seeC (M0.length + 133)) ++ [])))))))))) fl_X9_48 (by rw [gA0]) (hA0 _ _ _) (vA0 _ _ _ _ _) dX9_init_71 ?_
  exact x_vret hQ ⟨rfl, rfl, rfl⟩ dX9_init_74
