def reaC (i : Nat) : List CelM := (((8, 0), (uq (uq (uq (uq (uq (uq (uq (uq (uq (fun _ => none) 0 (some (i + 1))) 4 (some (i + 2))) 5 (some (i + 3))) 6 (some (i + 4))) 10 (some (i + 5))) 12 (some (i + 6))) 14 (some (i + 7))) 15 (some (i + 8))) 16 (some (i + 9))), (ua (ua (fun _ => 0) 2 (-1)) 3 (-1))) :: (nC (0, 300) :: (nC (0, 301) :: (nC (0, 301) :: (nC (0, 301) :: (nC (0, 96) :: (nC (0, 300) :: (nC (0, 3) :: (nC (0, 3) :: (nC (0, 20) :: []))))))))))
set_option maxRecDepth 100000 in
set_option maxHeartbeats 4000000 in
theorem c_X3_init {B : Bs} (M0 : List CelM) : C B yX3_init cX3_init 1 none 2 9 1625 [vR B M0.length] (sO (M0 ++ [nC (8, 0)])) (vO (M0 ++ [nC (8, 0)])) (rV (sO (M0 ++ reaC M0.length)) (vO (M0 ++ reaC M0.length))) := by
  refine C.of [some (vR B M0.length)] ?_
  intro Γ hQ
  have e0 : nC (8, 0) = ((8, 0), (fun _ => none), (fun _ => 0)) := rfl
  rw [e0]
  refine x_al0 dX3_init_0 ?_
  refine x_objInit (tb_1 205 rfl rfl) obj_i obj_c dX3_init_1 ?_
  refine x_al0 dX3_init_4 ?_
  refine x_sipush dX3_init_5 ?_
  refine l_newi (N := 300) (m := (M0.length + 1)) (M' := (M0 ++ (((8, 0), (fun _ => none), (fun _ => 0)) :: (nC (0, 300) :: [])))) (lA _ _ (by rfl)) (aA _ _ (by simp only [List.cons_append, List.append_assoc, List.nil_append])) dX3_init_8 ?_
  refine l_putQ (M' := (M0 ++ (((8, 0), (uq (fun _ => none) 0 (some (M0.length + 1))), (fun _ => 0)) :: (nC (0, 300) :: [])))) fl_X3_9 (by rw [gA0]) (hA0 _ _ _) (sA0 _ _ _ _ _) dX3_init_10 ?_
  refine x_al0 dX3_init_13 ?_
  refine x_iconst dX3_init_14 ?_
  refine l_putI (M' := (M0 ++ (((8, 0), (uq (fun _ => none) 0 (some (M0.length + 1))), (ua (fun _ => 0) 2 (-1))) :: (nC (0, 300) :: [])))) fl_X3_15 (by rw [gA0]) (hA0 _ _ _) (vA0 _ _ _ _ _) dX3_init_15 ?_
  refine x_al0 dX3_init_18 ?_
  refine x_iconst dX3_init_19 ?_
  refine l_putI (M' := (M0 ++ (((8, 0), (uq (fun _ => none) 0 (some (M0.length + 1))), (ua (ua (fun _ => 0) 2 (-1)) 3 (-1))) :: (nC (0, 300) :: [])))) fl_X3_19 (by rw [gA0]) (hA0 _ _ _) (vA0 _ _ _ _ _) dX3_init_20 ?_
  refine x_al0 dX3_init_23 ?_
  refine x_sipush dX3_init_24 ?_
  refine l_newi (N := 301) (m := (M0.length + 2)) (M' := (M0 ++ (((8, 0), (uq (fun _ => none) 0 (some (M0.length + 1))), (ua (ua (fun _ => 0) 2 (-1)) 3 (-1))) :: (nC (0, 300) :: (nC (0, 301) :: []))))) (lA _ _ (by rfl)) (aA _ _ (by simp only [List.cons_append, List.append_assoc, List.nil_append])) dX3_init_27 ?_
  refine l_putQ (M' := (M0 ++ (((8, 0), (uq (uq (fun _ => none) 0 (some (M0.length + 1))) 4 (some (M0.length + 2))), (ua (ua (fun _ => 0) 2 (-1)) 3 (-1))) :: (nC (0, 300) :: (nC (0, 301) :: []))))) fl_X3_22 (by rw [gA0]) (hA0 _ _ _) (sA0 _ _ _ _ _) dX3_init_29 ?_
  refine x_al0 dX3_init_32 ?_
  refine x_sipush dX3_init_33 ?_
  refine l_newi (N := 301) (m := (M0.length + 3)) (M' := (M0 ++ (((8, 0), (uq (uq (fun _ => none) 0 (some (M0.length + 1))) 4 (some (M0.length + 2))), (ua (ua (fun _ => 0) 2 (-1)) 3 (-1))) :: (nC (0, 300) :: (nC (0, 301) :: (nC (0, 301) :: [])))))) (lA _ _ (by rfl)) (aA _ _ (by simp only [List.cons_append, List.append_assoc, List.nil_append])) dX3_init_36 ?_
  refine l_putQ (M' := (M0 ++ (((8, 0), (uq (uq (uq (fun _ => none) 0 (some (M0.length + 1))) 4 (some (M0.length + 2))) 5 (some (M0.length + 3))), (ua (ua (fun _ => 0) 2 (-1)) 3 (-1))) :: (nC (0, 300) :: (nC (0, 301) :: (nC (0, 301) :: [])))))) fl_X3_25 (by rw [gA0]) (hA0 _ _ _) (sA0 _ _ _ _ _) dX3_init_38 ?_
  refine x_al0 dX3_init_41 ?_
  refine x_sipush dX3_init_42 ?_
  refine l_newi (N := 301) (m := (M0.length + 4)) (M' := (M0 ++ (((8, 0), (uq (uq (uq (fun _ => none) 0 (some (M0.length + 1))) 4 (some (M0.length + 2))) 5 (some (M0.length + 3))), (ua (ua (fun _ => 0) 2 (-1)) 3 (-1))) :: (nC (0, 300) :: (nC (0, 301) :: (nC (0, 301) :: (nC (0, 301) :: []))))))) (lA _ _ (by rfl)) (aA _ _ (by simp only [List.cons_append, List.append_assoc, List.nil_append])) dX3_init_45 ?_
  refine l_putQ (M' := (M0 ++ (((8, 0), (uq (uq (uq (uq (fun _ => none) 0 (some (M0.length + 1))) 4 (some (M0.length + 2))) 5 (some (M0.length + 3))) 6 (some (M0.length + 4))), (ua (ua (fun _ => 0) 2 (-1)) 3 (-1))) :: (nC (0, 300) :: (nC (0, 301) :: (nC (0, 301) :: (nC (0, 301) :: []))))))) fl_X3_28 (by rw [gA0]) (hA0 _ _ _) (sA0 _ _ _ _ _) dX3_init_47 ?_
  refine x_al0 dX3_init_50 ?_
  refine x_bipush dX3_init_51 ?_
  refine l_newi (N := 96) (m := (M0.length + 5)) (M' := (M0 ++ (((8, 0), (uq (uq (uq (uq (fun _ => none) 0 (some (M0.length + 1))) 4 (some (M0.length + 2))) 5 (some (M0.length + 3))) 6 (some (M0.length + 4))), (ua (ua (fun _ => 0) 2 (-1)) 3 (-1))) :: (nC (0, 300) :: (nC (0, 301) :: (nC (0, 301) :: (nC (0, 301) :: (nC (0, 96) :: [])))))))) (lA _ _ (by rfl)) (aA _ _ (by simp only [List.cons_append, List.append_assoc, List.nil_append])) dX3_init_53 ?_
  refine l_putQ (M' := (M0 ++ (((8, 0), (uq (uq (uq (uq (uq (fun _ => none) 0 (some (M0.length + 1))) 4 (some (M0.length + 2))) 5 (some (M0.length + 3))) 6 (some (M0.length + 4))) 10 (some (M0.length + 5))), (ua (ua (fun _ => 0) 2 (-1)) 3 (-1))) :: (nC (0, 300) :: (nC (0, 301) :: (nC (0, 301) :: (nC (0, 301) :: (nC (0, 96) :: [])))))))) fl_X3_31 (by rw [gA0]) (hA0 _ _ _) (sA0 _ _ _ _ _) dX3_init_55 ?_
  refine x_al0 dX3_init_58 ?_
  refine x_sipush dX3_init_59 ?_
  refine l_newi (N := 300) (m := (M0.length + 6)) (M' := (M0 ++ (((8, 0), (uq (uq (uq (uq (uq (fun _ => none) 0 (some (M0.length + 1))) 4 (some (M0.length + 2))) 5 (some (M0.length + 3))) 6 (some (M0.length + 4))) 10 (some (M0.length + 5))), (ua (ua (fun _ => 0) 2 (-1)) 3 (-1))) :: (nC (0, 300) :: (nC (0, 301) :: (nC (0, 301) :: (nC (0, 301) :: (nC (0, 96) :: (nC (0, 300) :: []))))))))) (lA _ _ (by rfl)) (aA _ _ (by simp only [List.cons_append, List.append_assoc, List.nil_append])) dX3_init_62 ?_
  refine l_putQ (M' := (M0 ++ (((8, 0), (uq (uq (uq (uq (uq (uq (fun _ => none) 0 (some (M0.length + 1))) 4 (some (M0.length + 2))) 5 (some (M0.length + 3))) 6 (some (M0.length + 4))) 10 (some (M0.length + 5))) 12 (some (M0.length + 6))), (ua (ua (fun _ => 0) 2 (-1)) 3 (-1))) :: (nC (0, 300) :: (nC (0, 301) :: (nC (0, 301) :: (nC (0, 301) :: (nC (0, 96) :: (nC (0, 300) :: []))))))))) fl_X3_34 (by rw [gA0]) (hA0 _ _ _) (sA0 _ _ _ _ _) dX3_init_64 ?_
  refine x_al0 dX3_init_67 ?_
  refine x_iconst dX3_init_68 ?_
  refine l_newi (N := 3) (m := (M0.length + 7)) (M' := (M0 ++ (((8, 0), (uq (uq (uq (uq (uq (uq (fun _ => none) 0 (some (M0.length + 1))) 4 (some (M0.length + 2))) 5 (some (M0.length + 3))) 6 (some (M0.length + 4))) 10 (some (M0.length + 5))) 12 (some (M0.length + 6))), (ua (ua (fun _ => 0) 2 (-1)) 3 (-1))) :: (nC (0, 300) :: (nC (0, 301) :: (nC (0, 301) :: (nC (0, 301) :: (nC (0, 96) :: (nC (0, 300) :: (nC (0, 3) :: [])))))))))) (lA _ _ (by rfl)) (aA _ _ (by simp only [List.cons_append, List.append_assoc, List.nil_append])) dX3_init_69 ?_
  refine l_putQ (M' := (M0 ++ (((8, 0), (uq (uq (uq (uq (uq (uq (uq (fun _ => none) 0 (some (M0.length + 1))) 4 (some (M0.length + 2))) 5 (some (M0.length + 3))) 6 (some (M0.length + 4))) 10 (some (M0.length + 5))) 12 (some (M0.length + 6))) 14 (some (M0.length + 7))), (ua (ua (fun _ => 0) 2 (-1)) 3 (-1))) :: (nC (0, 300) :: (nC (0, 301) :: (nC (0, 301) :: (nC (0, 301) :: (nC (0, 96) :: (nC (0, 300) :: (nC (0, 3) :: [])))))))))) fl_X3_37 (by rw [gA0]) (hA0 _ _ _) (sA0 _ _ _ _ _) dX3_init_71 ?_
  refine x_al0 dX3_init_74 ?_
  refine x_iconst dX3_init_75 ?_
  refine l_newi (N := 3) (m := (M0.length + 8)) (M' := (M0 ++ (((8, 0), (uq (uq (uq (uq (uq (uq (uq (fun _ => none) 0 (some (M0.length + 1))) 4 (some (M0.length + 2))) 5 (some (M0.length + 3))) 6 (some (M0.length + 4))) 10 (some (M0.length + 5))) 12 (some (M0.length + 6))) 14 (some (M0.length + 7))), (ua (ua (fun _ => 0) 2 (-1)) 3 (-1))) :: (nC (0, 300) :: (nC (0, 301) :: (nC (0, 301) :: (nC (0, 301) :: (nC (0, 96) :: (nC (0, 300) :: (nC (0, 3) :: (nC (0, 3) :: []))))))))))) (lA _ _ (by rfl)) (aA _ _ (by simp only [List.cons_append, List.append_assoc, List.nil_append])) dX3_init_76 ?_
  refine l_putQ (M' := (M0 ++ (((8, 0), (uq (uq (uq (uq (uq (uq (uq (uq (fun _ => none) 0 (some (M0.length + 1))) 4 (some (M0.length + 2))) 5 (some (M0.length + 3))) 6 (some (M0.length + 4))) 10 (some (M0.length + 5))) 12 (some (M0.length + 6))) 14 (some (M0.length + 7))) 15 (some (M0.length + 8))), (ua (ua (fun _ => 0) 2 (-1)) 3 (-1))) :: (nC (0, 300) :: (nC (0, 301) :: (nC (0, 301) :: (nC (0, 301) :: (nC (0, 96) :: (nC (0, 300) :: (nC (0, 3) :: (nC (0, 3) :: []))))))))))) fl_X3_40 (by rw [gA0]) (hA0 _ _ _) (sA0 _ _ _ _ _) dX3_init_78 ?_
  refine x_al0 dX3_init_81 ?_
  refine x_bipush dX3_init_82 ?_
  refine l_newi (N := 20) (m := (M0.length + 9)) (M' := (M0 ++ (((8, 0), (uq (uq (uq (uq (uq (uq (uq (uq (fun _ => none) 0 (some (M0.length + 1))) 4 (some (M0.length + 2))) 5 (some (M0.length + 3))) 6 (some (M0.length + 4))) 10 (some (M0.length + 5))) 12 (some (M0.length + 6))) 14 (some (M0.length + 7))) 15 (some (M0.length + 8))), (ua (ua (fun _ => 0) 2 (-1)) 3 (-1))) :: (nC (0, 300) :: (nC (0, 301) :: (nC (0, 301) :: (nC (0, 301) :: (nC (0, 96) :: (nC (0, 300) :: (nC (0, 3) :: (nC (0, 3) :: (nC (0, 20) :: [])))))))))))) (lA _ _ (by rfl)) (aA _ _ (by simp only [List.cons_append, List.append_assoc, List.nil_append])) dX3_init_84 ?_
  refine l_putQ (M' := (M0 ++ (((8, 0), (uq (uq (uq (uq (uq (uq (uq (uq (uq (fun _ => none) 0 (some (M0.length + 1))) 4 (some (M0.length + 2))) 5 (some (M0.length + 3))) 6 (some (M0.length + 4))) 10 (some (M0.length + 5))) 12 (some (M0.length + 6))) 14 (some (M0.length + 7))) 15 (some (M0.length + 8))) 16 (some (M0.length + 9))), (ua (ua (fun _ => 0) 2 (-1)) 3 (-1))) :: (nC (0, 300) :: (nC (0, 301) :: (nC (0, 301) :: (nC (0, 301) :: (nC (0, 96) :: (nC (0, 300) :: (nC (0, 3) :: (nC (0, 3) :: (nC (0, 20) :: [])))))))))))) fl_X3_43 (by rw [gA0]) (hA0 _ _ _) (sA0 _ _ _ _ _) dX3_init_86 ?_
  exact x_vret hQ ⟨rfl, rfl, rfl⟩ dX3_init_89
def lawC (i a : Nat) : List CelM := (((7, 0), (uq (uq (fun _ => none) 1 (some (i + 1))) 0 (some a)), (fun _ => 0)) :: (nC (0, 301) :: []))
set_option maxRecDepth 100000 in
set_option maxHeartbeats 4000000 in
theorem c_X2_init {B : Bs} (M0 : List CelM) (a : Nat) : C B yX2_init cX2_init 2 none 2 1 301 [vR B M0.length, vR B a] (sO (M0 ++ [nC (7, 0)])) (vO (M0 ++ [nC (7, 0)])) (rV (sO (M0 ++ lawC M0.length a)) (vO (M0 ++ lawC M0.length a))) := by
  refine C.of [some (vR B M0.length), some (vR B a)] ?_
  intro Γ hQ
  have e0 : nC (7, 0) = ((7, 0), (fun _ => none), (fun _ => 0)) := rfl
  rw [e0]
  refine x_al0 dX2_init_0 ?_
  refine x_objInit (tb_2 33 rfl rfl) obj_i obj_c dX2_init_1 ?_
  refine x_al0 dX2_init_4 ?_
  refine x_sipush dX2_init_5 ?_
  refine l_newi (N := 301) (m := (M0.length + 1)) (M' := (M0 ++ (((7, 0), (fun _ => none), (fun _ => 0)) :: (nC (0, 301) :: [])))) (lA _ _ (by rfl)) (aA _ _ (by simp only [List.cons_append, List.append_assoc, List.nil_append])) dX2_init_8 ?_
  refine l_putQ (M' := (M0 ++ (((7, 0), (uq (fun _ => none) 1 (some (M0.length + 1))), (fun _ => 0)) :: (nC (0, 301) :: [])))) fl_X2_9 (by rw [gA0]) (hA0 _ _ _) (sA0 _ _ _ _ _) dX2_init_10 ?_
  refine x_al0 dX2_init_13 ?_
  refine x_al1 dX2_init_14 ?_
  refine l_putQ (M' := (M0 ++ (((7, 0), (uq (uq (fun _ => none) 1 (some (M0.length + 1))) 0 (some a)), (fun _ => 0)) :: (nC (0, 301) :: [])))) fl_X2_15 (by rw [gA0]) (hA0 _ _ _) (sA0 _ _ _ _ _) dX2_init_15 ?_
  exact x_vret hQ ⟨rfl, rfl, rfl⟩ dX2_init_18
def shaC (i a b : Nat) : List CelM := (((11, 0), (uq (uq (uq (uq (uq (uq (uq (uq (uq (fun _ => none) 2 (some (i + 1))) 3 (some (i + 2))) 4 (some (i + 3))) 5 (some (i + 4))) 6 (some (i + 5))) 7 (some (i + 6))) 8 (some (i + 7))) 0 (some a)) 1 (some b)), (ua (fun _ => 0) 10 (-1))) :: (nC (0, 12) :: (nC (0, 12) :: (nC (0, 12) :: (nC (0, 12) :: (nC (0, 12) :: (nC (0, 12) :: (nC (0, 12) :: []))))))))
set_option maxRecDepth 100000 in
set_option maxHeartbeats 4000000 in
theorem c_X6_init {B : Bs} (M0 : List CelM) (a b : Nat) : C B yX6_init cX6_init 3 none 2 7 84 [vR B M0.length, vR B a, vR B b] (sO (M0 ++ [nC (11, 0)])) (vO (M0 ++ [nC (11, 0)])) (rV (sO (M0 ++ shaC M0.length a b)) (vO (M0 ++ shaC M0.length a b))) := by
  refine C.of [some (vR B M0.length), some (vR B a), some (vR B b)] ?_
  intro Γ hQ
  have e0 : nC (11, 0) = ((11, 0), (fun _ => none), (fun _ => 0)) := rfl
  rw [e0]
  refine x_al0 dX6_init_0 ?_
  refine x_objInit (tb_2 52 rfl rfl) obj_i obj_c dX6_init_1 ?_
  refine x_al0 dX6_init_4 ?_
  refine x_bipush dX6_init_5 ?_
  refine l_newi (N := 12) (m := (M0.length + 1)) (M' := (M0 ++ (((11, 0), (fun _ => none), (fun _ => 0)) :: (nC (0, 12) :: [])))) (lA _ _ (by rfl)) (aA _ _ (by simp only [List.cons_append, List.append_assoc, List.nil_append])) dX6_init_7 ?_
  refine l_putQ (M' := (M0 ++ (((11, 0), (uq (fun _ => none) 2 (some (M0.length + 1))), (fun _ => 0)) :: (nC (0, 12) :: [])))) fl_X6_9 (by rw [gA0]) (hA0 _ _ _) (sA0 _ _ _ _ _) dX6_init_9 ?_
  refine x_al0 dX6_init_12 ?_
  refine x_bipush dX6_init_13 ?_
  refine l_newi (N := 12) (m := (M0.length + 2)) (M' := (M0 ++ (((11, 0), (uq (fun _ => none) 2 (some (M0.length + 1))), (fun _ => 0)) :: (nC (0, 12) :: (nC (0, 12) :: []))))) (lA _ _ (by rfl)) (aA _ _ (by simp only [List.cons_append, List.append_assoc, List.nil_append])) dX6_init_15 ?_
  refine l_putQ (M' := (M0 ++ (((11, 0), (uq (uq (fun _ => none) 2 (some (M0.length + 1))) 3 (some (M0.length + 2))), (fun _ => 0)) :: (nC (0, 12) :: (nC (0, 12) :: []))))) fl_X6_15 (by rw [gA0]) (hA0 _ _ _) (sA0 _ _ _ _ _) dX6_init_17 ?_
  refine x_al0 dX6_init_20 ?_
  refine x_bipush dX6_init_21 ?_
  refine l_newi (N := 12) (m := (M0.length + 3)) (M' := (M0 ++ (((11, 0), (uq (uq (fun _ => none) 2 (some (M0.length + 1))) 3 (some (M0.length + 2))), (fun _ => 0)) :: (nC (0, 12) :: (nC (0, 12) :: (nC (0, 12) :: [])))))) (lA _ _ (by rfl)) (aA _ _ (by simp only [List.cons_append, List.append_assoc, List.nil_append])) dX6_init_23 ?_
  refine l_putQ (M' := (M0 ++ (((11, 0), (uq (uq (uq (fun _ => none) 2 (some (M0.length + 1))) 3 (some (M0.length + 2))) 4 (some (M0.length + 3))), (fun _ => 0)) :: (nC (0, 12) :: (nC (0, 12) :: (nC (0, 12) :: [])))))) fl_X6_18 (by rw [gA0]) (hA0 _ _ _) (sA0 _ _ _ _ _) dX6_init_25 ?_
  refine x_al0 dX6_init_28 ?_
  refine x_bipush dX6_init_29 ?_
  refine l_newi (N := 12) (m := (M0.length + 4)) (M' := (M0 ++ (((11, 0), (uq (uq (uq (fun _ => none) 2 (some (M0.length + 1))) 3 (some (M0.length + 2))) 4 (some (M0.length + 3))), (fun _ => 0)) :: (nC (0, 12) :: (nC (0, 12) :: (nC (0, 12) :: (nC (0, 12) :: []))))))) (lA _ _ (by rfl)) (aA _ _ (by simp only [List.cons_append, List.append_assoc, List.nil_append])) dX6_init_31 ?_
  refine l_putQ (M' := (M0 ++ (((11, 0), (uq (uq (uq (uq (fun _ => none) 2 (some (M0.length + 1))) 3 (some (M0.length + 2))) 4 (some (M0.length + 3))) 5 (some (M0.length + 4))), (fun _ => 0)) :: (nC (0, 12) :: (nC (0, 12) :: (nC (0, 12) :: (nC (0, 12) :: []))))))) fl_X6_21 (by rw [gA0]) (hA0 _ _ _) (sA0 _ _ _ _ _) dX6_init_33 ?_
  refine x_al0 dX6_init_36 ?_
  refine x_bipush dX6_init_37 ?_
  refine l_newi (N := 12) (m := (M0.length + 5)) (M' := (M0 ++ (((11, 0), (uq (uq (uq (uq (fun _ => none) 2 (some (M0.length + 1))) 3 (some (M0.length + 2))) 4 (some (M0.length + 3))) 5 (some (M0.length + 4))), (fun _ => 0)) :: (nC (0, 12) :: (nC (0, 12) :: (nC (0, 12) :: (nC (0, 12) :: (nC (0, 12) :: [])))))))) (lA _ _ (by rfl)) (aA _ _ (by simp only [List.cons_append, List.append_assoc, List.nil_append])) dX6_init_39 ?_
  refine l_putQ (M' := (M0 ++ (((11, 0), (uq (uq (uq (uq (uq (fun _ => none) 2 (some (M0.length + 1))) 3 (some (M0.length + 2))) 4 (some (M0.length + 3))) 5 (some (M0.length + 4))) 6 (some (M0.length + 5))), (fun _ => 0)) :: (nC (0, 12) :: (nC (0, 12) :: (nC (0, 12) :: (nC (0, 12) :: (nC (0, 12) :: [])))))))) fl_X6_24 (by rw [gA0]) (hA0 _ _ _) (sA0 _ _ _ _ _) dX6_init_41 ?_
  refine x_al0 dX6_init_44 ?_
  refine x_bipush dX6_init_45 ?_
  refine l_newi (N := 12) (m := (M0.length + 6)) (M' := (M0 ++ (((11, 0), (uq (uq (uq (uq (uq (fun _ => none) 2 (some (M0.length + 1))) 3 (some (M0.length + 2))) 4 (some (M0.length + 3))) 5 (some (M0.length + 4))) 6 (some (M0.length + 5))), (fun _ => 0)) :: (nC (0, 12) :: (nC (0, 12) :: (nC (0, 12) :: (nC (0, 12) :: (nC (0, 12) :: (nC (0, 12) :: []))))))))) (lA _ _ (by rfl)) (aA _ _ (by simp only [List.cons_append, List.append_assoc, List.nil_append])) dX6_init_47 ?_
  refine l_putQ (M' := (M0 ++ (((11, 0), (uq (uq (uq (uq (uq (uq (fun _ => none) 2 (some (M0.length + 1))) 3 (some (M0.length + 2))) 4 (some (M0.length + 3))) 5 (some (M0.length + 4))) 6 (some (M0.length + 5))) 7 (some (M0.length + 6))), (fun _ => 0)) :: (nC (0, 12) :: (nC (0, 12) :: (nC (0, 12) :: (nC (0, 12) :: (nC (0, 12) :: (nC (0, 12) :: []))))))))) fl_X6_27 (by rw [gA0]) (hA0 _ _ _) (sA0 _ _ _ _ _) dX6_init_49 ?_
  refine x_al0 dX6_init_52 ?_
  refine x_bipush dX6_init_53 ?_
  refine l_newi (N := 12) (m := (M0.length + 7)) (M' := (M0 ++ (((11, 0), (uq (uq (uq (uq (uq (uq (fun _ => none) 2 (some (M0.length + 1))) 3 (some (M0.length + 2))) 4 (some (M0.length + 3))) 5 (some (M0.length + 4))) 6 (some (M0.length + 5))) 7 (some (M0.length + 6))), (fun _ => 0)) :: (nC (0, 12) :: (nC (0, 12) :: (nC (0, 12) :: (nC (0, 12) :: (nC (0, 12) :: (nC (0, 12) :: (nC (0, 12) :: [])))))))))) (lA _ _ (by rfl)) (aA _ _ (by simp only [List.cons_append, List.append_assoc, List.nil_append])) dX6_init_55 ?_
  refine l_putQ (M' := (M0 ++ (((11, 0), (uq (uq (uq (uq (uq (uq (uq (fun _ => none) 2 (some (M0.length + 1))) 3 (some (M0.length + 2))) 4 (some (M0.length + 3))) 5 (some (M0.length + 4))) 6 (some (M0.length + 5))) 7 (some (M0.length + 6))) 8 (some (M0.length + 7))), (fun _ => 0)) :: (nC (0, 12) :: (nC (0, 12) :: (nC (0, 12) :: (nC (0, 12) :: (nC (0, 12) :: (nC (0, 12) :: (nC (0, 12) :: [])))))))))) fl_X6_30 (by rw [gA0]) (hA0 _ _ _) (sA0 _ _ _ _ _) dX6_init_57 ?_
  refine x_al0 dX6_init_60 ?_
  refine x_iconst dX6_init_61 ?_
  refine l_putI (M' := (M0 ++ (((11, 0), (uq (uq (uq (uq (uq (uq (uq (fun _ => none) 2 (some (M0.length + 1))) 3 (some (M0.length + 2))) 4 (some (M0.length + 3))) 5 (some (M0.length + 4))) 6 (some (M0.length + 5))) 7 (some (M0.length + 6))) 8 (some (M0.length + 7))), (ua (fun _ => 0) 10 (-1))) :: (nC (0, 12) :: (nC (0, 12) :: (nC (0, 12) :: (nC (0, 12) :: (nC (0, 12) :: (nC (0, 12) :: (nC (0, 12) :: [])))))))))) fl_X6_33 (by rw [gA0]) (hA0 _ _ _) (vA0 _ _ _ _ _) dX6_init_62 ?_
  refine x_al0 dX6_init_65 ?_
  refine x_al1 dX6_init_66 ?_
  refine l_putQ (M' := (M0 ++ (((11, 0), (uq (uq (uq (uq (uq (uq (uq (uq (fun _ => none) 2 (some (M0.length + 1))) 3 (some (M0.length + 2))) 4 (some (M0.length + 3))) 5 (some (M0.length + 4))) 6 (some (M0.length + 5))) 7 (some (M0.length + 6))) 8 (some (M0.length + 7))) 0 (some a)), (ua (fun _ => 0) 10 (-1))) :: (nC (0, 12) :: (nC (0, 12) :: (nC (0, 12) :: (nC (0, 12) :: (nC (0, 12) :: (nC (0, 12) :: (nC (0, 12) :: [])))))))))) fl_X6_37 (by rw [gA0]) (hA0 _ _ _) (sA0 _ _ _ _ _) dX6_init_67 ?_
  refine x_al0 dX6_init_70 ?_
  refine x_al2 dX6_init_71 ?_
  refine l_putQ (M' := (M0 ++ (((11, 0), (uq (uq (uq (uq (uq (uq (uq (uq (uq (fun _ => none) 2 (some (M0.length + 1))) 3 (some (M0.length + 2))) 4 (some (M0.length + 3))) 5 (some (M0.length + 4))) 6 (some (M0.length + 5))) 7 (some (M0.length + 6))) 8 (some (M0.length + 7))) 0 (some a)) 1 (some b)), (ua (fun _ => 0) 10 (-1))) :: (nC (0, 12) :: (nC (0, 12) :: (nC (0, 12) :: (nC (0, 12) :: (nC (0, 12) :: (nC (0, 12) :: (nC (0, 12) :: [])))))))))) fl_X6_41 (by rw [gA0]) (hA0 _ _ _) (sA0 _ _ _ _ _) dX6_init_72 ?_
  exact x_vret hQ ⟨rfl, rfl, rfl⟩ dX6_init_75
def pasC (i a : Nat) : List CelM := (((6, 0), (uq (uq (uq (uq (uq (uq (fun _ => none) 1 (some (i + 1))) 2 (some (i + 2))) 3 (some (i + 3))) 5 (some (i + 4))) 6 (some (i + 5))) 0 (some a)), (ua (fun _ => 0) 7 (-1))) :: (nC (0, 12) :: (nC (0, 12) :: (nC (1, 12) :: (nC (1, 2048) :: (nC (1, 2048) :: []))))))
set_option maxRecDepth 100000 in
set_option maxHeartbeats 4000000 in
theorem c_X1_init {B : Bs} (M0 : List CelM) (a : Nat) : C B yX1_init cX1_init 2 none 2 5 4132 [vR B M0.length, vR B a] (sO (M0 ++ [nC (6, 0)])) (vO (M0 ++ [nC (6, 0)])) (rV (sO (M0 ++ pasC M0.length a)) (vO (M0 ++ pasC M0.length a))) := by
  refine C.of [some (vR B M0.length), some (vR B a)] ?_
  intro Γ hQ
  have e0 : nC (6, 0) = ((6, 0), (fun _ => none), (fun _ => 0)) := rfl
  rw [e0]
  refine x_al0 dX1_init_0 ?_
  refine x_objInit (tb_2 102 rfl rfl) obj_i obj_c dX1_init_1 ?_
  refine x_al0 dX1_init_4 ?_
  refine x_bipush dX1_init_5 ?_
  refine l_newi (N := 12) (m := (M0.length + 1)) (M' := (M0 ++ (((6, 0), (fun _ => none), (fun _ => 0)) :: (nC (0, 12) :: [])))) (lA _ _ (by rfl)) (aA _ _ (by simp only [List.cons_append, List.append_assoc, List.nil_append])) dX1_init_7 ?_
  refine l_putQ (M' := (M0 ++ (((6, 0), (uq (fun _ => none) 1 (some (M0.length + 1))), (fun _ => 0)) :: (nC (0, 12) :: [])))) fl_X1_11 (by rw [gA0]) (hA0 _ _ _) (sA0 _ _ _ _ _) dX1_init_9 ?_
  refine x_al0 dX1_init_12 ?_
  refine x_bipush dX1_init_13 ?_
  refine l_newi (N := 12) (m := (M0.length + 2)) (M' := (M0 ++ (((6, 0), (uq (fun _ => none) 1 (some (M0.length + 1))), (fun _ => 0)) :: (nC (0, 12) :: (nC (0, 12) :: []))))) (lA _ _ (by rfl)) (aA _ _ (by simp only [List.cons_append, List.append_assoc, List.nil_append])) dX1_init_15 ?_
  refine l_putQ (M' := (M0 ++ (((6, 0), (uq (uq (fun _ => none) 1 (some (M0.length + 1))) 2 (some (M0.length + 2))), (fun _ => 0)) :: (nC (0, 12) :: (nC (0, 12) :: []))))) fl_X1_15 (by rw [gA0]) (hA0 _ _ _) (sA0 _ _ _ _ _) dX1_init_17 ?_
  refine x_al0 dX1_init_20 ?_
  refine x_bipush dX1_init_21 ?_
  refine l_newl (N := 12) (m := (M0.length + 3)) (M' := (M0 ++ (((6, 0), (uq (uq (fun _ => none) 1 (some (M0.length + 1))) 2 (some (M0.length + 2))), (fun _ => 0)) :: (nC (0, 12) :: (nC (0, 12) :: (nC (1, 12) :: [])))))) (lA _ _ (by rfl)) (aA _ _ (by simp only [List.cons_append, List.append_assoc, List.nil_append])) dX1_init_23 ?_
  refine l_putQ (M' := (M0 ++ (((6, 0), (uq (uq (uq (fun _ => none) 1 (some (M0.length + 1))) 2 (some (M0.length + 2))) 3 (some (M0.length + 3))), (fun _ => 0)) :: (nC (0, 12) :: (nC (0, 12) :: (nC (1, 12) :: [])))))) fl_X1_18 (by rw [gA0]) (hA0 _ _ _) (sA0 _ _ _ _ _) dX1_init_25 ?_
  refine x_al0 dX1_init_28 ?_
  refine x_sipush dX1_init_29 ?_
  refine l_newl (N := 2048) (m := (M0.length + 4)) (M' := (M0 ++ (((6, 0), (uq (uq (uq (fun _ => none) 1 (some (M0.length + 1))) 2 (some (M0.length + 2))) 3 (some (M0.length + 3))), (fun _ => 0)) :: (nC (0, 12) :: (nC (0, 12) :: (nC (1, 12) :: (nC (1, 2048) :: []))))))) (lA _ _ (by rfl)) (aA _ _ (by simp only [List.cons_append, List.append_assoc, List.nil_append])) dX1_init_32 ?_
  refine l_putQ (M' := (M0 ++ (((6, 0), (uq (uq (uq (uq (fun _ => none) 1 (some (M0.length + 1))) 2 (some (M0.length + 2))) 3 (some (M0.length + 3))) 5 (some (M0.length + 4))), (fun _ => 0)) :: (nC (0, 12) :: (nC (0, 12) :: (nC (1, 12) :: (nC (1, 2048) :: []))))))) fl_X1_22 (by rw [gA0]) (hA0 _ _ _) (sA0 _ _ _ _ _) dX1_init_34 ?_
  refine x_al0 dX1_init_37 ?_
  refine x_sipush dX1_init_38 ?_
  refine l_newl (N := 2048) (m := (M0.length + 5)) (M' := (M0 ++ (((6, 0), (uq (uq (uq (uq (fun _ => none) 1 (some (M0.length + 1))) 2 (some (M0.length + 2))) 3 (some (M0.length + 3))) 5 (some (M0.length + 4))), (fun _ => 0)) :: (nC (0, 12) :: (nC (0, 12) :: (nC (1, 12) :: (nC (1, 2048) :: (nC (1, 2048) :: [])))))))) (lA _ _ (by rfl)) (aA _ _ (by simp only [List.cons_append, List.append_assoc, List.nil_append])) dX1_init_41 ?_
  refine l_putQ (M' := (M0 ++ (((6, 0), (uq (uq (uq (uq (uq (fun _ => none) 1 (some (M0.length + 1))) 2 (some (M0.length + 2))) 3 (some (M0.length + 3))) 5 (some (M0.length + 4))) 6 (some (M0.length + 5))), (fun _ => 0)) :: (nC (0, 12) :: (nC (0, 12) :: (nC (1, 12) :: (nC (1, 2048) :: (nC (1, 2048) :: [])))))))) fl_X1_25 (by rw [gA0]) (hA0 _ _ _) (sA0 _ _ _ _ _) dX1_init_43 ?_
  refine x_al0 dX1_init_46 ?_
  refine x_iconst dX1_init_47 ?_
  refine l_putI (M' := (M0 ++ (((6, 0), (uq (uq (uq (uq (uq (fun _ => none) 1 (some (M0.length + 1))) 2 (some (M0.length + 2))) 3 (some (M0.length + 3))) 5 (some (M0.length + 4))) 6 (some (M0.length + 5))), (ua (fun _ => 0) 7 (-1))) :: (nC (0, 12) :: (nC (0, 12) :: (nC (1, 12) :: (nC (1, 2048) :: (nC (1, 2048) :: [])))))))) fl_X1_28 (by rw [gA0]) (hA0 _ _ _) (vA0 _ _ _ _ _) dX1_init_48 ?_
  refine x_al0 dX1_init_51 ?_
  refine x_al1 dX1_init_52 ?_
  refine l_putQ (M' := (M0 ++ (((6, 0), (uq (uq (uq (uq (uq (uq (fun _ => none) 1 (some (M0.length + 1))) 2 (some (M0.length + 2))) 3 (some (M0.length + 3))) 5 (some (M0.length + 4))) 6 (some (M0.length + 5))) 0 (some a)), (ua (fun _ => 0) 7 (-1))) :: (nC (0, 12) :: (nC (0, 12) :: (nC (1, 12) :: (nC (1, 2048) :: (nC (1, 2048) :: [])))))))) fl_X1_32 (by rw [gA0]) (hA0 _ _ _) (sA0 _ _ _ _ _) dX1_init_53 ?_
  exact x_vret hQ ⟨rfl, rfl, rfl⟩ dX1_init_56
def rouC (i a : Nat) : List CelM := (((9, 0), (uq (uq (uq (uq (uq (fun _ => none) 1 (some (i + 1))) 2 (some (i + 2))) 3 (some (i + 3))) 4 (some (i + 4))) 0 (some a)), (ua (fun _ => 0) 6 (-1))) :: (nC (0, 8) :: (nC (0, 8) :: (nC (0, 64) :: (nC (0, 1024) :: [])))))
set_option maxRecDepth 100000 in
set_option maxHeartbeats 4000000 in
theorem c_X4_init {B : Bs} (M0 : List CelM) (a : Nat) : C B yX4_init cX4_init 2 none 2 4 1104 [vR B M0.length, vR B a] (sO (M0 ++ [nC (9, 0)])) (vO (M0 ++ [nC (9, 0)])) (rV (sO (M0 ++ rouC M0.length a)) (vO (M0 ++ rouC M0.length a))) := by
  refine C.of [some (vR B M0.length), some (vR B a)] ?_
  intro Γ hQ
  have e0 : nC (9, 0) = ((9, 0), (fun _ => none), (fun _ => 0)) := rfl
  rw [e0]
  refine x_al0 dX4_init_0 ?_
  refine x_objInit (tb_2 134 rfl rfl) obj_i obj_c dX4_init_1 ?_
  refine x_al0 dX4_init_4 ?_
  refine x_bipush dX4_init_5 ?_
  refine l_newi (N := 8) (m := (M0.length + 1)) (M' := (M0 ++ (((9, 0), (fun _ => none), (fun _ => 0)) :: (nC (0, 8) :: [])))) (lA _ _ (by rfl)) (aA _ _ (by simp only [List.cons_append, List.append_assoc, List.nil_append])) dX4_init_7 ?_
  refine l_putQ (M' := (M0 ++ (((9, 0), (uq (fun _ => none) 1 (some (M0.length + 1))), (fun _ => 0)) :: (nC (0, 8) :: [])))) fl_X4_9 (by rw [gA0]) (hA0 _ _ _) (sA0 _ _ _ _ _) dX4_init_9 ?_
  refine x_al0 dX4_init_12 ?_
  refine x_bipush dX4_init_13 ?_
  refine l_newi (N := 8) (m := (M0.length + 2)) (M' := (M0 ++ (((9, 0), (uq (fun _ => none) 1 (some (M0.length + 1))), (fun _ => 0)) :: (nC (0, 8) :: (nC (0, 8) :: []))))) (lA _ _ (by rfl)) (aA _ _ (by simp only [List.cons_append, List.append_assoc, List.nil_append])) dX4_init_15 ?_
  refine l_putQ (M' := (M0 ++ (((9, 0), (uq (uq (fun _ => none) 1 (some (M0.length + 1))) 2 (some (M0.length + 2))), (fun _ => 0)) :: (nC (0, 8) :: (nC (0, 8) :: []))))) fl_X4_15 (by rw [gA0]) (hA0 _ _ _) (sA0 _ _ _ _ _) dX4_init_17 ?_
  refine x_al0 dX4_init_20 ?_
  refine x_bipush dX4_init_21 ?_
  refine l_newi (N := 64) (m := (M0.length + 3)) (M' := (M0 ++ (((9, 0), (uq (uq (fun _ => none) 1 (some (M0.length + 1))) 2 (some (M0.length + 2))), (fun _ => 0)) :: (nC (0, 8) :: (nC (0, 8) :: (nC (0, 64) :: [])))))) (lA _ _ (by rfl)) (aA _ _ (by simp only [List.cons_append, List.append_assoc, List.nil_append])) dX4_init_23 ?_
  refine l_putQ (M' := (M0 ++ (((9, 0), (uq (uq (uq (fun _ => none) 1 (some (M0.length + 1))) 2 (some (M0.length + 2))) 3 (some (M0.length + 3))), (fun _ => 0)) :: (nC (0, 8) :: (nC (0, 8) :: (nC (0, 64) :: [])))))) fl_X4_18 (by rw [gA0]) (hA0 _ _ _) (sA0 _ _ _ _ _) dX4_init_25 ?_
  refine x_al0 dX4_init_28 ?_
  refine x_sipush dX4_init_29 ?_
  refine l_newi (N := 1024) (m := (M0.length + 4)) (M' := (M0 ++ (((9, 0), (uq (uq (uq (fun _ => none) 1 (some (M0.length + 1))) 2 (some (M0.length + 2))) 3 (some (M0.length + 3))), (fun _ => 0)) :: (nC (0, 8) :: (nC (0, 8) :: (nC (0, 64) :: (nC (0, 1024) :: []))))))) (lA _ _ (by rfl)) (aA _ _ (by simp only [List.cons_append, List.append_assoc, List.nil_append])) dX4_init_32 ?_
  refine l_putQ (M' := (M0 ++ (((9, 0), (uq (uq (uq (uq (fun _ => none) 1 (some (M0.length + 1))) 2 (some (M0.length + 2))) 3 (some (M0.length + 3))) 4 (some (M0.length + 4))), (fun _ => 0)) :: (nC (0, 8) :: (nC (0, 8) :: (nC (0, 64) :: (nC (0, 1024) :: []))))))) fl_X4_21 (by rw [gA0]) (hA0 _ _ _) (sA0 _ _ _ _ _) dX4_init_34 ?_
  refine x_al0 dX4_init_37 ?_
  refine x_iconst dX4_init_38 ?_
  refine l_putI (M' := (M0 ++ (((9, 0), (uq (uq (uq (uq (fun _ => none) 1 (some (M0.length + 1))) 2 (some (M0.length + 2))) 3 (some (M0.length + 3))) 4 (some (M0.length + 4))), (ua (fun _ => 0) 6 (-1))) :: (nC (0, 8) :: (nC (0, 8) :: (nC (0, 64) :: (nC (0, 1024) :: []))))))) fl_X4_24 (by rw [gA0]) (hA0 _ _ _) (vA0 _ _ _ _ _) dX4_init_39 ?_
  refine x_al0 dX4_init_42 ?_
  refine x_al1 dX4_init_43 ?_
  refine l_putQ (M' := (M0 ++ (((9, 0), (uq (uq (uq (uq (uq (fun _ => none) 1 (some (M0.length + 1))) 2 (some (M0.length + 2))) 3 (some (M0.length + 3))) 4 (some (M0.length + 4))) 0 (some a)), (ua (fun _ => 0) 6 (-1))) :: (nC (0, 8) :: (nC (0, 8) :: (nC (0, 64) :: (nC (0, 1024) :: []))))))) fl_X4_28 (by rw [gA0]) (hA0 _ _ _) (sA0 _ _ _ _ _) dX4_init_44 ?_
  exact x_vret hQ ⟨rfl, rfl, rfl⟩ dX4_init_47
theorem reaC_len (i : Nat) : (reaC i).length = 10 := by simp only [reaC, List.length_cons, List.length_append, List.length_nil]
theorem lawC_len (i a : Nat) : (lawC i a).length = 2 := by simp only [lawC, List.length_cons, List.length_append, List.length_nil]
theorem shaC_len (i a b : Nat) : (shaC i a b).length = 8 := by simp only [shaC, List.length_cons, List.length_append, List.length_nil]
theorem pasC_len (i a : Nat) : (pasC i a).length = 6 := by simp only [pasC, List.length_cons, List.length_append, List.length_nil]
theorem rouC_len (i a : Nat) : (rouC i a).length = 5 := by simp only [rouC, List.length_cons, List.length_append, List.length_nil]
