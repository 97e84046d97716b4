theorem lA (M0 t : List CelM) {n : Nat} (h : t.length = n) : (M0 ++ t).length = M0.length + n := by rw [List.length_append, h]
theorem aA (M0 t : List CelM) {c : CelM} {t' : List CelM} (h : t ++ [c] = t') : (M0 ++ t) ++ [c] = M0 ++ t' := by rw [List.append_assoc, h]
theorem gAn (M0 : List CelM) {t : List CelM} (j : Nat) {c : CelM} (h : t[j]? = some c) : (M0 ++ t).getD (M0.length + j) dC = c := by
  show ((M0 ++ t)[M0.length + j]?).getD dC = c
  rw [List.getElem?_append_right (by omega), show M0.length + j - M0.length = j by omega, h]
  rfl
theorem gAs (M0 : List CelM) {t : List CelM} (j : Nat) {sh : Nat × Nat} (h : (t[j]?).map Prod.fst = some sh) : ((M0 ++ t).getD (M0.length + j) dC).1 = sh := by
  obtain ⟨c, h1, h2⟩ := Option.map_eq_some_iff.mp h
  rw [gAn M0 j h1]
  exact h2
theorem hAn (M0 : List CelM) {t : List CelM} (j : Nat) {n : Nat} (h : t.length = n) (hj : j < n) : M0.length + j < (M0 ++ t).length := by
  rw [List.length_append, h]
  omega
theorem gA0 (M0 : List CelM) (c : CelM) (t : List CelM) : (M0 ++ c :: t).getD M0.length dC = c := gAn M0 0 rfl
theorem gA1 (M0 : List CelM) (c d : CelM) (t : List CelM) : (M0 ++ c :: d :: t).getD (M0.length + 1) dC = d := gAn M0 1 rfl
theorem hA0 (M0 : List CelM) (c : CelM) (t : List CelM) : M0.length < (M0 ++ c :: t).length := by simp
theorem hA1 (M0 : List CelM) (c d : CelM) (t : List CelM) : M0.length + 1 < (M0 ++ c :: d :: t).length := by simp
theorem setA (M0 : List CelM) {t : List CelM} (j : Nat) (c : CelM) : (M0 ++ t).set (M0.length + j) c = M0 ++ t.set j c := by
  rw [List.set_append_right _ _ (by omega), show M0.length + j - M0.length = j by omega]
theorem sA0 (M0 : List CelM) (c : CelM) (t : List CelM) (k : Int) (r : Option Nat) : setR (M0 ++ c :: t) M0.length k r = M0 ++ (c.1, uq c.2.1 k r, c.2.2) :: t := by
  simp only [setR]
  rw [gA0]
  exact setA M0 0 _
theorem vA0 (M0 : List CelM) (c : CelM) (t : List CelM) (k e : Int) : setV (M0 ++ c :: t) M0.length k e = M0 ++ (c.1, c.2.1, ua c.2.2 k e) :: t := by
  simp only [setV]
  rw [gA0]
  exact setA M0 0 _
theorem sA1 (M0 : List CelM) (c d : CelM) (t : List CelM) (k : Int) (r : Option Nat) : setR (M0 ++ c :: d :: t) (M0.length + 1) k r = M0 ++ c :: (d.1, uq d.2.1 k r, d.2.2) :: t := by
  simp only [setR]
  rw [gA1]
  exact setA M0 1 _
theorem vA1 (M0 : List CelM) (c d : CelM) (t : List CelM) (k e : Int) : setV (M0 ++ c :: d :: t) (M0.length + 1) k e = M0 ++ c :: (d.1, d.2.1, ua d.2.2 k e) :: t := by
  simp only [setV]
  rw [gA1]
  exact setA M0 1 _
def bonC (i : Nat) : List CelM := (((5, 0), (uq (uq (uq (uq (uq (fun _ => none) 0 (some (i + 1))) 1 (some (i + 2))) 2 (some (i + 3))) 3 (some (i + 4))) 4 (some (i + 5))), (fun _ => 0)) :: (nC (0, 16) :: (nC (0, 16) :: (nC (0, 16) :: (nC (0, 16) :: (nC (0, 10) :: []))))))
set_option maxRecDepth 100000 in
set_option maxHeartbeats 4000000 in
theorem c_X0_init {B : Bs} (M0 : List CelM) : C B yX0_init cX0_init 1 none 2 5 74 [vR B M0.length] (sO (M0 ++ [nC (5, 0)])) (vO (M0 ++ [nC (5, 0)])) (rV (sO (M0 ++ bonC M0.length)) (vO (M0 ++ bonC M0.length))) := by
  refine C.of [some (vR B M0.length)] ?_
  intro Γ hQ
  have e0 : nC (5, 0) = ((5, 0), (fun _ => none), (fun _ => 0)) := rfl
  rw [e0]
  refine x_al0 dX0_init_0 ?_
  refine x_objInit (tb_1 41 rfl rfl) obj_i obj_c dX0_init_1 ?_
  refine x_al0 dX0_init_4 ?_
  refine x_bipush dX0_init_5 ?_
  refine l_newi (N := 16) (m := (M0.length + 1)) (M' := (M0 ++ (((5, 0), (fun _ => none), (fun _ => 0)) :: (nC (0, 16) :: [])))) (lA _ _ (by rfl)) (aA _ _ (by simp only [List.cons_append, List.append_assoc, List.nil_append])) dX0_init_7 ?_
  refine l_putQ (M' := (M0 ++ (((5, 0), (uq (fun _ => none) 0 (some (M0.length + 1))), (fun _ => 0)) :: (nC (0, 16) :: [])))) fl_X0_9 (by rw [gA0]) (hA0 _ _ _) (sA0 _ _ _ _ _) dX0_init_9 ?_
  refine x_al0 dX0_init_12 ?_
  refine x_bipush dX0_init_13 ?_
  refine l_newi (N := 16) (m := (M0.length + 2)) (M' := (M0 ++ (((5, 0), (uq (fun _ => none) 0 (some (M0.length + 1))), (fun _ => 0)) :: (nC (0, 16) :: (nC (0, 16) :: []))))) (lA _ _ (by rfl)) (aA _ _ (by simp only [List.cons_append, List.append_assoc, List.nil_append])) dX0_init_15 ?_
  refine l_putQ (M' := (M0 ++ (((5, 0), (uq (uq (fun _ => none) 0 (some (M0.length + 1))) 1 (some (M0.length + 2))), (fun _ => 0)) :: (nC (0, 16) :: (nC (0, 16) :: []))))) fl_X0_15 (by rw [gA0]) (hA0 _ _ _) (sA0 _ _ _ _ _) dX0_init_17 ?_
  refine x_al0 dX0_init_20 ?_
  refine x_bipush dX0_init_21 ?_
  refine l_newi (N := 16) (m := (M0.length + 3)) (M' := (M0 ++ (((5, 0), (uq (uq (fun _ => none) 0 (some (M0.length + 1))) 1 (some (M0.length + 2))), (fun _ => 0)) :: (nC (0, 16) :: (nC (0, 16) :: (nC (0, 16) :: [])))))) (lA _ _ (by rfl)) (aA _ _ (by simp only [List.cons_append, List.append_assoc, List.nil_append])) dX0_init_23 ?_
  refine l_putQ (M' := (M0 ++ (((5, 0), (uq (uq (uq (fun _ => none) 0 (some (M0.length + 1))) 1 (some (M0.length + 2))) 2 (some (M0.length + 3))), (fun _ => 0)) :: (nC (0, 16) :: (nC (0, 16) :: (nC (0, 16) :: [])))))) fl_X0_18 (by rw [gA0]) (hA0 _ _ _) (sA0 _ _ _ _ _) dX0_init_25 ?_
  refine x_al0 dX0_init_28 ?_
  refine x_bipush dX0_init_29 ?_
  refine l_newi (N := 16) (m := (M0.length + 4)) (M' := (M0 ++ (((5, 0), (uq (uq (uq (fun _ => none) 0 (some (M0.length + 1))) 1 (some (M0.length + 2))) 2 (some (M0.length + 3))), (fun _ => 0)) :: (nC (0, 16) :: (nC (0, 16) :: (nC (0, 16) :: (nC (0, 16) :: []))))))) (lA _ _ (by rfl)) (aA _ _ (by simp only [List.cons_append, List.append_assoc, List.nil_append])) dX0_init_31 ?_
  refine l_putQ (M' := (M0 ++ (((5, 0), (uq (uq (uq (uq (fun _ => none) 0 (some (M0.length + 1))) 1 (some (M0.length + 2))) 2 (some (M0.length + 3))) 3 (some (M0.length + 4))), (fun _ => 0)) :: (nC (0, 16) :: (nC (0, 16) :: (nC (0, 16) :: (nC (0, 16) :: []))))))) fl_X0_21 (by rw [gA0]) (hA0 _ _ _) (sA0 _ _ _ _ _) dX0_init_33 ?_
  refine x_al0 dX0_init_36 ?_
  refine x_bipush dX0_init_37 ?_
  refine l_newi (N := 10) (m := (M0.length + 5)) (M' := (M0 ++ (((5, 0), (uq (uq (uq (uq (fun _ => none) 0 (some (M0.length + 1))) 1 (some (M0.length + 2))) 2 (some (M0.length + 3))) 3 (some (M0.length + 4))), (fun _ => 0)) :: (nC (0, 16) :: (nC (0, 16) :: (nC (0, 16) :: (nC (0, 16) :: (nC (0, 10) :: [])))))))) (lA _ _ (by rfl)) (aA _ _ (by simp only [List.cons_append, List.append_assoc, List.nil_append])) dX0_init_39 ?_
  refine l_putQ (M' := (M0 ++ (((5, 0), (uq (uq (uq (uq (uq (fun _ => none) 0 (some (M0.length + 1))) 1 (some (M0.length + 2))) 2 (some (M0.length + 3))) 3 (some (M0.length + 4))) 4 (some (M0.length + 5))), (fun _ => 0)) :: (nC (0, 16) :: (nC (0, 16) :: (nC (0, 16) :: (nC (0, 16) :: (nC (0, 10) :: [])))))))) fl_X0_24 (by rw [gA0]) (hA0 _ _ _) (sA0 _ _ _ _ _) dX0_init_41 ?_
  exact x_vret hQ ⟨rfl, rfl, rfl⟩ dX0_init_44
def seeC (i : Nat) : List CelM := (((10, 0), (uq (uq (uq (uq (fun _ => none) 0 (some (i + 1))) 1 (some (i + 2))) 2 (some (i + 3))) 3 (some (i + 4))), (ua (ua (fun _ => 0) 5 1) 6 10)) :: (nC (0, 12) :: (nC (0, 12) :: (nC (0, 12) :: (nC (0, 12) :: [])))))
set_option maxRecDepth 100000 in
set_option maxHeartbeats 4000000 in
theorem c_X5_init {B : Bs} (M0 : List CelM) : C B yX5_init cX5_init 1 none 2 4 48 [vR B M0.length] (sO (M0 ++ [nC (10, 0)])) (vO (M0 ++ [nC (10, 0)])) (rV (sO (M0 ++ seeC M0.length)) (vO (M0 ++ seeC M0.length))) := by
  refine C.of [some (vR B M0.length)] ?_
  intro Γ hQ
  have e0 : nC (10, 0) = ((10, 0), (fun _ => none), (fun _ => 0)) := rfl
  rw [e0]
  refine x_al0 dX5_init_0 ?_
  refine x_objInit (tb_1 113 rfl rfl) obj_i obj_c dX5_init_1 ?_
  refine x_al0 dX5_init_4 ?_
  refine x_bipush dX5_init_5 ?_
  refine l_newi (N := 12) (m := (M0.length + 1)) (M' := (M0 ++ (((10, 0), (fun _ => none), (fun _ => 0)) :: (nC (0, 12) :: [])))) (lA _ _ (by rfl)) (aA _ _ (by simp only [List.cons_append, List.append_assoc, List.nil_append])) dX5_init_7 ?_
  refine l_putQ (M' := (M0 ++ (((10, 0), (uq (fun _ => none) 0 (some (M0.length + 1))), (fun _ => 0)) :: (nC (0, 12) :: [])))) fl_X5_9 (by rw [gA0]) (hA0 _ _ _) (sA0 _ _ _ _ _) dX5_init_9 ?_
  refine x_al0 dX5_init_12 ?_
  refine x_bipush dX5_init_13 ?_
  refine l_newi (N := 12) (m := (M0.length + 2)) (M' := (M0 ++ (((10, 0), (uq (fun _ => none) 0 (some (M0.length + 1))), (fun _ => 0)) :: (nC (0, 12) :: (nC (0, 12) :: []))))) (lA _ _ (by rfl)) (aA _ _ (by simp only [List.cons_append, List.append_assoc, List.nil_append])) dX5_init_15 ?_
  refine l_putQ (M' := (M0 ++ (((10, 0), (uq (uq (fun _ => none) 0 (some (M0.length + 1))) 1 (some (M0.length + 2))), (fun _ => 0)) :: (nC (0, 12) :: (nC (0, 12) :: []))))) fl_X5_15 (by rw [gA0]) (hA0 _ _ _) (sA0 _ _ _ _ _) dX5_init_17 ?_
  refine x_al0 dX5_init_20 ?_
  refine x_bipush dX5_init_21 ?_
  refine l_newi (N := 12) (m := (M0.length + 3)) (M' := (M0 ++ (((10, 0), (uq (uq (fun _ => none) 0 (some (M0.length + 1))) 1 (some (M0.length + 2))), (fun _ => 0)) :: (nC (0, 12) :: (nC (0, 12) :: (nC (0, 12) :: [])))))) (lA _ _ (by rfl)) (aA _ _ (by simp only [List.cons_append, List.append_assoc, List.nil_append])) dX5_init_23 ?_
  refine l_putQ (M' := (M0 ++ (((10, 0), (uq (uq (uq (fun _ => none) 0 (some (M0.length + 1))) 1 (some (M0.length + 2))) 2 (some (M0.length + 3))), (fun _ => 0)) :: (nC (0, 12) :: (nC (0, 12) :: (nC (0, 12) :: [])))))) fl_X5_18 (by rw [gA0]) (hA0 _ _ _) (sA0 _ _ _ _ _) dX5_init_25 ?_
  refine x_al0 dX5_init_28 ?_
  refine x_bipush dX5_init_29 ?_
  refine l_newi (N := 12) (m := (M0.length + 4)) (M' := (M0 ++ (((10, 0), (uq (uq (uq (fun _ => none) 0 (some (M0.length + 1))) 1 (some (M0.length + 2))) 2 (some (M0.length + 3))), (fun _ => 0)) :: (nC (0, 12) :: (nC (0, 12) :: (nC (0, 12) :: (nC (0, 12) :: []))))))) (lA _ _ (by rfl)) (aA _ _ (by simp only [List.cons_append, List.append_assoc, List.nil_append])) dX5_init_31 ?_
  refine l_putQ (M' := (M0 ++ (((10, 0), (uq (uq (uq (uq (fun _ => none) 0 (some (M0.length + 1))) 1 (some (M0.length + 2))) 2 (some (M0.length + 3))) 3 (some (M0.length + 4))), (fun _ => 0)) :: (nC (0, 12) :: (nC (0, 12) :: (nC (0, 12) :: (nC (0, 12) :: []))))))) fl_X5_21 (by rw [gA0]) (hA0 _ _ _) (sA0 _ _ _ _ _) dX5_init_33 ?_
  refine x_al0 dX5_init_36 ?_
  refine x_iconst dX5_init_37 ?_
  refine l_putI (M' := (M0 ++ (((10, 0), (uq (uq (uq (uq (fun _ => none) 0 (some (M0.length + 1))) 1 (some (M0.length + 2))) 2 (some (M0.length + 3))) 3 (some (M0.length + 4))), (ua (fun _ => 0) 5 1)) :: (nC (0, 12) :: (nC (0, 12) :: (nC (0, 12) :: (nC (0, 12) :: []))))))) fl_X5_24 (by rw [gA0]) (hA0 _ _ _) (vA0 _ _ _ _ _) dX5_init_38 ?_
  refine x_al0 dX5_init_41 ?_
  refine x_bipush dX5_init_42 ?_
  refine l_putI (M' := (M0 ++ (((10, 0), (uq (uq (uq (uq (fun _ => none) 0 (some (M0.length + 1))) 1 (some (M0.length + 2))) 2 (some (M0.length + 3))) 3 (some (M0.length + 4))), (ua (ua (fun _ => 0) 5 1) 6 10)) :: (nC (0, 12) :: (nC (0, 12) :: (nC (0, 12) :: (nC (0, 12) :: []))))))) fl_X5_28 (by rw [gA0]) (hA0 _ _ _) (vA0 _ _ _ _ _) dX5_init_44 ?_
  exact x_vret hQ ⟨rfl, rfl, rfl⟩ dX5_init_47
theorem bonC_len (i : Nat) : (bonC i).length = 6 := by simp only [bonC, List.length_cons, List.length_append, List.length_nil]
theorem seeC_len (i : Nat) : (seeC i).length = 5 := by simp only [seeC, List.length_cons, List.length_append, List.length_nil]
