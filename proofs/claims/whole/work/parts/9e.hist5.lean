/-! one answer to BEST, HISTORIES and LED -/
theorem hL_len (n : Int) : ∀ r : Nat, (hL n r).length = r
  | 0 => rfl
  | r + 1 => by simp only [hL, List.length_cons]; rw [hL_len n r]
theorem hN_ex {sm a : Int → Int} {n : Nat} (hn : n ≤ 12) {l : List Int} {U : Int → Bool} {p : H3} (h : 1 ≤ hN sm a n l U p) : ∃ b t d, oB l b t d = true ∧ p b t d = true := by
  by_cases c : ∃ b t d, oB l b t d = true ∧ p b t d = true
  · exact c
  · have := hN_no (sm := sm) (a := a) hn (l := l) (U := U) (p := p) (fun b t d o k => c ⟨b, t, d, o, k⟩)
    omega
theorem hN_le {sm a : Int → Int} {n : Nat} (hn : n ≤ 12) {l : List Int} {U : Int → Bool} {p q : H3} (h : ∀ b t d, oB l b t d = true → p b t d = true → q b t d = true) : hN sm a n l U p ≤ hN sm a n l U q := by
  have e : hN sm a n l U p = hN sm a n l U (fun b t d => p b t d && oB l b t d) := hN_eq hn l U _ _ (fun b t d o => by show p b t d = (p b t d && oB l b t d); rw [o, Bool.and_true])
  rw [e]
  refine hN_mono sm a n l U _ _ (fun b t d k => ?_)
  rw [Bool.and_eq_true] at k
  exact h b t d k.2 k.1
theorem LM_fin {sm a : Int → Int} {n : Nat} (hn : n ≤ 12) {l : List Int} (hp : List.Perm l (hL n n)) {U : Int → Bool} (hU0 : ∀ x, 0 ≤ x → x < (n : Int) → U x = false) {D C W : Int} (h : LM (hN sm a n l U) D C W) :
    C = pk ((mDP sm a n n 0).1 / 100) ((mDP sm a n n 0).1 % 100) (hDl sm a n n 0) ∧ W = (mDP sm a n n 0).2 ∧ (mDP sm a n n 0).1 % 100 ≤ 12 ∧ (mDP sm a n n 0).1 / 100 ≤ 12 ∧ 0 ≤ (mDP sm a n n 0).1 ∧ 0 ≤ hDl sm a n n 0 ∧ hDl sm a n n 0 < 281474976710656 := by
  have e : ∀ p, hN sm a n l U p = hN sm a n (hL n n) (hUm 0) p := fun p => by
    rw [hN_perm sm a n hp U p]
    refine hN_ext sm a n _ _ _ p (fun x x0 x1 => ?_)
    rw [hU0 x x0 x1]
    simp only [hUm]
    rw [Int.zero_ediv]
    rfl
  obtain ⟨-, -, k3, k4, k5, -, -⟩ := h
  rw [e] at k3 k4 k5
  have hz : (0 : Int) < p2 n := p2_pos _
  obtain ⟨c1, c2⟩ := mDP_cnt (sm := sm) (a := a) (n := n) n 0 (by omega) hz
  have c3 := mDP_pos (sm := sm) (a := a) hn n hn 0 (by omega) hz
  have c4 := mDP_r (sm := sm) (a := a) (n := n) (by omega) n (by omega) 0 (by omega) hz
  obtain ⟨d1, d2, d3, d4⟩ := mDP_led (sm := sm) (a := a) hn n (by omega) 0 (by omega) hz
  have bl := bdL_hL (n := n) n (by omega) (by omega)
  rw [show 4 * (12 - (n : Int) + n) = 48 by omega, show p2 48 = 281474976710656 by decide] at bl
  generalize hM : (mDP sm a n n 0).1 = m at *
  generalize hK : (mDP sm a n n 0).2 = k at *
  generalize hE : hDl sm a n n 0 = dl at *
  obtain ⟨b, t, d, o, p1⟩ := hN_ex hn k4
  have o := of_decide_eq_true o
  have p1 := of_decide_eq_true p1
  obtain ⟨b1, t1, d1', o1, q1⟩ := hN_ex hn d2
  have o1 := of_decide_eq_true o1
  have q1 := of_decide_eq_true q1
  rw [hL_len] at o o1
  have mB : m / 100 = b1 := by omega
  have mT : m % 100 = t1 := by omega
  have a1 : m ≤ 100 * b + t := by
    by_cases z : m ≤ 100 * b + t
    · exact z
    · have x := c1 (100 * b + t) (by omega)
      have y := hN_le (sm := sm) (a := a) hn (l := hL n n) (U := hUm 0) (p := kE C) (q := cC (100 * b + t)) (fun b' t' d' o' k' => by
        have o' := of_decide_eq_true o'
        have k' := of_decide_eq_true k'
        rw [hL_len] at o'
        simp only [pk] at p1 k'
        exact decide_eq_true (by omega))
      omega
  have a2 : C ≤ pk b1 t1 dl := by
    by_cases z : C ≤ pk b1 t1 dl
    · exact z
    · have y := hN_le (sm := sm) (a := a) hn (l := hL n n) (U := hUm 0) (p := fE m dl) (q := kL C) (fun b' t' d' o' k' => by
        have o' := of_decide_eq_true o'
        have k' := of_decide_eq_true k'
        rw [hL_len] at o'
        refine decide_eq_true ?_
        simp only [pk] at z ⊢
        omega)
      omega
  have eb : b = b1 ∧ t = t1 ∧ d ≤ dl := by
    simp only [pk] at p1 a2
    omega
  have ed : d = dl := by
    by_cases z : d = dl
    · exact z
    · have y := hN_le (sm := sm) (a := a) hn (l := hL n n) (U := hUm 0) (p := kE C) (q := fL m dl) (fun b' t' d' o' k' => by
        have o' := of_decide_eq_true o'
        have k' := of_decide_eq_true k'
        rw [hL_len] at o'
        simp only [pk] at p1 k'
        exact decide_eq_true (by omega))
      omega
  refine ⟨?_, ?_, by omega, by omega, by omega, by omega, by omega⟩
  · rw [mB, mT, ← p1, eb.1, eb.2.1, ed]
  · rw [← k5, ← c2]
    refine hN_eq hn _ _ _ _ (fun b' t' d' o' => decide_eq_decide.mpr ?_)
    have o' := of_decide_eq_true o'
    rw [hL_len] at o'
    have ct : C / 281474976710656 = 16 * b + t := by simp only [pk] at p1; omega
    rw [ct]
    omega
theorem hDl_dig {sm a : Int → Int} {n : Nat} (hn : n ≤ 12) : ∀ i : Nat, i ≤ n → ∃ z, hDl sm a n n 0 = z * p2 (4 * (12 - (i : Int))) + hDl sm a n (n - i) (lSet sm a n i)
  | 0, _ => ⟨0, by rw [Int.zero_mul, Int.zero_add]; rfl⟩
  | i + 1, h => by
    obtain ⟨z, e⟩ := hDl_dig (sm := sm) (a := a) hn i (by omega)
    have er : n - i = (n - (i + 1)) + 1 := by omega
    have ei : (n : Int) - (((n - (i + 1) : Nat) : Int) + 1) = i := by omega
    refine ⟨16 * z + (lCh sm a n i (lSet sm a n i) + 1), ?_⟩
    rw [e, er]
    simp only [hDl, lSet]
    rw [ei]
    simp only [wD]
    have ep : p2 (4 * (12 - (i : Int))) = 16 * p2 (4 * (12 - ((i + 1 : Nat) : Int))) := by
      rw [show 4 * (12 - (i : Int)) = 4 * (12 - ((i + 1 : Nat) : Int)) + 1 + 1 + 1 + 1 by omega, p2_succ (by omega), p2_succ (by omega), p2_succ (by omega), p2_succ (by omega)]
      omega
    rw [ep, show 4 * (11 - (i : Int)) = 4 * (12 - ((i + 1 : Nat) : Int)) by omega]
    generalize p2 (4 * (12 - ((i + 1 : Nat) : Int))) = B
    generalize lCh sm a n i (lSet sm a n i) = J
    rw [Int.add_mul (16 * z), Int.mul_comm 16 z, Int.mul_assoc]
    omega
theorem led_eq {sm a : Int → Int} {n : Nat} (hn : n ≤ 12) {x : Int} {i : Nat} (hi : i < n) : (x * 281474976710656 + hDl sm a n n 0) / p2 (4 * (11 - (i : Int))) % 16 = lCh sm a n i (lSet sm a n i) + 1 := by
  obtain ⟨z, e⟩ := hDl_dig (sm := sm) (a := a) hn (i + 1) (by omega)
  obtain ⟨y, f⟩ := hDl_dig (sm := sm) (a := a) hn i (by omega)
  have sr := lSet_r (sm := sm) (a := a) (n := n) (by omega) i (by omega)
  have sr1 := lSet_r (sm := sm) (a := a) (n := n) (by omega) (i + 1) (by omega)
  have lr := lCh_r (sm := sm) (a := a) (n := n) (i := i) (by omega) (by omega) sr
  have d := mDP_led (sm := sm) (a := a) hn (n - (i + 1)) (by omega) _ sr1.1 sr1.2
  have bl := bdL_hL (n := n) (n - (i + 1)) (by omega) (by omega)
  rw [show 4 * (12 - (n : Int) + ((n - (i + 1) : Nat) : Int)) = 4 * (11 - (i : Int)) by omega] at bl
  have er : n - i = (n - (i + 1)) + 1 := by omega
  have ei : (n : Int) - (((n - (i + 1) : Nat) : Int) + 1) = i := by omega
  rw [er] at f
  simp only [hDl] at f
  rw [ei] at f
  have es : mNx (lSet sm a n i) (lCh sm a n i (lSet sm a n i)) = lSet sm a n (i + 1) := rfl
  rw [es] at f
  rw [f]
  have ep : p2 (4 * (12 - (i : Int))) = 16 * p2 (4 * (11 - (i : Int))) := by
    rw [show 4 * (12 - (i : Int)) = 4 * (11 - (i : Int)) + 1 + 1 + 1 + 1 by omega, p2_succ (by omega), p2_succ (by omega), p2_succ (by omega), p2_succ (by omega)]
    omega
  have e48 : (281474976710656 : Int) = p2 (4 * (i : Int)) * (16 * p2 (4 * (11 - (i : Int)))) := by
    rw [← ep, show (281474976710656 : Int) = p2 48 by decide]
    simp only [p2]
    rw [← Int.natCast_mul, ← Nat.pow_add, show (48 : Int).toNat = (4 * (i : Int)).toNat + (4 * (12 - (i : Int))).toNat by omega]
  have hp := p2_pos (4 * (11 - (i : Int)))
  rw [e48, ep]
  simp only [wD]
  generalize p2 (4 * (11 - (i : Int))) = B at *
  generalize p2 (4 * (i : Int)) = A at *
  generalize lCh sm a n i (lSet sm a n i) = J at *
  generalize hDl sm a n (n - (i + 1)) (lSet sm a n (i + 1)) = R at *
  have k : x * (A * (16 * B)) + (y * (16 * B) + ((J + 1) * B + R)) = R + B * (16 * (x * A + y) + (J + 1)) := by
    rw [Int.mul_add B, Int.mul_comm B (J + 1), ← Int.mul_assoc x A, ← Int.add_assoc, ← Int.add_mul, ← Int.mul_assoc (x * A + y) 16 B, Int.mul_comm (x * A + y) 16, Int.mul_comm B (16 * (x * A + y))]
    omega
  rw [k, Int.add_mul_ediv_left _ _ (by omega), Int.ediv_eq_zero_of_lt (by omega) (by omega)]
  omega
