/-! the first of the best histories -/
def bdL : List Int → Int
  | [] => 0
  | i :: l => 15 * p2 (4 * (11 - i)) + bdL l
def oB (l : List Int) : H3 := fun b t d => decide (0 ≤ b ∧ b ≤ l.length ∧ 0 ≤ t ∧ t ≤ l.length ∧ 0 ≤ d ∧ d ≤ bdL l)
theorem wD_r {i j : Int} (h0 : -1 ≤ j) (h1 : j < 12) : 0 ≤ wD i j ∧ wD i j ≤ 15 * p2 (4 * (11 - i)) := by
  have p := p2_pos (4 * (11 - i))
  simp only [wD]
  exact ⟨Int.mul_nonneg (by omega) (by omega), Int.mul_le_mul_of_nonneg_right (by omega) (by omega)⟩
theorem wB_r (j : Int) : 0 ≤ wB j ∧ wB j ≤ 1 := by simp only [wB]; split <;> omega
theorem wT1_r (a : Int → Int) (i j : Int) : 0 ≤ wT1 a i j ∧ wT1 a i j ≤ 1 := by
  simp only [wT1]
  split
  · omega
  · split <;> omega
theorem oB_s {a : Int → Int} {l : List Int} {i j b t d : Int} (h0 : -1 ≤ j) (h1 : j < 12) (h : oB l b t d = true) : oB (i :: l) (wB j + b) (wT1 a i j + t) (wD i j + d) = true := by
  have x := wD_r (i := i) h0 h1
  have y := wB_r j
  have z := wT1_r a i j
  have e : ((i :: l).length : Int) = l.length + 1 := by simp only [List.length_cons]; omega
  have f : bdL (i :: l) = 15 * p2 (4 * (11 - i)) + bdL l := rfl
  have h := of_decide_eq_true h
  exact decide_eq_true ⟨by omega, by omega, by omega, by omega, by omega, by omega⟩
theorem hN_eq {sm a : Int → Int} {n : Nat} (hn : n ≤ 12) : ∀ (l : List Int) (U : Int → Bool) (p q : H3), (∀ b t d, oB l b t d = true → p b t d = q b t d) → hN sm a n l U p = hN sm a n l U q
  | [], U, p, q, h => by
    simp only [hN]
    rw [h 0 0 0 (by simp only [oB, bdL, List.length_nil]; decide)]
  | i :: l, U, p, q, h => by
    simp only [hN]
    refine sumT_c (fun x x0 x1 => ?_)
    rw [hN_eq hn l (hU U (x - 1)) (hSh a p i (x - 1)) (hSh a q i (x - 1)) (fun b t d z => h _ _ _ (oB_s (by omega) (by omega) z))]
theorem hN_f (sm a : Int → Int) (n : Nat) : ∀ (l : List Int) (U : Int → Bool), hN sm a n l U (fun _ _ _ => false) = 0
  | [], U => rfl
  | i :: l, U => by
    simp only [hN]
    refine sumT_n0 _ _ (fun q _ _ => ?_) (by omega)
    split
    · exact hN_f sm a n l _
    · rfl
theorem hN_no {sm a : Int → Int} {n : Nat} (hn : n ≤ 12) {l : List Int} {U : Int → Bool} {p : H3} (h : ∀ b t d, oB l b t d = true → ¬ p b t d = true) : hN sm a n l U p = 0 := by
  rw [← hN_f sm a n l U]
  exact hN_eq hn l U _ _ (fun b t d z => Bool.eq_false_iff.mpr (h b t d z))
theorem bdL_hL {n : Int} : ∀ r : Nat, (r : Int) ≤ n → n ≤ 12 → bdL (hL n r) < p2 (4 * (12 - n + r))
  | 0, _, _ => by simp only [hL, bdL]; exact p2_pos _
  | r + 1, h, hn => by
    have ih := bdL_hL (n := n) r (by omega) hn
    simp only [hL, bdL]
    rw [show 4 * (11 - (n - ((r : Int) + 1))) = 4 * (12 - n + r) by omega]
    have e : p2 (4 * (12 - n + ((r + 1 : Nat) : Int))) = 16 * p2 (4 * (12 - n + r)) := by
      rw [show 4 * (12 - n + ((r + 1 : Nat) : Int)) = 4 * (12 - n + r) + 1 + 1 + 1 + 1 by omega, p2_succ (by omega), p2_succ (by omega), p2_succ (by omega), p2_succ (by omega)]
      omega
    omega
theorem dF_min {K : Int → Int × Int} {sm a : Int → Int} {i set : Int} : ∀ m : Nat, ∀ q, 0 ≤ q → q < (m : Int) → mOpt sm i (q - 1) set → (dF K sm a i set m).1 ≤ mCo a i (q - 1) + (K (mNx set (q - 1))).1
  | 0, q, h0, h1, _ => by omega
  | m + 1, q, h0, h1, h => by
    simp only [dF]
    by_cases c : q = m
    · rw [c] at h ⊢
      rw [if_pos h]
      split <;> first | omega | (simp only; omega)
    · have ih := dF_min (K := K) (a := a) m q h0 (by omega) h
      split
      · split
        · exact ih
        · simp only; omega
      · exact ih
def hDl (sm a : Int → Int) (n : Int) : Nat → Int → Int
  | 0, _ => 0
  | r + 1, s => wD (n - ((r : Int) + 1)) (lCh sm a n (n - ((r : Int) + 1)) s) + hDl sm a n r (mNx s (lCh sm a n (n - ((r : Int) + 1)) s))
def fE (m e : Int) : H3 := fun b t d => decide (100 * b + t = m ∧ d = e)
def fL (m e : Int) : H3 := fun b t d => decide (100 * b + t = m ∧ d < e)
theorem fE_sh (a : Int → Int) (m e i j : Int) : hSh a (fE m e) i j = fE (m - mCo a i j) (e - wD i j) := by
  funext b t d
  simp only [hSh, fE]
  rw [decide_eq_decide, mCo_w]
  omega
theorem fL_sh (a : Int → Int) (m e i j : Int) : hSh a (fL m e) i j = fL (m - mCo a i j) (e - wD i j) := by
  funext b t d
  simp only [hSh, fL]
  rw [decide_eq_decide, mCo_w]
  omega
theorem sumT_one (f : Int → Int) (h : ∀ k, 0 ≤ k → 0 ≤ f k) (q : Int) (q0 : 0 ≤ q) : ∀ n : Nat, q < n → f q ≤ sumT f n
  | 0, hq => by omega
  | n + 1, hq => by
    have e : ((n + 1 : Nat) : Int) = (n : Int) + 1 := by omega
    rw [e, sumT_s _ (by omega)]
    by_cases c : q = n
    · have := sumT_ge f h n
      rw [c]; omega
    · have := sumT_one f h q q0 n (by omega)
      have := h n (by omega)
      omega
theorem lCh_sp {sm a : Int → Int} {n : Nat} {r : Nat} {set : Int} (hn : n ≤ 12) (hr : r + 1 ≤ n) (hs : 0 ≤ set ∧ set < p2 n) :
    (-1 ≤ lCh sm a n ((n : Int) - ((r : Int) + 1)) set ∧ lCh sm a n ((n : Int) - ((r : Int) + 1)) set < n) ∧ mOpt sm ((n : Int) - ((r : Int) + 1)) (lCh sm a n ((n : Int) - ((r : Int) + 1)) set) set ∧ mCo a ((n : Int) - ((r : Int) + 1)) (lCh sm a n ((n : Int) - ((r : Int) + 1)) set) + (mDP sm a n r (mNx set (lCh sm a n ((n : Int) - ((r : Int) + 1)) set))).1 = (mDP sm a n (r + 1) set).1 ∧
    ∀ j, -1 ≤ j → j < lCh sm a n ((n : Int) - ((r : Int) + 1)) set → mOpt sm ((n : Int) - ((r : Int) + 1)) j set → mCo a ((n : Int) - ((r : Int) + 1)) j + (mDP sm a n r (mNx set j)).1 ≠ (mDP sm a n (r + 1) set).1 := by
  have b := lCh_r (sm := sm) (a := a) (n := n) (i := (n : Int) - ((r : Int) + 1)) (by omega) (by omega) hs
  refine ⟨b, ?_⟩
  have e1 : ((n : Int) - ((n : Int) - ((r : Int) + 1) + 1)).toNat = r := by omega
  have e2 : ((n : Int) - ((n : Int) - ((r : Int) + 1))).toNat = r + 1 := by omega
  obtain ⟨j, j1, j2, j3, j4⟩ := lCh_ex (sm := sm) (a := a) (n := n) (i := (n : Int) - ((r : Int) + 1)) (by omega) (by omega) hs
  simp only [lCh] at b ⊢
  rw [e1, e2] at b j4 ⊢
  generalize hf : findT (fun q => decide (mOpt sm ((n : Int) - ((r : Int) + 1)) (q - 1) set ∧ mCo a ((n : Int) - ((r : Int) + 1)) (q - 1) + (mDP sm a n r (mNx set (q - 1))).1 = (mDP sm a n (r + 1) set).1)) ((n : Int) + 1) = F at *
  rcases findT_r (fun q => decide (mOpt sm ((n : Int) - ((r : Int) + 1)) (q - 1) set ∧ mCo a ((n : Int) - ((r : Int) + 1)) (q - 1) + (mDP sm a n r (mNx set (q - 1))).1 = (mDP sm a n (r + 1) set).1)) (n := (n : Int) + 1) (by omega) with h | h
  · have := of_decide_eq_false (h.2 (j + 1) (by omega) (by omega))
    rw [show j + 1 - 1 = j by omega] at this
    exact absurd ⟨j3, j4⟩ this
  · rw [hf] at h
    have y := of_decide_eq_true h.2.2.1
    refine ⟨y.1, y.2, fun k k0 k1 k2 k3 => ?_⟩
    have w := of_decide_eq_false (h.2.2.2 (k + 1) (by omega) (by omega))
    rw [show k + 1 - 1 = k by omega] at w
    exact w ⟨k2, k3⟩
theorem mDP_led {sm a : Int → Int} {n : Nat} (hn : n ≤ 12) : ∀ (r : Nat), r ≤ n → ∀ s, 0 ≤ s → s < p2 n → hN sm a n (hL n r) (hUm s) (fL (mDP sm a n r s).1 (hDl sm a n r s)) = 0 ∧ 1 ≤ hN sm a n (hL n r) (hUm s) (fE (mDP sm a n r s).1 (hDl sm a n r s)) ∧ 0 ≤ hDl sm a n r s ∧ hDl sm a n r s ≤ bdL (hL n r)
  | 0, _, s, _, _ => by
    simp only [mDP, hL, hN, hDl, bdL, fL, fE]
    refine ⟨if_neg (by rw [decide_eq_true_eq]; omega), ?_, by omega, by omega⟩
    rw [if_pos (by decide)]; omega
  | r + 1, hr, s, h0, h1 => by
    obtain ⟨b, y1, y2, y3⟩ := lCh_sp (sm := sm) (a := a) hn hr ⟨h0, h1⟩
    have e : (n : Int) + 1 = ((n + 1 : Nat) : Int) := by omega
    have hmin : ∀ j, -1 ≤ j → j < (n : Int) → mOpt sm ((n : Int) - ((r : Int) + 1)) j s → (mDP sm a n (r + 1) s).1 ≤ mCo a ((n : Int) - ((r : Int) + 1)) j + (mDP sm a n r (mNx s j)).1 := fun j j0 j1 jo => by
      have q := dF_min (K := mDP sm a n r) (sm := sm) (a := a) (i := (n : Int) - ((r : Int) + 1)) (set := s) (n + 1) (j + 1) (by omega) (by omega) (by rw [show j + 1 - 1 = j by omega]; exact jo)
      rw [show j + 1 - 1 = j by omega] at q
      simp only [mDP]
      rw [show ((n : Int) + 1).toNat = n + 1 by omega]
      exact q
    have hx : ∀ j p, hN sm a n (hL n r) (hU (hUm s) j) p = hN sm a n (hL n r) (hUm (mNx s j)) p := fun j p => hN_ext sm a n _ _ _ p (fun x x0 x1 => hU_m (n := n) h0 x x0)
    generalize hM : (mDP sm a n (r + 1) s).1 = M at *
    have hD : hDl sm a n (r + 1) s = wD ((n : Int) - ((r : Int) + 1)) (lCh sm a n ((n : Int) - ((r : Int) + 1)) s) + hDl sm a n r (mNx s (lCh sm a n ((n : Int) - ((r : Int) + 1)) s)) := rfl
    rw [hD]
    generalize hJ : lCh sm a n ((n : Int) - ((r : Int) + 1)) s = J at *
    have g := mNx_lt (j := J) ⟨h0, h1⟩ b.2
    obtain ⟨i1, i2, i3, i4⟩ := mDP_led (sm := sm) (a := a) hn r (by omega) _ g.1 g.2
    have wr := wD_r (i := (n : Int) - ((r : Int) + 1)) b.1 (by omega)
    have bl := bdL_hL (n := n) r (by omega) (by omega)
    simp only [hL, hN]
    rw [e]
    refine ⟨sumT_n0 _ _ (fun q q0 q1 => ?_) (by omega), ?_, by omega, by simp only [bdL]; omega⟩
    · split
      · rename_i cv
        have co := (hV_m sm s _ _).mp cv
        rw [hx, fL_sh]
        have gq := mNx_lt (j := q - 1) ⟨h0, h1⟩ (by omega)
        have mq := hmin (q - 1) (by omega) (by omega) co
        by_cases c : mCo a ((n : Int) - ((r : Int) + 1)) (q - 1) + (mDP sm a n r (mNx s (q - 1))).1 = M
        · by_cases d : q - 1 = J
          · rw [d] at c ⊢
            rw [show M - mCo a ((n : Int) - ((r : Int) + 1)) J = (mDP sm a n r (mNx s J)).1 by omega, show wD ((n : Int) - ((r : Int) + 1)) J + hDl sm a n r (mNx s J) - wD ((n : Int) - ((r : Int) + 1)) J = hDl sm a n r (mNx s J) by omega]
            exact i1
          · have d2 : J < q - 1 := by
              by_cases f : q - 1 < J
              · exact absurd c (y3 (q - 1) (by omega) f co)
              · omega
            refine hN_no hn (fun b' t d' z => ?_)
            simp only [oB, decide_eq_true_eq] at z
            simp only [fL, decide_eq_true_eq]
            have p := p2_pos (4 * (11 - ((n : Int) - ((r : Int) + 1))))
            rw [show 4 * (12 - (n : Int) + r) = 4 * (11 - ((n : Int) - ((r : Int) + 1))) by omega] at bl
            have w : wD ((n : Int) - ((r : Int) + 1)) J + p2 (4 * (11 - ((n : Int) - ((r : Int) + 1)))) ≤ wD ((n : Int) - ((r : Int) + 1)) (q - 1) := by
              simp only [wD]
              have k := Int.mul_le_mul_of_nonneg_right (show J + 1 + 1 ≤ q - 1 + 1 by omega) (show 0 ≤ p2 (4 * (11 - ((n : Int) - ((r : Int) + 1)))) by omega)
              rw [Int.add_mul (J + 1) 1, Int.one_mul] at k
              exact k
            omega
        · refine hN_z (q := cC (M - mCo a ((n : Int) - ((r : Int) + 1)) (q - 1))) (fun b' t d' z => ?_) ((mDP_cnt (sm := sm) (a := a) r _ gq.1 gq.2).1 _ (by omega))
          simp only [fL, decide_eq_true_eq] at z
          simp only [cC, decide_eq_true_eq]
          exact z.1
      · rfl
    · refine Int.le_trans ?_ (sumT_one _ (fun k k0 => ?_) (J + 1) (by omega) (n + 1) (by omega))
      · rw [show J + 1 - 1 = J by omega, if_pos ((hV_m sm s _ J).mpr y1), hx, fE_sh]
        rw [show M - mCo a ((n : Int) - ((r : Int) + 1)) J = (mDP sm a n r (mNx s J)).1 by omega, show wD ((n : Int) - ((r : Int) + 1)) J + hDl sm a n r (mNx s J) - wD ((n : Int) - ((r : Int) + 1)) J = hDl sm a n r (mNx s J) by omega]
        exact i2
      · split
        · exact hN_ge sm a n _ _ _
        · omega
