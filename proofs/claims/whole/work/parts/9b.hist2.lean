/-! the reference's histories are those of hN -/
theorem hN_ext (sm a : Int → Int) (n : Nat) : ∀ (l : List Int) (U W : Int → Bool) (p : H3), (∀ x, 0 ≤ x → x < (n : Int) → U x = W x) → hN sm a n l U p = hN sm a n l W p
  | [], U, W, p, h => rfl
  | i :: l, U, W, p, h => by
    simp only [hN]
    refine sumT_c (fun q q0 q1 => ?_)
    have e : hV sm U i (q - 1) = hV sm W i (q - 1) := by
      by_cases c : q - 1 < 0
      · simp only [hV, c, decide_true, Bool.true_or]
      · simp only [hV]; rw [h (q - 1) (by omega) (by omega)]
    rw [e, hN_ext sm a n l (hU U (q - 1)) (hU W (q - 1)) (hSh a p i (q - 1)) (fun x x0 x1 => by simp only [hU]; rw [h x x0 x1])]
theorem sumT_le (f g : Int → Int) (h : ∀ k, 0 ≤ k → f k ≤ g k) : ∀ n : Nat, sumT f n ≤ sumT g n
  | 0 => by rw [show ((0 : Nat) : Int) = 0 from rfl, sumT_0, sumT_0]; omega
  | n + 1 => by
    have e : ((n + 1 : Nat) : Int) = (n : Int) + 1 := by omega
    rw [e, sumT_s _ (by omega), sumT_s _ (by omega)]
    have := sumT_le f g h n
    have := h n (by omega)
    omega
theorem hN_mono (sm a : Int → Int) (n : Nat) : ∀ (l : List Int) (U : Int → Bool) (p q : H3), (∀ b t d, p b t d = true → q b t d = true) → hN sm a n l U p ≤ hN sm a n l U q
  | [], U, p, q, h => by
    simp only [hN]
    by_cases c : p 0 0 0 = true
    · rw [if_pos c, if_pos (h 0 0 0 c)]; omega
    · rw [if_neg c]; split <;> omega
  | i :: l, U, p, q, h => by
    simp only [hN]
    rw [show (n : Int) + 1 = ((n + 1 : Nat) : Int) by omega]
    refine sumT_le _ _ (fun x _ => ?_) _
    split
    · exact hN_mono sm a n l _ _ _ (fun b t d z => h _ _ _ z)
    · omega
theorem hN_z {sm a : Int → Int} {n : Nat} {l : List Int} {U : Int → Bool} {p q : H3} (h : ∀ b t d, p b t d = true → q b t d = true) (z : hN sm a n l U q = 0) : hN sm a n l U p = 0 := by
  have := hN_mono sm a n l U p q h
  have := hN_ge sm a n l U p
  omega
def cC (c : Int) : H3 := fun b t _ => decide (100 * b + t = c)
theorem mCo_w (a : Int → Int) (i j : Int) : mCo a i j = 100 * wB j + wT1 a i j := by
  simp only [mCo, wB, wT1]
  by_cases c : j < 0
  · rw [if_pos c, if_pos c, if_pos c]; rfl
  · rw [if_neg c, if_neg c, if_neg c]; omega
theorem cC_sh (a : Int → Int) (c i j : Int) : hSh a (cC c) i j = cC (c - mCo a i j) := by
  funext b t d
  simp only [hSh, cC]
  rw [decide_eq_decide, mCo_w]
  omega
def hUm (set : Int) : Int → Bool := fun x => decide (set / p2 x % 2 = 1)
theorem hV_m (sm : Int → Int) (set i j : Int) : hV sm (hUm set) i j = true ↔ mOpt sm i j set := by
  simp only [hV, hUm, mOpt, Bool.or_eq_true, Bool.and_eq_true, Bool.not_eq_true', decide_eq_true_eq, decide_eq_false_iff_not]
  have := Int.emod_two_eq (set / p2 j)
  constructor
  · rintro (h | h)
    · exact Or.inl h
    · exact Or.inr ⟨by omega, h.2⟩
  · rintro (h | h)
    · exact Or.inl h
    · exact Or.inr ⟨by omega, h.2⟩
theorem hU_m {set j n : Int} (hs : 0 ≤ set) (x : Int) (x0 : 0 ≤ x) : hU (hUm set) j x = hUm (mNx set j) x := by
  by_cases c : j < 0
  · have e : mNx set j = set := if_pos c
    rw [e]
    simp only [hU]
    rw [decide_eq_false (by omega), Bool.or_false]
  · have e : mNx set j = bor set (p2 j) := if_neg c
    rw [e]
    have k := bit_or (x := set) (k := j) (j := x) hs (by omega) x0
    simp only [hU, hUm]
    rw [Bool.eq_iff_iff, Bool.or_eq_true, decide_eq_true_eq, decide_eq_true_eq, decide_eq_true_eq, k]
    by_cases d : x = j
    · rw [if_pos d]; exact ⟨fun _ => rfl, fun _ => Or.inr d⟩
    · rw [if_neg d]; exact ⟨fun z => z.elim id (fun y => absurd y d), Or.inl⟩
def hL (n : Int) : Nat → List Int
  | 0 => []
  | r + 1 => (n - ((r : Int) + 1)) :: hL n r
theorem dF_cnt {K : Int → Int × Int} {sm a : Int → Int} {i set : Int} {n : Nat} {l : List Int} (hs : 0 ≤ set ∧ set < p2 n) (hK : ∀ s, 0 ≤ s → s < p2 n → (∀ c, c < (K s).1 → hN sm a n l (hUm s) (cC c) = 0) ∧ hN sm a n l (hUm s) (cC (K s).1) = (K s).2) : ∀ m : Nat, m ≤ n + 1 →
    (∀ c, c < (dF K sm a i set m).1 → sumT (fun q => if hV sm (hUm set) i (q - 1) then hN sm a n l (hU (hUm set) (q - 1)) (cC (c - mCo a i (q - 1))) else 0) m = 0) ∧ sumT (fun q => if hV sm (hUm set) i (q - 1) then hN sm a n l (hU (hUm set) (q - 1)) (cC ((dF K sm a i set m).1 - mCo a i (q - 1))) else 0) m = (dF K sm a i set m).2
  | 0, _ => ⟨fun c _ => rfl, rfl⟩
  | m + 1, hm => by
    have ih := dF_cnt (i := i) hs hK m (by omega)
    have e : ((m + 1 : Nat) : Int) = (m : Int) + 1 := by omega
    have h1 := mNx_lt (j := (m : Int) - 1) hs (by omega)
    obtain ⟨k1, k2⟩ := hK _ h1.1 h1.2
    have hx : ∀ p, hN sm a n l (hU (hUm set) ((m : Int) - 1)) p = hN sm a n l (hUm (mNx set ((m : Int) - 1))) p := fun p => hN_ext sm a n l _ _ p (fun x x0 x1 => hU_m (n := n) hs.1 x x0)
    rw [e]
    simp only [dF]
    by_cases c : mOpt sm i ((m : Int) - 1) set
    · have cv := (hV_m sm set i ((m : Int) - 1)).mpr c
      rw [if_pos c]
      by_cases d : (dF K sm a i set m).1 < mCo a i ((m : Int) - 1) + (K (mNx set ((m : Int) - 1))).1
      · rw [if_pos d]
        refine ⟨fun c hc => ?_, ?_⟩
        · rw [sumT_s _ (by omega), ih.1 c hc, if_pos cv, hx, k1 _ (by omega)]; rfl
        · rw [sumT_s _ (by omega), ih.2, if_pos cv, hx, k1 _ (by omega)]; omega
      · rw [if_neg d]
        refine ⟨fun c hc => ?_, ?_⟩
        · simp only at hc
          rw [sumT_s _ (by omega), ih.1 c (by omega), if_pos cv, hx, k1 _ (by omega)]; rfl
        · simp only
          rw [sumT_s _ (by omega), if_pos cv, hx]
          rw [show mCo a i ((m : Int) - 1) + (K (mNx set ((m : Int) - 1))).1 - mCo a i ((m : Int) - 1) = (K (mNx set ((m : Int) - 1))).1 by omega, k2]
          by_cases f : mCo a i ((m : Int) - 1) + (K (mNx set ((m : Int) - 1))).1 = (dF K sm a i set m).1
          · rw [if_pos f, f, ih.2]
          · rw [if_neg f, ih.1 _ (by omega)]; omega
    · have cv : ¬ hV sm (hUm set) i ((m : Int) - 1) = true := fun z => c ((hV_m sm set i ((m : Int) - 1)).mp z)
      rw [if_neg c]
      refine ⟨fun c hc => ?_, ?_⟩
      · rw [sumT_s _ (by omega), ih.1 c hc, if_neg cv]; rfl
      · rw [sumT_s _ (by omega), ih.2, if_neg cv]; omega
theorem mDP_cnt {sm a : Int → Int} {n : Nat} : ∀ (r : Nat) (s : Int), 0 ≤ s → s < p2 n → (∀ c, c < (mDP sm a n r s).1 → hN sm a n (hL n r) (hUm s) (cC c) = 0) ∧ hN sm a n (hL n r) (hUm s) (cC (mDP sm a n r s).1) = (mDP sm a n r s).2
  | 0, s, _, _ => by
    simp only [mDP, hL, hN, cC]
    refine ⟨fun c hc => if_neg (by rw [decide_eq_true_eq]; omega), if_pos (by rw [decide_eq_true_eq]; rfl)⟩
  | r + 1, s, h0, h1 => by
    have k := dF_cnt (K := mDP sm a n r) (sm := sm) (a := a) (i := (n : Int) - ((r : Int) + 1)) (set := s) (l := hL n r) ⟨h0, h1⟩ (fun x x0 x1 => mDP_cnt r x x0 x1) (n + 1) (by omega)
    simp only [mDP, hL, hN]
    rw [show ((n : Int) + 1).toNat = n + 1 by omega, show (n : Int) + 1 = ((n + 1 : Nat) : Int) by omega]
    refine ⟨fun c hc => ?_, ?_⟩
    · exact (sumT_c (fun q _ _ => by rw [cC_sh])).trans (k.1 c hc)
    · exact (sumT_c (fun q _ _ => by rw [cC_sh])).trans k.2
theorem dF_pos {K : Int → Int × Int} {sm a : Int → Int} {i set : Int} {n : Nat} (hs : 0 ≤ set ∧ set < p2 n) (hK : ∀ s, 0 ≤ s → s < p2 n → 1 ≤ (K s).2 ∧ (K s).1 ≤ 10000) : ∀ m : Nat, m ≤ n + 1 → 0 ≤ (dF K sm a i set m).2 ∧ (1 ≤ m → 1 ≤ (dF K sm a i set m).2)
  | 0, _ => ⟨by simp only [dF]; omega, by omega⟩
  | m + 1, hm => by
    have ih := dF_pos (sm := sm) (a := a) (i := i) hs hK m (by omega)
    have h1 := mNx_lt (j := (m : Int) - 1) hs (by omega)
    have k := hK _ h1.1 h1.2
    have h3 := mCo_r a i ((m : Int) - 1)
    by_cases z : m = 0
    · have c : mOpt sm i ((m : Int) - 1) set := Or.inl (by omega)
      have e0 : (dF K sm a i set m) = (1000000, 0) := by rw [z]; rfl
      have e1 : (dF K sm a i set m).1 = 1000000 := by rw [e0]
      have e : dF K sm a i set (m + 1) = (mCo a i ((m : Int) - 1) + (K (mNx set ((m : Int) - 1))).1, if mCo a i ((m : Int) - 1) + (K (mNx set ((m : Int) - 1))).1 = (dF K sm a i set m).1 then (dF K sm a i set m).2 + (K (mNx set ((m : Int) - 1))).2 else (K (mNx set ((m : Int) - 1))).2) := (if_pos c).trans (if_neg (by omega))
      rw [e, if_neg (by omega)]
      exact ⟨by simp only; omega, fun _ => k.1⟩
    · have i1 := ih.2 (by omega)
      simp only [dF]
      split
      · split
        · exact ⟨by omega, fun _ => i1⟩
        · simp only
          split <;> exact ⟨by omega, fun _ => by omega⟩
      · exact ⟨by omega, fun _ => i1⟩
theorem mDP_pos {sm a : Int → Int} {n : Nat} (hn : n ≤ 12) : ∀ (r : Nat), r ≤ 12 → ∀ s, 0 ≤ s → s < p2 n → 1 ≤ (mDP sm a n r s).2
  | 0, _, s, _, _ => by simp only [mDP]; omega
  | r + 1, hr, s, h0, h1 => by
    have k := dF_pos (K := mDP sm a n r) (sm := sm) (a := a) (i := (n : Int) - ((r : Int) + 1)) (set := s) (n := n) ⟨h0, h1⟩ (fun x x0 x1 => ⟨mDP_pos hn r (by omega) x x0 x1, by have := mDP_r (sm := sm) (a := a) (n := n) (by omega) r (by omega) x x0 x1; omega⟩) (n + 1) (by omega)
    simp only [mDP]
    rw [show ((n : Int) + 1).toNat = n + 1 by omega]
    exact k.2 (by omega)
