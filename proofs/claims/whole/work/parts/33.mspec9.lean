theorem p2_12 {n : Int} (h : n ≤ 12) : 1 ≤ p2 n ∧ p2 n ≤ 4096 := ⟨p2_pos n, p2_le (u := 12) h⟩
theorem lCh_ok {sm a : Int → Int} {n i set : Int} (hn : n ≤ 12) (hi : 0 ≤ i ∧ i < n) (hs : 0 ≤ set ∧ set < p2 n) : mOpt sm i (lCh sm a n i set) set ∧ mCo a i (lCh sm a n i set) + (mDP sm a n (n - (i + 1)).toNat (mNx set (lCh sm a n i set))).1 = (mDP sm a n (n - i).toNat set).1 := by
  obtain ⟨j, j1, j2, j3, j4⟩ := lCh_ex (sm := sm) (a := a) hn hi hs
  rcases findT_r (fun q => decide (mOpt sm i (q - 1) set ∧ mCo a i (q - 1) + (mDP sm a n (n - (i + 1)).toNat (mNx set (q - 1))).1 = (mDP sm a n (n - i).toNat set).1)) (n := n + 1) (by omega) with h | h
  · have := of_decide_eq_false (h.2 (j + 1) (by omega) (by omega))
    rw [show j + 1 - 1 = j by omega] at this
    exact absurd ⟨j3, j4⟩ this
  · exact of_decide_eq_true h.2.2.1
theorem lCh_min {sm a : Int → Int} {n i set j : Int} (hi : 0 ≤ i ∧ i < n) (h1 : -1 ≤ j) (h2 : j < lCh sm a n i set) : ¬ (mOpt sm i j set ∧ mCo a i j + (mDP sm a n (n - (i + 1)).toNat (mNx set j)).1 = (mDP sm a n (n - i).toNat set).1) := by
  rcases findT_r (fun q => decide (mOpt sm i (q - 1) set ∧ mCo a i (q - 1) + (mDP sm a n (n - (i + 1)).toNat (mNx set (q - 1))).1 = (mDP sm a n (n - i).toNat set).1)) (n := n + 1) (by omega) with h | h
  · have e : lCh sm a n i set = -1 - 1 := congrArg (fun z => z - 1) h.1
    omega
  · have := of_decide_eq_false (h.2.2.2 (j + 1) (by omega) (by have e : lCh sm a n i set = _ - 1 := rfl; omega))
    rw [show j + 1 - 1 = j by omega] at this
    exact this
def smK (s a : Int → Int) (n t : Int) : Int → Int := fun q => if 0 ≤ q ∧ q < t ∧ q % 12 < n then smf a q else s q
def cT (c a : Int → Int) (n i t : Int) : Int → Int := fun q => if 0 ≤ q ∧ q % 4096 < p2 n ∧ q / 4096 ≤ n ∧ (i < q / 4096 ∨ (q / 4096 = i ∧ q % 4096 < t)) then (mDP (smf a) a n (n - q / 4096).toNat (q % 4096)).1 else c q
def wT (c a : Int → Int) (n i t : Int) : Int → Int := fun q => if 0 ≤ q ∧ q % 4096 < p2 n ∧ q / 4096 ≤ n ∧ (i < q / 4096 ∨ (q / 4096 = i ∧ q % 4096 < t)) then (mDP (smf a) a n (n - q / 4096).toNat (q % 4096)).2 else c q
theorem smK_0 (s a : Int → Int) (n : Int) : s = smK s a n (12 * 0) := by
  funext q
  simp only [smK]
  rw [if_neg (by omega)]
theorem smK_s {s a : Int → Int} {n j i : Int} (hn : n ≤ 12) (hj : 0 ≤ j) (hi : 0 ≤ i ∧ i < n) : ua (smK s a n (12 * j + i)) (12 * j + i) (if mSame a j i then 1 else 0) = smK s a n (12 * j + (i + 1)) := by
  funext q
  simp only [ua, smK]
  by_cases h : q = 12 * j + i
  · rw [if_pos h, h, if_pos (show 0 ≤ 12 * j + i ∧ 12 * j + i < 12 * j + (i + 1) ∧ (12 * j + i) % 12 < n by omega), smf_at hi.1 (by omega)]
  · rw [if_neg h]
    by_cases g : 0 ≤ q ∧ q < 12 * j + i ∧ q % 12 < n
    · rw [if_pos g, if_pos (by omega)]
    · rw [if_neg g, if_neg (by omega)]
theorem smK_n {s a : Int → Int} {n j : Int} (hn : 0 ≤ n ∧ n ≤ 12) (hj : 0 ≤ j) : smK s a n (12 * j + n) = smK s a n (12 * (j + 1)) := by
  funext q
  simp only [smK]
  by_cases g : 0 ≤ q ∧ q < 12 * j + n ∧ q % 12 < n
  · rw [if_pos g, if_pos (by omega)]
  · rw [if_neg g, if_neg (by omega)]
theorem TRb_smK {s a : Int → Int} {n t : Int} (h : TRb s) : TRb (smK s a n t) := by
  intro q
  simp only [smK]
  split
  · simp only [smf]; split <;> omega
  · exact h q
theorem smK_rd {s a : Int → Int} {n j i : Int} (hn : n ≤ 12) (hj : 0 ≤ j ∧ j < n) (hi : 0 ≤ i ∧ i < n) : smK s a n (12 * n) (12 * j + i) = smf a (12 * j + i) := by
  simp only [smK]
  rw [if_pos (by omega)]
theorem mOpt_smK {s a : Int → Int} {n j i set : Int} (hn : n ≤ 12) (hj : j < n) (hi : 0 ≤ i ∧ i < n) : mOpt (smK s a n (12 * n)) i j set ↔ mOpt (smf a) i j set := by
  by_cases c : j < 0
  · exact ⟨fun _ => Or.inl c, fun _ => Or.inl c⟩
  · simp only [mOpt, smK_rd (s := s) (a := a) (j := j) hn ⟨by omega, hj⟩ hi]
theorem cT_b {c a : Int → Int} {n : Int} : c = cT c a n n 0 := by
  funext q
  simp only [cT]
  rw [if_neg (by omega)]
theorem wT_b {c a : Int → Int} {n : Int} : c = wT c a n n 0 := by
  funext q
  simp only [wT]
  rw [if_neg (by omega)]
theorem cT_i {c a : Int → Int} {n i : Int} : cT c a n i (p2 n) = cT c a n (i - 1) 0 := by
  funext q
  simp only [cT]
  by_cases g : 0 ≤ q ∧ q % 4096 < p2 n ∧ q / 4096 ≤ n ∧ (i < q / 4096 ∨ (q / 4096 = i ∧ q % 4096 < p2 n))
  · rw [if_pos g, if_pos (by omega)]
  · rw [if_neg g, if_neg (by omega)]
theorem wT_i {c a : Int → Int} {n i : Int} : wT c a n i (p2 n) = wT c a n (i - 1) 0 := by
  funext q
  simp only [wT]
  by_cases g : 0 ≤ q ∧ q % 4096 < p2 n ∧ q / 4096 ≤ n ∧ (i < q / 4096 ∨ (q / 4096 = i ∧ q % 4096 < p2 n))
  · rw [if_pos g, if_pos (by omega)]
  · rw [if_neg g, if_neg (by omega)]
theorem cT_s {c a : Int → Int} {n i t e : Int} (hn : n ≤ 12) (hi : 0 ≤ i ∧ i ≤ n) (ht : 0 ≤ t ∧ t < p2 n) (he : e = (mDP (smf a) a n (n - i).toNat t).1) : ua (cT c a n i t) (4096 * i + t) e = cT c a n i (t + 1) := by
  have h12 := p2_12 hn
  funext q
  simp only [ua, cT]
  by_cases h : q = 4096 * i + t
  · rw [if_pos h, h, if_pos (by omega), he, show (4096 * i + t) / 4096 = i by omega, show (4096 * i + t) % 4096 = t by omega]
  · rw [if_neg h]
    by_cases g : 0 ≤ q ∧ q % 4096 < p2 n ∧ q / 4096 ≤ n ∧ (i < q / 4096 ∨ (q / 4096 = i ∧ q % 4096 < t))
    · rw [if_pos g, if_pos (by omega)]
    · rw [if_neg g, if_neg (by omega)]
theorem wT_s {c a : Int → Int} {n i t e : Int} (hn : n ≤ 12) (hi : 0 ≤ i ∧ i ≤ n) (ht : 0 ≤ t ∧ t < p2 n) (he : e = (mDP (smf a) a n (n - i).toNat t).2) : ua (wT c a n i t) (4096 * i + t) e = wT c a n i (t + 1) := by
  have h12 := p2_12 hn
  funext q
  simp only [ua, wT]
  by_cases h : q = 4096 * i + t
  · rw [if_pos h, h, if_pos (by omega), he, show (4096 * i + t) / 4096 = i by omega, show (4096 * i + t) % 4096 = t by omega]
  · rw [if_neg h]
    by_cases g : 0 ≤ q ∧ q % 4096 < p2 n ∧ q / 4096 ≤ n ∧ (i < q / 4096 ∨ (q / 4096 = i ∧ q % 4096 < t))
    · rw [if_pos g, if_pos (by omega)]
    · rw [if_neg g, if_neg (by omega)]
theorem cT_rd {c a : Int → Int} {n i j t s : Int} (hn : n ≤ 12) (hi : i < j) (hj : 0 ≤ j ∧ j ≤ n) (hs : 0 ≤ s ∧ s < p2 n) : cT c a n i t (4096 * j + s) = (mDP (smf a) a n (n - j).toNat s).1 := by
  have h12 := p2_12 hn
  simp only [cT]
  rw [if_pos (by omega), show (4096 * j + s) / 4096 = j by omega, show (4096 * j + s) % 4096 = s by omega]
theorem wT_rd {c a : Int → Int} {n i j t s : Int} (hn : n ≤ 12) (hi : i < j) (hj : 0 ≤ j ∧ j ≤ n) (hs : 0 ≤ s ∧ s < p2 n) : wT c a n i t (4096 * j + s) = (mDP (smf a) a n (n - j).toNat s).2 := by
  have h12 := p2_12 hn
  simp only [wT]
  rw [if_pos (by omega), show (4096 * j + s) / 4096 = j by omega, show (4096 * j + s) % 4096 = s by omega]
theorem rF_dp {c w s a : Int → Int} {n i t : Int} (hn : n ≤ 12) (hi : 0 ≤ i ∧ i < n) (ht : 0 ≤ t ∧ t < p2 n) : rF (cT c a n i t) (wT w a n i t) (smK s a n (12 * n)) a i t (n + 1).toNat = mDP (smf a) a n (n - i).toNat t := by
  rw [show (n - i).toNat = (n - (i + 1)).toNat + 1 by omega]
  simp only [mDP]
  rw [show n - ((((n - (i + 1)).toNat : Nat) : Int) + 1) = i by omega]
  exact rF_eq ht (fun q h0 h1 => ⟨cT_rd hn (by omega) (by omega) ⟨h0, h1⟩, wT_rd hn (by omega) (by omega) ⟨h0, h1⟩⟩) (fun j h0 h1 => smK_rd hn ⟨h0, h1⟩ hi) _ (by omega)
theorem cT_c {c a : Int → Int} {n i t j s : Int} (hn : n ≤ 12) (hi : i < j) (hj : 0 ≤ j ∧ j ≤ n) (hs : 0 ≤ s ∧ s < p2 n) : 0 ≤ cT c a n i t (4096 * j + s) ∧ cT c a n i t (4096 * j + s) ≤ 2000 := by
  rw [cT_rd hn hi hj hs]
  have := mDP_r (sm := smf a) (a := a) (n := n) (by omega) (n - j).toNat (by omega) s hs.1 hs.2
  omega
