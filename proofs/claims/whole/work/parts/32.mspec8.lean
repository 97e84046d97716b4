/-! histories -/
abbrev mOpt (sm : Int → Int) (i j set : Int) : Prop := j < 0 ∨ (set / p2 j % 2 = 0 ∧ sm (12 * j + i) ≠ 0)
def mCo (a : Int → Int) (i j : Int) : Int := if j < 0 then 100 else if a (126 + 4 * i) ≠ a (126 + 4 * j) then 1 else 0
def mNx (set j : Int) : Int := if j < 0 then set else bor set (p2 j)
/-- the best and its ways over the choices -1 .. m - 2, by rows -/
def rF (cs ws sm a : Int → Int) (i set : Int) : Nat → Int × Int
  | 0 => (1000000, 0)
  | m + 1 => if mOpt sm i ((m : Int) - 1) set then (if (rF cs ws sm a i set m).1 < mCo a i ((m : Int) - 1) + cs (4096 * (i + 1) + mNx set ((m : Int) - 1)) then rF cs ws sm a i set m else (mCo a i ((m : Int) - 1) + cs (4096 * (i + 1) + mNx set ((m : Int) - 1)), if mCo a i ((m : Int) - 1) + cs (4096 * (i + 1) + mNx set ((m : Int) - 1)) = (rF cs ws sm a i set m).1 then (rF cs ws sm a i set m).2 + ws (4096 * (i + 1) + mNx set ((m : Int) - 1)) else ws (4096 * (i + 1) + mNx set ((m : Int) - 1)))) else rF cs ws sm a i set m
/-- the same over a function -/
def dF (K : Int → Int × Int) (sm a : Int → Int) (i set : Int) : Nat → Int × Int
  | 0 => (1000000, 0)
  | m + 1 => if mOpt sm i ((m : Int) - 1) set then (if (dF K sm a i set m).1 < mCo a i ((m : Int) - 1) + (K (mNx set ((m : Int) - 1))).1 then dF K sm a i set m else (mCo a i ((m : Int) - 1) + (K (mNx set ((m : Int) - 1))).1, if mCo a i ((m : Int) - 1) + (K (mNx set ((m : Int) - 1))).1 = (dF K sm a i set m).1 then (dF K sm a i set m).2 + (K (mNx set ((m : Int) - 1))).2 else (K (mNx set ((m : Int) - 1))).2)) else dF K sm a i set m
def mDP (sm a : Int → Int) (n : Int) : Nat → Int → Int × Int
  | 0, _ => (0, 1)
  | r + 1, set => dF (mDP sm a n r) sm a (n - ((r : Int) + 1)) set (n + 1).toNat
def smf (a : Int → Int) : Int → Int := fun q => if mSame a (q / 12) (q % 12) then 1 else 0
theorem bor_lt {x y : Int} {n : Int} (hx : 0 ≤ x ∧ x < p2 n) (hy : 0 ≤ y ∧ y < p2 n) : 0 ≤ bor x y ∧ bor x y < p2 n := by
  simp only [bor, p2] at *
  have := Nat.or_lt_two_pow (x := x.toNat) (y := y.toNat) (n := n.toNat) (by omega) (by omega)
  omega
theorem p2_lt {t u : Int} (h0 : 0 ≤ t) (h : t < u) : p2 t < p2 u := by
  simp only [p2]
  have := Nat.pow_lt_pow_right (show 1 < 2 by omega) (show t.toNat < u.toNat by omega)
  omega
theorem mNx_lt {set j n : Int} (hs : 0 ≤ set ∧ set < p2 n) (hj : j < n) : 0 ≤ mNx set j ∧ mNx set j < p2 n := by
  simp only [mNx]
  split
  · exact hs
  · exact bor_lt hs ⟨Int.le_of_lt (p2_pos _), p2_lt (by omega) hj⟩
theorem mCo_r (a : Int → Int) (i j : Int) : 0 ≤ mCo a i j ∧ mCo a i j ≤ 100 := by
  simp only [mCo]
  split
  · omega
  · split <;> omega
theorem rF_eq {cs ws sm sm' a : Int → Int} {K : Int → Int × Int} {i set n : Int} (hs : 0 ≤ set ∧ set < p2 n) (hK : ∀ s, 0 ≤ s → s < p2 n → cs (4096 * (i + 1) + s) = (K s).1 ∧ ws (4096 * (i + 1) + s) = (K s).2) (hm : ∀ j, 0 ≤ j → j < n → sm (12 * j + i) = sm' (12 * j + i)) : ∀ m : Nat, (m : Int) ≤ n + 1 → rF cs ws sm a i set m = dF K sm' a i set m
  | 0, _ => rfl
  | m + 1, h => by
    have ih := rF_eq (a := a) hs hK hm m (by omega)
    have h1 := mNx_lt (j := (m : Int) - 1) hs (by omega)
    have h2 := hK _ h1.1 h1.2
    simp only [rF, dF]
    rw [ih, h2.1, h2.2]
    by_cases c : (m : Int) - 1 < 0
    · rw [if_pos (show mOpt sm i ((m : Int) - 1) set from Or.inl c), if_pos (show mOpt sm' i ((m : Int) - 1) set from Or.inl c)]
    · have e := hm ((m : Int) - 1) (by omega) (by omega)
      by_cases q : set / p2 ((m : Int) - 1) % 2 = 0 ∧ sm (12 * ((m : Int) - 1) + i) ≠ 0
      · rw [if_pos (show mOpt sm i ((m : Int) - 1) set from Or.inr q), if_pos (show mOpt sm' i ((m : Int) - 1) set from Or.inr (by rw [← e]; exact q))]
      · rw [if_neg (show ¬ mOpt sm i ((m : Int) - 1) set from fun z => z.elim c q), if_neg (show ¬ mOpt sm' i ((m : Int) - 1) set from fun z => z.elim c (by rw [← e]; exact q))]
theorem rF_r {cs ws sm a : Int → Int} {i set n : Int} (hs : 0 ≤ set ∧ set < p2 n) (hc : ∀ s, 0 ≤ s → s < p2 n → 0 ≤ cs (4096 * (i + 1) + s) ∧ cs (4096 * (i + 1) + s) ≤ 2000) : ∀ m : Nat, (m : Int) ≤ n + 1 → 0 ≤ (rF cs ws sm a i set m).1 ∧ (rF cs ws sm a i set m).1 ≤ 1000000
  | 0, _ => by simp only [rF]; omega
  | m + 1, h => by
    have ih := rF_r (ws := ws) (sm := sm) (a := a) hs hc m (by omega)
    have h1 := mNx_lt (j := (m : Int) - 1) hs (by omega)
    have h2 := hc _ h1.1 h1.2
    have h3 := mCo_r a i ((m : Int) - 1)
    simp only [rF]
    split
    · split
      · exact ih
      · simp only
        omega
    · exact ih
theorem dF_at {K : Int → Int × Int} {sm a : Int → Int} {i set n M : Int} (hs : 0 ≤ set ∧ set < p2 n) (hM : M ≤ 100000) (hK : ∀ s, 0 ≤ s → s < p2 n → 0 ≤ (K s).1 ∧ (K s).1 ≤ M) : ∀ m : Nat, 1 ≤ m → (m : Int) ≤ n + 1 → 0 ≤ (dF K sm a i set m).1 ∧ (dF K sm a i set m).1 ≤ M + 100 ∧ ∃ j, -1 ≤ j ∧ j < (m : Int) - 1 ∧ mOpt sm i j set ∧ mCo a i j + (K (mNx set j)).1 = (dF K sm a i set m).1
  | 0, h, _ => by omega
  | m + 1, h, hn => by
    have h1 := mNx_lt (j := (m : Int) - 1) hs (by omega)
    have h2 := hK _ h1.1 h1.2
    have h3 := mCo_r a i ((m : Int) - 1)
    by_cases hz : m = 0
    · have c : mOpt sm i ((m : Int) - 1) set := Or.inl (by omega)
      have e0 : (dF K sm a i set m).1 = 1000000 := by rw [hz]; rfl
      have e : dF K sm a i set (m + 1) = (mCo a i ((m : Int) - 1) + (K (mNx set ((m : Int) - 1))).1, if mCo a i ((m : Int) - 1) + (K (mNx set ((m : Int) - 1))).1 = (dF K sm a i set m).1 then (dF K sm a i set m).2 + (K (mNx set ((m : Int) - 1))).2 else (K (mNx set ((m : Int) - 1))).2) := (if_pos c).trans (if_neg (by omega))
      rw [e]
      exact ⟨by simp only; omega, by simp only; omega, (m : Int) - 1, by omega, by omega, c, rfl⟩
    · obtain ⟨i1, i2, j, j1, j2, j3, j4⟩ := dF_at (sm := sm) (a := a) (i := i) hs hM hK m (by omega) (by omega)
      simp only [dF]
      split
      · rename_i c
        split
        · exact ⟨i1, i2, j, j1, by omega, j3, j4⟩
        · refine ⟨by simp only; omega, by simp only; omega, (m : Int) - 1, by omega, by omega, c, rfl⟩
      · exact ⟨i1, i2, j, j1, by omega, j3, j4⟩
theorem mDP_r {sm a : Int → Int} {n : Int} (hn : 0 ≤ n) : ∀ (r : Nat), (r : Int) ≤ 12 → ∀ s, 0 ≤ s → s < p2 n → 0 ≤ (mDP sm a n r s).1 ∧ (mDP sm a n r s).1 ≤ 100 * r
  | 0, _, _, _, _ => by simp only [mDP]; omega
  | r + 1, h, s, h0, h1 => by
    have := dF_at (K := mDP sm a n r) (sm := sm) (a := a) (i := n - ((r : Int) + 1)) (set := s) (n := n) (M := 100 * r) ⟨h0, h1⟩ (by omega) (fun s => mDP_r (sm := sm) (a := a) hn r (by omega) s) (n + 1).toNat (by omega) (by omega)
    simp only [mDP]
    exact ⟨this.1, by have := this.2.1; omega⟩
/-- the tables hold the reckoning -/
def Tab (a c w s : Int → Int) : Prop := (∀ i set, 0 ≤ i → i ≤ a 6 → 0 ≤ set → set < p2 (a 6) → c (4096 * i + set) = (mDP (smf a) a (a 6) (a 6 - i).toNat set).1 ∧ w (4096 * i + set) = (mDP (smf a) a (a 6) (a 6 - i).toNat set).2) ∧ (∀ j i, 0 ≤ j → j < a 6 → 0 ≤ i → i < a 6 → s (12 * j + i) = smf a (12 * j + i)) ∧ TRb s
theorem smf_at {a : Int → Int} {j i : Int} (h0 : 0 ≤ i) (h1 : i < 12) : smf a (12 * j + i) = if mSame a j i then 1 else 0 := by
  simp only [smf]
  rw [show (12 * j + i) / 12 = j by omega, show (12 * j + i) % 12 = i by omega]
def lCh (sm a : Int → Int) (n i set : Int) : Int := findT (fun q => decide (mOpt sm i (q - 1) set ∧ mCo a i (q - 1) + (mDP sm a n (n - (i + 1)).toNat (mNx set (q - 1))).1 = (mDP sm a n (n - i).toNat set).1)) (n + 1) - 1
def lSet (sm a : Int → Int) (n : Int) : Nat → Int
  | 0 => 0
  | i + 1 => mNx (lSet sm a n i) (lCh sm a n i (lSet sm a n i))
/-- some choice gives the best -/
theorem lCh_ex {sm a : Int → Int} {n i set : Int} (hn : n ≤ 12) (hi : 0 ≤ i ∧ i < n) (hs : 0 ≤ set ∧ set < p2 n) : ∃ j, -1 ≤ j ∧ j < n ∧ mOpt sm i j set ∧ mCo a i j + (mDP sm a n (n - (i + 1)).toNat (mNx set j)).1 = (mDP sm a n (n - i).toNat set).1 := by
  have e : (n - i).toNat = (n - (i + 1)).toNat + 1 := by omega
  have := dF_at (K := mDP sm a n (n - (i + 1)).toNat) (sm := sm) (a := a) (i := n - (((n - (i + 1)).toNat : Nat) : Int) - 1) (set := set) (n := n) (M := 100 * ((n - (i + 1)).toNat : Nat)) hs (by omega) (fun s => mDP_r (sm := sm) (a := a) (by omega) _ (by omega) s) (n + 1).toNat (by omega) (by omega)
  obtain ⟨-, -, j, j1, j2, j3, j4⟩ := this
  rw [e]
  simp only [mDP]
  rw [show n - (((n - (i + 1)).toNat : Nat) : Int) - 1 = i by omega] at j3 j4
  rw [show n - ((((n - (i + 1)).toNat : Nat) : Int) + 1) = i by omega]
  exact ⟨j, j1, by omega, j3, j4⟩
theorem lCh_r {sm a : Int → Int} {n i set : Int} (hn : n ≤ 12) (hi : 0 ≤ i ∧ i < n) (hs : 0 ≤ set ∧ set < p2 n) : -1 ≤ lCh sm a n i set ∧ lCh sm a n i set < n := by
  obtain ⟨j, j1, j2, j3, j4⟩ := lCh_ex (sm := sm) (a := a) hn hi hs
  simp only [lCh]
  rcases findT_r (fun q => decide (mOpt sm i (q - 1) set ∧ mCo a i (q - 1) + (mDP sm a n (n - (i + 1)).toNat (mNx set (q - 1))).1 = (mDP sm a n (n - i).toNat set).1)) (n := n + 1) (by omega) with h | h
  · have := of_decide_eq_false (h.2 (j + 1) (by omega) (by omega))
    rw [show j + 1 - 1 = j by omega] at this
    exact absurd ⟨j3, j4⟩ this
  · omega
theorem lSet_r {sm a : Int → Int} {n : Int} (hn : 0 ≤ n ∧ n ≤ 12) : ∀ i : Nat, (i : Int) ≤ n → 0 ≤ lSet sm a n i ∧ lSet sm a n i < p2 n
  | 0, _ => ⟨by simp only [lSet]; omega, by simp only [lSet]; exact p2_pos _⟩
  | i + 1, h => by
    have ih := lSet_r (sm := sm) (a := a) hn i (by omega)
    have := lCh_r (sm := sm) (a := a) (i := i) hn.2 ⟨by omega, by omega⟩ ih
    simp only [lSet]
    exact mNx_lt ih this.2
