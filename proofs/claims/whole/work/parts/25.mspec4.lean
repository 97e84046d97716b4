/-! how the reference reckons sums and asks -/
def clip (v : Int) : Int := if 1000000 < v then 1000000 else if v < -1000000 then -1000000 else v
theorem clip_r (v : Int) : -1000000 ≤ clip v ∧ clip v ≤ 1000000 := by
  simp only [clip]
  split
  · omega
  · split <;> omega
def mTwo (o x y : Int) : Int := if o = 3 then clip (x + y) else if o = 4 then clip (x - y) else if o = 5 then clip (x * y) else if y = 0 then 0 else clip (x.tdiv y)
theorem mTwo_r (o x y : Int) : -1000000 ≤ mTwo o x y ∧ mTwo o x y ≤ 1000000 := by
  simp only [mTwo]
  split
  · exact clip_r _
  split
  · exact clip_r _
  split
  · exact clip_r _
  split
  · omega
  · exact clip_r _
abbrev mAsk (o x y : Int) : Prop := (o = 10 ∧ x < y) ∨ (o = 11 ∧ x ≤ y) ∨ (o = 12 ∧ y < x) ∨ (o = 13 ∧ y ≤ x) ∨ (o = 14 ∧ x = y) ∨ (o ≠ 10 ∧ o ≠ 11 ∧ o ≠ 12 ∧ o ≠ 13 ∧ o ≠ 14 ∧ x ≠ y)
theorem mul_r {x y : Int} (hx : -1000000 ≤ x ∧ x ≤ 1000000) (hy : -1000000 ≤ y ∧ y ≤ 1000000) : -1000000000000 ≤ x * y ∧ x * y ≤ 1000000000000 := by
  have h1 : (x * y).natAbs ≤ 1000000 * 1000000 := by
    rw [Int.natAbs_mul]
    exact Nat.mul_le_mul (by omega) (by omega)
  omega
theorem tdiv_r {x y : Int} (hx : -1000000 ≤ x ∧ x ≤ 1000000) : -1000000 ≤ x.tdiv y ∧ x.tdiv y ≤ 1000000 := by
  have h1 : (x.tdiv y).natAbs ≤ 1000000 := by
    rw [Int.natAbs_tdiv]
    exact Nat.le_trans (Nat.div_le_self _ _) (by omega)
  omega
def tOp (tx : Int → Int) (T i : Int) : Int := tx (700 * T + 100 + 2 * i)
def tArg (tx : Int → Int) (T i : Int) : Int := tx (700 * T + 100 + 2 * i + 1)
/-- rows of values and truths, how many of each -/
abbrev ES : Type := (Int → Int) × (Int → Int) × Int × Int
def mEv (nm : Int → Int) (o v : Int) (s : ES) : ES :=
  if o ≤ 1 then (ua s.1 s.2.2.1 (if o = 0 then v else nm v), s.2.1, s.2.2.1 + 1, s.2.2.2)
  else if o = 2 then (ua s.1 (s.2.2.1 - 1) (-(s.1 (s.2.2.1 - 1))), s.2.1, s.2.2.1, s.2.2.2)
  else if o < 10 then (ua s.1 (s.2.2.1 - 1 - 1) (mTwo o (s.1 (s.2.2.1 - 1 - 1)) (s.1 (s.2.2.1 - 1))), s.2.1, s.2.2.1 - 1, s.2.2.2)
  else if o < 20 then (s.1, ua s.2.1 s.2.2.2 (if mAsk o (s.1 (s.2.2.1 - 2)) (s.1 (s.2.2.1 - 2 + 1)) then 1 else 0), s.2.2.1 - 2, s.2.2.2 + 1)
  else if o = 20 then (s.1, ua s.2.1 (s.2.2.2 - 1) (if s.2.1 (s.2.2.2 - 1) = 0 then 1 else 0), s.2.2.1, s.2.2.2)
  else (s.1, ua s.2.1 (s.2.2.2 - 1 - 1) (if o = 21 then (if s.2.1 (s.2.2.2 - 1 - 1) ≠ 0 ∧ s.2.1 (s.2.2.2 - 1) ≠ 0 then 1 else 0) else (if s.2.1 (s.2.2.2 - 1 - 1) ≠ 0 ∨ s.2.1 (s.2.2.2 - 1) ≠ 0 then 1 else 0)), s.2.2.1, s.2.2.2 - 1)
def mRun (nm : Int → Int) (op ag : Int → Int) : Nat → Int → ES → ES
  | 0, _, s => s
  | m + 1, i, s => mRun nm op ag m (i + 1) (mEv nm (op i) (ag i) s)
/-- the code from i on, of m pieces, goes through with n values and t truths and ends with N and T -/
def dOK (op ag : Int → Int) (N T : Int) : Nat → Int → Int → Int → Prop
  | 0, _, n, t => n = N ∧ t = T
  | m + 1, i, n, t => 0 ≤ op i ∧
    (op i ≤ 1 → n < 330 ∧ 0 ≤ ag i ∧ (op i = 0 → ag i ≤ 9999) ∧ (op i = 1 → ag i ≤ 7) ∧ dOK op ag N T m (i + 1) (n + 1) t) ∧
    (op i = 2 → 1 ≤ n ∧ dOK op ag N T m (i + 1) n t) ∧
    (2 < op i → op i < 10 → 2 ≤ n ∧ dOK op ag N T m (i + 1) (n - 1) t) ∧
    (10 ≤ op i → op i < 20 → 2 ≤ n ∧ t < 330 ∧ dOK op ag N T m (i + 1) (n - 2) (t + 1)) ∧
    (op i = 20 → 1 ≤ t ∧ n = 0 ∧ dOK op ag N T m (i + 1) n t) ∧
    (20 < op i → 2 ≤ t ∧ n = 0 ∧ dOK op ag N T m (i + 1) n (t - 1))
/-- the reckoning does not depend on what the rows held before -/
theorem mRun_ind (nm op ag : Int → Int) (N T : Int) : ∀ (m : Nat) (i n t : Int) (v v' r r' : Int → Int), 0 ≤ n → 0 ≤ t → dOK op ag N T m i n t → (∀ k, 0 ≤ k → k < n → v k = v' k) → (∀ k, 0 ≤ k → k < t → r k = r' k) →
    (mRun nm op ag m i (v, r, n, t)).2.2 = (N, T) ∧ (∀ k, 0 ≤ k → k < N → (mRun nm op ag m i (v, r, n, t)).1 k = (mRun nm op ag m i (v', r', n, t)).1 k) ∧ (∀ k, 0 ≤ k → k < T → (mRun nm op ag m i (v, r, n, t)).2.1 k = (mRun nm op ag m i (v', r', n, t)).2.1 k)
  | 0, i, n, t, v, v', r, r', hn, ht, hd, hv, hr => by
    obtain ⟨rfl, rfl⟩ := hd
    exact ⟨rfl, hv, hr⟩
  | m + 1, i, n, t, v, v', r, r', hn, ht, hd, hv, hr => by
    obtain ⟨h0, h1, h2, h3, h4, h5, h6⟩ := hd
    have key : ∀ (f g : Int → Int) (q e b : Int), (∀ k, 0 ≤ k → k < b → f k = g k) → ∀ k, 0 ≤ k → (k < b ∨ k = q) → ua f q e k = ua g q e k := by
      intro f g q e b h k hk hb
      simp only [ua]
      split
      · rfl
      · rcases hb with hb | hb
        · exact h k hk hb
        · contradiction
    simp only [mRun]
    by_cases c1 : op i ≤ 1
    · have h1 := h1 c1
      have e : ∀ (v r : Int → Int), mEv nm (op i) (ag i) (v, r, n, t) = (ua v n (if op i = 0 then ag i else nm (ag i)), r, n + 1, t) := fun v r => by simp only [mEv]; rw [if_pos c1]
      rw [e, e]
      exact mRun_ind nm op ag N T m (i + 1) (n + 1) t _ _ _ _ (by omega) ht h1.2.2.2.2 (fun k a b => key _ _ _ _ _ hv k a (by omega)) hr
    · by_cases c2 : op i = 2
      · have h2 := h2 c2
        have e : ∀ (v r : Int → Int), mEv nm (op i) (ag i) (v, r, n, t) = (ua v (n - 1) (-(v (n - 1))), r, n, t) := fun v r => by simp only [mEv]; rw [if_neg c1, if_pos c2]
        rw [e, e, hv (n - 1) (by omega) (by omega)]
        exact mRun_ind nm op ag N T m (i + 1) n t _ _ _ _ hn ht h2.2 (fun k a b => key _ _ _ _ _ hv k a (Or.inl b)) hr
      · by_cases c3 : op i < 10
        · have h3 := h3 (by omega) c3
          have e : ∀ (v r : Int → Int), mEv nm (op i) (ag i) (v, r, n, t) = (ua v (n - 1 - 1) (mTwo (op i) (v (n - 1 - 1)) (v (n - 1))), r, n - 1, t) := fun v r => by simp only [mEv]; rw [if_neg c1, if_neg c2, if_pos c3]
          rw [e, e, hv (n - 1) (by omega) (by omega), hv (n - 1 - 1) (by omega) (by omega)]
          exact mRun_ind nm op ag N T m (i + 1) (n - 1) t _ _ _ _ (by omega) ht h3.2 (fun k a b => key _ _ _ _ _ hv k a (Or.inl (by omega))) hr
        · by_cases c4 : op i < 20
          · have h4 := h4 (by omega) c4
            have e : ∀ (v r : Int → Int), mEv nm (op i) (ag i) (v, r, n, t) = (v, ua r t (if mAsk (op i) (v (n - 2)) (v (n - 2 + 1)) then 1 else 0), n - 2, t + 1) := fun v r => by simp only [mEv]; rw [if_neg c1, if_neg c2, if_neg c3, if_pos c4]
            rw [e, e, hv (n - 2) (by omega) (by omega), hv (n - 2 + 1) (by omega) (by omega)]
            exact mRun_ind nm op ag N T m (i + 1) (n - 2) (t + 1) _ _ _ _ (by omega) (by omega) h4.2.2 (fun k a b => hv k a (by omega)) (fun k a b => key _ _ _ _ _ hr k a (by omega))
          · by_cases c5 : op i = 20
            · have h5 := h5 c5
              have e : ∀ (v r : Int → Int), mEv nm (op i) (ag i) (v, r, n, t) = (v, ua r (t - 1) (if r (t - 1) = 0 then 1 else 0), n, t) := fun v r => by simp only [mEv]; rw [if_neg c1, if_neg c2, if_neg c3, if_neg c4, if_pos c5]
              rw [e, e, hr (t - 1) (by omega) (by omega)]
              exact mRun_ind nm op ag N T m (i + 1) n t _ _ _ _ hn ht h5.2.2 hv (fun k a b => key _ _ _ _ _ hr k a (Or.inl b))
            · have h6 := h6 (by omega)
              have e : ∀ (v r : Int → Int), mEv nm (op i) (ag i) (v, r, n, t) = (v, ua r (t - 1 - 1) (if op i = 21 then (if r (t - 1 - 1) ≠ 0 ∧ r (t - 1) ≠ 0 then 1 else 0) else (if r (t - 1 - 1) ≠ 0 ∨ r (t - 1) ≠ 0 then 1 else 0)), n, t - 1) := fun v r => by simp only [mEv]; rw [if_neg c1, if_neg c2, if_neg c3, if_neg c4, if_neg c5]
              rw [e, e, hr (t - 1) (by omega) (by omega), hr (t - 1 - 1) (by omega) (by omega)]
              exact mRun_ind nm op ag N T m (i + 1) n (t - 1) _ _ _ _ hn (by omega) h6.2.2 hv (fun k a b => key _ _ _ _ _ hr k a (Or.inl (by omega)))
/-- the first k below n of which f is so, else -1 -/
def findT (f : Int → Bool) (n : Int) : Int := match (List.range n.toNat).find? (fun k : Nat => f k) with
  | some k => k
  | none => -1
theorem findT_at {f : Int → Bool} {n k : Int} (h0 : 0 ≤ k) (hk : k < n) (hf : f k = true) (hb : ∀ j, 0 ≤ j → j < k → f j = false) : findT f n = k := by
  have h : (List.range n.toNat).find? (fun k : Nat => f k) = some k.toNat := by
    rw [List.find?_range_eq_some]
    refine ⟨?_, ?_, ?_⟩
    · rw [Int.toNat_of_nonneg h0]; exact hf
    · rw [List.mem_range]; omega
    · intro j hj
      rw [hb j (by omega) (by omega)]; rfl
  simp only [findT, h]
  omega
theorem findT_no {f : Int → Bool} {n : Int} (hb : ∀ j, 0 ≤ j → j < n → f j = false) : findT f n = -1 := by
  have h : (List.range n.toNat).find? (fun k : Nat => f k) = none := by
    rw [List.find?_eq_none]
    intro j hj
    rw [List.mem_range] at hj
    rw [hb j (by omega) (by omega)]
    simp
  simp only [findT, h]
def mClause (a tx : Int → Int) (sort : Int) : Int := if a 4 < 0 then -1 else findT (fun k => decide (tx (700 * a 4 + 1 + 4 * k) = sort)) (tx (700 * a 4))
/-- the names' values of a bone and another one -/
def mNm (a f : Int → Int) (bone other : Int) : Int → Int := ua (ua (ua (ua (ua (ua (ua (ua f 0 (a (30 + 6 * bone))) 1 (a (30 + 6 * bone + 1))) 2 (a (30 + 6 * bone + 3))) 3 (sumT (fun k => a (30 + 6 * bone + 5) / p2 k % 2) 16)) 4 (a 2)) 5 (a (30 + 6 * other))) 6 (a (30 + 6 * other + 1))) 7 (a (30 + 6 * other + 3))
/-- a clause that is reckoned is well made -/
def okCl (tx : Int → Int) (T k : Int) : Prop := 0 ≤ tx (700 * T + 1 + 4 * k + 1) ∧ tx (700 * T + 1 + 4 * k + 1) ≤ tx (700 * T + 1 + 4 * k + 2) ∧ tx (700 * T + 1 + 4 * k + 2) ≤ 300 ∧ dOK (tOp tx T) (tArg tx T) (if tx (700 * T + 1 + 4 * k) = 0 then 1 else 0) (if tx (700 * T + 1 + 4 * k) = 0 then 0 else 1) (tx (700 * T + 1 + 4 * k + 2) - tx (700 * T + 1 + 4 * k + 1)).toNat (tx (700 * T + 1 + 4 * k + 1)) 0 0
def mCl (nm tx : Int → Int) (T k : Int) (v r : Int → Int) : ES := mRun nm (tOp tx T) (tArg tx T) (tx (700 * T + 1 + 4 * k + 2) - tx (700 * T + 1 + 4 * k + 1)).toNat (tx (700 * T + 1 + 4 * k + 1)) (v, r, 0, 0)
theorem sumT_01 (f : Int → Int) (hf : ∀ k, 0 ≤ f k ∧ f k ≤ 1) (n : Int) (h : 0 ≤ n) : 0 ≤ sumT f n ∧ sumT f n ≤ n := by
  have key : ∀ m : Nat, 0 ≤ sumT f m ∧ sumT f m ≤ m := by
    intro m
    induction m with
    | zero => simp [sumT]
    | succ m ih =>
      have h1 := sumT_s f (k := m) (by omega)
      have h2 := hf m
      have e : ((m + 1 : Nat) : Int) = (m : Int) + 1 := by omega
      rw [e, h1]
      omega
  have := key n.toNat
  rwa [Int.toNat_of_nonneg h] at this
theorem AB_mNm {a f : Int → Int} (h : AB a) (hf : AB f) (bone other : Int) : AB (mNm a f bone other) := by
  have h1 := sumT_01 (fun k => a (30 + 6 * bone + 5) / p2 k % 2) (fun k => by
    have := Int.emod_nonneg (a (30 + 6 * bone + 5) / p2 k) (show (2 : Int) ≠ 0 by omega)
    have := Int.emod_lt_of_pos (a (30 + 6 * bone + 5) / p2 k) (show (0 : Int) < 2 by omega)
    constructor <;> omega) 16 (by omega)
  simp only [mNm]
  exact AB_ua (AB_ua (AB_ua (AB_ua (AB_ua (AB_ua (AB_ua (AB_ua hf (h _)) (h _)) (h _)) (by omega)) (h _)) (h _)) (h _)) (h _)
