/-! the reference's own functions on its row a, and helpers -/
def sumT (f : Int → Int) (n : Int) : Int := ((List.range n.toNat).map fun k : Nat => f k).sum
theorem sumT_0 (f : Int → Int) : sumT f 0 = 0 := rfl
theorem sumT_s (f : Int → Int) {k : Int} (h : 0 ≤ k) : sumT f (k + 1) = sumT f k + f k := by
  simp only [sumT]
  rw [show (k + 1).toNat = k.toNat + 1 by omega, List.range_succ, List.map_append, List.sum_append]
  simp [Int.toNat_of_nonneg h]
theorem sumT_c {f g : Int → Int} {n : Int} (h : ∀ k, 0 ≤ k → k < n → f k = g k) : sumT f n = sumT g n := by
  simp only [sumT]
  congr 1
  apply List.map_congr_left
  intro k hk
  rw [List.mem_range] at hk
  exact h k (by omega) (by omega)
def shiftK (a : Int → Int) (k : Int) : Int → Int := fun q => if 174 ≤ q ∧ q < 174 + k then a (q + 82) else a q
theorem shiftK_0 (a : Int → Int) : a = shiftK a 0 := by
  funext q
  simp only [shiftK]
  rw [if_neg (by omega)]
theorem shiftK_s (a : Int → Int) {k : Int} (h : 0 ≤ k) : ua (shiftK a k) (174 + k) (shiftK a k (256 + k)) = shiftK a (k + 1) := by
  funext q
  simp only [ua, shiftK]
  by_cases h1 : q = 174 + k
  · rw [if_pos h1, if_neg (by omega), if_pos (by omega), h1]
    congr 1
    omega
  · rw [if_neg h1]
    by_cases h2 : 174 ≤ q ∧ q < 174 + k
    · rw [if_pos h2, if_pos (by omega)]
    · rw [if_neg h2, if_neg (by omega)]
/-- the steps' oldest is given up if they are 20 -/
def mShift (a : Int → Int) : Int → Int := if a 5 = 20 then ua (shiftK a 1558) 5 19 else a
/-- one step is written: at x its year, its bones' number, five ints of each bone; k places of these are done -/
def recK (a : Int → Int) (x k : Int) : Int → Int := fun q => if x + 2 ≤ q ∧ q < x + 2 + k then a (30 + 6 * ((q - x - 2) / 5) + 1 + (q - x - 2) % 5) else if q = x + 1 then a 1 else if q = x then a 2 else a q
def mRec (a : Int → Int) : Int → Int := ua (recK a (174 + 82 * a 5) 80) 5 (a 5 + 1)
def mKeep (a : Int → Int) : Int → Int := mRec (mShift a)
theorem recK_0 (a : Int → Int) (x : Int) : ua (ua a x (a 2)) (x + 1) (a 1) = recK a x 0 := by
  funext q
  simp only [ua, recK]
  rw [if_neg (c := x + 2 ≤ q ∧ q < x + 2 + 0) (by omega)]
theorem recK_rd (a : Int → Int) {x k q : Int} (h : q < x) : recK a x k q = a q := by
  simp only [recK]
  rw [if_neg (by omega), if_neg (by omega), if_neg (by omega)]
theorem recK_s (a : Int → Int) {x b e : Int} (hb : 0 ≤ b) (he : 0 ≤ e) (he2 : e < 5) : ua (recK a x (5 * b + e)) (x + 2 + 5 * b + e) (a (30 + 6 * b + 1 + e)) = recK a x (5 * b + (e + 1)) := by
  funext q
  simp only [ua, recK]
  by_cases h1 : q = x + 2 + 5 * b + e
  · rw [if_pos h1, if_pos (by omega), h1]
    congr 1
    omega
  · rw [if_neg h1]
    by_cases h2 : x + 2 ≤ q ∧ q < x + 2 + (5 * b + e)
    · rw [if_pos h2, if_pos (by omega)]
    · rw [if_neg h2, if_neg (c := x + 2 ≤ q ∧ q < x + 2 + (5 * b + (e + 1))) (by omega)]
def AB (a : Int → Int) : Prop := ∀ k, -1 ≤ a k ∧ a k < 65536
theorem AB_ua {a : Int → Int} (h : AB a) {k e : Int} (he : -1 ≤ e ∧ e < 65536) : AB (ua a k e) := fun q => by
  simp only [ua]
  split
  · exact he
  · exact h q
theorem AB_shiftK {a : Int → Int} (h : AB a) (k : Int) : AB (shiftK a k) := fun q => by
  simp only [shiftK]
  split
  · exact h _
  · exact h _
theorem AB_recK {a : Int → Int} (h : AB a) (x k : Int) : AB (recK a x k) := fun q => by
  simp only [recK]
  split
  · exact h _
  split
  · exact h _
  split
  · exact h _
  · exact h _
theorem AB_mShift {a : Int → Int} (h : AB a) : AB (mShift a) := by
  simp only [mShift]
  split
  · exact AB_ua (AB_shiftK h _) (by omega)
  · exact h
theorem mShift_lo {a : Int → Int} {k : Int} (h : k < 174) (h5 : k ≠ 5) : mShift a k = a k := by
  simp only [mShift]
  split
  · rw [ua_ne h5]
    simp only [shiftK]
    rw [if_neg (by omega)]
  · rfl
theorem mShift_5 {a : Int → Int} (h : 0 ≤ a 5 ∧ a 5 ≤ 20) : 0 ≤ mShift a 5 ∧ mShift a 5 ≤ 19 ∧ mShift a 5 = if a 5 = 20 then 19 else a 5 := by
  simp only [mShift]
  split
  · rw [ua_same]; omega
  · omega
