theorem mKeep_lo {a : Int → Int} {k : Int} (h : k < 174) (h5 : k ≠ 5) (hn : 0 ≤ a 5 ∧ a 5 ≤ 20) : mKeep a k = a k := by
  have h1 := mShift_5 hn
  simp only [mKeep, mRec]
  rw [ua_ne h5, recK_rd _ (by omega), mShift_lo h h5]
theorem mKeep_5 {a : Int → Int} (hn : 0 ≤ a 5 ∧ a 5 ≤ 20) : mKeep a 5 = if a 5 = 20 then 20 else a 5 + 1 := by
  have h1 := mShift_5 hn
  simp only [mKeep, mRec]
  rw [ua_same, h1.2.2]
  split <;> rfl
theorem AB_mKeep {a : Int → Int} (h : AB a) (hn : 0 ≤ a 5 ∧ a 5 ≤ 20) : AB (mKeep a) := by
  have h1 := mShift_5 hn
  exact AB_ua (AB_recK (AB_mShift h) _ _) (by omega)
/-- k ints of the bones are taken back from the step at x -/
def undoK (a : Int → Int) (x k : Int) : Int → Int := fun q => if 30 ≤ q ∧ q < 126 ∧ 1 ≤ (q - 30) % 6 ∧ 5 * ((q - 30) / 6) + (q - 30) % 6 - 1 < k then a (x + 2 + 5 * ((q - 30) / 6) + ((q - 30) % 6 - 1)) else a q
def mUndo (a : Int → Int) : Int → Int := undoK (ua (ua a 5 (a 5 - 1)) 2 (a (174 + 82 * (a 5 - 1)))) (174 + 82 * (a 5 - 1)) (5 * a (174 + 82 * (a 5 - 1) + 1))
theorem undoK_0 (a : Int → Int) (x : Int) : a = undoK a x 0 := by
  funext q
  simp only [undoK]
  rw [if_neg (by omega)]
theorem undoK_hi {a : Int → Int} {x k q : Int} (h : q < 30 ∨ 126 ≤ q) : undoK a x k q = a q := by
  simp only [undoK]
  rw [if_neg (by omega)]
theorem undoK_s (a : Int → Int) {x b e : Int} (hx : 174 ≤ x) (hb : 0 ≤ b) (hb2 : b < 16) (he : 0 ≤ e) (he2 : e < 5) : ua (undoK a x (5 * b + e)) (30 + 6 * b + 1 + e) (a (x + 2 + 5 * b + e)) = undoK a x (5 * b + (e + 1)) := by
  funext q
  simp only [ua, undoK]
  by_cases h1 : q = 30 + 6 * b + 1 + e
  · rw [if_pos h1, if_pos (by omega), h1]
    congr 1
    omega
  · rw [if_neg h1]
    by_cases h2 : 30 ≤ q ∧ q < 126 ∧ 1 ≤ (q - 30) % 6 ∧ 5 * ((q - 30) / 6) + (q - 30) % 6 - 1 < 5 * b + e
    · rw [if_pos h2, if_pos (by omega)]
    · rw [if_neg h2, if_neg (by omega)]
abbrev mBoneC (a : Int → Int) (kind weight owner : Int) : Prop := 0 ≤ kind ∧ kind ≤ 19 ∧ 1 ≤ weight ∧ weight ≤ 999 ∧ 0 ≤ owner ∧ owner ≤ a 0 - 1 ∧ a 1 ≠ 16
def mBoneA (a : Int → Int) (kind weight owner : Int) : Int → Int := ua (ua (ua (ua (ua (ua (ua a (30 + 6 * a 1) kind) (30 + 6 * a 1 + 1) weight) (30 + 6 * a 1 + 2) owner) (30 + 6 * a 1 + 3) owner) (30 + 6 * a 1 + 4) (-1)) (30 + 6 * a 1 + 5) 0) 1 (a 1 + 1)
abbrev mTownOk (a : Int → Int) (t : Int) : Prop := 0 ≤ t ∧ t ≤ a 0 - 1
abbrev mBoneOk (a : Int → Int) (b : Int) : Prop := 0 ≤ b ∧ b ≤ a 1 - 1
abbrev mProveC (a : Int → Int) (town bone : Int) : Prop := mTownOk a town ∧ mBoneOk a bone ∧ a (30 + 6 * bone + 5) / p2 town % 2 ≠ 1
abbrev mLendC (a : Int → Int) (bone town years : Int) : Prop := mBoneOk a bone ∧ mTownOk a town ∧ 1 ≤ years ∧ years ≤ 99 ∧ a 2 + years ≤ 999 ∧ a (30 + 6 * bone + 3) = a (30 + 6 * bone + 2) ∧ a (30 + 6 * bone + 4) < 0 ∧ a (30 + 6 * bone + 3) ≠ town
abbrev mSwapC (a : Int → Int) (one other : Int) : Prop := mBoneOk a one ∧ mBoneOk a other ∧ a (30 + 6 * one + 3) ≠ a (30 + 6 * other + 3)
abbrev mStealC (a : Int → Int) (bone town : Int) : Prop := mBoneOk a bone ∧ mTownOk a town ∧ a (30 + 6 * bone + 3) ≠ town
/-- the proofs of a town are gone from k bones -/
def burnK (a : Int → Int) (town k : Int) : Int → Int := fun q => if 30 ≤ q ∧ (q - 30) % 6 = 5 ∧ (q - 30) / 6 < k then a q - band (a q) (p2 town) else a q
theorem burnK_0 (a : Int → Int) (t : Int) : a = burnK a t 0 := by
  funext q
  simp only [burnK]
  rw [if_neg (by omega)]
theorem burnK_s (a : Int → Int) {t k : Int} (h : 0 ≤ k) : ua (burnK a t k) (30 + 6 * k + 5) (a (30 + 6 * k + 5) - band (a (30 + 6 * k + 5)) (p2 t)) = burnK a t (k + 1) := by
  funext q
  simp only [ua, burnK]
  by_cases h1 : q = 30 + 6 * k + 5
  · rw [if_pos h1, if_pos (by omega), h1]
  · rw [if_neg h1]
    by_cases h2 : 30 ≤ q ∧ (q - 30) % 6 = 5 ∧ (q - 30) / 6 < k
    · rw [if_pos h2, if_pos (by omega)]
    · rw [if_neg h2, if_neg (by omega)]
theorem burnK_rd {a : Int → Int} {t k q : Int} (h : q < 30 ∨ (q - 30) % 6 ≠ 5 ∨ k ≤ (q - 30) / 6) : burnK a t k q = a q := by
  simp only [burnK]
  rw [if_neg (by omega)]
/-- the first 1814 of one row in another -/
def cpK (f g : Int → Int) (k : Int) : Int → Int := fun q => if 0 ≤ q ∧ q < k then f q else g q
theorem cpK_0 (f g : Int → Int) : g = cpK f g 0 := by
  funext q
  simp only [cpK]
  rw [if_neg (by omega)]
theorem cpK_s (f g : Int → Int) {k : Int} (h : 0 ≤ k) : ua (cpK f g k) k (f k) = cpK f g (k + 1) := by
  funext q
  simp only [ua, cpK]
  by_cases h1 : q = k
  · rw [if_pos h1, if_pos (by omega), h1]
  · rw [if_neg h1]
    by_cases h2 : 0 ≤ q ∧ q < k
    · rw [if_pos h2, if_pos (by omega)]
    · rw [if_neg h2, if_neg (by omega)]
def mProofs (a : Int → Int) (town n : Int) : Int := sumT (fun b => a (30 + 6 * b + 5) / p2 town % 2) n
def mBonesAt (a : Int → Int) (town n : Int) : Int := sumT (fun b => if a (30 + 6 * b + 3) = town then 1 else 0) n
def mMiles (a : Int → Int) (s t : Int) : Int := (if a (10 + 2 * s) < a (10 + 2 * t) then a (10 + 2 * t) - a (10 + 2 * s) else a (10 + 2 * s) - a (10 + 2 * t)) + (if a (10 + 2 * s + 1) < a (10 + 2 * t + 1) then a (10 + 2 * t + 1) - a (10 + 2 * s + 1) else a (10 + 2 * s + 1) - a (10 + 2 * t + 1))
abbrev mSeenOk (a : Int → Int) (s : Int) : Prop := 0 ≤ s ∧ s ≤ a 6 - 1
abbrev mSame (a : Int → Int) (ahead one : Int) : Prop := mSeenOk a ahead ∧ mSeenOk a one ∧ a (126 + 4 * ahead + 1) = a (126 + 4 * one + 1) ∧ 0 < a (126 + 4 * one + 3) - a (126 + 4 * ahead + 3) ∧ 0 ≤ a (126 + 4 * ahead + 2) - a (126 + 4 * one + 2) ∧ a (126 + 4 * ahead + 2) - a (126 + 4 * one + 2) ≤ a 7 * (a (126 + 4 * one + 3) - a (126 + 4 * ahead + 3)) ∧ mMiles a (a (126 + 4 * ahead)) (a (126 + 4 * one)) / a 8 ≤ a (126 + 4 * one + 3) - a (126 + 4 * ahead + 3)
theorem mMiles_r {a : Int → Int} (h : AB a) (s t : Int) : 0 ≤ mMiles a s t ∧ mMiles a s t < 200000 := by
  have h1 := h (10 + 2 * s)
  have h2 := h (10 + 2 * t)
  have h3 := h (10 + 2 * s + 1)
  have h4 := h (10 + 2 * t + 1)
  simp only [mMiles]
  split <;> split <;> omega

def mProveF (a : Int → Int) (town bone : Int) : Int → Int := if mProveC a town bone then ua (mKeep a) (30 + 6 * bone + 5) (bor (a (30 + 6 * bone + 5)) (p2 town)) else a
def mLendF (a : Int → Int) (bone town years : Int) : Int → Int := if mLendC a bone town years then ua (ua (mKeep a) (30 + 6 * bone + 3) town) (30 + 6 * bone + 4) (a 2 + years) else a
def mSwapF (a : Int → Int) (one other : Int) : Int → Int := if mSwapC a one other then ua (ua (mKeep a) (30 + 6 * one + 3) (a (30 + 6 * other + 3))) (30 + 6 * other + 3) (a (30 + 6 * one + 3)) else a
def mStealF (a : Int → Int) (bone town : Int) : Int → Int := if mStealC a bone town then ua (ua (ua (mKeep a) (30 + 6 * bone + 2) town) (30 + 6 * bone + 3) town) (30 + 6 * bone + 4) (-1) else a
def mBurnF (a : Int → Int) (town : Int) : Int → Int := if mTownOk a town then burnK (mKeep a) town (a 1) else a
def mTownF (a : Int → Int) (x y : Int) : Int → Int := if 0 ≤ x ∧ x ≤ 99 ∧ 0 ≤ y ∧ y ≤ 99 ∧ a 0 ≠ 10 then ua (ua (ua a (10 + 2 * a 0) x) (10 + 2 * a 0 + 1) y) 0 (a 0 + 1) else a
def mBoneF (a : Int → Int) (kind weight owner : Int) : Int → Int := if mBoneC a kind weight owner then mBoneA a kind weight owner else a
def mUndoF (a : Int → Int) : Int → Int := if a 5 = 0 then a else mUndo a
