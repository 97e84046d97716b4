/-- all that a call may leave otherwise in the model: its scratch -/
def Scr (V V' : Va) : Prop := (∀ i : Nat, i < 308 ∨ (308 < i ∧ i < 314) ∨ 325 < i → V' i = V i) ∧ (∀ k : Int, k < 29 → V' 308 k = V 308 k) ∧ AB (V' 314) ∧ TRb (V' 316) ∧ TRb (V' 323)
def rG (S : Stt) (V : Va) (P : Int → Prop) : Option Value → Stt → Va → Prop := fun v S' V' => ∃ r, P r ∧ some (vI r) = v ∧ S = S' ∧ Scr V V'
theorem mMany_r {a tx : Int → Int} (hX : AB tx) (k : Int) : -1 ≤ mMany a tx k ∧ mMany a tx k < 65536 := by
  simp only [mMany]
  split
  · omega
  · exact hX _
theorem Full_c {kd br my br' my' : Int → Int} {n most : Int} {g : Int → Int} (h1 : ∀ i, 0 ≤ i → i < n → br i = br' i) (h2 : ∀ i, 0 ≤ i → i < n → my i = my' i) : Full kd br my n most g ↔ Full kd br' my' n most g := by
  have e : ∀ i, 0 ≤ i → i < n → (okS kd br my most g i ↔ okS kd br' my' most g i) := fun i i0 i1 => by
    simp only [okS, canP]
    rw [h1 i i0 i1, h2 i i0 i1]
  exact ⟨fun h i i0 i1 => (e i i0 i1).mp (h i i0 i1), fun h i i0 i1 => (e i i0 i1).mpr (h i i0 i1)⟩
/-- the least sharing, the first of its like -/
def Best (kd br my : Int → Int) (n most : Int) (g : Int → Int) : Prop := 0 ≤ most ∧ (∀ m, 0 ≤ m → m < most → ∀ f, ¬ Full kd br my n m f) ∧ Full kd br my n most g ∧ ∀ f, Full kd br my n most f → ∀ k, 0 ≤ k → k < n → (∀ j, 0 ≤ j → j < k → f j = g j) → g k ≤ f k
theorem Best_c {kd br my br' my' : Int → Int} {n most : Int} {g : Int → Int} (h1 : ∀ i, 0 ≤ i → i < n → br i = br' i) (h2 : ∀ i, 0 ≤ i → i < n → my i = my' i) (b : Best kd br my n most g) : Best kd br' my' n most g :=
  ⟨b.1, fun m m0 m1 f hf => b.2.1 m m0 m1 f ((Full_c h1 h2).mpr hf), (Full_c h1 h2).mp b.2.2.1, fun f hf => b.2.2.2 f ((Full_c h1 h2).mpr hf)⟩
/-- what saints answers, n being the BONES asked for, s their row -/
def SaR (a tx : Int → Int) (set bone r : Int) : Prop := if 0 ≤ set ∧ set ≤ p2 (a 0) - 1 ∧ (bone = -1 ∨ mBoneOk a bone) ∧ mAc a tx set (a 1).toNat ≤ 12 then ∃ row most g, Best (fun z => a (30 + 6 * mAr a tx set row (a 1).toNat z)) (fun z => mBr a tx (mAr a tx set row (a 1).toNat) z (mAc a tx set (a 1).toNat).toNat) (fun z => mMany a tx (a (30 + 6 * mAr a tx set row (a 1).toNat z))) (mAc a tx set (a 1).toNat) most g ∧ r = if bone = -1 then most else if findT (fun i => decide (mAr a tx set row (a 1).toNat i = bone)) (mAc a tx set (a 1).toNat) < 0 then -1 else g (findT (fun i => decide (mAr a tx set row (a 1).toNat i = bone)) (mAc a tx set (a 1).toNat)) else r = -2
theorem AB_18 {r f : Int → Int} {n : Int} : True := trivial
