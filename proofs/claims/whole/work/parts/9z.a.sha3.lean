/-! those asked for -/
theorem mAp_on {a tx : Int → Int} {set b t : Int} (ht : t = a (30 + 6 * b + 3)) (t0 : 0 ≤ t ∧ t < 10) (h1 : ¬ set / p2 t % 2 = 0) (h2 : mHoly a tx b) : mAp a tx set b := by
  refine ⟨?_, h2⟩
  rw [← ht, show t % 32 = t by omega]; exact h1
theorem mAp_no1 {a tx : Int → Int} {set b t : Int} (ht : t = a (30 + 6 * b + 3)) (t0 : 0 ≤ t ∧ t < 10) (h1 : set / p2 t % 2 = 0) : ¬ mAp a tx set b := fun z => by
  have y := z.1
  rw [← ht, show t % 32 = t by omega] at y
  exact y h1
theorem mA_on {a tx bo r : Int → Int} {set b c : Int} (b0 : 0 ≤ b) (hp : mAp a tx set b) (hc : c = mAc a tx set b.toNat) (hb : bo = mAr a tx set r b.toNat) : c + 1 = mAc a tx set (b + 1).toNat ∧ ua bo c b = mAr a tx set r (b + 1).toNat := by
  rw [show (b + 1).toNat = b.toNat + 1 by omega]
  simp only [mAc, mAr]
  rw [show ((b.toNat : Nat) : Int) = b by omega, if_pos hp, if_pos hp, ← hc, ← hb]
  exact ⟨rfl, rfl⟩
theorem mA_no {a tx bo r : Int → Int} {set b c : Int} (b0 : 0 ≤ b) (hp : ¬ mAp a tx set b) (hc : c = mAc a tx set b.toNat) (hb : bo = mAr a tx set r b.toNat) : c = mAc a tx set (b + 1).toNat ∧ bo = mAr a tx set r (b + 1).toNat := by
  rw [show (b + 1).toNat = b.toNat + 1 by omega]
  simp only [mAc, mAr]
  rw [show ((b.toNat : Nat) : Int) = b by omega, if_neg hp, if_neg hp, ← hc, ← hb]
  exact ⟨rfl, rfl⟩
theorem mAc_mono (a tx : Int → Int) (set : Int) (b : Nat) : ∀ d : Nat, mAc a tx set b ≤ mAc a tx set (b + d)
  | 0 => Int.le_refl _
  | d + 1 => by
    have := mAc_mono a tx set b d
    rw [show b + (d + 1) = b + d + 1 by omega]
    simp only [mAc]
    split <;> omega
