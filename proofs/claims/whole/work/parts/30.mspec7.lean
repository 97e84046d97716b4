def pw (x n : Int) : Int := x ^ n.toNat
theorem pw_0 (x : Int) : pw x 0 = 1 := by simp [pw]
theorem pw_s (x : Int) {n : Int} (h : 0 ≤ n) : pw x (n + 1) = pw x n * x := by
  simp only [pw]
  rw [show (n + 1).toNat = n.toNat + 1 by omega, Int.pow_succ]
/-- i steps towards n over k -/
def choK (n k : Int) : Nat → Int
  | 0 => 1
  | i + 1 => choK n k i * (n - k + ((i : Int) + 1)) / ((i : Int) + 1)
theorem choK_r : ∀ n : Nat, n < 21 → ∀ k : Nat, k < 21 → ∀ i : Nat, i < 21 → k ≤ n ∧ i ≤ k → 0 ≤ choK n k i ∧ choK n k i ≤ 200000 := by decide +kernel
theorem choK_rI {n k : Int} {i : Nat} (hn : 0 ≤ n ∧ n ≤ 20) (hk : 0 ≤ k ∧ k ≤ n) (hi : (i : Int) ≤ k) : 0 ≤ choK n k i ∧ choK n k i ≤ 200000 := by
  have := choK_r n.toNat (by omega) k.toNat (by omega) i (by omega) ⟨by omega, by omega⟩
  rwa [Int.toNat_of_nonneg hn.1, Int.toNat_of_nonneg hk.1] at this
/-- the upper number before it is cut: h and j - h more -/
def chaK (n h c : Int) : Nat → Int
  | 0 => 0
  | j + 1 => chaK n h c j + choK n (h + j) (h + j).toNat * pw c (h + j) * pw (6 - c) (n - (h + j))
def chaS (n h c : Int) : Int := chaK n h c (n + 1 - h).toNat
theorem chaS_r : ∀ n : Nat, n < 21 → ∀ h : Nat, h < 21 → h ≤ n → ∀ c : Nat, c < 7 → 0 ≤ chaS n h c ∧ chaS n h c ≤ 3656158440062976 := by decide +kernel
def gcdI (x y : Int) : Int := (Nat.gcd x.toNat y.toNat : Nat)
theorem gcdI_s {p q : Int} (hp : 0 ≤ p) (hq : 0 < q) : gcdI q (p % q) = gcdI p q := by
  simp only [gcdI]
  have h0 := Int.emod_nonneg p (show q ≠ 0 by omega)
  have e : (p % q).toNat = p.toNat % q.toNat := by
    rw [Int.toNat_emod hp (by omega)]
  rw [e, Nat.gcd_comm p.toNat, Nat.gcd_rec q.toNat p.toNat, Nat.gcd_comm]
theorem gcdI_0 {p : Int} (hp : 0 ≤ p) : gcdI p 0 = p := by
  simp only [gcdI]
  simp
  omega
def mChance (n h c what : Int) : Int := if 0 ≤ n ∧ n ≤ 20 ∧ 0 ≤ h ∧ h ≤ n ∧ 0 ≤ c ∧ c ≤ 6 ∧ 0 ≤ what ∧ what ≤ 1 then (if what = 0 then chaS n h c else pw 6 n) / gcdI (chaS n h c) (pw 6 n) else -1
theorem pw6_r : ∀ n : Nat, n < 21 → 1 ≤ pw 6 n ∧ pw 6 n ≤ 3656158440062976 := by decide +kernel
theorem chaS_rI {n h c : Int} (hn : 0 ≤ n ∧ n ≤ 20) (hh : 0 ≤ h ∧ h ≤ n) (hc : 0 ≤ c ∧ c ≤ 6) : 0 ≤ chaS n h c ∧ chaS n h c ≤ 3656158440062976 := by
  have := chaS_r n.toNat (by omega) h.toNat (by omega) (by omega) c.toNat (by omega)
  rwa [Int.toNat_of_nonneg hn.1, Int.toNat_of_nonneg hh.1, Int.toNat_of_nonneg hc.1] at this
theorem pw6_rI {n : Int} (hn : 0 ≤ n ∧ n ≤ 20) : 1 ≤ pw 6 n ∧ pw 6 n ≤ 3656158440062976 := by
  have := pw6_r n.toNat (by omega)
  rwa [Int.toNat_of_nonneg hn.1] at this
theorem gcdI_r {x y : Int} (hy : 1 ≤ y) : 1 ≤ gcdI x y ∧ gcdI x y ≤ y := by
  simp only [gcdI]
  have h1 := Nat.gcd_pos_of_pos_right x.toNat (show 0 < y.toNat by omega)
  have h2 := Nat.gcd_le_right x.toNat (show 0 < y.toNat by omega)
  omega
