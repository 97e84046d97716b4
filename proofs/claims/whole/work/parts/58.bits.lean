/-! bitCount, byte by byte -/
def nBits : Nat → Nat → Nat
  | 0, _ => 0
  | k + 1, x => nBits k x + (x / 2 ^ k) % 2
theorem nBits_sum (x : Nat) : ∀ k : Nat, ((nBits k x : Nat) : Int) = sumT (fun q => (x : Int) / p2 q % 2) k
  | 0 => rfl
  | k + 1 => by
    have ih := nBits_sum x k
    rw [show ((k + 1 : Nat) : Int) = (k : Int) + 1 by omega, sumT_s _ (by omega), ← ih]
    simp only [nBits]
    rw [p2_nat, Int.natCast_add, Int.natCast_emod, Int.natCast_ediv]
    rfl
theorem land256 {h l a b : Nat} (hl : l < 256) (hb : b < 256) : (256 * h + l) &&& (256 * a + b) = 256 * (h &&& a) + (l &&& b) := by
  have e1 := Nat.and_div_two_pow (a := 256 * h + l) (b := 256 * a + b) (n := 8)
  have e2 := Nat.and_mod_two_pow (a := 256 * h + l) (b := 256 * a + b) (n := 8)
  rw [show (2 : Nat) ^ 8 = 256 by decide] at e1 e2
  rw [show (256 * h + l) / 256 = h by omega, show (256 * a + b) / 256 = a by omega] at e1
  rw [show (256 * h + l) % 256 = l by omega, show (256 * a + b) % 256 = b by omega] at e2
  omega
def bf1 (b : Nat) : Nat := b - ((b / 2) &&& 85)
def bf2 (b : Nat) : Nat := (bf1 b &&& 51) + ((bf1 b / 4) &&& 51)
def bf3 (b : Nat) : Nat := (bf2 b + bf2 b / 16) &&& 15
theorem bt1 : ∀ b, b < 256 → bf1 b < 256 ∧ ((b / 2) &&& 85) ≤ b ∧ bf2 b ≤ 68 ∧ bf3 b = nBits 8 b ∧ (b / 2) &&& 5592405 = (b / 2) &&& 85 ∧ bf1 b &&& 3355443 = bf1 b &&& 51 ∧ (bf1 b / 4) &&& 3355443 = (bf1 b / 4) &&& 51 ∧ (bf2 b + bf2 b / 16) &&& 986895 = bf3 b ∧ bf3 b ≤ 8 ∧ bf2 b % 16 ≤ 4 := by decide +kernel
theorem bs1 : ∀ r, r < 2 → ∀ b, b < 256 → (128 * r + b / 2) &&& 85 = (b / 2) &&& 85 := by decide +kernel
theorem bs2 : ∀ r, r < 4 → ∀ y, y < 256 → (64 * r + y / 4) &&& 51 = (y / 4) &&& 51 := by decide +kernel
theorem bs3 : ∀ r, r < 16 → ∀ y, y < 69 → (y + (16 * r + y / 16)) &&& 15 = (y + y / 16) &&& 15 := by decide +kernel
theorem bs4 : ∀ a, a < 9 → ∀ b, b < 9 → ∀ c, c < 9 → (256 * c + (a + b)) &&& 63 = a + b := by decide +kernel
theorem nBits_16 (x : Nat) (hx : x < 65536) : nBits 16 x = nBits 8 (x / 256) + nBits 8 (x % 256) := by
  have l0 : x / 2 ^ 0 % 2 = (x % 256) / 2 ^ 0 % 2 := by omega
  have l1 : x / 2 ^ 1 % 2 = (x % 256) / 2 ^ 1 % 2 := by omega
  have l2 : x / 2 ^ 2 % 2 = (x % 256) / 2 ^ 2 % 2 := by omega
  have l3 : x / 2 ^ 3 % 2 = (x % 256) / 2 ^ 3 % 2 := by omega
  have l4 : x / 2 ^ 4 % 2 = (x % 256) / 2 ^ 4 % 2 := by omega
  have l5 : x / 2 ^ 5 % 2 = (x % 256) / 2 ^ 5 % 2 := by omega
  have l6 : x / 2 ^ 6 % 2 = (x % 256) / 2 ^ 6 % 2 := by omega
  have l7 : x / 2 ^ 7 % 2 = (x % 256) / 2 ^ 7 % 2 := by omega
  have h0 : x / 2 ^ 8 % 2 = (x / 256) / 2 ^ 0 % 2 := by omega
  have h1 : x / 2 ^ 9 % 2 = (x / 256) / 2 ^ 1 % 2 := by omega
  have h2 : x / 2 ^ 10 % 2 = (x / 256) / 2 ^ 2 % 2 := by omega
  have h3 : x / 2 ^ 11 % 2 = (x / 256) / 2 ^ 3 % 2 := by omega
  have h4 : x / 2 ^ 12 % 2 = (x / 256) / 2 ^ 4 % 2 := by omega
  have h5 : x / 2 ^ 13 % 2 = (x / 256) / 2 ^ 5 % 2 := by omega
  have h6 : x / 2 ^ 14 % 2 = (x / 256) / 2 ^ 6 % 2 := by omega
  have h7 : x / 2 ^ 15 % 2 = (x / 256) / 2 ^ 7 % 2 := by omega
  simp only [nBits]
  rw [l0, l1, l2, l3, l4, l5, l6, l7, h0, h1, h2, h3, h4, h5, h6, h7]
  clear l0 l1 l2 l3 l4 l5 l6 l7 h0 h1 h2 h3 h4 h5 h6 h7
  generalize (x % 256) / 2 ^ 0 % 2 = u0
  generalize (x / 256) / 2 ^ 0 % 2 = w0
  generalize (x % 256) / 2 ^ 1 % 2 = u1
  generalize (x / 256) / 2 ^ 1 % 2 = w1
  generalize (x % 256) / 2 ^ 2 % 2 = u2
  generalize (x / 256) / 2 ^ 2 % 2 = w2
  generalize (x % 256) / 2 ^ 3 % 2 = u3
  generalize (x / 256) / 2 ^ 3 % 2 = w3
  generalize (x % 256) / 2 ^ 4 % 2 = u4
  generalize (x / 256) / 2 ^ 4 % 2 = w4
  generalize (x % 256) / 2 ^ 5 % 2 = u5
  generalize (x / 256) / 2 ^ 5 % 2 = w5
  generalize (x % 256) / 2 ^ 6 % 2 = u6
  generalize (x / 256) / 2 ^ 6 % 2 = w6
  generalize (x % 256) / 2 ^ 7 % 2 = u7
  generalize (x / 256) / 2 ^ 7 % 2 = w7
  omega
theorem bits_nat {x x1 x2 x3 x4 x5 : Nat} (hx : x < 65536) (e1 : x1 = x - ((x >>> 1) &&& 1431655765)) (e2 : x2 = (x1 &&& 858993459) + ((x1 >>> 2) &&& 858993459)) (e3 : x3 = (x2 + (x2 >>> 4)) &&& 252645135) (e4 : x4 = x3 + (x3 >>> 8)) (e5 : x5 = x4 + (x4 >>> 16)) : x5 &&& 63 = nBits 16 x := by
  simp only [Nat.shiftRight_eq_div_pow] at e1 e2 e3 e4 e5
  obtain ⟨h, hh⟩ : ∃ h, h = x / 256 := ⟨_, rfl⟩
  obtain ⟨l, hl⟩ : ∃ l, l = x % 256 := ⟨_, rfl⟩
  obtain ⟨a1, a2, a3, a4, a5, a6, a7, a8, a9, a10⟩ := bt1 h (by omega)
  obtain ⟨b1, b2, b3, b4, b5, b6, b7, b8, b9, b10⟩ := bt1 l (by omega)
  have f1 : x1 = 256 * bf1 h + bf1 l := by
    rw [show x / 2 ^ 1 = 256 * (h / 2) + (128 * (h % 2) + l / 2) by omega, show (1431655765 : Nat) = 256 * 5592405 + 85 by decide, land256 (by omega) (by decide), bs1 _ (by omega) _ (by omega), a5] at e1
    simp only [bf1]
    omega
  have f2 : x2 = 256 * bf2 h + bf2 l := by
    rw [show x1 / 2 ^ 2 = 256 * (bf1 h / 4) + (64 * (bf1 h % 4) + bf1 l / 4) by omega, f1, show (858993459 : Nat) = 256 * 3355443 + 51 by decide, land256 b1 (by decide), land256 (by omega) (by decide), bs2 _ (by omega) _ b1, a6, a7] at e2
    simp only [bf2]
    omega
  have f3 : x3 = 256 * bf3 h + bf3 l := by
    rw [show x2 + x2 / 2 ^ 4 = 256 * (bf2 h + bf2 h / 16) + (bf2 l + (16 * (bf2 h % 16) + bf2 l / 16)) by omega, show (252645135 : Nat) = 256 * 986895 + 15 by decide, land256 (by omega) (by decide), bs3 _ (by omega) _ (by omega), a8] at e3
    exact e3
  have f4 : x4 = 256 * bf3 h + (bf3 l + bf3 h) := by omega
  have f5 : x5 = 256 * bf3 h + (bf3 l + bf3 h) := by omega
  rw [f5, bs4 _ (by omega) _ (by omega) _ (by omega), nBits_16 x hx, ← hh, ← hl, a4, b4]
  omega
theorem band_nn (a b : Nat) : band (a : Int) (b : Int) = ((a &&& b : Nat) : Int) := by simp [band]
theorem shr_n (a k : Nat) : (a : Int) / p2 (k : Int) = ((a >>> k : Nat) : Int) := by
  rw [p2_nat, Nat.shiftRight_eq_div_pow, Int.natCast_ediv]
theorem bc_eq {x : Int} (h0 : 0 ≤ x) (h1 : x < 65536) {x1 x2 x3 x4 x5 : Int} (e1 : x1 = x - band (x / p2 1) 1431655765) (e2 : x2 = band x1 858993459 + band (x1 / p2 2) 858993459) (e3 : x3 = band (x2 + x2 / p2 4) 252645135) (e4 : x4 = x3 + x3 / p2 8) (e5 : x5 = x4 + x4 / p2 16) : band x5 63 = bN x 16 := by
  obtain ⟨n, rfl⟩ := Int.eq_ofNat_of_zero_le h0
  have hs : ((n >>> 1) &&& 1431655765) ≤ n := Nat.le_trans Nat.and_le_left (by rw [Nat.shiftRight_eq_div_pow]; exact Nat.div_le_self _ _)
  rw [show p2 1 = p2 ((1 : Nat) : Int) from rfl, shr_n, show (1431655765 : Int) = ((1431655765 : Nat) : Int) from rfl, band_nn] at e1
  have e1 : x1 = ((n - ((n >>> 1) &&& 1431655765) : Nat) : Int) := by rw [e1]; omega
  subst e1
  rw [show p2 2 = p2 ((2 : Nat) : Int) from rfl, shr_n, show (858993459 : Int) = ((858993459 : Nat) : Int) from rfl, band_nn, band_nn, ← Int.natCast_add] at e2
  subst e2
  rw [show p2 4 = p2 ((4 : Nat) : Int) from rfl, shr_n, show (252645135 : Int) = ((252645135 : Nat) : Int) from rfl, ← Int.natCast_add, band_nn] at e3
  subst e3
  rw [show p2 8 = p2 ((8 : Nat) : Int) from rfl, shr_n, ← Int.natCast_add] at e4
  subst e4
  rw [show p2 16 = p2 ((16 : Nat) : Int) from rfl, shr_n, ← Int.natCast_add] at e5
  subst e5
  rw [show (63 : Int) = ((63 : Nat) : Int) from rfl, band_nn, bits_nat (x := n) (by omega) rfl rfl rfl rfl rfl]
  exact nBits_sum n 16
