theorem p2_pos (t : Int) : 0 < p2 t := by have := Nat.pow_pos (n := t.toNat) (show 0 < 2 by omega); simp only [p2]; omega
theorem p2_nat (t : Nat) : p2 t = (2 ^ t : Nat) := by simp [p2]
theorem p2_0 : p2 0 = 1 := rfl
theorem p2_succ {t : Int} (h : 0 ≤ t) : p2 (t + 1) = 2 * p2 t := by
  simp only [p2]
  rw [show (t + 1).toNat = t.toNat + 1 by omega, Nat.pow_succ]
  omega
theorem p2_le {t u : Int} (h : t ≤ u) : p2 t ≤ p2 u := by
  simp only [p2]
  have := Nat.pow_le_pow_right (show 0 < 2 by omega) (show t.toNat ≤ u.toNat by omega)
  omega
theorem p2_lt31 {t : Int} (h : t < 31) : p2 t ≤ 1073741824 := p2_le (u := 30) (by omega)
theorem iI_n {a : Int} (h : 0 ≤ a) : Int32.ofInt a = Int32.ofNat a.toNat := by
  rw [← Int32.ofInt_eq_ofNat, Int.toNat_of_nonneg h]
theorem iL_n {a : Int} (h : 0 ≤ a) : Int64.ofInt a = Int64.ofNat a.toNat := by
  rw [← Int64.ofInt_eq_ofNat, Int.toNat_of_nonneg h]
theorem n_and (a b : Nat) : Int32.ofNat a &&& Int32.ofNat b = Int32.ofNat (a &&& b) := by
  apply Int32.toBitVec_inj.1
  show BitVec.ofNat 32 a &&& BitVec.ofNat 32 b = BitVec.ofNat 32 (a &&& b)
  apply BitVec.eq_of_getLsbD_eq
  intro i hi
  simp [hi]
theorem n_or (a b : Nat) : Int32.ofNat a ||| Int32.ofNat b = Int32.ofNat (a ||| b) := by
  apply Int32.toBitVec_inj.1
  show BitVec.ofNat 32 a ||| BitVec.ofNat 32 b = BitVec.ofNat 32 (a ||| b)
  apply BitVec.eq_of_getLsbD_eq
  intro i hi
  simp [hi]
theorem n_xor (a b : Nat) : Int32.ofNat a ^^^ Int32.ofNat b = Int32.ofNat (a ^^^ b) := by
  apply Int32.toBitVec_inj.1
  show BitVec.ofNat 32 a ^^^ BitVec.ofNat 32 b = BitVec.ofNat 32 (a ^^^ b)
  apply BitVec.eq_of_getLsbD_eq
  intro i hi
  simp [hi]
theorem nl_and (a b : Nat) : Int64.ofNat a &&& Int64.ofNat b = Int64.ofNat (a &&& b) := by
  apply Int64.toBitVec_inj.1
  show BitVec.ofNat 64 a &&& BitVec.ofNat 64 b = BitVec.ofNat 64 (a &&& b)
  apply BitVec.eq_of_getLsbD_eq
  intro i hi
  simp [hi]
theorem nl_or (a b : Nat) : Int64.ofNat a ||| Int64.ofNat b = Int64.ofNat (a ||| b) := by
  apply Int64.toBitVec_inj.1
  show BitVec.ofNat 64 a ||| BitVec.ofNat 64 b = BitVec.ofNat 64 (a ||| b)
  apply BitVec.eq_of_getLsbD_eq
  intro i hi
  simp [hi]
theorem iI_and {a b : Int} (ha : 0 ≤ a) (hb : 0 ≤ b) : Int32.ofInt a &&& Int32.ofInt b = Int32.ofInt (band a b) := by
  rw [iI_n ha, iI_n hb, n_and, iI_n (by simp only [band]; omega)]
  simp [band]
theorem iI_or {a b : Int} (ha : 0 ≤ a) (hb : 0 ≤ b) : Int32.ofInt a ||| Int32.ofInt b = Int32.ofInt (bor a b) := by
  rw [iI_n ha, iI_n hb, n_or, iI_n (by simp only [bor]; omega)]
  simp [bor]
theorem iI_xor {a b : Int} (ha : 0 ≤ a) (hb : 0 ≤ b) : Int32.ofInt a ^^^ Int32.ofInt b = Int32.ofInt (bxor a b) := by
  rw [iI_n ha, iI_n hb, n_xor, iI_n (by simp only [bxor]; omega)]
  simp [bxor]
theorem iL_and {a b : Int} (ha : 0 ≤ a) (hb : 0 ≤ b) : Int64.ofInt a &&& Int64.ofInt b = Int64.ofInt (band a b) := by
  rw [iL_n ha, iL_n hb, nl_and, iL_n (by simp only [band]; omega)]
  simp [band]
theorem iL_or {a b : Int} (ha : 0 ≤ a) (hb : 0 ≤ b) : Int64.ofInt a ||| Int64.ofInt b = Int64.ofInt (bor a b) := by
  rw [iL_n ha, iL_n hb, nl_or, iL_n (by simp only [bor]; omega)]
  simp [bor]
theorem iI_mod (a : Int) : Int32.ofInt a = Int32.ofInt (a % 4294967296) := by
  apply Int32.toInt_inj.mp
  rw [Int32.toInt_ofInt, Int32.toInt_ofInt]
  exact (Int.emod_bmod a _).symm
/-- a mask of low bits, of any int -/
theorem iI_mask (a : Int) {k : Nat} (hk : k ≤ 32) {m : Int} (hm : m = (2 ^ k : Nat) - 1) : Int32.ofInt a &&& Int32.ofInt m = Int32.ofInt (a % (2 ^ k : Nat)) := by
  have hp : 0 < 2 ^ k := Nat.pow_pos (by omega)
  have h1 : 0 ≤ a % 4294967296 := Int.emod_nonneg _ (by decide)
  have hd : ((2 ^ k : Nat) : Int) ∣ 4294967296 := by
    have : (2 ^ k : Nat) ∣ 2 ^ 32 := Nat.pow_dvd_pow 2 hk
    have h2 := Int.natCast_dvd_natCast.mpr this
    simpa using h2
  rw [iI_mod a, iI_n h1, iI_n (show 0 ≤ m by omega), n_and, show m.toNat = 2 ^ k - 1 by omega, Nat.and_two_pow_sub_one_eq_mod, ← Int32.ofInt_eq_ofNat, Int.natCast_emod, Int.toNat_of_nonneg h1, Int.emod_emod_of_dvd _ hd]
theorem iI_not (a : Int) : Int32.ofInt a ^^^ Int32.ofInt (-1) = Int32.ofInt (-a - 1) := by
  have h1 : ∀ x : Int32, x ^^^ (-1) = -x - 1 := by
    intro x
    apply Int32.toBitVec_inj.mp
    show x.toBitVec ^^^ (-1 : Int32).toBitVec = -x.toBitVec - 1#32
    rw [show (-1 : Int32).toBitVec = BitVec.allOnes 32 from rfl, BitVec.xor_allOnes, BitVec.neg_eq_not_add]
    exact (BitVec.add_sub_cancel _ _).symm
  have h2 : Int32.ofInt (-1) = -1 := by decide
  rw [h2, h1, Int32.ofInt_sub, Int32.ofInt_neg]
  rfl
theorem iI_sh {t : Int} (h0 : 0 ≤ t) (h1 : t < 32) : ((Int32.ofInt t &&& 31).toBitVec.smod 32).toNat = t.toNat := by
  have key : ∀ n : Nat, n < 32 → ((Int32.ofInt (n : Int) &&& 31).toBitVec.smod 32).toNat = n := by decide +kernel
  have := key t.toNat (by omega)
  rwa [show ((t.toNat : Nat) : Int) = t by omega] at this
theorem iI_p2 {t : Int} (h0 : 0 ≤ t) (h1 : t < 32) : (Int32.ofInt (p2 t)).toBitVec.toNat = 2 ^ t.toNat := by
  have key : ∀ n : Nat, n < 32 → (Int32.ofInt (2 ^ n : Nat)).toBitVec.toNat = 2 ^ n := by decide +kernel
  exact key t.toNat (by omega)
theorem iI_shl (a : Int) {t : Int} (h0 : 0 ≤ t) (h1 : t < 32) : Int32.ofInt a <<< (Int32.ofInt t &&& 31) = Int32.ofInt (a * p2 t) := by
  apply Int32.toBitVec_inj.mp
  apply BitVec.eq_of_toNat_eq
  rw [pk_shl _ _ _ (iI_sh h0 h1), Int32.ofInt_mul, Int32.toBitVec_mul, BitVec.toNat_mul, iI_p2 h0 h1]
theorem div_p2_R {a t : Int} (ha : InR a) : InR (a / p2 t) := by
  have hp := p2_pos t
  obtain ⟨h1, h2⟩ := ha
  constructor
  · exact Int.le_ediv_of_mul_le hp (by
      rcases Int.le_total 0 (-2147483648 : Int) with h | h
      · omega
      · have : (-2147483648 : Int) * p2 t ≤ -2147483648 * 1 := Int.mul_le_mul_of_nonpos_left (by omega) (by omega)
        omega)
  · exact Int.ediv_lt_of_lt_mul hp (by
      have : (2147483648 : Int) * 1 ≤ 2147483648 * p2 t := Int.mul_le_mul_of_nonneg_left (by omega) (by omega)
      omega)
theorem iI_shr {a t : Int} (ha : InR a) (h0 : 0 ≤ t) (h1 : t < 32) : Int32.ofInt a >>> (Int32.ofInt t &&& 31) = Int32.ofInt (a / p2 t) := by
  apply Int32.toInt_inj.mp
  rw [pk_shr _ _ _ (iI_sh h0 h1), iI_toInt ha, Int.shiftRight_eq_div_pow, iI_toInt (div_p2_R ha)]
  rfl
theorem iL_c {t : Int} (h0 : 0 ≤ t) (h1 : t < 64) : (((Int32.ofInt t).toInt64 &&& 63).toBitVec.smod 64).toNat = t.toNat := by
  have key : ∀ n : Nat, n < 64 → (((Int32.ofInt (n : Int)).toInt64 &&& 63).toBitVec.smod 64).toNat = n := by decide +kernel
  have := key t.toNat (by omega)
  rwa [show ((t.toNat : Nat) : Int) = t by omega] at this
theorem iL_p2 {t : Int} (h0 : 0 ≤ t) (h1 : t < 64) : (Int64.ofInt (p2 t)).toBitVec.toNat = 2 ^ t.toNat := by
  have key : ∀ n : Nat, n < 64 → (Int64.ofInt (2 ^ n : Nat)).toBitVec.toNat = 2 ^ n := by decide +kernel
  exact key t.toNat (by omega)
theorem iL_shl (a : Int) {t : Int} (h0 : 0 ≤ t) (h1 : t < 64) : Int64.ofInt a <<< ((Int32.ofInt t).toInt64 &&& 63) = Int64.ofInt (a * p2 t) := by
  apply Int64.toBitVec_inj.mp
  apply BitVec.eq_of_toNat_eq
  rw [Int64.ofInt_mul, Int64.toBitVec_mul, BitVec.toNat_mul, iL_p2 h0 h1, Int64.toBitVec_shiftLeft]
  rw [BitVec.shiftLeft_eq', BitVec.toNat_shiftLeft, iL_c h0 h1, Nat.shiftLeft_eq]
theorem iL_shr {a t : Int} (ha : InL a) (hb : InL (a / p2 t)) (h0 : 0 ≤ t) (h1 : t < 64) : Int64.ofInt a >>> ((Int32.ofInt t).toInt64 &&& 63) = Int64.ofInt (a / p2 t) := by
  apply Int64.toInt_inj.mp
  rw [iL_toInt hb, ← Int64.toInt_toBitVec, Int64.toBitVec_shiftRight, BitVec.sshiftRight_eq', BitVec.toInt_sshiftRight, iL_c h0 h1, Int64.toInt_toBitVec, iL_toInt ha, Int.shiftRight_eq_div_pow]
  rfl
