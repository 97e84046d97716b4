/-! what is read of the HISTORIES -/
theorem band_15 {x : Int} (h : 0 ≤ x) : band x 15 = x % 16 := by
  obtain ⟨n, rfl⟩ := Int.eq_ofNat_of_zero_le h
  have e : band (n : Int) 15 = ((n &&& (2 ^ 4 - 1) : Nat) : Int) := by simp only [band]; rw [Int.toNat_natCast]; rfl
  rw [e, Nat.and_two_pow_sub_one_eq_mod]
  omega
theorem ps_b {a : Int → Int} {C W : Int} (h : PsE a C W) : C / p2 52 = (mDP (smf a) a (a 6) (a 6).toNat 0).1 / 100 := by
  obtain ⟨h1, h2, h3, h4, h5, h6, h7⟩ := h
  rw [show p2 52 = 4503599627370496 by decide, h1]
  simp only [pk]
  omega
theorem ps_t {a : Int → Int} {C W : Int} (h : PsE a C W) (hC : 0 ≤ C) : band (C / p2 48) 15 = (mDP (smf a) a (a 6) (a 6).toNat 0).1 % 100 := by
  obtain ⟨h1, h2, h3, h4, h5, h6, h7⟩ := h
  rw [show p2 48 = 281474976710656 by decide, band_15 (by omega), h1]
  simp only [pk]
  omega
theorem ps_l {a : Int → Int} {C W : Int} (h : PsE a C W) (hC : 0 ≤ C) (i6 : 0 ≤ a 6 ∧ a 6 ≤ 12) {one : Int} (o0 : 0 ≤ one) (o1 : one < a 6) : band (C / p2 (4 * (11 - one))) 15 - 1 = lCh (smf a) a (a 6) one (lSet (smf a) a (a 6) one.toNat) := by
  have hp := p2_pos (4 * (11 - one))
  rw [band_15 (Int.ediv_nonneg hC (by omega)), h.1]
  simp only [pk]
  obtain ⟨n, hn⟩ : ∃ n : Nat, a 6 = n := ⟨(a 6).toNat, by omega⟩
  obtain ⟨i, hi⟩ : ∃ i : Nat, one = i := ⟨one.toNat, by omega⟩
  rw [hn, hi, show ((n : Int)).toNat = n by omega, show ((i : Int)).toNat = i by omega]
  rw [led_eq (by omega) (by omega)]
  omega
def PsI (a : Int → Int) (V : Va) : Prop := CB18 (V 301) ∧ PsC a V ∧ InR (V 297 7) ∧ V 297 7 ≤ V 1 10
theorem PsI_of {a : Int → Int} {V W : Va} (h : FrP V W ∧ CB18 (W 301) ∧ PsE a (W 301 0) (W 302 0) ∧ W 297 7 = W 1 10) (hc : 0 ≤ V 1 10 ∧ V 1 10 ≤ 1000000) : FrP V W ∧ PsI a W := by
  refine ⟨h.1, h.2.1, fun _ => h.2.2.1, ?_, by rw [h.2.2.2]; exact Int.le_refl _⟩
  rw [h.2.2.2, h.1 1 (by omega)]
  exact inr (by omega)
theorem dv_inl {C t : Int} (h : 0 ≤ C ∧ C ≤ 1000000000000000000) : InL (C / p2 t) := by
  have hp := p2_pos t
  have h1 := Int.ediv_nonneg h.1 (show 0 ≤ p2 t by omega)
  have h2 := Int.ediv_le_self (p2 t) h.1
  exact inl_ (by omega)
