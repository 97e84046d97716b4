/-! bits -/
theorem nb_tb (x j : Nat) : x / 2 ^ j % 2 = if x.testBit j then 1 else 0 := by
  rw [Nat.testBit_eq_decide_div_mod_eq]
  by_cases c : x / 2 ^ j % 2 = 1
  · rw [if_pos (decide_eq_true c)]; exact c
  · rw [if_neg (by rw [decide_eq_false c]; decide)]; omega
theorem nb_or (x k j : Nat) : (x ||| 2 ^ k) / 2 ^ j % 2 = if j = k then 1 else x / 2 ^ j % 2 := by
  rw [nb_tb, nb_tb, Nat.testBit_or, Nat.testBit_two_pow]
  by_cases c : j = k
  · rw [if_pos c, decide_eq_true c.symm, Bool.or_true, if_pos rfl]
  · rw [if_neg c, decide_eq_false (fun z => c z.symm), Bool.or_false]
theorem nb_and (x t : Nat) : x &&& 2 ^ t = (x / 2 ^ t % 2) * 2 ^ t := by
  apply Nat.eq_of_testBit_eq
  intro i
  rw [Nat.testBit_and, Nat.testBit_two_pow, nb_tb]
  by_cases c : x.testBit t
  · rw [if_pos c, Nat.one_mul, Nat.testBit_two_pow]
    by_cases d : t = i
    · subst d; rw [c]; rfl
    · rw [decide_eq_false d, Bool.and_false]
  · rw [if_neg c, Nat.zero_mul, Nat.zero_testBit]
    by_cases d : t = i
    · subst d
      cases h : x.testBit t
      · rfl
      · exact absurd h c
    · rw [decide_eq_false d, Bool.and_false]
theorem nb_clear (x t j : Nat) : (x - (x &&& 2 ^ t)) / 2 ^ j % 2 = if j = t then 0 else x / 2 ^ j % 2 := by
  rw [nb_and]
  have hp : 0 < 2 ^ t := Nat.pow_pos (by omega)
  rcases (show x / 2 ^ t % 2 = 0 ∨ x / 2 ^ t % 2 = 1 by omega) with z | z
  · rw [z, Nat.zero_mul, Nat.sub_zero]
    by_cases c : j = t
    · rw [if_pos c, c]; exact z
    · rw [if_neg c]
  · rw [z, Nat.one_mul]
    have hx : 2 ^ t ≤ x := by
      by_cases c : x < 2 ^ t
      · rw [Nat.div_eq_of_lt c] at z; omega
      · omega
    obtain ⟨y, hy⟩ : ∃ y, x = y + 2 ^ t := ⟨x - 2 ^ t, by omega⟩
    rw [hy, Nat.add_sub_cancel]
    have e1 : (y + 2 ^ t) / 2 ^ t = y / 2 ^ t + 1 := by
      have := Nat.add_mul_div_left y 1 hp
      rwa [Nat.mul_one] at this
    rw [hy, e1] at z
    rcases Nat.lt_trichotomy j t with c | c | c
    · rw [if_neg (by omega)]
      obtain ⟨d, hd⟩ : ∃ d, t = j + (d + 1) := ⟨t - j - 1, by omega⟩
      have e : 2 ^ t = 2 ^ j * (2 * 2 ^ d) := by rw [hd, Nat.pow_add, Nat.pow_succ, Nat.mul_comm (2 ^ d) 2]
      rw [e, Nat.add_mul_div_left _ _ (Nat.pow_pos (by omega))]
      omega
    · rw [if_pos c, c]; omega
    · rw [if_neg (by omega)]
      obtain ⟨d, hd⟩ : ∃ d, j = t + (d + 1) := ⟨j - t - 1, by omega⟩
      have e : 2 ^ j = 2 ^ t * (2 * 2 ^ d) := by rw [hd, Nat.pow_add, Nat.pow_succ, Nat.mul_comm (2 ^ d) 2]
      rw [e, ← Nat.div_div_eq_div_mul, ← Nat.div_div_eq_div_mul, ← Nat.div_div_eq_div_mul, ← Nat.div_div_eq_div_mul, e1, show (y / 2 ^ t + 1) / 2 = y / 2 ^ t / 2 by omega]
theorem iB (x : Nat) (j : Int) : (x : Int) / p2 j % 2 = ((x / 2 ^ j.toNat % 2 : Nat) : Int) := by
  simp only [p2]
  rw [Int.natCast_emod, Int.natCast_ediv]
  rfl
theorem bit_or {x k j : Int} (hx : 0 ≤ x) (hk : 0 ≤ k) (hj : 0 ≤ j) : bor x (p2 k) / p2 j % 2 = if j = k then 1 else x / p2 j % 2 := by
  obtain ⟨n, rfl⟩ := Int.eq_ofNat_of_zero_le hx
  have e : bor (n : Int) (p2 k) = ((n ||| 2 ^ k.toNat : Nat) : Int) := by simp only [bor, p2]; rw [Int.toNat_natCast, Int.toNat_natCast]
  rw [e, iB, iB, nb_or]
  by_cases c : j = k
  · rw [if_pos c, if_pos (by omega)]; rfl
  · rw [if_neg c, if_neg (by omega)]
theorem bit_clear {x k j : Int} (hx : 0 ≤ x) (hk : 0 ≤ k) (hj : 0 ≤ j) : (x - band x (p2 k)) / p2 j % 2 = if j = k then 0 else x / p2 j % 2 := by
  obtain ⟨n, rfl⟩ := Int.eq_ofNat_of_zero_le hx
  have hle : n &&& 2 ^ k.toNat ≤ n := Nat.and_le_left
  have e : (n : Int) - band (n : Int) (p2 k) = ((n - (n &&& 2 ^ k.toNat) : Nat) : Int) := by
    have : band (n : Int) (p2 k) = ((n &&& 2 ^ k.toNat : Nat) : Int) := by simp only [band, p2]; rw [Int.toNat_natCast, Int.toNat_natCast]
    rw [this]; omega
  rw [e, iB, iB, nb_clear]
  by_cases c : j = k
  · rw [if_pos c, if_pos (by omega)]; rfl
  · rw [if_neg c, if_neg (by omega)]
/-- a row of small numbers for the proofs -/
theorem WB_r10 {V : Va} {f : Int → Int} (h : WB V 1) (hf : ∀ t, 0 ≤ f t ∧ f t < 65536) : WB (up V 10 f) 1 := by
  have b := WB_BB h
  exact WB_bb h (fun q q0 q1 q2 => up_ne (by omega)) ⟨fun t => by rw [up_same]; exact hf t, b.2.1, b.2.2.1, b.2.2.2.1, b.2.2.2.2⟩
section Ops2
variable {V : Va} {a : Int → Int}
theorem W_proof (hW : WSim V 1 a) {t x : Int} (t0 : 0 ≤ t) (t1 : t < 10) (x0 : 0 ≤ x) (x1 : x < a 1) : V 10 t / p2 x % 2 = a (30 + 6 * x + 5) / p2 t % 2 := by
  have := (hW.2.2.2.1.2.2.2 t t0 t1).2.2 x x0 x1
  rwa [show gNow a x 4 = a (30 + 6 * x + 5) from congrArg a (by omega)] at this
theorem prove_c (hW : WSim V 1 a) (hM : MIv a) (t b : Int) : cProveC V t b ↔ mProveC a t b := by
  have w7 : V 1 7 = a 0 := hW.1.1
  have w5 : V 5 5 = a 1 := hW.2.2.2.1.1
  have i0 := hM.1.2.1
  simp only [cProveC, mProveC, cBoneOk, cTownOk, mBoneOk, mTownOk]
  by_cases c : (0 ≤ b ∧ b < a 1) ∧ 0 ≤ t ∧ t < a 0
  · have k := W_proof hW c.2.1 (by omega) c.1.1 c.1.2
    omega
  · omega
theorem last_told (hM : MIv a) {j : Int} (h0 : 0 ≤ j) (h1 : j + 1 = mKeep a 5) : mKeep a (174 + 82 * j + 1) = a 1 := by
  have h5 := hM.1.2.2.2.2.2.1
  have s5 := mShift_5 h5
  have k5 := mKeep_5 h5
  have e : j = mShift a 5 := by
    have := s5.2.2
    rw [k5] at h1
    split at this <;> split at h1 <;> omega
  rw [e]; exact (mKeep_n0 h5).2
theorem prove_s (hW : WSim V 1 a) (hB : WB V 1) (hM : MIv a) (t b : Int) : StpR (mProveC a t b) (mProveF a t b) V (cProveF V t b) ∧ MIv (mProveF a t b) := by
  have hc := prove_c hW hM t b
  have r0 : 0 ≤ V 11 1 := hW.2.2.2.2.1.2.1
  have r1 : V 11 1 < 20 := hW.2.2.2.2.1.2.2.1
  have w5 : V 5 5 = a 1 := hW.2.2.2.1.1
  have h5 := hM.1.2.2.2.2.2.1
  have i0 := hM.1.2.1
  have i1 := hM.1.2.2.1
  have k0 : mKeep a 0 = a 0 := mKeep_lo (by omega) (by omega) h5
  have k1 : mKeep a 1 = a 1 := mKeep_lo (by omega) (by omega) h5
  simp only [mProveF, cProveF, StpR]
  by_cases c : mProveC a t b
  · rw [if_pos c, if_pos (hc.mpr c)]
    obtain ⟨⟨c1, c2⟩, ⟨c3, c4⟩, c5⟩ := id c
    have hWk := WSim_keep hW hM
    have hBk := WB_keep hB r0 r1 (by omega)
    have hMk := MIv_keep hM
    have vb := W_bone hW hM c3 (by omega)
    obtain ⟨q1, q2, q3, q4⟩ := hWk.2.2.2.1
    have e10 : cRem V 10 = V 10 := cRem_o r0 r1 (by omega)
    have kb : mKeep a (30 + 6 * b + 5) = a (30 + 6 * b + 5) := mKeep_lo (by omega) (by omega) h5
    have hv : 0 ≤ bor (a (30 + 6 * b + 5)) (p2 t) ∧ bor (a (30 + 6 * b + 5)) (p2 t) < p2 (a 0) := bor_lt vb.2.2.2.2.2 ⟨Int.le_of_lt (p2_pos _), p2_lt c1 (by omega)⟩
    have e5 : 30 + 6 * b + 5 = 30 + 6 * b + 1 + 4 := by omega
    have M1 := MIv_set (b := b) (f := 4) (v := bor (a (30 + 6 * b + 5)) (p2 t)) hMk (by omega) (by omega) (by omega) (by omega) (by omega) (fun _ => ⟨by rw [k0]; exact hv, fun j j0 j1 => by rw [last_told hM j0 j1]; omega⟩)
    rw [← e5] at M1
    have vt := hW.2.2.2.1.2.2.2 t c1 (by omega)
    have hvt : 0 ≤ V 10 t ∧ V 10 t < p2 (a 1) := ⟨vt.1, vt.2.1⟩
    have hn : 0 ≤ bor (V 10 t) (p2 b) ∧ bor (V 10 t) (p2 b) < p2 (a 1) := bor_lt hvt ⟨Int.le_of_lt (p2_pos _), p2_lt c3 (by omega)⟩
    have hp16 : p2 (a 1) ≤ 65536 := p2_le (u := 16) (by omega)
    have bk := WB_BB hB
    refine ⟨Or.inl ⟨c, ?_, WB_r10 hBk (fun q => ?_), fun q q0 q1 q2 => ?_, cRem_10 V⟩, M1⟩
    · have u1 : ua (mKeep a) (30 + 6 * b + 5) (bor (a (30 + 6 * b + 5)) (p2 t)) 1 = mKeep a 1 := ua_ne (by omega)
      have u2 : ua (mKeep a) (30 + 6 * b + 5) (bor (a (30 + 6 * b + 5)) (p2 t)) 2 = mKeep a 2 := ua_ne (by omega)
      refine WSim_bones hWk (by omega) (fun q q0 q1 => ua_ne (by omega)) (fun x => ua_ne (by omega)) (fun q hq => ua_ne (by omega)) (fun q q0 q1 q2 => up_ne (by omega)) ?_
      rw [u1, u2]
      have gg : ∀ x e, 0 ≤ e → e < 5 → gNow (ua (mKeep a) (30 + 6 * b + 5) (bor (a (30 + 6 * b + 5)) (p2 t))) x e = gset (gNow (mKeep a)) b 4 (bor (a (30 + 6 * b + 5)) (p2 t)) x e := fun x e e0 e1 => by rw [e5]; exact gNow_set (by omega) ⟨e0, e1⟩
      refine BoSim_g (g := gset (gNow (mKeep a)) b 4 (bor (a (30 + 6 * b + 5)) (p2 t))) (by omega) (fun x e x0 x1 e0 e1 => gg x e e0 e1) ⟨q1, q2, fun x x0 x1 => ?_, fun t' t0 t1 => ?_⟩
      · rw [gset_e (show (0 : Int) ≠ 4 by omega), gset_e (show (1 : Int) ≠ 4 by omega), gset_e (show (2 : Int) ≠ 4 by omega), gset_e (show (3 : Int) ≠ 4 by omega)]
        exact q3 x x0 x1
      · show 0 ≤ ua (cRem V 10) t (bor (V 10 t) (p2 b)) t' ∧ ua (cRem V 10) t (bor (V 10 t) (p2 b)) t' < p2 (mKeep a 1) ∧ ∀ x, 0 ≤ x → x < mKeep a 1 → ua (cRem V 10) t (bor (V 10 t) (p2 b)) t' / p2 x % 2 = _
        have q4' := q4 t' t0 t1
        have ge : ∀ x, 0 ≤ x → x < mKeep a 1 → gNow (mKeep a) x 4 = a (30 + 6 * x + 5) := fun x x0 x1 => by
          rw [gNow_keep h5 ⟨x0, by omega⟩ ⟨by omega, by omega⟩]; exact congrArg a (by omega)
        by_cases ct : t' = t
        · subst ct
          rw [ua_same, k1]
          refine ⟨hn.1, hn.2, fun x x0 x1 => ?_⟩
          rw [bit_or hvt.1 c3 x0]
          by_cases cx : x = b
          · subst cx
            rw [if_pos rfl, gset_y, bit_or vb.2.2.2.2.2.1 t0 t0, if_pos rfl]
          · rw [if_neg cx, gset_x cx, ge x x0 (by omega)]
            exact W_proof hW t0 t1 x0 x1
        · rw [ua_ne ct]
          refine ⟨q4'.1, q4'.2.1, fun x x0 x1 => ?_⟩
          by_cases cx : x = b
          · subst cx
            rw [gset_y, bit_or vb.2.2.2.2.2.1 c1 t0, if_neg ct]
            have := q4'.2.2 x x0 x1
            rw [ge x x0 x1] at this
            exact this
          · rw [gset_x cx]; exact q4'.2.2 x x0 x1
    · by_cases cq : q = t
      · rw [cq, ua_same]; omega
      · rw [ua_ne cq, e10]; exact bk.1 q
    · rw [up_ne (by omega)]
      exact FrN_rem r0 r1 q q0 q1 q2
  · rw [if_neg c, if_neg (fun z => c (hc.mp z))]
    exact ⟨Or.inr ⟨c, rfl⟩, hM⟩
/-- how many PROOFS a TOWN has -/
theorem proofs_eq (hW : WSim V 1 a) (hM : MIv a) {t : Int} (t0 : 0 ≤ t) (t1 : t < 10) : bN (V 10 t) 16 = mProofs a t (a 1) := by
  have i1 := hM.1.2.2.1
  have vt := hW.2.2.2.1.2.2.2 t t0 t1
  simp only [bN, mProofs]
  rw [sumT_ext (n := a 1) (m := 16) _ (by omega) (by omega) (fun k k0 k1 => div_p2_0 (n := a 1) vt.1 vt.2.1 k0)]
  exact sumT_c (fun k k0 k1 => W_proof hW t0 t1 k0 k1)
end Ops2
