/-! ABOUT and SAME: the same answers -/
section SimA
variable {V : Va} {a : Int → Int}
theorem bonesAt_eq (hW : WSim V 1 a) (t : Int) : cBonesAt V t (V 5 5) = mBonesAt a t (a 1) := by
  have e := hW.2.2.2.1
  simp only [cBonesAt, mBonesAt]
  rw [show V 5 5 = a 1 from e.1]
  refine sumT_c (fun k k0 k1 => ?_)
  have h := (e.2.2.1 k k0 k1).2.2.1
  rw [show (30 + 6 * k + 3 : Int) = 30 + 6 * k + 1 + 2 by omega, show V 8 k = a (30 + 6 * k + 1 + 2) from h]
theorem about_eq (hW : WSim V 1 a) (hM : MIv a) (T what : Int) : (if 10 ≤ what then cAboutT V what else if what = 0 then V 1 7 else if what = 1 then V 5 5 else if what = 2 then V 5 6 else if what = 3 then V 1 8 else if what = 4 then V 1 9 else if what = 5 then V 11 2 else if what = 6 then V 134 4 else if what = 7 then V 134 5 else if what = 8 then V 134 6 else if what = 9 then T else -2) = mAbout a T what := by
  have w7 : V 1 7 = a 0 := hW.1.1
  have i0 := hM.1.2.1
  simp only [mAbout]
  by_cases c : 10 ≤ what
  · rw [if_pos c]
    simp only [cAboutT, cTownOk]
    by_cases d : what ≤ 9 + a 0
    · rw [if_pos (show 10 ≤ what ∧ what ≤ 9 + a 0 from ⟨c, d⟩), if_pos (by omega)]
      exact proofs_eq hW hM (by omega) (by omega)
    · rw [if_neg (show ¬ (10 ≤ what ∧ what ≤ 9 + a 0) from fun z => d z.2), if_neg (by omega)]
      by_cases e : 20 ≤ what ∧ what ≤ 19 + a 0
      · rw [if_pos e, if_neg (by omega)]
        exact bonesAt_eq hW _
      · rw [if_neg e, if_pos (by omega), if_neg (by omega), if_neg (by omega)]
  · rw [if_neg c, if_neg (show ¬ (10 ≤ what ∧ what ≤ 9 + a 0) from fun z => c z.1), if_neg (show ¬ (20 ≤ what ∧ what ≤ 19 + a 0) by omega)]
    by_cases d : 0 ≤ what ∧ what ≤ 8
    · rw [if_pos d]
      have h : what = 0 ∨ what = 1 ∨ what = 2 ∨ what = 3 ∨ what = 4 ∨ what = 5 ∨ what = 6 ∨ what = 7 ∨ what = 8 := by omega
      have b := hW.2.2.2.1
      have q := hW.2.2.2.2.2
      have r := hW.2.2.2.2.1
      rcases h with h | h | h | h | h | h | h | h | h
      · rw [if_pos h, h]; exact w7
      · rw [if_neg (by omega), if_pos h, h]; exact b.1
      · rw [if_neg (by omega), if_neg (by omega), if_pos h, h]; exact b.2.1
      · rw [if_neg (by omega), if_neg (by omega), if_neg (by omega), if_pos h, h]; exact hW.1.2.1
      · rw [if_neg (by omega), if_neg (by omega), if_neg (by omega), if_neg (by omega), if_pos h, h]; exact hW.1.2.2
      · rw [if_neg (by omega), if_neg (by omega), if_neg (by omega), if_neg (by omega), if_neg (by omega), if_pos h, h]; exact r.1
      · rw [if_neg (by omega), if_neg (by omega), if_neg (by omega), if_neg (by omega), if_neg (by omega), if_neg (by omega), if_pos h, h]; exact q.1
      · rw [if_neg (by omega), if_neg (by omega), if_neg (by omega), if_neg (by omega), if_neg (by omega), if_neg (by omega), if_neg (by omega), if_pos h, h]; exact q.2.1
      · rw [if_neg (by omega), if_neg (by omega), if_neg (by omega), if_neg (by omega), if_neg (by omega), if_neg (by omega), if_neg (by omega), if_neg (by omega), if_pos h, h]; exact q.2.2.1
    · rw [if_neg d, if_neg (by omega), if_neg (by omega), if_neg (by omega), if_neg (by omega), if_neg (by omega), if_neg (by omega), if_neg (by omega), if_neg (by omega), if_neg (by omega)]
theorem lt_mul_div {m d p : Int} (hp : 1 ≤ p) : m < (d + 1) * p ↔ m / p ≤ d := by
  rw [← Int.ediv_lt_iff_lt_mul (by omega)]
  omega
theorem same_eq (hW : WSim V 1 a) (hM : MIv a) (p q : Int) : cSame V p q ↔ mSame a p q := by
  have s4 : V 134 4 = a 6 := hW.2.2.2.2.2.1
  have s5 : V 134 5 = a 7 := hW.2.2.2.2.2.2.1
  have s6 : V 134 6 = a 8 := hW.2.2.2.2.2.2.2.1
  have sr := hW.2.2.2.2.2.2.2.2
  simp only [cSame, mSame, cSeenOk, mSeenOk]
  rw [s4, s5, s6]
  by_cases c : 0 ≤ p ∧ p ≤ a 6 - 1
  · by_cases d : 0 ≤ q ∧ q ≤ a 6 - 1
    · have h := sr p c.1 (by omega)
      have g := sr q d.1 (by omega)
      have hq := hM.2.2.2.2.2.2.2.2.2 p c.1 (by omega)
      have gq := hM.2.2.2.2.2.2.2.2.2 q d.1 (by omega)
      rw [show V 135 p = a (126 + 4 * p) from h.1, show V 136 p = a (126 + 4 * p + 1) from h.2.1, show V 137 p = a (126 + 4 * p + 2) from h.2.2.1, show V 138 p = a (126 + 4 * p + 3) from h.2.2.2, show V 135 q = a (126 + 4 * q) from g.1, show V 136 q = a (126 + 4 * q + 1) from g.2.1, show V 137 q = a (126 + 4 * q + 2) from g.2.2.1, show V 138 q = a (126 + 4 * q + 3) from g.2.2.2]
      rw [(cMiles_eq hW hM hq.1.1 hq.1.2 gq.1.1 gq.1.2).1]
      rw [lt_mul_div (m := mMiles a (a (126 + 4 * p)) (a (126 + 4 * q))) hM.2.2.2.1.2.2.1]
    · exact ⟨fun z => absurd z.2.1 d, fun z => absurd z.2.1 d⟩
  · exact ⟨fun z => absurd z.1 c, fun z => absurd z.1 c⟩
end SimA
