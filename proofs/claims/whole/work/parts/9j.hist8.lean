/-! one choice -/
def chS (cs ws : Int → Int) (s p : Int) (r : Int × Int) : Int × Int := (if cs s + p < r.1 then cs s + p else r.1, if (cs s + p) / p2 48 = r.1 / p2 48 then r.2 + ws s else if cs s + p < r.1 then ws s else r.2)
def chF (cs ws bt pc : Int → Int) (ah : Int) : Nat → Int × Int
  | 0 => (cs ah + 4503599627370496, ws ah)
  | k + 1 => if band ah (bt k) = 0 then chS cs ws (bor ah (bt k)) (pc k) (chF cs ws bt pc ah k) else chF cs ws bt pc ah k
theorem chF_on {cs ws bt pc : Int → Int} {ah k : Int} (h0 : 0 ≤ k) (h : band ah (bt k) = 0) : chF cs ws bt pc ah (k + 1).toNat = chS cs ws (bor ah (bt k)) (pc k) (chF cs ws bt pc ah k.toNat) := by
  rw [show (k + 1).toNat = k.toNat + 1 by omega]
  simp only [chF]
  rw [show ((k.toNat : Nat) : Int) = k by omega, if_pos h]
theorem chF_no {cs ws bt pc : Int → Int} {ah k : Int} (h0 : 0 ≤ k) (h : ¬ band ah (bt k) = 0) : chF cs ws bt pc ah (k + 1).toNat = chF cs ws bt pc ah k.toNat := by
  rw [show (k + 1).toNat = k.toNat + 1 by omega]
  simp only [chF]
  rw [show ((k.toNat : Nat) : Int) = k by omega, if_neg h]
theorem chF_on1 {cs ws bt pc : Int → Int} {ah k b w : Int} (h0 : 0 ≤ k) (h : band ah (bt k) = 0) (e : chF cs ws bt pc ah k.toNat = (b, w)) (c : (cs (bor ah (bt k)) + pc k) / p2 48 = b / p2 48) : chF cs ws bt pc ah (k + 1).toNat = (if cs (bor ah (bt k)) + pc k < b then cs (bor ah (bt k)) + pc k else b, w + ws (bor ah (bt k))) := by
  rw [chF_on h0 h, e]; simp only [chS]; rw [if_pos c]
theorem chF_on2 {cs ws bt pc : Int → Int} {ah k b w : Int} (h0 : 0 ≤ k) (h : band ah (bt k) = 0) (e : chF cs ws bt pc ah k.toNat = (b, w)) (c : ¬ (cs (bor ah (bt k)) + pc k) / p2 48 = b / p2 48) (d : cs (bor ah (bt k)) + pc k < b) : chF cs ws bt pc ah (k + 1).toNat = (if cs (bor ah (bt k)) + pc k < b then cs (bor ah (bt k)) + pc k else b, ws (bor ah (bt k))) := by
  rw [chF_on h0 h, e]; simp only [chS]; rw [if_neg c, if_pos d, if_pos d]
theorem chF_on3 {cs ws bt pc : Int → Int} {ah k b w : Int} (h0 : 0 ≤ k) (h : band ah (bt k) = 0) (e : chF cs ws bt pc ah k.toNat = (b, w)) (c : ¬ (cs (bor ah (bt k)) + pc k) / p2 48 = b / p2 48) (d : ¬ cs (bor ah (bt k)) + pc k < b) : chF cs ws bt pc ah (k + 1).toNat = (if cs (bor ah (bt k)) + pc k < b then cs (bor ah (bt k)) + pc k else b, w) := by
  rw [chF_on h0 h, e]; simp only [chS]; rw [if_neg c, if_neg d, if_neg d]
theorem chF_r {b f : Int} (hb : 0 ≤ b ∧ b ≤ 2000000000000000000) (hf : 0 ≤ f) : 0 ≤ (if f < b then f else b) ∧ (if f < b then f else b) ≤ 2000000000000000000 := by
  split <;> omega
