/-! how the class reckons: one stack, truths below values -/
def encO (o v : Int) : Int := if o = 0 then v else if o = 1 then -(32 + v) else if o = 2 then -40 else if o < 7 then -(o + 3) else if o = 10 then -10 else if o = 11 then -14 else if o = 12 then -11 else if o = 13 then -15 else if o = 14 then -12 else if o = 15 then -13 else if o = 20 then -29 else if o = 21 then -30 else -31
def cJoin (o a b : Int) : Int := if o = 6 then clip (a + b) else if o = 7 then clip (a - b) else if o = 8 then clip (a * b) else if o = 9 then (if b = 0 then 0 else a.tdiv b) else if o = 10 then (if a < b then 1 else 0) else if o = 11 then (if b < a then 1 else 0) else if o = 12 then (if a = b then 1 else 0) else if o = 13 then (if a ≠ b then 1 else 0) else if o = 14 then (if a ≤ b then 1 else 0) else if o = 15 then (if b ≤ a then 1 else 0) else if o = 30 then band a b else bor a b
def cName (V : Va) (n : Int) : Int := if n = 32 then V 4 (V 287 2) else if n = 33 then V 6 (V 287 2) else if n = 34 then V 8 (V 287 2) else if n = 35 then cProofsOf V (V 287 2) (V 1 7) else if n = 36 then V 5 6 else if n = 37 then V 4 (V 287 3) else if n = 38 then V 6 (V 287 3) else V 8 (V 287 3)
def dOK2 (op ag : Int → Int) (N T : Int) : Nat → Int → Int → Int → Prop
  | 0, _, n, t => n = N ∧ t = T
  | m + 1, i, n, t => (op i = 0 ∧ 0 ≤ ag i ∧ ag i ≤ 9999 ∧ n < 330 ∧ dOK2 op ag N T m (i + 1) (n + 1) t) ∨ (op i = 1 ∧ 0 ≤ ag i ∧ ag i ≤ 7 ∧ n < 330 ∧ dOK2 op ag N T m (i + 1) (n + 1) t) ∨ (op i = 2 ∧ 1 ≤ n ∧ dOK2 op ag N T m (i + 1) n t) ∨ (3 ≤ op i ∧ op i ≤ 6 ∧ 2 ≤ n ∧ dOK2 op ag N T m (i + 1) (n - 1) t) ∨ (10 ≤ op i ∧ op i ≤ 15 ∧ n = 2 ∧ t < 330 ∧ dOK2 op ag N T m (i + 1) 0 (t + 1)) ∨ (op i = 20 ∧ 1 ≤ t ∧ n = 0 ∧ dOK2 op ag N T m (i + 1) n t) ∨ ((op i = 21 ∨ op i = 22) ∧ 2 ≤ t ∧ n = 0 ∧ dOK2 op ag N T m (i + 1) n (t - 1))
theorem dOK2_1 {op ag : Int → Int} {N T : Int} : ∀ (m : Nat) (i n t : Int), dOK2 op ag N T m i n t → dOK op ag N T m i n t
  | 0, _, _, _, h => h
  | m + 1, i, n, t, h => by
    simp only [dOK2] at h
    simp only [dOK]
    rcases h with h | h | h | h | h | h | h
    · have := dOK2_1 m _ _ _ h.2.2.2.2
      exact ⟨by omega, fun _ => ⟨h.2.2.2.1, h.2.1, fun _ => h.2.2.1, by omega, this⟩, by omega, by omega, by omega, by omega, by omega⟩
    · have := dOK2_1 m _ _ _ h.2.2.2.2
      exact ⟨by omega, fun _ => ⟨h.2.2.2.1, h.2.1, by omega, fun _ => h.2.2.1, this⟩, by omega, by omega, by omega, by omega, by omega⟩
    · have := dOK2_1 m _ _ _ h.2.2
      exact ⟨by omega, by omega, fun _ => ⟨h.2.1, this⟩, by omega, by omega, by omega, by omega⟩
    · have := dOK2_1 m _ _ _ h.2.2.2
      exact ⟨by omega, by omega, by omega, fun _ _ => ⟨h.2.2.1, this⟩, by omega, by omega, by omega⟩
    · have := dOK2_1 m _ _ _ h.2.2.2.2
      exact ⟨by omega, by omega, by omega, by omega, fun _ _ => ⟨by omega, h.2.2.2.1, by rw [h.2.2.1]; exact this⟩, by omega, by omega⟩
    · have := dOK2_1 m _ _ _ h.2.2.2
      exact ⟨by omega, by omega, by omega, by omega, by omega, fun _ => ⟨h.2.1, h.2.2.1, this⟩, by omega⟩
    · have := dOK2_1 m _ _ _ h.2.2.2
      exact ⟨by omega, by omega, by omega, by omega, by omega, by omega, fun _ => ⟨h.2.1, h.2.2.1, this⟩⟩
theorem enc_0 {o v : Int} (h : o = 0) : encO o v = v := by subst h; rfl
theorem enc_1 {o v : Int} (h : o = 1) : encO o v = -(32 + v) := by subst h; rfl
theorem enc_2 {o v : Int} (h : o = 2) : encO o v = -40 := by subst h; rfl
theorem enc_3 {o v : Int} (h0 : 3 ≤ o) (h1 : o ≤ 6) : encO o v = -(o + 3) := by
  rcases (show o = 3 ∨ o = 4 ∨ o = 5 ∨ o = 6 by omega) with z | z | z | z <;> subst z <;> rfl
theorem enc_10 {o v : Int} (h0 : 10 ≤ o) (h1 : o ≤ 15) : -15 ≤ encO o v ∧ encO o v ≤ -10 := by
  rcases (show o = 10 ∨ o = 11 ∨ o = 12 ∨ o = 13 ∨ o = 14 ∨ o = 15 by omega) with z | z | z | z | z | z <;> subst z
  · have y : encO 10 v = -10 := rfl
    omega
  · have y : encO 11 v = -14 := rfl
    omega
  · have y : encO 12 v = -11 := rfl
    omega
  · have y : encO 13 v = -15 := rfl
    omega
  · have y : encO 14 v = -12 := rfl
    omega
  · have y : encO 15 v = -13 := rfl
    omega
theorem enc_20 {o v : Int} (h : o = 20) : encO o v = -29 := by subst h; rfl
theorem enc_21 {o v : Int} (h : o = 21 ∨ o = 22) : encO o v = -(o + 9) := by rcases h with z | z <;> subst z <;> rfl
def RkI (nm op ag : Int → Int) (N T fr to : Int) (i top : Int) (g : Int → Int) : Prop := ∃ v r n t, 0 ≤ n ∧ 0 ≤ t ∧ top = n + t ∧ top ≤ i - fr ∧ dOK2 op ag N T (to - i).toNat i n t ∧ (∀ q, 0 ≤ q → q < t → g q = r q) ∧ (∀ q, 0 ≤ q → q < n → g (t + q) = v q) ∧ (∀ q, 0 ≤ q → q < n → -1000000 ≤ v q ∧ v q ≤ 1000000) ∧ TRb r ∧ mRun nm op ag (to - i).toNat i (v, r, n, t) = mRun nm op ag (to - fr).toNat fr (zf, zf, 0, 0)
theorem RkI_0 {nm op ag g : Int → Int} {N T fr to : Int} (h : dOK2 op ag N T (to - fr).toNat fr 0 0) : RkI nm op ag N T fr to fr 0 g :=
  ⟨zf, zf, 0, 0, by omega, by omega, by omega, by omega, h, fun q h0 h1 => by omega, fun q h0 h1 => by omega, fun q h0 h1 => by omega, fun _ => Or.inl rfl, rfl⟩
section Rk
variable {nm op ag g : Int → Int} {N T fr to i top e : Int}
theorem RkI_end (I : RkI nm op ag N T fr to i top g) (hi : to ≤ i) (hNT : (N = 1 ∧ T = 0) ∨ (N = 0 ∧ T = 1)) : g 0 = (if N = 1 then (mRun nm op ag (to - fr).toNat fr (zf, zf, 0, 0)).1 0 else (mRun nm op ag (to - fr).toNat fr (zf, zf, 0, 0)).2.1 0) := by
  obtain ⟨v, r, n, t, h1, h2, h3, h4, h5, h6, h7, h8, h9, h10⟩ := I
  rw [show (to - i).toNat = 0 by omega] at h5 h10
  rw [← h10]
  simp only [dOK2] at h5
  simp only [mRun]
  rcases hNT with z | z
  · rw [if_pos z.1]
    have := h7 0 (by omega) (by omega)
    rw [show t + 0 = 0 by omega] at this
    exact this
  · rw [if_neg (by omega)]
    exact h6 0 (by omega) (by omega)
/-- a number -/
theorem RkI_num (I : RkI nm op ag N T fr to i top g) (hi : i < to) (he : e = encO (op i) (ag i)) (h : -e ≤ 0) : 0 ≤ top ∧ top ≤ i - fr ∧ RkI nm op ag N T fr to (i + 1) (top + 1) (ua g top (- -e)) := by
  obtain ⟨v, r, n, t, h1, h2, h3, h4, h5, h6, h7, h8, h9, h10⟩ := I
  rw [show (to - i).toNat = (to - (i + 1)).toNat + 1 by omega] at h5 h10
  simp only [dOK2] at h5
  have o0 : op i = 0 ∧ 0 ≤ ag i ∧ ag i ≤ 9999 ∧ dOK2 op ag N T (to - (i + 1)).toNat (i + 1) (n + 1) t := by
    rcases h5 with z | z | z | z | z | z | z
    · exact ⟨z.1, z.2.1, z.2.2.1, z.2.2.2.2⟩
    · exfalso; have y := enc_1 (v := ag i) z.1; omega
    · exfalso; have y := enc_2 (v := ag i) z.1; omega
    · exfalso; have y := enc_3 (v := ag i) z.1 z.2.1; omega
    · exfalso; have y := enc_10 (v := ag i) z.1 z.2.1; omega
    · exfalso; have y := enc_20 (v := ag i) z.1; omega
    · exfalso; have y := enc_21 (v := ag i) z.1; omega
  have ee : e = ag i := by rw [he]; simp only [encO]; rw [if_pos o0.1]
  refine ⟨by omega, h4, ua v n (ag i), r, n + 1, t, by omega, h2, by omega, by omega, o0.2.2.2, fun q q0 q1 => ?_, fun q q0 q1 => ?_, fun q q0 q1 => ?_, h9, ?_⟩
  · rw [ua_ne (by omega)]; exact h6 q q0 q1
  · by_cases c : q = n
    · rw [c, show t + n = top by omega, ua_same, ua_same, ee]; omega
    · rw [ua_ne (by omega), ua_ne c]; exact h7 q q0 (by omega)
  · by_cases c : q = n
    · rw [c, ua_same]; omega
    · rw [ua_ne c]; exact h8 q q0 (by omega)
  · rw [← h10]
    simp only [mRun]
    rw [show mEv nm (op i) (ag i) (v, r, n, t) = (ua v n (ag i), r, n + 1, t) by simp only [mEv]; rw [if_pos (by omega), if_pos o0.1]]
theorem RkI_name (hnm : ∀ k, 0 ≤ k → k ≤ 7 → -1 ≤ nm k ∧ nm k < 65536) (I : RkI nm op ag N T fr to i top g) (hi : i < to) (he : e = encO (op i) (ag i)) (h : 32 ≤ -e ∧ -e ≤ 39) : 0 ≤ top ∧ top ≤ i - fr ∧ RkI nm op ag N T fr to (i + 1) (top + 1) (ua g top (nm (-e - 32))) := by
  obtain ⟨v, r, n, t, h1, h2, h3, h4, h5, h6, h7, h8, h9, h10⟩ := I
  rw [show (to - i).toNat = (to - (i + 1)).toNat + 1 by omega] at h5 h10
  simp only [dOK2] at h5
  have o0 : op i = 1 ∧ 0 ≤ ag i ∧ ag i ≤ 7 ∧ dOK2 op ag N T (to - (i + 1)).toNat (i + 1) (n + 1) t := by
    rcases h5 with z | z | z | z | z | z | z
    · exfalso; have y := enc_0 (v := ag i) z.1; omega
    · exact ⟨z.1, z.2.1, z.2.2.1, z.2.2.2.2⟩
    · exfalso; have y := enc_2 (v := ag i) z.1; omega
    · exfalso; have y := enc_3 (v := ag i) z.1 z.2.1; omega
    · exfalso; have y := enc_10 (v := ag i) z.1 z.2.1; omega
    · exfalso; have y := enc_20 (v := ag i) z.1; omega
    · exfalso; have y := enc_21 (v := ag i) z.1; omega
  have ee : -e - 32 = ag i := by rw [he]; simp only [encO]; rw [if_neg (by omega), if_pos o0.1]; omega
  rw [ee]
  refine ⟨by omega, h4, ua v n (nm (ag i)), r, n + 1, t, by omega, h2, by omega, by omega, o0.2.2.2, fun q q0 q1 => ?_, fun q q0 q1 => ?_, fun q q0 q1 => ?_, h9, ?_⟩
  · rw [ua_ne (by omega)]; exact h6 q q0 q1
  · by_cases c : q = n
    · rw [c, show t + n = top by omega, ua_same, ua_same]
    · rw [ua_ne (by omega), ua_ne c]; exact h7 q q0 (by omega)
  · by_cases c : q = n
    · rw [c, ua_same]; have := hnm (ag i) o0.2.1 o0.2.2.1; omega
    · rw [ua_ne c]; exact h8 q q0 (by omega)
  · rw [← h10]
    simp only [mRun]
    rw [show mEv nm (op i) (ag i) (v, r, n, t) = (ua v n (nm (ag i)), r, n + 1, t) by simp only [mEv]; rw [if_pos (by omega), if_neg (by omega)]]
theorem RkI_neg (I : RkI nm op ag N T fr to i top g) (hi : i < to) (he : e = encO (op i) (ag i)) (h : -e = 40) : 0 < top ∧ top ≤ i - fr ∧ RkI nm op ag N T fr to (i + 1) top (ua g (top - 1) (-(g (top - 1)))) := by
  obtain ⟨v, r, n, t, h1, h2, h3, h4, h5, h6, h7, h8, h9, h10⟩ := I
  rw [show (to - i).toNat = (to - (i + 1)).toNat + 1 by omega] at h5 h10
  simp only [dOK2] at h5
  have o0 : op i = 2 ∧ 1 ≤ n ∧ dOK2 op ag N T (to - (i + 1)).toNat (i + 1) n t := by
    rcases h5 with z | z | z | z | z | z | z
    · exfalso; have y := enc_0 (v := ag i) z.1; omega
    · exfalso; have y := enc_1 (v := ag i) z.1; omega
    · exact z
    · exfalso; have y := enc_3 (v := ag i) z.1 z.2.1; omega
    · exfalso; have y := enc_10 (v := ag i) z.1 z.2.1; omega
    · exfalso; have y := enc_20 (v := ag i) z.1; omega
    · exfalso; have y := enc_21 (v := ag i) z.1; omega
  have gv := h7 (n - 1) (by omega) (by omega)
  rw [show t + (n - 1) = top - 1 by omega] at gv
  have bv := h8 (n - 1) (by omega) (by omega)
  refine ⟨by omega, h4, ua v (n - 1) (-(v (n - 1))), r, n, t, by omega, h2, by omega, by omega, o0.2.2, fun q q0 q1 => ?_, fun q q0 q1 => ?_, fun q q0 q1 => ?_, h9, ?_⟩
  · rw [ua_ne (by omega)]; exact h6 q q0 q1
  · by_cases c : q = n - 1
    · rw [c, show t + (n - 1) = top - 1 by omega, ua_same, ua_same, gv]
    · rw [ua_ne (by omega), ua_ne c]; exact h7 q q0 (by omega)
  · by_cases c : q = n - 1
    · rw [c, ua_same]; omega
    · rw [ua_ne c]; exact h8 q q0 (by omega)
  · rw [← h10]
    simp only [mRun]
    rw [show mEv nm (op i) (ag i) (v, r, n, t) = (ua v (n - 1) (-(v (n - 1))), r, n, t) by simp only [mEv]; rw [if_neg (by omega), if_pos o0.1]]
theorem RkI_not (I : RkI nm op ag N T fr to i top g) (hi : i < to) (he : e = encO (op i) (ag i)) (h : -e = 29) : 0 < top ∧ top ≤ i - fr ∧ RkI nm op ag N T fr to (i + 1) top (ua g (top - 1) (1 - g (top - 1))) := by
  obtain ⟨v, r, n, t, h1, h2, h3, h4, h5, h6, h7, h8, h9, h10⟩ := I
  rw [show (to - i).toNat = (to - (i + 1)).toNat + 1 by omega] at h5 h10
  simp only [dOK2] at h5
  have o0 : op i = 20 ∧ 1 ≤ t ∧ n = 0 ∧ dOK2 op ag N T (to - (i + 1)).toNat (i + 1) n t := by
    rcases h5 with z | z | z | z | z | z | z
    · exfalso; have y := enc_0 (v := ag i) z.1; omega
    · exfalso; have y := enc_1 (v := ag i) z.1; omega
    · exfalso; have y := enc_2 (v := ag i) z.1; omega
    · exfalso; have y := enc_3 (v := ag i) z.1 z.2.1; omega
    · exfalso; have y := enc_10 (v := ag i) z.1 z.2.1; omega
    · exact z
    · exfalso; have y := enc_21 (v := ag i) z.1; omega
  have gv := h6 (t - 1) (by omega) (by omega)
  rw [show t - 1 = top - 1 by omega] at gv
  have bv := h9 (top - 1)
  have key : (if r (t - 1) = 0 then (1 : Int) else 0) = 1 - g (top - 1) := by
    rw [gv, show t - 1 = top - 1 by omega]
    rcases bv with z | z <;> rw [z] <;> rfl
  refine ⟨by omega, h4, v, ua r (t - 1) (if r (t - 1) = 0 then 1 else 0), n, t, by omega, h2, by omega, by omega, o0.2.2.2, fun q q0 q1 => ?_, fun q q0 q1 => by omega, fun q q0 q1 => by omega, ?_, ?_⟩
  · by_cases c : q = t - 1
    · rw [c, show t - 1 = top - 1 by omega, ua_same, ua_same, ← key, show t - 1 = top - 1 by omega]
    · rw [ua_ne (by omega), ua_ne c]; exact h6 q q0 q1
  · intro q
    simp only [ua]
    split
    · exact ite_01 _
    · exact h9 q
  · rw [← h10]
    simp only [mRun]
    rw [show mEv nm (op i) (ag i) (v, r, n, t) = (v, ua r (t - 1) (if r (t - 1) = 0 then 1 else 0), n, t) by simp only [mEv]; rw [if_neg (by omega), if_neg (by omega), if_neg (by omega), if_neg (by omega), if_pos o0.1]]
theorem clip_id {x : Int} (h : -1000000 ≤ x ∧ x ≤ 1000000) : clip x = x := by
  simp only [clip]
  rw [if_neg (by omega), if_neg (by omega)]
theorem cJoin_two {o a b : Int} (ho : 3 ≤ o ∧ o ≤ 6) (ha : -1000000 ≤ a ∧ a ≤ 1000000) : cJoin (o + 3) a b = mTwo o a b := by
  rcases (show o = 3 ∨ o = 4 ∨ o = 5 ∨ o = 6 by omega) with z | z | z | z <;> subst z
  · rfl
  · rfl
  · rfl
  · show (if b = 0 then 0 else a.tdiv b) = (if b = 0 then 0 else clip (a.tdiv b))
    rw [clip_id (tdiv_r ha)]
theorem ite_iff {p q : Prop} [Decidable p] [Decidable q] (h : p ↔ q) : (if p then (1 : Int) else 0) = if q then 1 else 0 := by
  by_cases c : p
  · rw [if_pos c, if_pos (h.mp c)]
  · rw [if_neg c, if_neg (fun z => c (h.mpr z))]
theorem cJoin_ask {o a b : Int} (ho : 10 ≤ o ∧ o ≤ 15) : cJoin (-encO o 0) a b = if mAsk o a b then 1 else 0 := by
  rcases (show o = 10 ∨ o = 11 ∨ o = 12 ∨ o = 13 ∨ o = 14 ∨ o = 15 by omega) with z | z | z | z | z | z <;> subst z
  · exact ite_iff (p := a < b) ⟨fun h => Or.inl ⟨rfl, h⟩, fun h => by rcases h with h | h | h | h | h | h <;> omega⟩
  · exact ite_iff (p := a ≤ b) ⟨fun h => Or.inr (Or.inl ⟨rfl, h⟩), fun h => by rcases h with h | h | h | h | h | h <;> omega⟩
  · exact ite_iff (p := b < a) ⟨fun h => Or.inr (Or.inr (Or.inl ⟨rfl, h⟩)), fun h => by rcases h with h | h | h | h | h | h <;> omega⟩
  · exact ite_iff (p := b ≤ a) ⟨fun h => Or.inr (Or.inr (Or.inr (Or.inl ⟨rfl, h⟩))), fun h => by rcases h with h | h | h | h | h | h <;> omega⟩
  · exact ite_iff (p := a = b) ⟨fun h => Or.inr (Or.inr (Or.inr (Or.inr (Or.inl ⟨rfl, h⟩)))), fun h => by rcases h with h | h | h | h | h | h <;> omega⟩
  · exact ite_iff (p := a ≠ b) ⟨fun h => Or.inr (Or.inr (Or.inr (Or.inr (Or.inr ⟨by decide, by decide, by decide, by decide, by decide, h⟩)))), fun h => by rcases h with h | h | h | h | h | h <;> omega⟩
theorem encO_v {o v w : Int} (h : 2 ≤ o) : encO o v = encO o w := by
  simp only [encO]
  rw [if_neg (show ¬ o = 0 by omega), if_neg (show ¬ o = 1 by omega), if_neg (show ¬ o = 0 by omega), if_neg (show ¬ o = 1 by omega)]
/-- two into one -/
theorem RkI_join (I : RkI nm op ag N T fr to i top g) (hi : i < to) (he : e = encO (op i) (ag i)) (h0 : 0 < -e) (h1 : -e < 32 ∨ 39 < -e) (h2' : -e ≠ 40) (h3' : -e ≠ 29) : 1 < top ∧ top ≤ i - fr ∧ ((6 ≤ -e ∧ -e ≤ 15) ∨ -e = 30 ∨ -e = 31) ∧ (-1000000 ≤ g (top - 1 - 1) ∧ g (top - 1 - 1) ≤ 1000000 ∧ -1000000 ≤ g (top - 1) ∧ g (top - 1) ≤ 1000000) ∧ (16 ≤ -e → 0 ≤ g (top - 1 - 1) ∧ 0 ≤ g (top - 1)) ∧ RkI nm op ag N T fr to (i + 1) (top - 1) (ua g (top - 1 - 1) (cJoin (-e) (g (top - 1 - 1)) (g (top - 1)))) := by
  obtain ⟨v, r, n, t, h1, h2, h3, h4, h5, h6, h7, h8, h9, h10⟩ := I
  rw [show (to - i).toNat = (to - (i + 1)).toNat + 1 by omega] at h5 h10
  simp only [dOK2] at h5
  have o0 : (3 ≤ op i ∧ op i ≤ 6 ∧ 2 ≤ n ∧ dOK2 op ag N T (to - (i + 1)).toNat (i + 1) (n - 1) t) ∨ (10 ≤ op i ∧ op i ≤ 15 ∧ n = 2 ∧ t < 330 ∧ dOK2 op ag N T (to - (i + 1)).toNat (i + 1) 0 (t + 1)) ∨ ((op i = 21 ∨ op i = 22) ∧ 2 ≤ t ∧ n = 0 ∧ dOK2 op ag N T (to - (i + 1)).toNat (i + 1) n (t - 1)) := by
    rcases h5 with z | z | z | z | z | z | z
    · exfalso; have y := enc_0 (v := ag i) z.1; omega
    · exfalso; have y := enc_1 (v := ag i) z.1; omega
    · exfalso; have y := enc_2 (v := ag i) z.1; omega
    · exact Or.inl z
    · exact Or.inr (Or.inl z)
    · exfalso; have y := enc_20 (v := ag i) z.1; omega
    · exact Or.inr (Or.inr z)
  rcases o0 with z | z | z
  · have ee : -e = op i + 3 := by rw [he]; simp only [encO]; rw [if_neg (by omega), if_neg (by omega), if_neg (by omega), if_pos (by omega)]; omega
    have g1 := h7 (n - 1) (by omega) (by omega)
    have g2 := h7 (n - 1 - 1) (by omega) (by omega)
    rw [show t + (n - 1) = top - 1 by omega] at g1
    rw [show t + (n - 1 - 1) = top - 1 - 1 by omega] at g2
    have b1 := h8 (n - 1) (by omega) (by omega)
    have b2 := h8 (n - 1 - 1) (by omega) (by omega)
    rw [ee, cJoin_two ⟨z.1, z.2.1⟩ (by omega), g1, g2]
    refine ⟨by omega, h4, by omega, by omega, by omega, ua v (n - 1 - 1) (mTwo (op i) (v (n - 1 - 1)) (v (n - 1))), r, n - 1, t, by omega, h2, by omega, by omega, z.2.2.2, fun q q0 q1 => ?_, fun q q0 q1 => ?_, fun q q0 q1 => ?_, h9, ?_⟩
    · rw [ua_ne (by omega)]; exact h6 q q0 q1
    · by_cases c : q = n - 1 - 1
      · rw [c, show t + (n - 1 - 1) = top - 1 - 1 by omega, ua_same, ua_same]
      · rw [ua_ne (by omega), ua_ne c]; exact h7 q q0 (by omega)
    · by_cases c : q = n - 1 - 1
      · rw [c, ua_same]; exact mTwo_r _ _ _
      · rw [ua_ne c]; exact h8 q q0 (by omega)
    · rw [← h10]
      simp only [mRun]
      rw [show mEv nm (op i) (ag i) (v, r, n, t) = (ua v (n - 1 - 1) (mTwo (op i) (v (n - 1 - 1)) (v (n - 1))), r, n - 1, t) by simp only [mEv]; rw [if_neg (by omega), if_neg (by omega), if_pos (by omega)]]
  · have ee : -e = -encO (op i) 0 := by rw [he, encO_v (w := 0) (by omega)]
    have er : 10 ≤ -e ∧ -e ≤ 15 := by
      have y := enc_10 (v := 0) z.1 z.2.1
      omega
    have n2 := z.2.2.1
    subst n2
    have g1 := h7 1 (by omega) (by omega)
    have g2 := h7 0 (by omega) (by omega)
    rw [show t + 1 = top - 1 by omega] at g1
    rw [show t + 0 = top - 1 - 1 by omega] at g2
    have b1 := h8 1 (by omega) (by omega)
    have b2 := h8 0 (by omega) (by omega)
    rw [g1, g2]
    refine ⟨by omega, h4, by omega, by omega, by omega, v, ua r t (if mAsk (op i) (v 0) (v 1) then 1 else 0), 0, t + 1, by omega, by omega, by omega, by omega, z.2.2.2.2, fun q q0 q1 => ?_, fun q q0 q1 => by omega, fun q q0 q1 => by omega, ?_, ?_⟩
    · by_cases c : q = t
      · rw [c, show top - 1 - 1 = t by omega, ua_same, ua_same, ee, cJoin_ask ⟨z.1, z.2.1⟩]
      · rw [ua_ne (by omega), ua_ne c]; exact h6 q q0 (by omega)
    · intro q
      simp only [ua]
      split
      · exact ite_01 _
      · exact h9 q
    · rw [← h10]
      simp only [mRun]
      rw [mEv_4 z.1 (by omega)]
      rfl
  · have ee : -e = op i + 9 := by
      rw [he]
      rcases z.1 with y | y <;> rw [y] <;> rfl
    have n0 := z.2.2.1
    subst n0
    have g1 := h6 (t - 1) (by omega) (by omega)
    have g2 := h6 (t - 1 - 1) (by omega) (by omega)
    rw [show t - 1 = top - 1 by omega] at g1 g2
    have b1 := h9 (top - 1)
    have b2 := h9 (top - 1 - 1)
    have key : cJoin (-e) (r (top - 1 - 1)) (r (top - 1)) = (if op i = 21 then (if r (top - 1 - 1) ≠ 0 ∧ r (top - 1) ≠ 0 then 1 else 0) else (if r (top - 1 - 1) ≠ 0 ∨ r (top - 1) ≠ 0 then 1 else 0)) := by
      rw [ee]
      rcases z.1 with y | y <;> rw [y] <;> rcases b1 with x1 | x1 <;> rcases b2 with x2 | x2 <;> rw [x1, x2] <;> rfl
    rw [g1, g2, key]
    refine ⟨by omega, h4, by omega, by omega, by omega, v, ua r (t - 1 - 1) (if op i = 21 then (if r (t - 1 - 1) ≠ 0 ∧ r (t - 1) ≠ 0 then 1 else 0) else (if r (t - 1 - 1) ≠ 0 ∨ r (t - 1) ≠ 0 then 1 else 0)), 0, t - 1, by omega, by omega, by omega, by omega, z.2.2.2, fun q q0 q1 => ?_, fun q q0 q1 => by omega, fun q q0 q1 => by omega, ?_, ?_⟩
    · rw [show t - 1 = top - 1 by omega]
      by_cases c : q = top - 1 - 1
      · rw [c, ua_same, ua_same]
      · rw [ua_ne c, ua_ne c]; exact h6 q q0 (by omega)
    · intro q
      simp only [ua]
      split
      · split <;> exact ite_01 _
      · exact h9 q
    · rw [← h10]
      simp only [mRun]
      rw [show mEv nm (op i) (ag i) (v, r, 0, t) = (v, ua r (t - 1 - 1) (if op i = 21 then (if r (t - 1 - 1) ≠ 0 ∧ r (t - 1) ≠ 0 then 1 else 0) else (if r (t - 1 - 1) ≠ 0 ∨ r (t - 1) ≠ 0 then 1 else 0)), 0, t - 1) by simp only [mEv]; rw [if_neg (by omega), if_neg (by omega), if_neg (by omega), if_neg (by omega), if_neg (by omega)]]
end Rk
