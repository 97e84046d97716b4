def cmpO (t : Int) : Int := if t = 60 then 10 else if t = 4 then 11 else if t = 62 then 12 else if t = 5 then 13 else if t = 61 then 14 else if t = 35 then 15 else -1
theorem cmpO_r (t : Int) : -1 ≤ cmpO t ∧ cmpO t ≤ 15 ∧ (0 ≤ cmpO t → t ≠ 0) := by
  simp only [cmpO]
  (repeat' split) <;> omega
abbrev isNotT (T : Int → Int) (n p : Int) : Prop := tTok T n p = 2 ∧ tWd T n p = (110 * 256 + 111) * 256 + 116
def Ask0 (T : Int → Int) (n u o p : Int) (r : Rs) : Prop := ∃ s, G T n u 1 o 0 p s ∧ if s.1 ≠ 0 then r = s else if cmpO (tTok T n s.2.1) < 0 then r = (1, s.2.1, []) else ∃ s2, G T n u 1 o 0 (tNx T n s.2.1) s2 ∧ r = if s2.1 ≠ 0 then s2 else (0, s2.2.1, s.2.2 ++ s2.2.2 ++ [(cmpO (tTok T n s.2.1), 0)])
def AskF (T : Int → Int) (n u : Int) : Nat → Int → Int → Rs → Prop
  | 0, _, _, _ => False
  | k + 1, o, p, r => if isNotT T n p then (if o = 8 then r = (3, p, []) else ∃ s, AskF T n u k (o + 1) (tNx T n p) s ∧ r = if s.1 ≠ 0 then s else (0, s.2.1, s.2.2 ++ [(20, 0)])) else Ask0 T n u o p r
def Ask (T : Int → Int) (n u o p : Int) (r : Rs) : Prop := AskF T n u (9 - o).toNat o p r
theorem Ask0_det {T : Int → Int} {n u o p : Int} {r s : Rs} (h : Ask0 T n u o p r) (g : Ask0 T n u o p s) : r = s := by
  obtain ⟨a, ha, h⟩ := h
  obtain ⟨b, hb, g⟩ := g
  have e := G_det ha hb
  subst e
  by_cases c : a.1 ≠ 0
  · rw [if_pos c] at h g; rw [h, g]
  · rw [if_neg c] at h g
    by_cases d : cmpO (tTok T n a.2.1) < 0
    · rw [if_pos d] at h g; rw [h, g]
    · rw [if_neg d] at h g
      obtain ⟨x, hx, h⟩ := h
      obtain ⟨y, hy, g⟩ := g
      have e := G_det hx hy
      subst e
      rw [h, g]
theorem AskF_det {T : Int → Int} {n u : Int} : ∀ (k : Nat) {o p : Int} {r s : Rs}, AskF T n u k o p r → AskF T n u k o p s → r = s
  | 0, o, p, r, s, h, _ => h.elim
  | k + 1, o, p, r, s, h, g => by
    simp only [AskF] at h g
    by_cases c : isNotT T n p
    · rw [if_pos c] at h g
      by_cases d : o = 8
      · rw [if_pos d] at h g; rw [h, g]
      · rw [if_neg d] at h g
        obtain ⟨x, hx, h⟩ := h
        obtain ⟨y, hy, g⟩ := g
        have e := AskF_det k hx hy
        subst e
        rw [h, g]
    · rw [if_neg c] at h g
      exact Ask0_det h g
def notR (k : Int) (s : Rs) : Rs := if s.1 ≠ 0 then s else (0, s.2.1, s.2.2 ++ List.replicate k.toNat (20, 0))
/-- what a reading of this sort answers -/
def RsP (T : Int → Int) (n p0 o0 t0 wr0 : Int) (tx0 f0 : Int → Int) (R : Rs → Prop) (r : Int) (f tx pl : Int → Int) : Prop := (r = 0 ∧ ∃ q em, R (0, q, em) ∧ PS T n q f ∧ f 14 = wr0 + em.length ∧ f 18 = o0 ∧ tx = emL tx0 t0 wr0 em ∧ p0 ≤ q ∧ (em.length : Int) ≤ q - p0 ∧ (∀ k, k < 7 ∨ k = 12 ∨ k = 20 ∨ k = 21 ∨ 22 ≤ k → f k = f0 k) ∧ AB pl) ∨ (r ≠ 0 ∧ r < 10 ∧ 0 ≤ r ∧ ∃ q em, R (r, q, []) ∧ PS T n q f ∧ tx = emL tx0 t0 wr0 em ∧ p0 ≤ q ∧ (em.length : Int) ≤ q - p0 ∧ (∀ k, k < 7 ∨ k = 12 ∨ k = 20 ∨ k = 21 ∨ 22 ≤ k → f k = f0 k) ∧ AB pl)
theorem SuP_Rs {T : Int → Int} {n u p0 o0 t0 wr0 : Int} {tx0 f0 : Int → Int} {r : Int} {f tx pl : Int → Int} (h : SuP T n u p0 o0 t0 wr0 tx0 f0 r f tx pl) : RsP T n p0 o0 t0 wr0 tx0 f0 (G T n u 1 o0 0 p0) r f tx pl := h
/-- where asks stands among its nots -/
def AsI (T : Int → Int) (n u p0 o0 wr0 : Int) (f0 : Int → Int) (k p : Int) (f : Int → Int) : Prop := PS T n p f ∧ f 14 = wr0 ∧ f 18 = o0 + k ∧ f 18 ≤ 8 ∧ 0 ≤ k ∧ p0 + k ≤ p ∧ (∀ j, j < 7 ∨ j = 12 ∨ j = 20 ∨ j = 21 ∨ 22 ≤ j → f j = f0 j) ∧ ∀ s, AskF T n u (9 - (o0 + k)).toNat (o0 + k) p s → Ask T n u o0 p0 (notR k s)
theorem AsI_0 {T : Int → Int} {n u p0 : Int} {f : Int → Int} (h : PS T n p0 f) (h18 : f 18 ≤ 8) : AsI T n u p0 (f 18) (f 14) f 0 p0 f := by
  refine ⟨h, rfl, by omega, h18, by omega, by omega, fun _ _ => rfl, fun s hs => ?_⟩
  rw [show f 18 + 0 = f 18 by omega] at hs
  have e : notR 0 s = s := by
    simp only [notR]
    by_cases c : s.1 ≠ 0
    · rw [if_pos c]
    · rw [if_neg c]
      obtain ⟨a, b, d⟩ := s
      have : a = 0 := Decidable.of_not_not c
      subst this
      simp
  rw [e]
  exact hs
theorem AsI_s {T : Int → Int} (hT : ∀ k, 0 ≤ T k ∧ T k < 256) {n u p0 o0 wr0 k p : Int} {f0 f : Int → Int} (I : AsI T n u p0 o0 wr0 f0 k p f) (hn : isNotT T n p) (h8 : f 18 ≠ 8) : AsI T n u p0 o0 wr0 f0 (k + 1) (tNx T n p) (mTok (ua f 18 (f 18 + 1)) T) := by
  obtain ⟨i1, i2, i3, i4, i5, i6, i7, i8⟩ := I
  have r := tok_r hT i1.1.2
  refine ⟨PS_nx hT (PS_ua i1 (by decide)), i2, ?_, ?_, by omega, by omega, fun j hj => ?_, fun s hs => ?_⟩
  · show f 18 + 1 = _; omega
  · show f 18 + 1 ≤ 8; omega
  · rw [mTok_k (by omega), ua_ne (by omega)]; exact i7 j hj
  · have e : (9 - (o0 + k)).toNat = (9 - (o0 + (k + 1))).toNat + 1 := by omega
    have := i8 (if s.1 ≠ 0 then s else (0, s.2.1, s.2.2 ++ [(20, 0)])) (by
      rw [e]
      simp only [AskF]
      rw [if_pos hn, if_neg (by omega)]
      exact ⟨s, by rw [show o0 + k + 1 = o0 + (k + 1) by omega]; exact hs, rfl⟩)
    have e2 : notR k (if s.1 ≠ 0 then s else (0, s.2.1, s.2.2 ++ [(20, 0)])) = notR (k + 1) s := by
      simp only [notR]
      by_cases c : s.1 ≠ 0
      · rw [if_pos c, if_pos c, if_pos c]
      · rw [if_neg c, if_neg c, if_neg (by simp)]
        rw [show (k + 1).toNat = k.toNat + 1 by omega, List.replicate_succ]
        simp
    rw [e2] at this
    exact this
theorem AsI_f {T : Int → Int} {n u p0 o0 wr0 k p : Int} {f0 f : Int → Int} (I : AsI T n u p0 o0 wr0 f0 k p f) (hn : isNotT T n p) (h8 : f 18 = 8) : Ask T n u o0 p0 (3, p, []) := by
  obtain ⟨i1, i2, i3, i4, i5, i6, i7, i8⟩ := I
  refine i8 (3, p, []) ?_
  rw [show (9 - (o0 + k)).toNat = 0 + 1 by omega]
  simp only [AskF]
  rw [if_pos hn, if_pos (by omega)]; trivial
theorem AsI_0r {T : Int → Int} {n u p0 o0 wr0 k p : Int} {f0 f : Int → Int} {s : Rs} (I : AsI T n u p0 o0 wr0 f0 k p f) (hn : ¬ isNotT T n p) (h : Ask0 T n u (o0 + k) p s) : Ask T n u o0 p0 (notR k s) := by
  obtain ⟨i1, i2, i3, i4, i5, i6, i7, i8⟩ := I
  refine i8 s ?_
  rw [show (9 - (o0 + k)).toNat = (8 - (o0 + k)).toNat + 1 by omega]
  simp only [AskF]
  rw [if_neg hn]
  exact h
theorem repX_s (t0 : Int) (tx : Int → Int) (wr : Int) (j : Int) (h : 0 ≤ j) : emL tx t0 wr (List.replicate (j + 1).toNat (20, 0)) = ua (ua (emL tx t0 wr (List.replicate j.toNat (20, 0))) (t0 + 100 + 2 * (wr + j)) 20) (t0 + 100 + 2 * (wr + j) + 1) 0 := by
  rw [show (j + 1).toNat = j.toNat + 1 by omega, List.replicate_succ', emL_app, List.length_replicate, emL_1 _ _ _ _ _ (by decide) (by decide), show ((j.toNat : Nat) : Int) = j by omega]
theorem emL_ask (t0 wr : Int) (tx : Int → Int) (em1 em2 d : List (Int × Int)) (c : Int × Int) : emL (emL (emL (emL tx t0 wr em1) t0 (wr + em1.length) em2) t0 (wr + em1.length + em2.length) [c]) t0 (wr + em1.length + em2.length + 1) d = emL tx t0 wr (em1 ++ em2 ++ [c] ++ d) := by
  have e1 : wr + ((em1 ++ em2).length : Int) = wr + em1.length + em2.length := by rw [List.length_append]; omega
  have e2 : wr + ((em1 ++ em2 ++ [c]).length : Int) = wr + em1.length + em2.length + 1 := by simp only [List.length_append, List.length_cons, List.length_nil]; omega
  rw [emL_app t0 (em1 ++ em2 ++ [c]), emL_app t0 (em1 ++ em2), emL_app t0 em1, e1, e2]
