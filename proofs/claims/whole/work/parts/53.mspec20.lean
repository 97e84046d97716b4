def srtOf (t w : Int) : Int := if t = 2 ∧ w = ((119 * 256 + 111) * 256 + 114) * 256 + 110 then 0 else if t = 2 ∧ w = ((104 * 256 + 111) * 256 + 108) * 256 + 121 then 1 else if t = 2 ∧ w = ((((117 * 256 + 110) * 256 + 108) * 256 + 105) * 256 + 107) * 256 + 101 then 2 else if t = 2 ∧ w = ((107 * 256 + 105) * 256 + 110) * 256 + 100 then 3 else if t = 2 ∧ w = ((108 * 256 + 101) * 256 + 110) * 256 + 100 then 4 else if t = 2 ∧ w = ((115 * 256 + 119) * 256 + 97) * 256 + 112 then 5 else if t = 2 ∧ w = (((115 * 256 + 116) * 256 + 101) * 256 + 97) * 256 + 108 then 6 else if t = 2 ∧ w = ((98 * 256 + 117) * 256 + 114) * 256 + 110 then 7 else if t = 2 ∧ w = ((112 * 256 + 97) * 256 + 115) * 256 + 115 then 8 else -1
theorem srtOf_r (t w : Int) : -1 ≤ srtOf t w ∧ srtOf t w ≤ 8 ∧ (0 ≤ srtOf t w → t = 2) := by
  simp only [srtOf]
  (repeat' split) <;> omega
abbrev figC (f : Int → Int) (low top : Int) : Prop := f 9 = 1 ∧ low ≤ f 10 ∧ f 10 ≤ top
def figV (f : Int → Int) (low top : Int) : Int := if f 9 ≠ 1 then 1 else if figC f low top then 0 else 2
/-! either -/
abbrev isAnd (T : Int → Int) (n p : Int) : Prop := tTok T n p = 2 ∧ tWd T n p = (97 * 256 + 110) * 256 + 100
abbrev isOr (T : Int → Int) (n p : Int) : Prop := tTok T n p = 2 ∧ tWd T n p = 28530
/-- conditions joined by and and or, a and b telling what waits -/
def EiF (T : Int → Int) (n u o : Int) : Nat → Int → Int → Int → Rs → Prop
  | 0, _, _, _, _ => False
  | m + 1, a, b, p, r => ∃ s, Ask T n u o p s ∧ if s.1 ≠ 0 then r = s else if isAnd T n s.2.1 then ∃ s2, EiF T n u o m 1 b (tNx T n s.2.1) s2 ∧ r = preR (s.2.2 ++ wlL (21 * a)) s2 else if isOr T n s.2.1 then ∃ s2, EiF T n u o m 0 1 (tNx T n s.2.1) s2 ∧ r = preR (s.2.2 ++ wlL (21 * a) ++ wlL (22 * b)) s2 else r = (0, s.2.1, s.2.2 ++ wlL (21 * a) ++ wlL (22 * b))
def Eith (T : Int → Int) (n u o p : Int) (r : Rs) : Prop := ∃ m, EiF T n u o m 0 0 p r
theorem EiF_det {T : Int → Int} {n u o : Int} : ∀ (m l : Nat) {a b p : Int} {r s : Rs}, EiF T n u o m a b p r → EiF T n u o l a b p s → r = s
  | 0, _, _, _, _, _, _, h, _ => h.elim
  | _ + 1, 0, _, _, _, _, _, _, g => g.elim
  | m + 1, l + 1, a, b, p, r, s, h, g => by
    obtain ⟨x, hx, h⟩ := h
    obtain ⟨y, hy, g⟩ := g
    have e := AskF_det _ hx hy
    subst e
    by_cases c : x.1 ≠ 0
    · rw [if_pos c] at h g; rw [h, g]
    · rw [if_neg c] at h g
      by_cases d : isAnd T n x.2.1
      · rw [if_pos d] at h g
        obtain ⟨h1, h2, h3⟩ := h
        obtain ⟨g1, g2, g3⟩ := g
        rw [h3, g3, EiF_det m l h2 g2]
      · rw [if_neg d] at h g
        by_cases d : isOr T n x.2.1
        · rw [if_pos d] at h g
          obtain ⟨h1, h2, h3⟩ := h
          obtain ⟨g1, g2, g3⟩ := g
          rw [h3, g3, EiF_det m l h2 g2]
        · rw [if_neg d] at h g
          rw [h, g]
