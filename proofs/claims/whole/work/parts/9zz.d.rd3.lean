/-! the tape is split -/
abbrev pLt : Int → Bool := fun c => decide (isLt c)
abbrev pDg : Int → Bool := fun c => decide (isDg c)
theorem tb_in {T : Int → Int} {n k : Int} (h : k < n) : tb T n k = T k := if_pos h
theorem tb_out {T : Int → Int} {n k : Int} (h : n ≤ k) : tb T n k = -1 := if_neg (by omega)
theorem ends_lt {T : Int → Int} {n s e : Int} {p : Int → Bool} (h0 : s ≤ e) (hn : e ≤ n) (hb : ∀ j, s ≤ j → j < e → p (T j) = true) (he : e < n → p (T e) = false) (hm : p (-1) = false) : ends T n p s = e := by
  refine ends_at h0 (Or.inl hn) (Or.inl (by omega)) (fun j j0 j1 => by rw [tb_in (by omega)]; exact hb j j0 j1) ?_ hn
  by_cases c : e < n
  · rw [tb_in c]; exact he c
  · rw [tb_out (by omega)]; exact hm
def sgT (T : Int → Int) (n s : Int) : Int := if (T s = 60 ∨ T s = 62) ∧ tb T n (s + 1) = 61 then (if T s = 60 then 4 else 5) else if isSg (T s) then T s else 3
def sgN (T : Int → Int) (n s : Int) : Int := if (T s = 60 ∨ T s = 62) ∧ tb T n (s + 1) = 61 then s + 1 + 1 else s + 1
section Tp
variable {T : Int → Int} {n p i : Int}
theorem tC_i (hp : tPl T n p = i) (hi : i < n) : tC T n p = T i := by
  simp only [tC]
  rw [hp, tb_in hi]
theorem at_lt (hp : tPl T n p = i) (hi : i < n) (h : isLt (T i)) : cTk T n p = cWd (wdW T i (ends T n pLt i)) ∧ tNx T n p = ends T n pLt i ∧ cVl T n p = 0 ∧ tTok T n p ≠ 0 := by
  have hc := tC_i hp hi
  have t := tTok_2 (T := T) (n := n) (p := p) (by rw [hc]; exact h)
  have x := tNx_2 (T := T) (n := n) (p := p) (by rw [hc]; exact h)
  have le : tLe T n p = ends T n pLt i := by simp only [tLe]; rw [hp]
  refine ⟨?_, by rw [x, le], ?_, by omega⟩
  · simp only [cTk]
    rw [if_neg (by omega), if_neg (by omega), if_pos t]
    simp only [tWd, wdW]
    rw [le, hp]
  · simp only [cVl]
    rw [if_neg (by omega)]
theorem at_dg (hp : tPl T n p = i) (hi : i < n) (h : isDg (T i)) : cTk T n p = 2 ∧ tNx T n p = ends T n pDg i ∧ cVl T n p = nmC T i (ends T n pDg i - i).toNat ∧ tTok T n p ≠ 0 := by
  have hc := tC_i hp hi
  have t := tTok_1 (T := T) (n := n) (p := p) (by rw [hc]; exact h)
  have x := tNx_1 (T := T) (n := n) (p := p) (by rw [hc]; exact h)
  have le : tDe T n p = ends T n pDg i := by simp only [tDe]; rw [hp]
  refine ⟨cTk_2.mpr t, by rw [x, le], ?_, by omega⟩
  have e : tNum T n p = nmK T i (ends T n pDg i - i).toNat := by simp only [tNum]; rw [le, hp]
  simp only [cVl, nmC]
  rw [if_pos t, e]
theorem at_sg (hT : ∀ k, 0 ≤ T k ∧ T k < 256) (hp : tPl T n p = i) (hi : i < n) (h1 : ¬ isLt (T i)) (h2 : ¬ isDg (T i)) : cTk T n p = cSg (sgT T n i) ∧ tNx T n p = sgN T n i ∧ cVl T n p = 0 ∧ tTok T n p ≠ 0 := by
  have hc := tC_i hp hi
  have t0 := hT i
  by_cases two : tTwo T n p
  · have t := tTok_4 two
    have x := tNx_4 two
    rw [hc] at t
    have two' : (T i = 60 ∨ T i = 62) ∧ tb T n (i + 1) = 61 := by
      have z := two
      simp only [tTwo] at z
      rw [hc, hp] at z
      exact z
    have e : tTok T n p = sgT T n i := by simp only [sgT]; rw [if_pos two', t]
    have r : tTok T n p = 4 ∨ tTok T n p = 5 := by rw [t]; split <;> omega
    refine ⟨?_, by simp only [sgN]; rw [if_pos two', x, hp], ?_, by omega⟩
    · simp only [cTk]
      rw [if_neg (by omega), if_neg (by omega), if_neg (by omega), e]
    · simp only [cVl]
      rw [if_neg (by omega)]
  · have t := tTok_3 (T := T) (n := n) (p := p) (by rw [hc]; exact t0.1) (by rw [hc]; exact h2) (by rw [hc]; exact h1) two
    have x := tNx_3 (T := T) (n := n) (p := p) (by rw [hc]; exact t0.1) (by rw [hc]; exact h2) (by rw [hc]; exact h1) two
    rw [hc] at t
    have two' : ¬ ((T i = 60 ∨ T i = 62) ∧ tb T n (i + 1) = 61) := fun z => two (by
      simp only [tTwo]
      rw [hc, hp]
      exact z)
    have e : tTok T n p = sgT T n i := by simp only [sgT]; rw [if_neg two', t]
    have r : 3 ≤ tTok T n p := by rw [t]; split <;> omega
    refine ⟨?_, by simp only [sgN]; rw [if_neg two', x, hp], ?_, by omega⟩
    · simp only [cTk]
      rw [if_neg (by omega), if_neg (by omega), if_neg (by omega), e]
    · simp only [cVl]
      rw [if_neg (by omega)]
end Tp
def TkS (T : Int → Int) (n : Int) (k : Nat) (i : Int) (tk sr vl : Int → Int) : Prop := (k : Int) ≤ i ∧ pos T n k ≤ i ∧ i ≤ n ∧ (∀ j, pos T n k ≤ j → j < i → isSp (T j)) ∧ ∀ j : Nat, j < k → (tk j = cTk T n (pos T n j) ∧ sr j = tPl T n (pos T n j) ∧ vl j = cVl T n (pos T n j)) ∧ tTok T n (pos T n j) ≠ 0
section TkS
variable {T : Int → Int} {n i : Int} {k : Nat} {tk sr vl : Int → Int}
theorem TkS_0 (hn : 0 ≤ n) : TkS T n 0 0 tk sr vl := ⟨by omega, by simp [pos], hn, fun j j0 j1 => by simp only [pos] at j0; omega, fun j hj => absurd hj (by omega)⟩
theorem TkS_b (h : TkS T n k i tk sr vl) (hi : i < n) (hb : isSp (T i)) : TkS T n k (i + 1) tk sr vl := by
  obtain ⟨h1, h2, h3, h4, h5⟩ := h
  refine ⟨by omega, by omega, by omega, fun j j0 j1 => ?_, h5⟩
  by_cases c : j = i
  · rw [c]; exact hb
  · exact h4 j j0 (by omega)
theorem TkS_pl (h : TkS T n k i tk sr vl) (hb : i < n → ¬ isSp (T i)) : tPl T n (pos T n k) = i := by
  obtain ⟨h1, h2, h3, h4, h5⟩ := h
  simp only [tPl]
  exact ends_lt h2 h3 (fun j j0 j1 => decide_eq_true (h4 j j0 j1)) (fun z => decide_eq_false (hb z)) (by decide)
theorem TkS_add (hT : ∀ k, 0 ≤ T k ∧ T k < 256) (h : TkS T n k i tk sr vl) (hi : i < n) (hp : tPl T n (pos T n k) = i) {t e v : Int} (ht : cTk T n (pos T n k) = t) (he : tNx T n (pos T n k) = e) (hv : cVl T n (pos T n k) = v) (h0 : tTok T n (pos T n k) ≠ 0) : TkS T n (k + 1) e (ua tk k t) (ua sr k i) (ua vl k v) := by
  obtain ⟨h1, h2, h3, h4, h5⟩ := h
  have tr := tok_r hT (n := n) (p := pos T n k) (by omega)
  have tl := tr.2.2.2.2.1 h0
  rw [hp, he] at tl
  refine ⟨by omega, by simp only [pos]; omega, by omega, fun j j0 j1 => by simp only [pos] at j0; omega, fun j hj => ?_⟩
  by_cases c : j = k
  · subst c
    rw [ua_same, ua_same, ua_same]
    exact ⟨⟨ht.symm, hp.symm, hv.symm⟩, h0⟩
  · rw [ua_ne (by omega), ua_ne (by omega), ua_ne (by omega)]
    exact h5 j (by omega)
theorem TkS_end (hn : n ≤ 300) (h : TkS T n k i tk sr vl) (hi : n ≤ i) : TkR T n k (ua tk k 0) (ua sr k n) (ua vl k 0) := by
  have hp := TkS_pl h (fun z => by omega)
  obtain ⟨h1, h2, h3, h4, h5⟩ := h
  have hc : tC T n (pos T n k) < 0 := by simp only [tC]; rw [hp, tb_out hi]; omega
  have ht := tTok_0 hc
  refine ⟨by omega, fun j hj => ?_, fun j hj => (h5 j hj).2, ht⟩
  by_cases c : j = k
  · subst c
    rw [ua_same, ua_same, ua_same]
    exact ⟨(cTk_0.mpr ht).symm, by rw [hp]; omega, by simp only [cVl]; rw [if_neg (by omega)]⟩
  · rw [ua_ne (by omega), ua_ne (by omega), ua_ne (by omega)]
    exact (h5 j (by omega)).1
end TkS
