theorem ends_r {T : Int → Int} {n s : Int} {p : Int → Bool} (hp : p (-1) = false) (hs : s ≤ n) : s ≤ ends T n p s ∧ ends T n p s ≤ n ∧ p (tb T n (ends T n p s)) = false ∧ ∀ j, s ≤ j → j < ends T n p s → p (tb T n j) = true := by
  simp only [ends]
  rcases findT_r (fun j => !p (tb T n (s + j))) (n := n - s + 1) (by omega) with h | h
  · have := h.2 (n - s) (by omega) (by omega)
    simp only [tb] at this
    rw [if_neg (by omega), hp] at this
    exact absurd this (by decide)
  · refine ⟨by omega, by omega, ?_, fun j j0 j1 => ?_⟩
    · have := h.2.2.1
      cases q : p (tb T n (s + findT (fun j => !p (tb T n (s + j))) (n - s + 1))) with
      | false => rfl
      | true => rw [q] at this; exact absurd this (by decide)
    · have := h.2.2.2 (j - s) (by omega) (by omega)
      rw [show s + (j - s) = j by omega] at this
      cases q : p (tb T n j) with
      | true => rfl
      | false => rw [q] at this; exact absurd this (by decide)
theorem tok_r {T : Int → Int} (hT : ∀ k, 0 ≤ T k ∧ T k < 256) {n p : Int} (hp : p ≤ n) : p ≤ tPl T n p ∧ tPl T n p ≤ n ∧ tPl T n p ≤ tNx T n p ∧ tNx T n p ≤ n ∧ (tTok T n p ≠ 0 → tPl T n p < tNx T n p) ∧ 0 ≤ tTok T n p ∧ tTok T n p < 256 ∧ (tTok T n p = 1 → 0 ≤ tNum T n p ∧ tNum T n p < 1000000) ∧ (0 ≤ tWd T n p ∧ tWd T n p < 72057594037927936) := by
  have e1 := ends_r (T := T) (n := n) (s := p) (p := fun c => decide (isSp c)) (by decide) hp
  have hpl : tPl T n p = ends T n (fun c => decide (isSp c)) p := rfl
  rw [← hpl] at e1
  have e2 := ends_r (T := T) (n := n) (s := tPl T n p) (p := fun c => decide (isDg c)) (by decide) e1.2.1
  have e3 := ends_r (T := T) (n := n) (s := tPl T n p) (p := fun c => decide (isLt c)) (by decide) e1.2.1
  have hde : tDe T n p = ends T n (fun c => decide (isDg c)) (tPl T n p) := rfl
  have hle : tLe T n p = ends T n (fun c => decide (isLt c)) (tPl T n p) := rfl
  rw [← hde] at e2
  rw [← hle] at e3
  have b := tb_r hT n (tPl T n p)
  have hC : tC T n p = tb T n (tPl T n p) := rfl
  have hw : 0 ≤ tWd T n p ∧ tWd T n p < 72057594037927936 := by
    have := wdK_r hT (tPl T n p) (tLe T n p - tPl T n p).toNat
    simp only [tWd]
    split <;> omega
  refine ⟨e1.1, e1.2.1, ?_⟩
  by_cases c0 : tC T n p < 0
  · rw [tNx_0 c0, tTok_0 c0]
    exact ⟨by omega, by omega, by omega, by omega, by omega, by omega, hw⟩
  by_cases c1 : isDg (tC T n p)
  · have hn : tPl T n p < tDe T n p := by
      by_cases z : tDe T n p = tPl T n p
      · have := of_decide_eq_false e2.2.2.1; rw [z] at this; exact absurd c1 this
      · omega
    have hnum : 0 ≤ tNum T n p ∧ tNum T n p < 1000000 := nmK_r _ (fun j j0 j1 => by
      have q := of_decide_eq_true (e2.2.2.2 j j0 (by omega))
      simp only [tb] at q
      rw [if_pos (by omega)] at q
      exact q)
    rw [tNx_1 c1, tTok_1 c1]
    exact ⟨by omega, by omega, by omega, by omega, by omega, fun _ => hnum, hw⟩
  by_cases c2 : isLt (tC T n p)
  · have hn : tPl T n p < tLe T n p := by
      by_cases z : tLe T n p = tPl T n p
      · have := of_decide_eq_false e3.2.2.1; rw [z] at this; exact absurd c2 this
      · omega
    rw [tNx_2 c2, tTok_2 c2]
    exact ⟨by omega, by omega, by omega, by omega, by omega, by omega, hw⟩
  have pn : tPl T n p < n := by
    by_cases z : tPl T n p < n
    · exact z
    · have := b.2.2.1 (by omega); omega
  by_cases c3 : tTwo T n p
  · have b2 := tb_r hT n (tPl T n p + 1)
    have p2 : tPl T n p + 1 < n := by
      by_cases z : tPl T n p + 1 < n
      · exact z
      · have := b2.2.2.1 (by omega); have := c3.2; omega
    rw [tNx_4 c3, tTok_4 c3]
    refine ⟨by omega, by omega, by omega, by split <;> omega, by split <;> omega, by split <;> omega, hw⟩
  · rw [tNx_3 (by omega) c1 c2 c3, tTok_3 (by omega) c1 c2 c3]
    refine ⟨by omega, by omega, by omega, by split <;> omega, by split <;> omega, ?_, hw⟩
    intro z
    split at z <;> omega
/-- the reader stands at the TOKEN behind p -/
def PS (T : Int → Int) (n p : Int) (f : Int → Int) : Prop := (0 ≤ p ∧ p ≤ n) ∧ f 4 = n ∧ f 7 = tNx T n p ∧ f 8 = tPl T n p ∧ f 9 = tTok T n p ∧ (tTok T n p = 1 → f 10 = tNum T n p) ∧ (tTok T n p = 2 → f 11 = tWd T n p) ∧ (0 ≤ f 10 ∧ f 10 < 1000000) ∧ 0 ≤ f 11 ∧ f 11 < 72057594037927936
theorem PS_ua {T f : Int → Int} {n p k e : Int} (h : PS T n p f) (hk : k ≠ 4 ∧ k ≠ 7 ∧ k ≠ 8 ∧ k ≠ 9 ∧ k ≠ 10 ∧ k ≠ 11) : PS T n p (ua f k e) := by
  simp only [PS]
  rw [ua_ne (show (4 : Int) ≠ k by omega), ua_ne (show (7 : Int) ≠ k by omega), ua_ne (show (8 : Int) ≠ k by omega), ua_ne (show (9 : Int) ≠ k by omega), ua_ne (show (10 : Int) ≠ k by omega), ua_ne (show (11 : Int) ≠ k by omega)]
  exact h
theorem PS_mk {T f : Int → Int} (hT : ∀ k, 0 ≤ T k ∧ T k < 256) {n : Int} (h7 : 0 ≤ f 7 ∧ f 7 ≤ n) (h4 : f 4 = n) (h10 : 0 ≤ f 10 ∧ f 10 < 1000000) (h11 : 0 ≤ f 11 ∧ f 11 < 72057594037927936) : PS T n (f 7) (mTok f T) := by
  have r := tok_r hT h7.2
  refine ⟨h7, ?_, ?_, ?_, ?_, ?_, ?_, ?_, ?_⟩
  · show f 4 = n; exact h4
  · show tNx T (f 4) (f 7) = _; rw [h4]
  · show tPl T (f 4) (f 7) = _; rw [h4]
  · show tTok T (f 4) (f 7) = _; rw [h4]
  · intro z; show (if tTok T (f 4) (f 7) = 1 then tNum T (f 4) (f 7) else f 10) = _; rw [h4, if_pos z]
  · intro z; show (if tTok T (f 4) (f 7) = 2 then tWd T (f 4) (f 7) else f 11) = _; rw [h4, if_pos z]
  · show 0 ≤ (if tTok T (f 4) (f 7) = 1 then tNum T (f 4) (f 7) else f 10) ∧ (if tTok T (f 4) (f 7) = 1 then tNum T (f 4) (f 7) else f 10) < 1000000
    rw [h4]
    split
    · rename_i z; exact r.2.2.2.2.2.2.2.1 z
    · exact h10
  · show 0 ≤ (if tTok T (f 4) (f 7) = 2 then tWd T (f 4) (f 7) else f 11) ∧ (if tTok T (f 4) (f 7) = 2 then tWd T (f 4) (f 7) else f 11) < 72057594037927936
    rw [h4]
    split
    · exact r.2.2.2.2.2.2.2.2
    · exact h11
theorem PS_nx {T f : Int → Int} (hT : ∀ k, 0 ≤ T k ∧ T k < 256) {n p : Int} (h : PS T n p f) : PS T n (tNx T n p) (mTok f T) := by
  obtain ⟨a1, a2, a3, a4, a5, a6, a7, a8, a9⟩ := h
  have r := tok_r hT a1.2
  rw [← a3]
  exact PS_mk hT (by omega) a2 a8 a9
theorem mTok_k {T f : Int → Int} {k : Int} (h : k ≠ 7 ∧ k ≠ 8 ∧ k ≠ 9 ∧ k ≠ 10 ∧ k ≠ 11) : mTok f T k = f k := by
  simp only [mTok]
  rw [if_neg h.1, if_neg h.2.1, if_neg h.2.2.1, if_neg h.2.2.2.1, if_neg h.2.2.2.2]
theorem PS_nm {T f : Int → Int} {n p : Int} (h : PS T n p f) : nmOf (f 9) (f 11) = tNm T n p := by
  simp only [tNm, nmOf]
  rw [h.2.2.2.2.1]
  by_cases c : tTok T n p = 2
  · rw [h.2.2.2.2.2.2.1 c]
  · rw [if_pos c, if_pos c]
theorem nmOf_r (t w : Int) : -1 ≤ nmOf t w ∧ nmOf t w ≤ 7 := by
  simp only [nmOf]
  repeat' split
  all_goals omega
def shF (f : Int × Int × Nat) : Prop := (f.1 = 0 ∨ f.1 = 3 ∨ f.1 = 4) ∧ (f.2.1 = 0 ∨ f.2.1 = 5 ∨ f.2.1 = 6)
/-- where `summed` stands: begun at p0 with o0 opens and wr0 written -/
def IV (T : Int → Int) (n u p0 o0 t0 wr0 : Int) (tx0 f0 : Int → Int) (p w pr o : Int) (m : Nat) (Fs : List (Int × Int × Nat)) (em : List (Int × Int)) (f tx pl : Int → Int) : Prop :=
  PS T n p f ∧ f 14 = wr0 + em.length ∧ Pile pl (pileL Fs (w, pr, m)) (f 17) ∧ f 18 = o ∧ (f 19 = 0 ∨ f 19 = 1) ∧ (f 19 = 1 → m = 0) ∧ tx = emL tx0 t0 wr0 em ∧ o = o0 + opsN Fs (w, pr, m) ∧ o ≤ 8 ∧ shF (w, pr, m) ∧ (∀ g, g ∈ Fs → shF g) ∧ p0 ≤ p ∧ (em.length : Int) + (pileL Fs (w, pr, m)).length ≤ p - p0 ∧ (∀ r, (if f 19 = 1 then EvS T n u w pr Fs o em p r else EvB T n u w pr m Fs o em p r) → EvB T n u 0 0 0 [] o0 [] p0 r) ∧ (∀ k, k < 7 ∨ k = 12 ∨ k = 20 ∨ k = 21 ∨ 22 ≤ k → f k = f0 k) ∧ AB pl
theorem segL_len (f : Int × Int × Nat) : (segL f).length ≤ f.2.2 + 2 := by
  simp only [segL, List.length_append, List.length_replicate]
  split <;> split <;> simp
theorem pileL_len : ∀ (Fs : List (Int × Int × Nat)) (f : Int × Int × Nat), ((pileL Fs f).length : Int) ≤ 3 * opsN Fs f + 2
  | [], f => by
    have := segL_len f
    simp only [pileL, opsN]
    omega
  | g :: Fs, f => by
    have := segL_len f
    have ih := pileL_len Fs g
    simp only [pileL, opsN, List.length_append, List.length_cons]
    omega
theorem opsN_0 : ∀ (Fs : List (Int × Int × Nat)) (f : Int × Int × Nat), (f.2.2 : Int) ≤ opsN Fs f
  | [], f => by simp only [opsN]; omega
  | g :: Fs, f => by
    have := opsN_0 Fs g
    simp only [opsN]
    omega
