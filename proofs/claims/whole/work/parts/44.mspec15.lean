/-! the pile, and what is still to come: levels (sum that waits, product that waits, minuses ahead of the paren) -/
def repN : Nat → List (Int × Int)
  | 0 => []
  | m + 1 => (2, 0) :: repN m
def EvC (T : Int → Int) (n u : Int) : List (Int × Int × Nat) → Int → List (Int × Int) → Rs → Rs → Prop
  | [], _, em, s, r => r = if s.1 ≠ 0 then s else (0, s.2.1, em ++ s.2.2)
  | f :: Fs, o, em, s, r => if s.1 ≠ 0 then r = s else if tTok T n s.2.1 = 41 then ∃ s', G T n u 2 (o - 1 - f.2.2) f.1 (tNx T n s.2.1) s' ∧ EvC T n u Fs (o - 1 - f.2.2) (em ++ s.2.2 ++ repN f.2.2 ++ wlL f.2.1) s' r else r = (1, s.2.1, [])
def EvS (T : Int → Int) (n u w pr : Int) (Fs : List (Int × Int × Nat)) (o : Int) (em : List (Int × Int)) (q : Int) (r : Rs) : Prop := ∃ s, G T n u 2 o w q s ∧ EvC T n u Fs o (em ++ wlL pr) s r
def EvB (T : Int → Int) (n u w pr : Int) (m : Nat) (Fs : List (Int × Int × Nat)) (o : Int) (em : List (Int × Int)) (p : Int) (r : Rs) : Prop := ∃ s, G T n u 0 o 0 p s ∧ if s.1 ≠ 0 then r = s else EvS T n u w pr Fs (o - m) (em ++ s.2.2 ++ repN m) s.2.1 r
section Ev
variable {T : Int → Int} {n u w pr o p q : Int} {m : Nat} {Fs : List (Int × Int × Nat)} {em : List (Int × Int)} {r : Rs}
theorem EvC_f {s : Rs} (h : s.1 ≠ 0) : EvC T n u Fs o em s s := by
  cases Fs with
  | nil => simp only [EvC]; rw [if_pos h]
  | cons f Fs => simp only [EvC]; rw [if_pos h]; trivial
theorem EvC_fr {s : Rs} (h : s.1 ≠ 0) (e : EvC T n u Fs o em s r) : r = s := by
  cases Fs with
  | nil => simp only [EvC] at e; rw [if_pos h] at e; exact e
  | cons f Fs => simp only [EvC] at e; rw [if_pos h] at e; exact e
theorem EvC_pre {s : Rs} {c : List (Int × Int)} (h : EvC T n u Fs o (em ++ c) s r) : EvC T n u Fs o em (preR c s) r := by
  by_cases z : s.1 = 0
  · have e : preR c s = (0, s.2.1, c ++ s.2.2) := if_pos z
    rw [e]
    cases Fs with
    | nil =>
      simp only [EvC] at h ⊢
      rw [if_neg (by omega)] at h
      rw [if_neg (by simp), h, List.append_assoc]
    | cons f Fs =>
      simp only [EvC] at h ⊢
      rw [if_neg (by omega)] at h
      rw [if_neg (by simp)]
      rw [← List.append_assoc]
      exact h
  · rw [preR_f z, EvC_fr z h]
    exact EvC_f z
theorem EvB_ok {c : List (Int × Int)} (g : G T n u 0 o 0 p (0, q, c)) (h : EvS T n u w pr Fs (o - m) (em ++ c ++ repN m) q r) : EvB T n u w pr m Fs o em p r := ⟨_, g, by rw [if_neg (by simp)]; exact h⟩
theorem EvB_f {s : Rs} (g : G T n u 0 o 0 p s) (h : s.1 ≠ 0) : EvB T n u w pr m Fs o em p s := ⟨_, g, by rw [if_pos h]⟩
theorem EvB_neg (h : tTok T n p = 45) (hn : tNm T n p < 0) (ho : o ≠ 8) (e : EvB T n u w pr (m + 1) Fs (o + 1) em (tNx T n p) r) : EvB T n u w pr m Fs o em p r := by
  obtain ⟨s, g, e⟩ := e
  have k := G_neg (w := 0) h hn ho g
  by_cases z : s.1 = 0
  · rw [if_neg (by omega)] at k e
    refine EvB_ok k ?_
    rw [show o + 1 - ((m + 1 : Nat) : Int) = o - m by omega] at e
    rw [show em ++ (s.2.2 ++ [(2, 0)]) ++ repN m = em ++ s.2.2 ++ repN (m + 1) by simp [repN]]
    exact e
  · rw [if_pos z] at k e
    rw [e]
    exact EvB_f k z
theorem EvB_par (h : tTok T n p = 40) (hn : tNm T n p < 0) (ho : o ≠ 8) (e : EvB T n u 0 0 0 ((w, pr, m) :: Fs) (o + 1) em (tNx T n p) r) : EvB T n u w pr m Fs o em p r := by
  obtain ⟨s, g, e⟩ := e
  by_cases z : s.1 = 0
  · rw [if_neg (by omega)] at e
    obtain ⟨t, g2, e⟩ := e
    rw [show o + 1 - ((0 : Nat) : Int) = o + 1 by omega] at g2 e
    have k := G_par (w := 0) h hn ho (G_sum (w := 0) g z g2)
    by_cases y : t.1 = 0
    · have et : preR s.2.2 t = (0, t.2.1, s.2.2 ++ t.2.2) := if_pos y
      rw [et] at k
      rw [if_neg (by simp)] at k
      simp only [EvC] at e
      rw [if_neg (by omega)] at e
      by_cases x : tTok T n t.2.1 = 41
      · rw [if_pos x] at k e
        obtain ⟨t', g3, e⟩ := e
        rw [show o + 1 - 1 - (m : Int) = o - m by omega] at g3 e
        refine EvB_ok k ⟨t', g3, ?_⟩
        have l : em ++ (s.2.2 ++ t.2.2) ++ repN m ++ wlL pr = em ++ s.2.2 ++ repN 0 ++ wlL 0 ++ t.2.2 ++ repN m ++ wlL pr := by simp [repN, wlL]
        rw [l]
        exact e
      · rw [if_neg x] at k e
        rw [e]
        exact EvB_f k (by simp)
    · rw [preR_f y, if_pos y] at k
      rw [EvC_fr y e]
      exact EvB_f k y
  · rw [if_pos z] at e
    have k := G_par (w := 0) h hn ho (G_sumF (w := 0) g z)
    rw [if_pos z] at k
    rw [e]
    exact EvB_f k z
theorem EvS_add (h : tTok T n q = 43 ∨ tTok T n q = 45) (e : EvB T n u (if tTok T n q = 43 then 3 else 4) 0 0 Fs o (em ++ wlL pr ++ wlL w) (tNx T n q) r) : EvS T n u w pr Fs o em q r := by
  obtain ⟨s, g, e⟩ := e
  by_cases z : s.1 = 0
  · rw [if_neg (by omega)] at e
    obtain ⟨t, g2, e⟩ := e
    rw [show o - ((0 : Nat) : Int) = o by omega] at g2 e
    refine ⟨_, G_add h g z g2, EvC_pre ?_⟩
    have l : em ++ wlL pr ++ (wlL w ++ s.2.2) = em ++ wlL pr ++ wlL w ++ s.2.2 ++ repN 0 ++ wlL 0 := by simp [repN, wlL]
    rw [l]
    exact e
  · rw [if_pos z] at e
    rw [e]
    exact ⟨_, G_addF h g z, EvC_f z⟩
theorem EvS_mul (h : tTok T n q = 42 ∨ tTok T n q = 47) (e : EvB T n u w (if tTok T n q = 42 then 5 else 6) 0 Fs o (em ++ wlL pr) (tNx T n q) r) : EvS T n u w pr Fs o em q r := by
  obtain ⟨s, g, e⟩ := e
  by_cases z : s.1 = 0
  · rw [if_neg (by omega)] at e
    obtain ⟨t, g2, e⟩ := e
    rw [show o - ((0 : Nat) : Int) = o by omega] at g2 e
    refine ⟨_, G_mul h g z g2, EvC_pre ?_⟩
    have l : em ++ wlL pr ++ (s.2.2 ++ [(if tTok T n q = 42 then 5 else 6, 0)]) = em ++ wlL pr ++ s.2.2 ++ repN 0 ++ wlL (if tTok T n q = 42 then 5 else 6) := by
      simp only [repN, wlL]
      rw [if_neg (show ¬ (if tTok T n q = 42 then (5 : Int) else 6) = 0 by split <;> omega)]
      simp
    rw [l]
    exact e
  · rw [if_pos z] at e
    rw [e]
    exact ⟨_, G_mulF h g z, EvC_f z⟩
theorem EvS_close {w' pr' : Int} (h : tTok T n q = 41) (e : EvS T n u w' pr' Fs (o - 1 - m) (em ++ wlL pr ++ wlL w ++ repN m) (tNx T n q) r) : EvS T n u w pr ((w', pr', m) :: Fs) o em q r := by
  obtain ⟨s, g, e⟩ := e
  refine ⟨_, G_end (by omega) (by omega) (by omega) (by omega), ?_⟩
  simp only [EvC]
  rw [if_neg (by simp), if_pos h]
  exact ⟨s, g, e⟩
theorem EvS_end (h1 : tTok T n q ≠ 43) (h2 : tTok T n q ≠ 45) (h3 : tTok T n q ≠ 42) (h4 : tTok T n q ≠ 47) : EvS T n u w pr [] o em q (0, q, em ++ wlL pr ++ wlL w) := by
  refine ⟨_, G_end h1 h2 h3 h4, ?_⟩
  simp only [EvC]
  rw [if_neg (by simp)]
theorem EvS_endF {f : Int × Int × Nat} (h1 : tTok T n q ≠ 43) (h2 : tTok T n q ≠ 45) (h3 : tTok T n q ≠ 42) (h4 : tTok T n q ≠ 47) (h5 : tTok T n q ≠ 41) : EvS T n u w pr (f :: Fs) o em q (1, q, []) := by
  refine ⟨_, G_end h1 h2 h3 h4, ?_⟩
  simp only [EvC]
  rw [if_neg (by simp), if_neg h5]; trivial
theorem EvB_top (e : EvB T n u 0 0 0 [] o [] p r) : G T n u 1 o 0 p r := by
  obtain ⟨s, g, e⟩ := e
  by_cases z : s.1 = 0
  · rw [if_neg (by omega)] at e
    obtain ⟨t, g2, e⟩ := e
    rw [show o - ((0 : Nat) : Int) = o by omega] at g2 e
    have k := G_sum (w := 0) g z g2
    simp only [EvC] at e
    by_cases y : t.1 = 0
    · rw [if_neg (by omega)] at e
      have et : preR s.2.2 t = (0, t.2.1, s.2.2 ++ t.2.2) := if_pos y
      rw [et] at k
      rw [e]
      simpa [repN, wlL] using k
    · rw [if_pos y] at e
      rw [preR_f y] at k
      rw [e]; exact k
  · rw [if_pos z] at e
    rw [e]
    exact G_sumF g z
end Ev
/-! the pile as it lies in its row, top first -/
def segL (f : Int × Int × Nat) : List Int := List.replicate f.2.2 2 ++ ((if f.2.1 = 0 then [] else [f.2.1]) ++ (if f.1 = 0 then [] else [f.1]))
def pileL : List (Int × Int × Nat) → Int × Int × Nat → List Int
  | [], f => segL f
  | g :: Fs, f => segL f ++ 40 :: pileL Fs g
def Pile (row : Int → Int) : List Int → Int → Prop
  | [], pd => pd = 0
  | x :: L, pd => 0 < pd ∧ row (pd - 1) = x ∧ Pile row L (pd - 1)
/-- opens in a pile, and its bound -/
def opsN : List (Int × Int × Nat) → Int × Int × Nat → Int
  | [], f => f.2.2
  | g :: Fs, f => f.2.2 + 1 + opsN Fs g

theorem Pile_len {row : Int → Int} : ∀ {L : List Int} {pd : Int}, Pile row L pd → pd = L.length
  | [], pd, h => h
  | x :: L, pd, h => by
    have := Pile_len h.2.2
    simp only [List.length_cons]
    omega
theorem Pile_c {row row' : Int → Int} : ∀ {L : List Int} {pd : Int}, Pile row L pd → (∀ k, 0 ≤ k → k < pd → row k = row' k) → Pile row' L pd
  | [], pd, h, _ => h
  | x :: L, pd, h, e => ⟨h.1, by rw [← e (pd - 1) (by have := h.1; omega) (by omega)]; exact h.2.1, Pile_c h.2.2 (fun k k0 k1 => e k k0 (by omega))⟩
theorem Pile_push {row : Int → Int} {L : List Int} {pd x : Int} (h : Pile row L pd) : Pile (ua row pd x) (x :: L) (pd + 1) := by
  have := Pile_len h
  refine ⟨by omega, by rw [show pd + 1 - 1 = pd by omega, ua_same], ?_⟩
  rw [show pd + 1 - 1 = pd by omega]
  exact Pile_c h (fun k k0 k1 => (ua_ne (by omega)).symm)
/-- code is of small numbers only -/
def bc (y : Int) : Int := if -1 ≤ y ∧ y < 65536 then y else 0
theorem bc_in {y : Int} (h : -1 ≤ y ∧ y < 65536) : bc y = y := if_pos h
theorem bc_r (y : Int) : -1 ≤ bc y ∧ bc y < 65536 := by
  simp only [bc]
  split
  · assumption
  · omega
/-- code written behind what is there -/
def emL (tx : Int → Int) (t0 : Int) : Int → List (Int × Int) → Int → Int
  | _, [] => tx
  | wr, x :: c => emL (ua (ua tx (t0 + 100 + 2 * wr) (bc x.1)) (t0 + 100 + 2 * wr + 1) (bc x.2)) t0 (wr + 1) c
theorem emL_app (t0 : Int) : ∀ (c d : List (Int × Int)) (tx : Int → Int) (wr : Int), emL tx t0 wr (c ++ d) = emL (emL tx t0 wr c) t0 (wr + c.length) d
  | [], d, tx, wr => by simp [emL]
  | x :: c, d, tx, wr => by
    simp only [List.cons_append, emL, List.length_cons]
    rw [emL_app t0 c d, show wr + 1 + (c.length : Int) = wr + ((c.length + 1 : Nat) : Int) by omega]
theorem emL_1 (t0 wr o v : Int) (tx : Int → Int) (ho : -1 ≤ o ∧ o < 65536) (hv : -1 ≤ v ∧ v < 65536) : emL tx t0 wr [(o, v)] = ua (ua tx (t0 + 100 + 2 * wr) o) (t0 + 100 + 2 * wr + 1) v := by
  simp only [emL]
  rw [bc_in ho, bc_in hv]
theorem AB_emL (t0 : Int) : ∀ (c : List (Int × Int)) (tx : Int → Int) (wr : Int), AB tx → AB (emL tx t0 wr c)
  | [], tx, wr, h => h
  | x :: c, tx, wr, h => AB_emL t0 c _ _ (AB_ua (AB_ua h (bc_r _)) (bc_r _))
theorem repN_s : ∀ m : Nat, repN (m + 1) = repN m ++ [(2, 0)]
  | 0 => rfl
  | m + 1 => by
    have := repN_s m
    simp only [repN] at this ⊢
    rw [List.cons_append, ← this]
theorem repN_len : ∀ m : Nat, (repN m).length = m
  | 0 => rfl
  | m + 1 => by simp only [repN, List.length_cons]; rw [repN_len m]
theorem Pile_at {row : Int → Int} : ∀ {c : List Int} {x : Int} {L : List Int} {pd : Int}, Pile row (c ++ x :: L) pd → 0 < pd - c.length ∧ row (pd - c.length - 1) = x ∧ Pile row L (pd - c.length - 1)
  | [], x, L, pd, h => by
    obtain ⟨h1, h2, h3⟩ := h
    simp only [List.length_nil]
    rw [show pd - ((0 : Nat) : Int) = pd by omega]
    exact ⟨h1, h2, h3⟩
  | y :: c, x, L, pd, h => by
    have := Pile_at (c := c) h.2.2
    simp only [List.length_cons]
    rw [show pd - ((c.length + 1 : Nat) : Int) = pd - 1 - c.length by omega]
    exact this
theorem Pile_drop {row : Int → Int} : ∀ {c L : List Int} {pd : Int}, Pile row (c ++ L) pd → Pile row L (pd - c.length)
  | [], L, pd, h => by simp only [List.length_nil]; rw [show pd - ((0 : Nat) : Int) = pd by omega]; exact h
  | y :: c, L, pd, h => by
    have := Pile_drop (c := c) h.2.2
    simp only [List.length_cons]
    rw [show pd - ((c.length + 1 : Nat) : Int) = pd - 1 - c.length by omega]
    exact this
theorem Pile_rep {row : Int → Int} : ∀ {m : Nat} {L : List Int} {pd : Int}, Pile row (List.replicate m 2 ++ L) pd → Pile row L (pd - m) ∧ ∀ i : Int, 0 ≤ i → i < m → row (pd - 1 - i) = 2
  | 0, L, pd, h => ⟨by rw [show pd - ((0 : Nat) : Int) = pd by omega]; simpa using h, fun i i0 i1 => by omega⟩
  | m + 1, L, pd, h => by
    rw [List.replicate_succ, List.cons_append] at h
    obtain ⟨a, b⟩ := Pile_rep (m := m) h.2.2
    refine ⟨by rw [show pd - ((m + 1 : Nat) : Int) = pd - 1 - m by omega]; exact a, fun i i0 i1 => ?_⟩
    by_cases z : i = 0
    · rw [z, show pd - 1 - 0 = pd - 1 by omega]; exact h.2.1
    · have := b (i - 1) (by omega) (by omega)
      rw [show pd - 1 - 1 - (i - 1) = pd - 1 - i by omega] at this
      exact this
theorem Pile_top {row : Int → Int} {L : List Int} {pd : Int} (h : Pile row L pd) (hp : 0 < pd) : ∃ L', L = row (pd - 1) :: L' := by
  cases L with
  | nil => exact absurd h (by simp only [Pile]; omega)
  | cons x L => exact ⟨L, by rw [h.2.1]⟩
