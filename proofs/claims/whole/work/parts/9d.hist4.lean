/-! the class's packed cost -/
def pk (b t d : Int) : Int := (16 * b + t) * 281474976710656 + d
def kL (c : Int) : H3 := fun b t d => decide (pk b t d < c)
def kE (c : Int) : H3 := fun b t d => decide (pk b t d = c)
def kT (x : Int) : H3 := fun b t _ => decide (16 * b + t = x)
def pr (a : Int → Int) (i j : Int) : Int := pk (wB j) (wT1 a i j) (wD i j)
theorem kL_sh (a : Int → Int) (c i j : Int) : hSh a (kL c) i j = kL (c - pr a i j) := by
  funext b t d
  show decide (pk (wB j + b) (wT1 a i j + t) (wD i j + d) < c) = decide (pk b t d < c - pr a i j)
  exact decide_eq_decide.mpr (by simp only [pr, pk]; omega)
theorem kE_sh (a : Int → Int) (c i j : Int) : hSh a (kE c) i j = kE (c - pr a i j) := by
  funext b t d
  show decide (pk (wB j + b) (wT1 a i j + t) (wD i j + d) = c) = decide (pk b t d = c - pr a i j)
  exact decide_eq_decide.mpr (by simp only [pr, pk]; omega)
theorem kT_sh (a : Int → Int) (x i j : Int) : hSh a (kT x) i j = kT (x - (16 * wB j + wT1 a i j)) := by
  funext b t d
  simp only [hSh, kT]
  rw [decide_eq_decide]
  omega
abbrev OKd (D : Int) (b t d : Int) : Prop := 0 ≤ b ∧ 0 ≤ t ∧ 0 ≤ d ∧ d ≤ D
/-- F counts; c is the least of what it counts, w how many have its top -/
def LM (F : H3 → Int) (D c w : Int) : Prop := (∀ p q, (∀ b t d, OKd D b t d → p b t d = true → q b t d = true) → F q = 0 → F p = 0) ∧ (∀ p, 0 ≤ F p) ∧ F (kL c) = 0 ∧ 1 ≤ F (kE c) ∧ F (kT (c / 281474976710656)) = w ∧ 0 ≤ c ∧ c % 281474976710656 ≤ D
theorem hN_zD {sm a : Int → Int} {n : Nat} (hn : n ≤ 12) {l : List Int} {U : Int → Bool} {p q : H3} (h : ∀ b t d, OKd (bdL l) b t d → p b t d = true → q b t d = true) (z : hN sm a n l U q = 0) : hN sm a n l U p = 0 := by
  have e : hN sm a n l U p = hN sm a n l U (fun b t d => p b t d && oB l b t d) := hN_eq hn l U _ _ (fun b t d o => by show p b t d = (p b t d && oB l b t d); rw [o, Bool.and_true])
  rw [e]
  refine hN_z (fun b t d k => ?_) z
  rw [Bool.and_eq_true] at k
  have o := of_decide_eq_true k.2
  exact h b t d ⟨o.1, o.2.2.1, o.2.2.2.2.1, o.2.2.2.2.2⟩ k.1
theorem LM_0 (sm a : Int → Int) {n : Nat} (hn : n ≤ 12) (U : Int → Bool) : LM (hN sm a n [] U) 0 0 1 := by
  refine ⟨fun p q h => hN_zD hn h, fun p => hN_ge sm a n [] U p, ?_, ?_, ?_, by omega, by omega⟩
  · exact if_neg (by decide)
  · simp only [hN]; rw [if_pos (by decide)]; omega
  · exact if_pos (by decide)
theorem LM_sh {sm a : Int → Int} {n : Nat} (hn : n ≤ 12) {l : List Int} {U : Int → Bool} {c w i j : Int} (h0 : -1 ≤ j) (h1 : j < 12) (hb : bdL (i :: l) < 281474976710656) (h : LM (hN sm a n l U) (bdL l) c w) : LM (fun p => hN sm a n l U (hSh a p i j)) (bdL (i :: l)) (c + pr a i j) w := by
  obtain ⟨k1, k2, k3, k4, k5, k6, k7⟩ := h
  have x := wD_r (i := i) h0 h1
  have y := wB_r j
  have z := wT1_r a i j
  have f : bdL (i :: l) = 15 * p2 (4 * (11 - i)) + bdL l := rfl
  have dm := Int.emod_nonneg c (show (281474976710656 : Int) ≠ 0 by decide)
  have ep : pr a i j = (16 * wB j + wT1 a i j) * 281474976710656 + wD i j := rfl
  have top : (c + pr a i j) / 281474976710656 = c / 281474976710656 + (16 * wB j + wT1 a i j) := by
    omega
  have low : (c + pr a i j) % 281474976710656 = c % 281474976710656 + wD i j := by omega
  refine ⟨fun p q g e => k1 _ _ (fun b t d o => g _ _ _ ⟨by omega, by omega, by omega, by omega⟩) e, fun p => k2 _, ?_, ?_, ?_, by omega, by omega⟩
  · simp only
    rw [kL_sh, show c + pr a i j - pr a i j = c by omega]; exact k3
  · simp only
    rw [kE_sh, show c + pr a i j - pr a i j = c by omega]; exact k4
  · simp only
    rw [kT_sh, top, show c / 281474976710656 + (16 * wB j + wT1 a i j) - (16 * wB j + wT1 a i j) = c / 281474976710656 by omega]; exact k5
theorem LM_add {F G : H3 → Int} {D c w c' w' : Int} (hD : D < 281474976710656) (h : LM F D c w) (g : LM G D c' w') : LM (fun p => F p + G p) D (min c c') (if c' / 281474976710656 = c / 281474976710656 then w + w' else if c' < c then w' else w) := by
  obtain ⟨k1, k2, k3, k4, k5, k6, k7⟩ := h
  obtain ⟨g1, g2, g3, g4, g5, g6, g7⟩ := g
  have mono : ∀ (H : H3 → Int), (∀ p q, (∀ b t d, OKd D b t d → p b t d = true → q b t d = true) → H q = 0 → H p = 0) → ∀ x y, y ≤ x → H (kL x) = 0 → H (kL y) = 0 := fun H hh x y hxy hz => hh _ _ (fun b t d o k => decide_eq_true (by have k := of_decide_eq_true k; omega)) hz
  have topz : ∀ (H : H3 → Int), (∀ p q, (∀ b t d, OKd D b t d → p b t d = true → q b t d = true) → H q = 0 → H p = 0) → ∀ x y, y < x / 281474976710656 → H (kL x) = 0 → H (kT y) = 0 := fun H hh x y hxy hz => hh _ _ (fun b t d o k => decide_eq_true (by have k := of_decide_eq_true k; have o4 := o.2.2.2; simp only [pk]; omega)) hz
  have z1 : ∀ p q, (∀ b t d, OKd D b t d → p b t d = true → q b t d = true) → F q + G q = 0 → F p + G p = 0 := fun p q hpq e => by
    have a1 := k2 q
    have a2 := g2 q
    rw [k1 p q hpq (by omega), g1 p q hpq (by omega)]; rfl
  by_cases c1 : c ≤ c'
  · have em : min c c' = c := Int.min_eq_left c1
    rw [em]
    refine ⟨z1, fun p => by have := k2 p; have := g2 p; simp only; omega, ?_, ?_, ?_, k6, k7⟩
    · simp only; rw [k3, mono G g1 c' c c1 g3]; rfl
    · simp only; have := g2 (kE c); omega
    · simp only
      rw [k5]
      by_cases t : c' / 281474976710656 = c / 281474976710656
      · rw [if_pos t, ← t, g5]
      · rw [if_neg t, if_neg (by omega), topz G g1 c' _ (by omega) g3]; omega
  · have em : min c c' = c' := Int.min_eq_right (by omega)
    rw [em]
    refine ⟨z1, fun p => by have := k2 p; have := g2 p; simp only; omega, ?_, ?_, ?_, g6, g7⟩
    · simp only; rw [g3, mono F k1 c c' (by omega) k3]; rfl
    · simp only; have := k2 (kE c'); omega
    · simp only
      rw [g5]
      by_cases t : c' / 281474976710656 = c / 281474976710656
      · rw [if_pos t, t, k5]
      · rw [if_neg t, if_pos (by omega), topz F k1 c _ (by omega) k3]; omega
/-- two that count the same have one least, and as many of it -/
theorem LM_e {F G : H3 → Int} {D c w : Int} (e : ∀ p, F p = G p) (h : LM F D c w) : LM G D c w := by
  rw [show G = F from funext (fun p => (e p).symm)]; exact h
