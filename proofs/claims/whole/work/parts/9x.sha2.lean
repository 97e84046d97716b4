/-! twins -/
abbrev Twn (V : Va) (i j : Int) : Prop := V 292 i = V 292 j ∧ bor (V 291 i) (bor (p2 i) (p2 j)) = bor (V 291 j) (bor (p2 i) (p2 j))
def TwL (V : Va) (i m t : Int) : Prop := (t = -1 ∧ ∀ j, 0 ≤ j → j < m → ¬ Twn V i j) ∨ (0 ≤ t ∧ t < m ∧ Twn V i t ∧ ∀ j, t < j → j < m → ¬ Twn V i j)
theorem TwL_0 (V : Va) (i : Int) : TwL V i 0 (-1) := Or.inl ⟨rfl, fun j j0 j1 => by omega⟩
theorem TwL_on {V : Va} {i m t : Int} (h0 : 0 ≤ m) (h : Twn V i m) : TwL V i (m + 1) m := Or.inr ⟨h0, by omega, h, fun j j0 j1 => by omega⟩
theorem TwL_no {V : Va} {i m t : Int} (hT : TwL V i m t) (h : ¬ Twn V i m) : TwL V i (m + 1) t := by
  rcases hT with ⟨a1, a2⟩ | ⟨a1, a2, a3, a4⟩
  · refine Or.inl ⟨a1, fun j j0 j1 => ?_⟩
    by_cases e : j = m
    · rw [e]; exact h
    · exact a2 j j0 (by omega)
  · refine Or.inr ⟨a1, by omega, a3, fun j j0 j1 => ?_⟩
    by_cases e : j = m
    · rw [e]; exact h
    · exact a4 j j0 (by omega)
