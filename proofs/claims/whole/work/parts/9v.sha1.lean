/-! SAINTS by the class -/
def soV (V : Va) (bone : Int) : Int := if findT (fun i => decide (V 290 i = bone)) (V 289 9) < 0 then -1 else V 296 (findT (fun i => decide (V 290 i = bone)) (V 289 9))
theorem soV_at {V : Va} {bone i : Int} (h0 : 0 ≤ i) (h1 : i < V 289 9) (h : V 290 i = bone) (hb : ∀ j, 0 ≤ j → j < i → V 290 j ≠ bone) : soV V bone = V 296 i := by
  simp only [soV]
  rw [findT_at h0 h1 (decide_eq_true h) (fun j j0 j1 => decide_eq_false (hb j j0 j1)), if_neg (by omega)]
theorem soV_no {V : Va} {bone : Int} (hb : ∀ j, 0 ≤ j → j < V 289 9 → V 290 j ≠ bone) : soV V bone = -1 := by
  simp only [soV]
  rw [findT_no (fun j j0 j1 => decide_eq_false (hb j j0 j1)), if_pos (by omega)]
