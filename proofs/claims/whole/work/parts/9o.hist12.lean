/-! the class's HISTORIES, kept -/
def CB18 (f : Int → Int) : Prop := ∀ s, 0 ≤ f s ∧ f s ≤ 1000000000000000000
theorem CB18_u {f : Int → Int} (h : CB18 f) (x : Int) {C : Int} (hC : 0 ≤ C ∧ C ≤ 1000000000000000000) : CB18 (ua f x C) := fun s => by
  by_cases e : s = x
  · rw [e, ua_same]; exact hC
  · rw [ua_ne e]; exact h s
theorem lkP_r {V : Va} {one ah : Int} (h0 : 0 ≤ one) (h1 : one ≤ 11) (a0 : 0 ≤ ah) (a1 : ah ≤ 11) : 0 ≤ lkP V one ah ∧ lkP V one ah ≤ 1000000000000000000 := by
  have p := p2_pos (4 * (11 - one))
  have q := p2_le (t := 4 * (11 - one)) (u := 44) (by omega)
  rw [show p2 44 = 17592186044416 by decide] at q
  have k := Int.mul_le_mul_of_nonneg_right (show ah + 1 ≤ 12 by omega) (show 0 ≤ p2 (4 * (11 - one)) by omega)
  have k0 := Int.mul_nonneg (show 0 ≤ ah + 1 by omega) (show 0 ≤ p2 (4 * (11 - one)) by omega)
  simp only [lkP]
  split <;> omega
def FrP (V V' : Va) : Prop := ∀ q : Nat, q < 297 ∨ 302 < q → V' q = V q
def PsC (a : Int → Int) (V : Va) : Prop := V 297 7 = V 1 10 → PsE a (V 301 0) (V 302 0)
theorem TbI_C {a o cs ws : Int → Int} {n r : Nat} (hn : n ≤ 12) (hr : r + 1 ≤ n) (hP : PmS o n) {q x : Int} (x0 : 0 ≤ x) (h : TbI a o n r q (x + 1) cs ws) : 0 ≤ cs x ∧ cs x ≤ 1000000000000000000 := TbL_ub hn hr hP h.1 x0 (by omega)
