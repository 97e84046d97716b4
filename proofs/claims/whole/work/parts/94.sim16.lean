/-! one ROUND only; answers that a relation gives -/
def rIX (S : Stt) (P : Int → Va → Prop) : Option Value → Stt → Va → Prop := fun v S' V' => ∃ r, some (vI r) = v ∧ S = S' ∧ P r V'
theorem SoF_det {a : Int → Int} {A : Int → Prop} {n x0 x1 l m : Int} {b c : Int → Int} (hn : 1 ≤ n) (h : SoF a A n x0 (fun _ => True) l b) (hx : ∀ x, A x → x0 ≤ x) (g : SoF a A n x1 (fun _ => True) m c) (gx : ∀ x, A x → x1 ≤ x) : l = m ∧ ∀ j, 0 ≤ j → j < n → b j = c j := by
  have e : x0 = x1 := by
    have p := hx _ (g.1.1 0 (by omega) (by omega))
    have q := gx _ (h.1.1 0 (by omega) (by omega))
    rw [g.2.1] at p
    rw [h.2.1] at q
    omega
  have p := h.2.2.2 c g.1 (g.2.1.trans e.symm) trivial
  have q := g.2.2.2 b h.1 (h.2.1.trans e) trivial
  have hl := h.2.2.1
  have gl := g.2.2.1
  have lm : l = m := by omega
  refine ⟨lm, ?_⟩
  rcases Lx_tri (n := n) (t := b) (q := c) with z | z | z
  · exact absurd z (q.2 (by omega))
  · exact absurd z (p.2 (by omega))
  · exact z
theorem RoR_det {a : Int → Int} {set i r s : Int} (h : RoR a set i r) (g : RoR a set i s) : r = s := by
  simp only [RoR] at h g
  by_cases c : 1 ≤ set ∧ set ≤ p2 (a 0) - 1 ∧ bN set 16 ≤ 8 ∧ -1 ≤ i ∧ i < bN set 16
  · rw [if_pos c] at h g
    obtain ⟨x0, l, b, h1, h2, h3⟩ := h
    obtain ⟨x1, m, d, g1, g2, g3⟩ := g
    by_cases z : 1 ≤ bN set 16
    · have y := SoF_det z h1 h2 g1 g2
      rw [h3, g3]
      by_cases w : i = -1
      · rw [if_pos w, if_pos w]; exact y.1
      · rw [if_neg w, if_neg w]; exact y.2 i (by omega) (by omega)
    · have n0 : bN set 16 = 0 := by omega
      have w : i = -1 := by omega
      rw [h3, g3, if_pos w, if_pos w, h1.2.2.1, g1.2.2.1, n0]
      rfl
  · rw [if_neg c] at h g
    rw [h, g]
theorem RoR_no {a : Int → Int} {set i : Int} (h : ¬ (1 ≤ set ∧ set ≤ p2 (a 0) - 1 ∧ bN set 16 ≤ 8 ∧ -1 ≤ i ∧ i < bN set 16)) : RoR a set i (-1) := by
  simp only [RoR]
  rw [if_neg h]
  trivial
theorem RoR_yes {a : Int → Int} {set i r : Int} {V : Va} (hs : 1 ≤ set ∧ set ≤ p2 (a 0) - 1) (hi : -1 ≤ i) (h : RdOK a set V) (hr : r = (if i = -1 then V 303 8 else if 0 ≤ i ∧ i < V 303 5 then V 305 i else -1)) : RoR a set i r := by
  simp only [RoR]
  obtain ⟨k1, k2, k3, x0, b, k4, k5, k6⟩ := h
  by_cases c : i < bN set 16
  · rw [if_pos ⟨hs.1, hs.2, k2, hi, c⟩]
    refine ⟨x0, _, b, k4, k5, ?_⟩
    rw [hr]
    by_cases w : i = -1
    · rw [if_pos w, if_pos w]
    · rw [if_neg w, if_neg w, if_pos (by omega)]
      exact k6 i (by omega) c
  · rw [if_neg (fun z => c z.2.2.2.2)]
    have z := bN_r set 16 (by omega)
    rw [hr, if_neg (by omega), if_neg (by omega)]
