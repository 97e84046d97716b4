theorem PS_c14 {T f g : Int → Int} {n p : Int} (h : PS T n p f) (e : ∀ k, k ≠ 14 → g k = f k) : PS T n p g := by
  simp only [PS]
  rw [e 4 (by decide), e 7 (by decide), e 8 (by decide), e 9 (by decide), e 10 (by decide), e 11 (by decide)]
  exact h
theorem ei_b0 {txa : Int → Int} {t0 w a : Int} : emL txa t0 w (wlL (21 * a)) = emL txa t0 w (wlL (21 * a) ++ wlL (22 * 0)) := by simp [wlL]
theorem ei_b1 {txa tX : Int → Int} {t0 w a F12 F14 : Int} (ha : a = 0 ∨ a = 1) (h12 : F12 = t0) (h14 : F14 = w + a) (hX : tX = emL txa t0 w (wlL (21 * a))) : ua (ua tX (F12 + 100 + 2 * F14) 22) (F12 + 100 + 2 * F14 + 1) 0 = emL txa t0 w (wlL (21 * a) ++ wlL (22 * 1)) := by
  rw [emL_app, ← hX, wlL_len ha (by decide), h12, h14]
  rfl
def Sel (x : Int) (P : Prop) : Prop := (x = 1 ∧ P) ∨ (x = 0 ∧ ¬ P)
theorem Sel_r {x : Int} {P : Prop} (h : Sel x P) : 0 ≤ x ∧ x ≤ 1 := by rcases h with z | z <;> omega
theorem Sel_1 {x : Int} {P : Prop} (h : Sel x P) (e : x = 1) : P := h.elim (fun z => z.2) (fun z => by omega)
theorem Sel_0 {x : Int} {P : Prop} (h : Sel x P) (e : x = 0) : ¬ P := h.elim (fun z => by omega) (fun z => z.2)
theorem Sel_if {P Q : Prop} [Decidable P] (h : P ↔ Q) : Sel (if P then 1 else 0) Q := by
  by_cases c : P
  · rw [if_pos c]; exact Or.inl ⟨rfl, h.mp c⟩
  · rw [if_neg c]; exact Or.inr ⟨rfl, fun z => c (h.mpr z)⟩
theorem b01 {x : Int} (h : x = 0 ∨ x = 1) : 0 ≤ x ∧ x ≤ 1 := by omega
theorem i01 {x : Int} (h : 0 ≤ x ∧ x ≤ 1) : x = 0 ∨ x = 1 := by omega
theorem And_iff {T f : Int → Int} {n q w : Int} (h : PS T n q f) : (f 9 = 2 ∧ f 11 = w) ↔ (tTok T n q = 2 ∧ tWd T n q = w) := by
  have h9 := h.2.2.2.2.1
  have h11 := h.2.2.2.2.2.2.1
  exact ⟨fun z => ⟨by omega, by rw [← h11 (by omega)]; exact z.2⟩, fun z => ⟨by omega, by rw [h11 z.1]; exact z.2⟩⟩
