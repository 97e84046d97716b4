/-! those that may be AHEAD of one -/
def lkP (V : Va) (one ah : Int) : Int := (if V 135 ah = V 135 one then 0 else 1) * 281474976710656 + (ah + 1) * p2 (4 * (11 - one))
def LkI (V : Va) (one x c : Int) (sel bt pc : Int → Int) : Prop := (0 ≤ c ∧ c ≤ x) ∧ (∀ k, 0 ≤ k → k < c → 0 ≤ sel k ∧ sel k < x ∧ bt k = p2 (sel k) ∧ pc k = lkP V one (V 298 (sel k))) ∧ ∀ f : Int → Int, sumT (fun k => f (sel k)) c = sumT (fun y => if cSame V (V 298 y) one then f y else 0) x
theorem LkI_0 (V : Va) (one : Int) (sel bt pc : Int → Int) : LkI V one 0 0 sel bt pc := ⟨by omega, fun k k0 k1 => by omega, fun f => rfl⟩
theorem LkI_no {V : Va} {one x c : Int} {sel bt pc : Int → Int} (h : LkI V one x c sel bt pc) (x0 : 0 ≤ x) (hs : ¬ cSame V (V 298 x) one) : LkI V one (x + 1) c sel bt pc := by
  obtain ⟨h1, h2, h3⟩ := h
  refine ⟨by omega, fun k k0 k1 => ?_, fun f => ?_⟩
  · have := h2 k k0 k1
    exact ⟨this.1, by omega, this.2.2⟩
  · rw [sumT_s _ x0, if_neg hs, h3 f]; omega
theorem LkI_on {V : Va} {one x c B P : Int} {sel bt pc : Int → Int} (h : LkI V one x c sel bt pc) (x0 : 0 ≤ x) (hs : cSame V (V 298 x) one) (hB : B = p2 x) (hP : P = lkP V one (V 298 x)) : LkI V one (x + 1) (c + 1) (ua sel c x) (ua bt c B) (ua pc c P) := by
  obtain ⟨h1, h2, h3⟩ := h
  refine ⟨by omega, fun k k0 k1 => ?_, fun f => ?_⟩
  · by_cases e : k = c
    · rw [e, ua_same, ua_same, ua_same]
      exact ⟨x0, by omega, hB, hP⟩
    · rw [ua_ne e, ua_ne e, ua_ne e]
      have := h2 k k0 (by omega)
      exact ⟨this.1, by omega, this.2.2⟩
  · rw [sumT_s _ x0, if_pos hs, sumT_s _ (by omega), ua_same, ← h3 f]
    rw [sumT_c (f := fun k => f (ua sel c x k)) (g := fun k => f (sel k)) (fun q q0 q1 => by rw [ua_ne (by omega)])]
theorem lkP_0 {V : Va} {one ah : Int} (h : V 135 ah = V 135 one) : 0 * p2 48 + (ah + 1) * p2 (4 * (11 - one)) = lkP V one ah := by
  simp only [lkP]; rw [if_pos h, Int.zero_mul, Int.zero_mul]
theorem lkP_1 {V : Va} {one ah : Int} (h : ¬ V 135 ah = V 135 one) : 1 * p2 48 + (ah + 1) * p2 (4 * (11 - one)) = lkP V one ah := by
  simp only [lkP]; rw [if_neg h, show p2 48 = 281474976710656 by decide]
