theorem preR_preR (c d : List (Int × Int)) (s : Rs) : preR c (preR d s) = preR (c ++ d) s := by
  by_cases h : s.1 = 0
  · have e : preR d s = (0, s.2.1, d ++ s.2.2) := if_pos h
    have e2 : preR (c ++ d) s = (0, s.2.1, c ++ d ++ s.2.2) := if_pos h
    rw [e, e2, preR_0, List.append_assoc]
  · rw [preR_f h, preR_f h, preR_f h]
/-- where either stands: a and b wait -/
def EiI (T : Int → Int) (n u p0 o0 t0 wr0 : Int) (tx0 f0 : Int → Int) (a b more p : Int) (em : List (Int × Int)) (f tx pl : Int → Int) : Prop := (a = 0 ∨ a = 1) ∧ (b = 0 ∨ b = 1) ∧ (more = 0 ∨ more = 1) ∧ PS T n p f ∧ f 14 = wr0 + em.length ∧ f 18 = o0 ∧ tx = emL tx0 t0 wr0 em ∧ p0 ≤ p ∧ (em.length : Int) + more * (a + b) ≤ p - p0 ∧ (∀ k, k < 7 ∨ k = 12 ∨ k = 20 ∨ k = 21 ∨ 22 ≤ k → f k = f0 k) ∧ AB pl ∧ (more = 1 → ∀ m s, EiF T n u o0 m a b p s → Eith T n u o0 p0 (preR em s)) ∧ (more = 0 → Eith T n u o0 p0 (0, p, em))
theorem wlL_len {a x : Int} (h : a = 0 ∨ a = 1) (hx : x ≠ 0) : ((wlL (x * a)).length : Int) = a := by
  rcases h with z | z
  · subst z; simp [wlL]
  · subst z; simp [wlL, hx]
theorem EiI_0 {T : Int → Int} {n u p0 : Int} {f tx pl : Int → Int} (h : PS T n p0 f) (hp : AB pl) : EiI T n u p0 (f 18) (f 12) (f 14) tx f 0 0 1 p0 [] f tx pl := by
  refine ⟨Or.inl rfl, Or.inl rfl, Or.inr rfl, h, by simp, rfl, rfl, by omega, by simp, fun _ _ => rfl, hp, fun _ m s hs => ?_, fun z => by omega⟩
  have e : preR [] s = s := by
    simp only [preR]
    obtain ⟨x, y, c⟩ := s
    by_cases z : x = 0
    · subst z; rfl
    · rw [if_neg z]
  rw [e]
  exact ⟨m, hs⟩
section Ei
variable {T tx0 f0 f tx pl fa txa pla F txF : Int → Int} {n u p0 o0 t0 wr0 a b p q : Int} {em em1 : List (Int × Int)}
/-- an and follows -/
theorem EiI_and (hT : ∀ k, 0 ≤ T k ∧ T k < 256) (I : EiI T n u p0 o0 t0 wr0 tx0 f0 a b 1 p em f tx pl) (hA : Ask T n u o0 p (0, q, em1)) (hps : PS T n q fa) (h14 : fa 14 = f 14 + em1.length) (h18 : fa 18 = o0) (htx : txa = emL tx t0 (f 14) em1) (hpq : p ≤ q) (hle : (em1.length : Int) ≤ q - p) (hfr : ∀ k, k < 7 ∨ k = 12 ∨ k = 20 ∨ k = 21 ∨ 22 ≤ k → fa k = f k) (hpl : AB pla) (hand : isAnd T n q) (hF14 : F 14 = fa 14 + a) (hFk : ∀ k, k ≠ 14 → F k = fa k) (hPF : PS T n q F) (hxF : txF = emL txa t0 (fa 14) (wlL (21 * a))) :
    EiI T n u p0 o0 t0 wr0 tx0 f0 1 b 1 (tNx T n q) (em ++ em1 ++ wlL (21 * a)) (mTok F T) txF pla := by
  obtain ⟨i1, i2, i3, i4, i5, i6, i7, i8, i9, i10, i11, i12, i13⟩ := I
  have r := tok_r hT hps.1.2
  have hl := wlL_len (x := 21) i1 (by decide)
  have hlen : (((em ++ em1 ++ wlL (21 * a)).length : Nat) : Int) = em.length + em1.length + a := by rw [List.length_append, List.length_append]; omega
  have ht := hand.1
  refine ⟨Or.inr rfl, i2, Or.inr rfl, PS_nx hT hPF, ?_, ?_, ?_, by omega, by rw [hlen]; omega, fun k hk => ?_, hpl, fun _ m s hs => ?_, fun z => by omega⟩
  · rw [mTok_k (by decide), hF14, h14, i5, hlen]; omega
  · rw [mTok_k (by decide), hFk 18 (by decide)]; exact h18
  · rw [hxF, htx, h14, i7, i5, emL_app t0 (em ++ em1), emL_app t0 em, List.length_append]
    rw [show wr0 + ((em.length + em1.length : Nat) : Int) = wr0 + em.length + em1.length by omega]
  · rw [mTok_k (by omega), hFk k (by omega), hfr k hk]; exact i10 k hk
  · have := i12 rfl (m + 1) (preR (em1 ++ wlL (21 * a)) s) ⟨_, hA, by rw [if_neg (by simp), if_pos hand]; exact ⟨s, hs, rfl⟩⟩
    rw [preR_preR, ← List.append_assoc] at this
    exact this
/-- an or follows -/
theorem EiI_or (hT : ∀ k, 0 ≤ T k ∧ T k < 256) (I : EiI T n u p0 o0 t0 wr0 tx0 f0 a b 1 p em f tx pl) (hA : Ask T n u o0 p (0, q, em1)) (hps : PS T n q fa) (h14 : fa 14 = f 14 + em1.length) (h18 : fa 18 = o0) (htx : txa = emL tx t0 (f 14) em1) (hpq : p ≤ q) (hle : (em1.length : Int) ≤ q - p) (hfr : ∀ k, k < 7 ∨ k = 12 ∨ k = 20 ∨ k = 21 ∨ 22 ≤ k → fa k = f k) (hpl : AB pla) (hna : ¬ isAnd T n q) (hor : isOr T n q) (hF14 : F 14 = fa 14 + a + b) (hFk : ∀ k, k ≠ 14 → F k = fa k) (hPF : PS T n q F) (hxF : txF = emL txa t0 (fa 14) (wlL (21 * a) ++ wlL (22 * b))) :
    EiI T n u p0 o0 t0 wr0 tx0 f0 0 1 1 (tNx T n q) (em ++ em1 ++ (wlL (21 * a) ++ wlL (22 * b))) (mTok F T) txF pla := by
  obtain ⟨i1, i2, i3, i4, i5, i6, i7, i8, i9, i10, i11, i12, i13⟩ := I
  have r := tok_r hT hps.1.2
  have hl := wlL_len (x := 21) i1 (by decide)
  have hl2 := wlL_len (x := 22) i2 (by decide)
  have hlen : (((em ++ em1 ++ (wlL (21 * a) ++ wlL (22 * b))).length : Nat) : Int) = em.length + em1.length + a + b := by rw [List.length_append, List.length_append, List.length_append]; omega
  have ht := hor.1
  refine ⟨Or.inl rfl, Or.inr rfl, Or.inr rfl, PS_nx hT hPF, ?_, ?_, ?_, by omega, by rw [hlen]; omega, fun k hk => ?_, hpl, fun _ m s hs => ?_, fun z => by omega⟩
  · rw [mTok_k (by decide), hF14, h14, i5, hlen]; omega
  · rw [mTok_k (by decide), hFk 18 (by decide)]; exact h18
  · rw [hxF, htx, h14, i7, i5, emL_app t0 (em ++ em1), emL_app t0 em, List.length_append]
    rw [show wr0 + ((em.length + em1.length : Nat) : Int) = wr0 + em.length + em1.length by omega]
  · rw [mTok_k (by omega), hFk k (by omega), hfr k hk]; exact i10 k hk
  · have := i12 rfl (m + 1) (preR (em1 ++ wlL (21 * a) ++ wlL (22 * b)) s) ⟨_, hA, by rw [if_neg (by simp), if_neg hna, if_pos hor]; exact ⟨s, hs, rfl⟩⟩
    rw [preR_preR, List.append_assoc em1, ← List.append_assoc em] at this
    exact this
/-- the end -/
theorem EiI_end (I : EiI T n u p0 o0 t0 wr0 tx0 f0 a b 1 p em f tx pl) (hA : Ask T n u o0 p (0, q, em1)) (h14 : fa 14 = f 14 + em1.length) (h18 : fa 18 = o0) (htx : txa = emL tx t0 (f 14) em1) (hpq : p ≤ q) (hle : (em1.length : Int) ≤ q - p) (hfr : ∀ k, k < 7 ∨ k = 12 ∨ k = 20 ∨ k = 21 ∨ 22 ≤ k → fa k = f k) (hpl : AB pla) (hna : ¬ isAnd T n q) (hno : ¬ isOr T n q) (hF14 : F 14 = fa 14 + a + b) (hFk : ∀ k, k ≠ 14 → F k = fa k) (hPF : PS T n q F) (hxF : txF = emL txa t0 (fa 14) (wlL (21 * a) ++ wlL (22 * b))) :
    EiI T n u p0 o0 t0 wr0 tx0 f0 0 0 0 q (em ++ em1 ++ (wlL (21 * a) ++ wlL (22 * b))) F txF pla := by
  obtain ⟨i1, i2, i3, i4, i5, i6, i7, i8, i9, i10, i11, i12, i13⟩ := I
  have hl := wlL_len (x := 21) i1 (by decide)
  have hl2 := wlL_len (x := 22) i2 (by decide)
  have hlen : (((em ++ em1 ++ (wlL (21 * a) ++ wlL (22 * b))).length : Nat) : Int) = em.length + em1.length + a + b := by rw [List.length_append, List.length_append, List.length_append]; omega
  refine ⟨Or.inl rfl, Or.inl rfl, Or.inl rfl, hPF, ?_, ?_, ?_, by omega, by rw [hlen]; omega, fun k hk => ?_, hpl, fun z => by omega, fun _ => ?_⟩
  · rw [hF14, h14, i5, hlen]; omega
  · rw [hFk 18 (by decide)]; exact h18
  · rw [hxF, htx, h14, i7, i5, emL_app t0 (em ++ em1), emL_app t0 em, List.length_append]
    rw [show wr0 + ((em.length + em1.length : Nat) : Int) = wr0 + em.length + em1.length by omega]
  · rw [hFk k (by omega), hfr k hk]; exact i10 k hk
  · have := i12 rfl 1 (0, q, em1 ++ wlL (21 * a) ++ wlL (22 * b)) ⟨_, hA, by rw [if_neg (by simp), if_neg hna, if_neg hno]⟩
    rw [preR_0, List.append_assoc em1, ← List.append_assoc em] at this
    exact this
end Ei
