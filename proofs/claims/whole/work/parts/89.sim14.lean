theorem path_ext {n i x : Int} {rs w : Int → Int} (h : PathI n rs w i) (hi : 1 ≤ i) (hx : 1 ≤ x ∧ x < n) (hb : rs (i - 1) / p2 (x - 1) % 2 = 1) : PathI n (ua rs i (rs (i - 1) - p2 (x - 1))) (ua w i x) (i + 1) := by
  refine ⟨by rw [ua_ne (by omega)]; exact h.1, by rw [ua_ne (by omega)]; exact h.2.1, fun m m0 m1 => ?_⟩
  simp only [StpW]
  by_cases c : m = i
  · rw [c, ua_same, ua_same, ua_ne (show i - 1 ≠ i by omega)]
    exact ⟨hx.1, hx.2, hb, rfl⟩
  · rw [ua_ne c, ua_ne c, ua_ne (show m - 1 ≠ i by omega)]
    exact h.2.2 m m0 (by omega)
theorem WkE_ext {D : Int → Int → Int} {n i x : Int} {h rs w : Int → Int} (hE : ∀ m, 1 ≤ m → m < i → WkE D n h rs w m) (hi : 1 ≤ i) (he : D (w (i - 1)) x + h ((rs (i - 1) - p2 (x - 1)) * 8 + x) = h (rs (i - 1) * 8 + w (i - 1))) (hno : ∀ y, 1 ≤ y → y < x → rs (i - 1) / p2 (y - 1) % 2 = 1 → D (w (i - 1)) y + h ((rs (i - 1) - p2 (y - 1)) * 8 + y) ≠ h (rs (i - 1) * 8 + w (i - 1))) : ∀ m, 1 ≤ m → m < i + 1 → WkE D n h (ua rs i (rs (i - 1) - p2 (x - 1))) (ua w i x) m := by
  intro m m0 m1
  simp only [WkE]
  by_cases c : m = i
  · rw [c, ua_same, ua_same, ua_ne (show i - 1 ≠ i by omega), ua_ne (show i - 1 ≠ i by omega)]
    exact ⟨he, hno⟩
  · rw [ua_ne c, ua_ne c, ua_ne (show m - 1 ≠ i by omega), ua_ne (show m - 1 ≠ i by omega)]
    exact hE m m0 (by omega)
theorem ColT_full {set t m : Int} {tw : Int → Int} (h : ColT set 8 t tw) (ht : 0 ≤ t ∧ t ≤ m) (h8 : bN set m ≤ 8) : ColT set 8 m tw := by
  obtain ⟨a1, a2, a3, a4, a5⟩ := h
  have mono := fun (u : Int) (hu : t ≤ u) => by
    have := bN_mono (set := set) (u - t).toNat t ht.1
    rw [show t + (((u - t).toNat : Nat) : Int) = u by omega] at this
    exact this
  have mono2 := fun (u v : Int) (hu : 0 ≤ u) (hv : u ≤ v) => by
    have := bN_mono (set := set) (v - u).toNat u hu
    rw [show u + (((v - u).toNat : Nat) : Int) = v by omega] at this
    exact this
  have e8 : bN set m = 8 := by have := mono m ht.2; omega
  refine ⟨e8.symm, a2, fun k k0 k1 => by have := a3 k k0 k1; omega, a4, fun x x0 x1 x2 => ?_⟩
  by_cases c : x < t
  · exact a5 x x0 c x2
  · have s : bN set (x + 1) = bN set x + set / p2 x % 2 := sumT_s _ x0
    have := mono x (by omega)
    have := mono2 (x + 1) m (by omega) (by omega)
    omega
theorem cMiles_eq {V : Va} {a : Int → Int} (hW : WSim V 1 a) (hM : MIv a) {s t : Int} (s0 : 0 ≤ s) (s1 : s < a 0) (t0 : 0 ≤ t) (t1 : t < a 0) : cMiles V s t = mMiles a s t ∧ 0 ≤ cMiles V s t ∧ cMiles V s t ≤ 198 := by
  have u := hW.2.1 s s0 s1
  have v := hW.2.1 t t0 t1
  have u1 : V 2 s = a (10 + 2 * s) := u.1
  have u2 : V 3 s = a (10 + 2 * s + 1) := u.2
  have v1 : V 2 t = a (10 + 2 * t) := v.1
  have v2 : V 3 t = a (10 + 2 * t + 1) := v.2
  have m1 := hM.2.2.2.2.1 s s0 s1
  have m2 := hM.2.2.2.2.1 t t0 t1
  simp only [cMiles, mMiles]
  rw [u1, u2, v1, v2]
  refine ⟨?_, ?_, ?_⟩
  · split <;> split <;> split <;> split <;> omega
  · split <;> split <;> omega
  · split <;> split <;> omega
