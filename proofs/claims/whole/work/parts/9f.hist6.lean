/-! sorted by YEAR -/
theorem sumT_swap {g h : Int → Int} {k : Int} (k0 : 0 ≤ k) (e1 : h k = g (k + 1)) (e2 : h (k + 1) = g k) (e : ∀ q, q ≠ k → q ≠ k + 1 → h q = g q) : ∀ m : Nat, k + 1 < m → sumT h m = sumT g m
  | 0, hm => by omega
  | m + 1, hm => by
    have em : ((m + 1 : Nat) : Int) = (m : Int) + 1 := by omega
    rw [em, sumT_s _ (by omega), sumT_s _ (by omega)]
    by_cases c : (m : Int) = k + 1
    · rw [c, sumT_s _ k0, sumT_s _ k0, sumT_c (f := h) (g := g) (fun q q0 q1 => e q (by omega) (by omega)), e1, e2]
      omega
    · rw [sumT_swap k0 e1 e2 e m (by omega), e _ (by omega) c]
def PmS (o : Int → Int) (n : Int) : Prop := ∀ f : Int → Int, sumT (fun y => f (o y)) n = sumT f n
def PmH (o : Int → Int) (i k : Int) : Prop := ∀ f : Int → Int, sumT (fun y => if y = k then f i else f (o y)) (i + 1) = sumT f (i + 1)
theorem PmH_0 {o : Int → Int} {i : Int} (h0 : 0 ≤ i) (h : PmS o i) : PmH o i i := fun f => by
  rw [sumT_s _ h0, sumT_s _ h0, if_pos rfl, ← h f]
  rw [sumT_c (f := fun y => if y = i then f i else f (o y)) (g := fun y => f (o y)) (fun q q0 q1 => if_neg (by omega))]
theorem PmH_s {o : Int → Int} {i k : Int} (h0 : 0 < k) (h1 : k ≤ i) (h : PmH o i k) : PmH (ua o k (o (k - 1))) i (k - 1) := fun f => by
  rw [← h f]
  have e : i + 1 = ((i + 1).toNat : Int) := by omega
  rw [e]
  refine sumT_swap (k := k - 1) (by omega) ?_ ?_ (fun q q1 q2 => ?_) _ (by omega)
  · rw [if_pos rfl, if_pos (by omega)]
  · rw [show k - 1 + 1 = k by omega, if_neg (by omega), if_neg (by omega), ua_same]
  · rw [if_neg q1, if_neg (by omega), ua_ne (by omega)]
theorem PmH_e {o : Int → Int} {i k : Int} (h : PmH o i k) : PmS (ua o k i) (i + 1) := fun f => by
  rw [← h f]
  refine sumT_c (fun q _ _ => ?_)
  by_cases c : q = k
  · rw [c, ua_same, if_pos rfl]
  · rw [ua_ne c, if_neg c]
theorem PmS_0 (o : Int → Int) : PmS o 0 := fun f => rfl
/-- with a hole at k -/
def SrH (yr o : Int → Int) (i k : Int) : Prop := (∀ x, 0 ≤ x → x ≤ i → x ≠ k → 0 ≤ o x ∧ o x < i) ∧ (∀ x y, 0 ≤ x → x < y → y ≤ i → x ≠ k → y ≠ k → yr (o x) ≤ yr (o y)) ∧ ∀ y, k < y → y ≤ i → yr i ≤ yr (o y)
def Srt (yr o : Int → Int) (n : Int) : Prop := (∀ x, 0 ≤ x → x < n → 0 ≤ o x ∧ o x < n) ∧ ∀ x y, 0 ≤ x → x < y → y < n → yr (o x) ≤ yr (o y)
theorem SrH_0 {yr o : Int → Int} {i : Int} (h : Srt yr o i) : SrH yr o i i := ⟨fun x x0 x1 x2 => h.1 x x0 (by omega), fun x y x0 xy y1 _ y2 => h.2 x y x0 xy (by omega), fun y y0 y1 => by omega⟩
theorem SrH_s {yr o : Int → Int} {i k : Int} (h0 : 0 < k) (h1 : k ≤ i) (hy : yr i < yr (o (k - 1))) (h : SrH yr o i k) : SrH yr (ua o k (o (k - 1))) i (k - 1) := by
  obtain ⟨a1, a2, a3⟩ := h
  refine ⟨fun x x0 x1 x2 => ?_, fun x y x0 xy y1 x2 y2 => ?_, fun y y0 y1 => ?_⟩
  · by_cases c : x = k
    · rw [c, ua_same]; exact a1 _ (by omega) (by omega) (by omega)
    · rw [ua_ne c]; exact a1 x x0 x1 c
  · by_cases c : x = k
    · rw [c, ua_same, ua_ne (by omega)]; exact a2 _ _ (by omega) (by omega) y1 (by omega) (by omega)
    · by_cases d : y = k
      · rw [d, ua_same, ua_ne c]; exact a2 _ _ x0 (by omega) (by omega) c (by omega)
      · rw [ua_ne c, ua_ne d]; exact a2 x y x0 xy y1 c d
  · by_cases c : y = k
    · rw [c, ua_same]; omega
    · rw [ua_ne c]; exact a3 y (by omega) y1
theorem SrH_e {yr o : Int → Int} {i k : Int} (h0 : 0 ≤ k) (h1 : k ≤ i) (hy : 0 < k → yr (o (k - 1)) ≤ yr i) (h : SrH yr o i k) : Srt yr (ua o k i) (i + 1) := by
  obtain ⟨a1, a2, a3⟩ := h
  refine ⟨fun x x0 x1 => ?_, fun x y x0 xy y1 => ?_⟩
  · by_cases c : x = k
    · rw [c, ua_same]; omega
    · rw [ua_ne c]; have := a1 x x0 (by omega) c; omega
  · by_cases c : x = k
    · rw [c, ua_same, ua_ne (by omega)]; exact a3 y (by omega) (by omega)
    · by_cases d : y = k
      · rw [d, ua_same, ua_ne c]
        have z := hy (by omega)
        by_cases f : x = k - 1
        · rw [f]; exact z
        · have := a2 x (k - 1) x0 (by omega) (by omega) c (by omega)
          omega
      · rw [ua_ne c, ua_ne d]; exact a2 x y x0 xy (by omega) c d
theorem Srt_0 (yr o : Int → Int) : Srt yr o 0 := ⟨fun x x0 x1 => by omega, fun x y x0 xy y1 => by omega⟩
