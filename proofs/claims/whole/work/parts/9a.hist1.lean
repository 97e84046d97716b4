/-! histories, in whatever order they are told -/
theorem sumT_n0 (f : Int → Int) (n : Int) (h : ∀ k, 0 ≤ k → k < n → f k = 0) (hn : 0 ≤ n) : sumT f n = 0 := by
  rw [sumT_ext f (n := 0) (m := n) (by omega) hn h]; rfl
theorem sumT_addf (f g : Int → Int) : ∀ n : Nat, sumT (fun k => f k + g k) n = sumT f n + sumT g n
  | 0 => rfl
  | n + 1 => by
    have e : ((n + 1 : Nat) : Int) = (n : Int) + 1 := by omega
    rw [e, sumT_s _ (by omega), sumT_s _ (by omega), sumT_s _ (by omega), sumT_addf f g n]
    omega
theorem sumT_comm (f : Int → Int → Int) (m : Nat) : ∀ n : Nat, sumT (fun x => sumT (fun y => f x y) m) n = sumT (fun y => sumT (fun x => f x y) n) m
  | 0 => by
    rw [show ((0 : Nat) : Int) = 0 from rfl, sumT_0]
    exact (sumT_n0 _ _ (fun k _ _ => rfl) (by omega)).symm
  | n + 1 => by
    have e : ((n + 1 : Nat) : Int) = (n : Int) + 1 := by omega
    rw [e, sumT_s _ (by omega), sumT_comm f m n, ← sumT_addf]
    exact sumT_c (fun k k0 k1 => (sumT_s (fun x => f x k) (by omega)).symm)
theorem sumT_ge (f : Int → Int) (h : ∀ k, 0 ≤ k → 0 ≤ f k) : ∀ n : Nat, 0 ≤ sumT f n
  | 0 => by rw [show ((0 : Nat) : Int) = 0 from rfl, sumT_0]; omega
  | n + 1 => by
    have e : ((n + 1 : Nat) : Int) = (n : Int) + 1 := by omega
    rw [e, sumT_s _ (by omega)]
    have := sumT_ge f h n
    have := h n (by omega)
    omega
/-- may j be AHEAD of i, with those of U taken -/
def hV (sm : Int → Int) (U : Int → Bool) (i j : Int) : Bool := decide (j < 0) || (!U j && decide (sm (12 * j + i) ≠ 0))
def hU (U : Int → Bool) (j : Int) : Int → Bool := fun x => U x || decide (x = j)
def wB (j : Int) : Int := if j < 0 then 1 else 0
def wT1 (a : Int → Int) (i j : Int) : Int := if j < 0 then 0 else if a (126 + 4 * i) ≠ a (126 + 4 * j) then 1 else 0
def wD (i j : Int) : Int := (j + 1) * p2 (4 * (11 - i))
abbrev H3 := Int → Int → Int → Bool
def hSh (a : Int → Int) (p : H3) (i j : Int) : H3 := fun b t d => p (wB j + b) (wT1 a i j + t) (wD i j + d)
/-- how many histories of l answer p -/
def hN (sm a : Int → Int) (n : Int) : List Int → (Int → Bool) → H3 → Int
  | [], _, p => if p 0 0 0 then 1 else 0
  | i :: l, U, p => sumT (fun q => if hV sm U i (q - 1) then hN sm a n l (hU U (q - 1)) (hSh a p i (q - 1)) else 0) (n + 1)
theorem hV_sw (sm : Int → Int) (U : Int → Bool) (i k j q : Int) : (hV sm U i j && hV sm (hU U j) k q) = (hV sm U k q && hV sm (hU U q) i j) := by
  rw [Bool.eq_iff_iff]
  simp only [hV, hU, Bool.and_eq_true, Bool.or_eq_true, Bool.not_eq_true', Bool.or_eq_false_iff, decide_eq_true_eq, decide_eq_false_iff_not]
  by_cases c : j < 0 <;> by_cases d : q < 0
  · simp only [c, d, true_or, and_self]
  · have e : q ≠ j := by omega
    simp only [c, d, e, true_or, false_or, true_and, and_true, not_false_eq_true, ne_eq]
  · have e : j ≠ q := by omega
    simp only [c, d, e, true_or, false_or, true_and, and_true, not_false_eq_true, ne_eq]
  · simp only [c, d, false_or]
    constructor
    · intro h; exact ⟨⟨h.2.1.1, h.2.2⟩, ⟨h.1.1, fun z => h.2.1.2 z.symm⟩, h.1.2⟩
    · intro h; exact ⟨⟨h.2.1.1, h.2.2⟩, ⟨h.1.1, fun z => h.2.1.2 z.symm⟩, h.1.2⟩
theorem hU_sw (U : Int → Bool) (j q : Int) : hU (hU U j) q = hU (hU U q) j := by
  funext x
  simp only [hU]
  rw [Bool.or_assoc, Bool.or_assoc, Bool.or_comm (decide (x = j))]
theorem hSh_sw (a : Int → Int) (p : H3) (i j k q : Int) : hSh a (hSh a p i j) k q = hSh a (hSh a p k q) i j := by
  funext b t d
  simp only [hSh]
  rw [show wB j + (wB q + b) = wB q + (wB j + b) by omega, show wT1 a i j + (wT1 a k q + t) = wT1 a k q + (wT1 a i j + t) by omega, show wD i j + (wD k q + d) = wD k q + (wD i j + d) by omega]
theorem hif_sum (c : Bool) (f : Int → Int) (n : Nat) : (if c then sumT f n else 0) = sumT (fun q => if c then f q else 0) n := by
  cases c with
  | true => rfl
  | false => exact (sumT_n0 _ _ (fun k _ _ => rfl) (by omega)).symm
theorem hif_and (c d : Bool) (x : Int) : (if c then (if d then x else 0) else 0) = if (c && d) then x else 0 := by
  cases c <;> cases d <;> rfl
theorem hN_sw (sm a : Int → Int) (n : Nat) (i k : Int) (l : List Int) (U : Int → Bool) (p : H3) : hN sm a n (i :: k :: l) U p = hN sm a n (k :: i :: l) U p := by
  have e : (n : Int) + 1 = ((n + 1 : Nat) : Int) := by omega
  have key : ∀ i k : Int, hN sm a n (i :: k :: l) U p = sumT (fun x => sumT (fun y => if (hV sm U i (x - 1) && hV sm (hU U (x - 1)) k (y - 1)) then hN sm a n l (hU (hU U (x - 1)) (y - 1)) (hSh a (hSh a p i (x - 1)) k (y - 1)) else 0) ((n + 1 : Nat) : Int)) ((n + 1 : Nat) : Int) := fun i k => by
    simp only [hN]
    rw [e]
    refine sumT_c (fun x _ _ => ?_)
    rw [hif_sum]
    exact sumT_c (fun y _ _ => hif_and _ _ _)
  rw [key, key, sumT_comm]
  refine sumT_c (fun y _ _ => sumT_c (fun x _ _ => ?_))
  rw [hV_sw, hU_sw, hSh_sw]
theorem hN_perm (sm a : Int → Int) (n : Nat) {l l' : List Int} (h : List.Perm l l') : ∀ (U : Int → Bool) (p : H3), hN sm a n l U p = hN sm a n l' U p := by
  induction h with
  | nil => exact fun U p => rfl
  | cons i _ ih => exact fun U p => sumT_c (fun q _ _ => by rw [ih])
  | swap i k l => exact fun U p => hN_sw sm a n k i l U p
  | trans _ _ h1 h2 => exact fun U p => (h1 U p).trans (h2 U p)
theorem hN_ge (sm a : Int → Int) (n : Nat) : ∀ (l : List Int) (U : Int → Bool) (p : H3), 0 ≤ hN sm a n l U p
  | [], U, p => by simp only [hN]; split <;> omega
  | i :: l, U, p => by
    simp only [hN]
    rw [show (n : Int) + 1 = ((n + 1 : Nat) : Int) by omega]
    refine sumT_ge _ (fun q _ => ?_) _
    split
    · exact hN_ge sm a n l _ _
    · omega
