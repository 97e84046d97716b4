/-! the class's table -/
theorem sumT_ind (v : Int) : ∀ n : Nat, sumT (fun z => if z = v then 1 else 0) n ≤ 1 ∧ ((n : Int) ≤ v → sumT (fun z => if z = v then 1 else 0) n = 0)
  | 0 => ⟨by rw [show ((0 : Nat) : Int) = 0 from rfl, sumT_0]; omega, fun _ => rfl⟩
  | n + 1 => by
    have ih := sumT_ind v n
    rw [show ((n + 1 : Nat) : Int) = (n : Int) + 1 by omega, sumT_s _ (by omega)]
    by_cases c : (n : Int) = v
    · rw [if_pos c, ih.2 (by omega)]; exact ⟨by omega, by omega⟩
    · rw [if_neg c]; exact ⟨by have := ih.1; omega, fun h => by rw [ih.2 (by omega)]; rfl⟩
theorem sumT_two (f : Int → Int) (h : ∀ k, 0 ≤ k → 0 ≤ f k) {x y : Int} (x0 : 0 ≤ x) (xy : x < y) : ∀ n : Nat, y < n → f x + f y ≤ sumT f n
  | 0, hq => by omega
  | n + 1, hq => by
    rw [show ((n + 1 : Nat) : Int) = (n : Int) + 1 by omega, sumT_s _ (by omega)]
    by_cases c : y = n
    · have := sumT_one f h x x0 n (by omega)
      rw [c]; omega
    · have := sumT_two f h x0 xy n (by omega)
      have := h n (by omega)
      omega
theorem PmS_inj {o : Int → Int} {n : Nat} (h : PmS o n) {x y : Int} (x0 : 0 ≤ x) (xy : x < y) (y1 : y < n) : o x ≠ o y := fun e => by
  have k := h (fun z => if z = o x then 1 else 0)
  have a1 := (sumT_ind (o x) n).1
  have a2 := sumT_two (fun y => if o y = o x then 1 else 0) (fun k _ => by split <;> omega) x0 xy n y1
  rw [if_pos rfl, if_pos e.symm] at a2
  omega
def posn (o : Int → Int) (n x : Int) : Int := findT (fun y => decide (o y = x)) n
theorem posn_o {o : Int → Int} {n : Nat} (h : PmS o n) {y : Int} (y0 : 0 ≤ y) (y1 : y < n) : posn o n (o y) = y := findT_at y0 y1 (decide_eq_true rfl) (fun j j0 j1 => decide_eq_false (PmS_inj h j0 j1 y1))
theorem PmS_sur {o : Int → Int} {n : Nat} (h : PmS o n) {x : Int} (x0 : 0 ≤ x) (x1 : x < n) : ∃ y, 0 ≤ y ∧ y < (n : Int) ∧ o y = x := by
  by_cases c : ∃ y, 0 ≤ y ∧ y < (n : Int) ∧ o y = x
  · exact c
  · have k := h (fun z => if z = x then 1 else 0)
    rw [sumT_n0 _ _ (fun y y0 y1 => if_neg (fun z => c ⟨y, y0, y1, z⟩)) (by omega)] at k
    have q := sumT_one (fun z => if z = x then (1 : Int) else 0) (fun k _ => by split <;> omega) x x0 n x1
    rw [if_pos rfl] at q
    omega
def hUp (o : Int → Int) (n A : Int) : Int → Bool := fun x => decide (A / p2 (posn o n x) % 2 = 1)
theorem hUp_o {o : Int → Int} {n : Nat} (h : PmS o n) (A : Int) {y : Int} (y0 : 0 ≤ y) (y1 : y < n) : hUp o n A (o y) = decide (A / p2 y % 2 = 1) := by
  simp only [hUp]; rw [posn_o h y0 y1]
theorem hUp_or {o : Int → Int} {n : Nat} (h : PmS o n) {A s : Int} (hA : 0 ≤ A) (s0 : 0 ≤ s) (s1 : s < n) {x : Int} (x0 : 0 ≤ x) (x1 : x < n) : hUp o n (bor A (p2 s)) x = hU (hUp o n A) (o s) x := by
  obtain ⟨y, y0, y1, e⟩ := PmS_sur h x0 x1
  simp only [hU]
  rw [← e, hUp_o h _ y0 y1, hUp_o h _ y0 y1]
  have k := bit_or (x := A) (k := s) (j := y) hA s0 y0
  rw [Bool.eq_iff_iff, Bool.or_eq_true, decide_eq_true_eq, decide_eq_true_eq, decide_eq_true_eq, k]
  by_cases d : y = s
  · rw [if_pos d, d]; exact ⟨fun _ => Or.inr rfl, fun _ => rfl⟩
  · rw [if_neg d]
    have ne : o y ≠ o s := by
      by_cases f : y < s
      · exact PmS_inj h y0 f s1
      · exact fun z => PmS_inj h s0 (by omega) y1 z.symm
    exact ⟨Or.inl, fun z => z.elim id (fun w => absurd w ne)⟩
theorem sumT_front (f : Int → Int) : ∀ n : Nat, sumT f ((n : Int) + 1) = f 0 + sumT (fun j => f (j + 1)) n
  | 0 => by rw [sumT_s _ (by omega), show ((0 : Nat) : Int) = 0 from rfl, sumT_0, sumT_0]; omega
  | n + 1 => by
    rw [sumT_s _ (by omega), show ((n + 1 : Nat) : Int) = (n : Int) + 1 by omega, sumT_front f n, sumT_s _ (by omega)]
    omega
theorem band_0 {x k : Int} (hx : 0 ≤ x) (hk : 0 ≤ k) : band x (p2 k) = 0 ↔ ¬ x / p2 k % 2 = 1 := by
  obtain ⟨n, rfl⟩ := Int.eq_ofNat_of_zero_le hx
  have : band (n : Int) (p2 k) = ((n &&& 2 ^ k.toNat : Nat) : Int) := by simp only [band, p2]; rw [Int.toNat_natCast, Int.toNat_natCast]
  rw [this, nb_and, iB]
  have hp : 0 < 2 ^ k.toNat := Nat.pow_pos (by omega)
  have hm : n / 2 ^ k.toNat % 2 = 0 ∨ n / 2 ^ k.toNat % 2 = 1 := by omega
  rcases hm with z | z
  · rw [z, Nat.zero_mul]; exact ⟨fun _ => by omega, fun _ => rfl⟩
  · rw [z, Nat.one_mul]; exact ⟨fun w => by omega, fun w => absurd rfl w⟩
/-- the sum over what may be AHEAD is the sum over the links -/
theorem hN_links {V : Va} {a : Int → Int} {n : Nat} (hW : WSim V 1 a) (hM : MIv a) (h6 : a 6 = n) (hn : n ≤ 12) (hP : PmS (V 298) n) (hS : Srt (V 138) (V 298) n) {q A c : Int} (q0 : 0 ≤ q) (q1 : q < n) (hA : 0 ≤ A) {sel bt pc : Int → Int} (hL : LkI V (V 298 q) q c sel bt pc) (l : List Int) (p : H3) :
    hN (smf a) a n (V 298 q :: l) (hUp (V 298) n A) p = hN (smf a) a n l (hUp (V 298) n A) (hSh a p (V 298 q) (-1)) + sumT (fun k => if band A (bt k) = 0 then hN (smf a) a n l (hU (hUp (V 298) n A) (V 298 (sel k))) (hSh a p (V 298 q) (V 298 (sel k))) else 0) c := by
  simp only [hN]
  rw [sumT_front]
  have ho := hS.1 q q0 q1
  have e0 : (if hV (smf a) (hUp (V 298) n A) (V 298 q) (0 - 1) = true then hN (smf a) a n l (hU (hUp (V 298) n A) (0 - 1)) (hSh a p (V 298 q) (0 - 1)) else 0) = hN (smf a) a n l (hUp (V 298) n A) (hSh a p (V 298 q) (-1)) := by
    rw [if_pos (by simp only [hV]; rfl)]
    exact hN_ext _ _ _ _ _ _ _ (fun x x0 x1 => by simp only [hU]; rw [decide_eq_false (by omega), Bool.or_false])
  rw [e0]
  have e1 : sumT (fun k => if band A (bt k) = 0 then hN (smf a) a n l (hU (hUp (V 298) n A) (V 298 (sel k))) (hSh a p (V 298 q) (V 298 (sel k))) else 0) c = sumT (fun k => (fun y => if band A (p2 y) = 0 then hN (smf a) a n l (hU (hUp (V 298) n A) (V 298 y)) (hSh a p (V 298 q) (V 298 y)) else 0) (sel k)) c := sumT_c (fun k k0 k1 => by
    have z := (hL.2.1 k k0 k1).2.2.1
    simp only
    rw [z])
  rw [e1.trans (hL.2.2 (fun y => if band A (p2 y) = 0 then hN (smf a) a n l (hU (hUp (V 298) n A) (V 298 y)) (hSh a p (V 298 q) (V 298 y)) else 0))]
  have e2 := hP (fun j => if hV (smf a) (hUp (V 298) n A) (V 298 q) j = true then hN (smf a) a n l (hU (hUp (V 298) n A) j) (hSh a p (V 298 q) j) else 0)
  have e3 : sumT (fun j => if hV (smf a) (hUp (V 298) n A) (V 298 q) (j + 1 - 1) = true then hN (smf a) a n l (hU (hUp (V 298) n A) (j + 1 - 1)) (hSh a p (V 298 q) (j + 1 - 1)) else 0) n = sumT (fun j => if hV (smf a) (hUp (V 298) n A) (V 298 q) j = true then hN (smf a) a n l (hU (hUp (V 298) n A) j) (hSh a p (V 298 q) j) else 0) n := sumT_c (fun j _ _ => by rw [show j + 1 - 1 = j by omega])
  rw [e3, ← e2]
  have key : ∀ y, 0 ≤ y → y < (n : Int) → (hV (smf a) (hUp (V 298) n A) (V 298 q) (V 298 y) = true ↔ cSame V (V 298 y) (V 298 q) ∧ band A (p2 y) = 0) := fun y y0 y1 => by
    have oy := hS.1 y y0 y1
    simp only [hV]
    rw [hUp_o hP A y0 y1, smf_at ho.1 (by omega), decide_eq_false (show ¬ V 298 y < 0 by omega), Bool.false_or, Bool.and_eq_true, Bool.not_eq_true', decide_eq_false_iff_not, decide_eq_true_eq, ← band_0 hA y0]
    by_cases c : mSame a (V 298 y) (V 298 q)
    · rw [if_pos c]; exact ⟨fun z => ⟨(same_eq hW hM _ _).mpr c, z.1⟩, fun z => ⟨z.2, by omega⟩⟩
    · rw [if_neg c]; exact ⟨fun z => absurd rfl z.2, fun z => absurd ((same_eq hW hM _ _).mp z.1) c⟩
  rw [sumT_ext (fun y => if hV (smf a) (hUp (V 298) n A) (V 298 q) (V 298 y) = true then hN (smf a) a n l (hU (hUp (V 298) n A) (V 298 y)) (hSh a p (V 298 q) (V 298 y)) else 0) q0 (show q ≤ (n : Int) by omega) (fun y y0 y1 => if_neg (fun z => ?_))]
  · congr 1
    refine sumT_c (fun y y0 y1 => ?_)
    have ky := key y y0 (by omega)
    by_cases c1 : cSame V (V 298 y) (V 298 q)
    · rw [if_pos c1]
      by_cases c2 : band A (p2 y) = 0
      · rw [if_pos c2, if_pos (ky.mpr ⟨c1, c2⟩)]
      · rw [if_neg c2, if_neg (fun z => c2 (ky.mp z).2)]
    · rw [if_neg c1, if_neg (fun z => c1 (ky.mp z).1)]
  · have ky := ((key y (by omega) y1).mp z).1
    have y3 : 0 < V 138 (V 298 q) - V 138 (V 298 y) := ky.2.2.2.1
    by_cases w : y = q
    · rw [w] at y3; omega
    · have := hS.2 q y q0 (by omega) y1
      omega
