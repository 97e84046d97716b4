/-! the class's ROUND, kept -/
def RdOK (a : Int → Int) (set : Int) (V : Va) : Prop := 1 ≤ set ∧ bN set 16 ≤ 8 ∧ V 303 5 = bN set 16 ∧ ∃ x0 b, SoF a (tIn a set) (bN set 16) x0 (fun _ => True) (V 303 8) b ∧ (∀ x, tIn a set x → x0 ≤ x) ∧ ∀ i, 0 ≤ i → i < bN set 16 → V 305 i = b i
def RdC (a : Int → Int) (V : Va) : Prop := (V 303 7 = V 1 10 → 0 ≤ V 303 6 → RdOK a (V 303 6) V) ∧ (InR (V 303 6) ∧ InR (V 303 7)) ∧ V 303 7 ≤ V 1 10
def RdB (V : Va) : Prop := (∀ q, 0 ≤ V 306 q ∧ V 306 q ≤ 198) ∧ ∀ q, 0 ≤ V 307 q ∧ V 307 q ≤ 1584
def FrR (V V' : Va) : Prop := ∀ q : Nat, q < 303 ∨ 307 < q → V' q = V q
theorem plan_fin {a : Int → Int} {set : Int} {V0 W1 W2 W3 : Va} (h0 : 0 ≤ a 0 ∧ a 0 ≤ 10) (h1 : 1 ≤ set) (hs : set < p2 (a 0)) (h8 : bN set 16 ≤ 8) {c : Int} {tw bw h wy w rs : Int → Int} (e1 : W1 = up (up (up V0 303 (ua (V0 303) 5 c)) 304 tw) 306 bw) (g1 : ColT set c (a 0) tw) (g2 : ∀ i j, 0 ≤ i → i < c → 0 ≤ j → j < c → bw (i * 8 + j) = mMiles a (tw i) (tw j)) (g3 : ∀ q, 0 ≤ bw q ∧ bw q ≤ 198) (e2 : W2 = up (up W1 303 (ua (W1 303) 8 (h ((p2 (W1 303 5 - 1) - 1) * 8)))) 307 h) (t1 : TabP (fun i j => W1 306 (i * 8 + j)) (W1 303 5) h (p2 (W1 303 5 - 1)) 0) (t2 : ∀ q, 0 ≤ h q ∧ h q ≤ 1584) (e3 : W3 = up W2 305 wy) (p1 : PathI (W2 303 5) rs w (W2 303 5)) (p2' : ∀ m, 1 ≤ m → m < W2 303 5 → WkE (fun i j => W2 306 (i * 8 + j)) (W2 303 5) (W2 307) rs w m) (p3 : ∀ m, 0 ≤ m → m < W2 303 5 → wy m = W2 304 (w m)) : FrR V0 W3 ∧ RdB W3 ∧ RdOK a set W3 ∧ W3 303 6 = V0 303 6 ∧ W3 303 7 = V0 303 7 := by
  have a5 : W1 303 5 = c := by rw [e1]; rfl
  have a6 : W1 306 = bw := by rw [e1]; rfl
  have b5 : W2 303 5 = c := by rw [e2]; exact a5
  have b6 : W2 306 = bw := by rw [e2]; exact a6
  have b7 : W2 307 = h := by rw [e2]; rfl
  have b4 : W2 304 = tw := by rw [e2, e1]; rfl
  rw [a5, a6] at t1
  rw [b5] at p1 p2' p3
  rw [b6, b7] at p2'
  rw [b4] at p3
  have cb : c = bN set 16 := by
    have z := bN_top (set := set) (t := a 0) (by omega) hs h0.1 (16 - a 0).toNat
    rw [show a 0 + (((16 - a 0).toNat : Nat) : Int) = 16 by omega] at z
    rw [z]; exact g1.1
  have c1 : 1 ≤ c := by
    by_cases z : c = 0
    · have y := g1.1
      rw [z] at y
      have := bits0 (x := set) (m := a 0) (by omega) hs (bN_0 h0.1 y.symm)
      omega
    · have := g1.2.1; omega
  have so := round_fin (D := fun i j => bw (i * 8 + j)) g1 c1 (fun i j i0 i1 j0 j1 => g2 i j i0 i1 j0 j1) (TabP_H t1) p1 p2'
  have f8 : W3 303 8 = h ((p2 (c - 1) - 1) * 8) := by
    rw [e3]
    show W2 303 8 = _
    rw [e2, a5]
    rfl
  refine ⟨fun q hq => ?_, ⟨fun q => ?_, fun q => ?_⟩, ⟨h1, h8, ?_, tw 0, fun k => tw (w k), ?_, fun x hx => ?_, fun i i0 i1 => ?_⟩, ?_, ?_⟩
  · rw [e3, up_ne (by omega), e2, up_ne (by omega), up_ne (by omega), e1, up_ne (by omega), up_ne (by omega), up_ne (by omega)]
  · rw [e3]; show 0 ≤ W2 306 q ∧ W2 306 q ≤ 198; rw [b6]; exact g3 q
  · rw [e3]; show 0 ≤ W2 307 q ∧ W2 307 q ≤ 1584; rw [b7]; exact t2 q
  · rw [e3]; show W2 303 5 = _; rw [b5, cb]
  · rw [f8, ← cb]; exact so
  · obtain ⟨k, k0, k1, k2⟩ := g1.2.2.2.2 x hx.1 hx.2.1 hx.2.2
    by_cases z : k = 0
    · rw [← k2, z]; exact Int.le_refl _
    · have := g1.2.2.2.1 0 k (by omega) (by omega) k1
      omega
  · rw [e3, up_same]; exact p3 i i0 (by omega)
  · rw [e3]; show W2 303 6 = _; rw [e2]; show W1 303 6 = _; rw [e1]; rfl
  · rw [e3]; show W2 303 7 = _; rw [e2]; show W1 303 7 = _; rw [e1]; rfl
theorem plan_c {set m c : Int} {tw : Int → Int} (h1 : 1 ≤ set) (hs : set < p2 m) (hm : 0 ≤ m ∧ m ≤ 10) (h8 : bN set 16 ≤ 8) (g : ColT set c m tw) : 1 ≤ c ∧ c ≤ 8 := by
  have z := bN_top (set := set) (t := m) (by omega) hs hm.1 (16 - m).toNat
  rw [show m + (((16 - m).toNat : Nat) : Int) = 16 by omega] at z
  have y := g.1
  refine ⟨?_, by omega⟩
  by_cases q : c = 0
  · rw [q] at y
    have := bits0 (x := set) (m := m) (by omega) hs (bN_0 hm.1 y.symm)
    omega
  · have := g.2.1; omega
