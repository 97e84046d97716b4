/-! rounds by the class: a table of the ways home -/
theorem bit_sub {x k : Int} (hx : 0 ≤ x) (hk : 0 ≤ k) (hb : x / p2 k % 2 = 1) : 0 ≤ x - p2 k ∧ ∀ j, 0 ≤ j → (x - p2 k) / p2 j % 2 = if j = k then 0 else x / p2 j % 2 := by
  have e : band x (p2 k) = p2 k := by
    obtain ⟨n, rfl⟩ := Int.eq_ofNat_of_zero_le hx
    rw [iB] at hb
    have hb : n / 2 ^ k.toNat % 2 = 1 := by omega
    have : band (n : Int) (p2 k) = ((n &&& 2 ^ k.toNat : Nat) : Int) := by simp only [band, p2]; rw [Int.toNat_natCast, Int.toNat_natCast]
    rw [this, nb_and, hb, Nat.one_mul]
    rfl
  have b := band_r (y := p2 k) hx
  refine ⟨by omega, fun j hj => ?_⟩
  have := bit_clear (x := x) hx hk hj
  rwa [e] at this
theorem bits0 {x m : Int} (h0 : 0 ≤ x) (h1 : x < p2 m) (hz : ∀ k, 0 ≤ k → k < m → x / p2 k % 2 = 0) : x = 0 := by
  obtain ⟨n, rfl⟩ := Int.eq_ofNat_of_zero_le h0
  have hn : n < 2 ^ m.toNat := by simp only [p2] at h1; omega
  have : n = 0 := by
    apply Nat.eq_of_testBit_eq
    intro i
    rw [Nat.zero_testBit]
    by_cases c : (i : Int) < m
    · have := hz i (by omega) c
      rw [iB] at this
      have := nb_tb n i
      cases hb : n.testBit i
      · rfl
      · rw [hb, if_pos rfl] at this
        simp only [Int.toNat_natCast] at *
        omega
    · exact Nat.testBit_lt_two_pow (Nat.lt_of_lt_of_le hn (Nat.pow_le_pow_right (by omega) (by omega)))
  rw [this]; rfl
theorem bit_all {m k : Int} (h0 : 0 ≤ k) (h1 : k < m) : (p2 m - 1) / p2 k % 2 = 1 := by
  have hp := p2_pos m
  have e : p2 m - 1 = ((2 ^ m.toNat - 1 : Nat) : Int) := by
    have : 0 < 2 ^ m.toNat := Nat.pow_pos (by omega)
    simp only [p2]; omega
  rw [e, iB, nb_tb, Nat.testBit_two_pow_sub_one, if_pos (decide_eq_true (by omega))]
  rfl
theorem bit_01 (x k : Int) : x / p2 k % 2 = 0 ∨ x / p2 k % 2 = 1 := by omega
theorem sumT_upd {f g : Int → Int} {k : Int} (h0 : 0 ≤ k) (he : ∀ q, 0 ≤ q → q ≠ k → f q = g q) (hk : f k = g k - 1) : ∀ m : Nat, sumT f m = sumT g m - (if k < m then 1 else 0)
  | 0 => by
    rw [if_neg (by omega)]
    rfl
  | m + 1 => by
    rw [show ((m + 1 : Nat) : Int) = (m : Int) + 1 by omega, sumT_s _ (by omega), sumT_s _ (by omega), sumT_upd h0 he hk m]
    by_cases c : k = m
    · rw [if_neg (by omega), if_pos (by omega), ← c, hk]; omega
    · rw [he m (by omega) (fun z => c z.symm)]
      by_cases d : k < m
      · rw [if_pos d, if_pos (by omega)]; omega
      · rw [if_neg d, if_neg (by omega)]; omega
theorem bN_sub {x k m : Int} (hx : 0 ≤ x) (hk : 0 ≤ k) (hm : k < m) (hb : x / p2 k % 2 = 1) : bN (x - p2 k) m = bN x m - 1 := by
  have b := (bit_sub hx hk hb).2
  have := sumT_upd (f := fun q => (x - p2 k) / p2 q % 2) (g := fun q => x / p2 q % 2) hk (fun q q0 q1 => by show (x - p2 k) / p2 q % 2 = _; rw [b q q0, if_neg q1]) (by show (x - p2 k) / p2 k % 2 = x / p2 k % 2 - 1; rw [b k hk, if_pos rfl, hb]; rfl) m.toNat
  rw [show ((m.toNat : Nat) : Int) = m by omega, if_pos hm] at this
  exact this
theorem bN_all {m : Int} (h : 0 ≤ m) : bN (p2 m - 1) m = m := by
  have e : bN (p2 m - 1) m = sumT (fun _ => 1) m := sumT_c (fun k k0 k1 => bit_all k0 k1)
  have z : ∀ q : Nat, sumT (fun _ => 1) (q : Int) = q := by
    intro q
    induction q with
    | zero => rfl
    | succ q ih => rw [show ((q + 1 : Nat) : Int) = (q : Int) + 1 by omega, sumT_s _ (by omega), ih]
  have := z m.toNat
  rw [show ((m.toNat : Nat) : Int) = m by omega] at this
  rw [e, this]
theorem bN_0 {x m : Int} (h : 0 ≤ m) (hb : bN x m = 0) : ∀ k, 0 ≤ k → k < m → x / p2 k % 2 = 0 := by
  have key : ∀ q : Nat, bN x q = 0 → ∀ k, 0 ≤ k → k < (q : Int) → x / p2 k % 2 = 0 := by
    intro q
    induction q with
    | zero => intro _ k k0 k1; omega
    | succ q ih =>
      intro hq k k0 k1
      have e : bN x ((q : Int) + 1) = bN x q + x / p2 q % 2 := sumT_s _ (by omega)
      rw [show ((q + 1 : Nat) : Int) = (q : Int) + 1 by omega, e] at hq
      have n1 := bN_mono (set := x) q 0 (by omega)
      have n0 : bN x 0 = 0 := rfl
      rw [n0, Int.zero_add] at n1
      by_cases c : k = q
      · rw [c]; omega
      · exact ih (by omega) k k0 (by omega)
  have := key m.toNat
  rw [show ((m.toNat : Nat) : Int) = m by omega] at this
  exact this hb
def StpW (n : Int) (rs w : Int → Int) (m : Int) : Prop := 1 ≤ w m ∧ w m < n ∧ rs (m - 1) / p2 (w m - 1) % 2 = 1 ∧ rs m = rs (m - 1) - p2 (w m - 1)
def PathI (n : Int) (rs w : Int → Int) (i : Int) : Prop := w 0 = 0 ∧ rs 0 = p2 (n - 1) - 1 ∧ ∀ m, 1 ≤ m → m < i → StpW n rs w m
theorem path_b {n i : Int} {rs w : Int → Int} (hn : 1 ≤ n) (h : PathI n rs w i) : ∀ m : Nat, (m : Int) < i → (0 ≤ rs m ∧ rs m < p2 (n - 1) ∧ bN (rs m) (n - 1) = n - 1 - m) ∧ ∀ x, 1 ≤ x → x < n → (rs m / p2 (x - 1) % 2 = 1 ↔ ∀ k, 1 ≤ k → k ≤ (m : Int) → w k ≠ x)
  | 0, _ => by
    have hp := p2_pos (n - 1)
    show (0 ≤ rs 0 ∧ _) ∧ _
    have e : rs ((0 : Nat) : Int) = p2 (n - 1) - 1 := h.2.1
    rw [show rs 0 = p2 (n - 1) - 1 from h.2.1, e]
    refine ⟨⟨by omega, by omega, by rw [bN_all (by omega)]; omega⟩, fun x x0 x1 => ⟨fun _ k k0 k1 => by omega, fun _ => bit_all (by omega) (by omega)⟩⟩
  | m + 1, hm => by
    obtain ⟨⟨i1, i2, i3⟩, i4⟩ := path_b hn h m (by omega)
    obtain ⟨s1, s2, s3, s4⟩ := h.2.2 ((m + 1 : Nat) : Int) (by omega) hm
    rw [show ((m + 1 : Nat) : Int) - 1 = m by omega] at s3 s4
    obtain ⟨t1, t2⟩ := bit_sub i1 (by omega) s3
    have hp := p2_pos (w ((m + 1 : Nat) : Int) - 1)
    rw [s4]
    refine ⟨⟨t1, by omega, by rw [bN_sub i1 (by omega) (by omega) s3, i3]; omega⟩, fun x x0 x1 => ?_⟩
    rw [t2 (x - 1) (by omega)]
    by_cases c : x = w ((m + 1 : Nat) : Int)
    · rw [if_pos (by omega)]
      exact ⟨fun z => by omega, fun z => absurd c.symm (z _ (by omega) (by omega))⟩
    · rw [if_neg (by omega), i4 x x0 x1]
      refine ⟨fun z k k0 k1 => ?_, fun z k k0 k1 => z k k0 (by omega)⟩
      by_cases d : k = ((m + 1 : Nat) : Int)
      · rw [d]; exact fun y => c y.symm
      · exact z k k0 (by omega)
theorem path_bI {n i m : Int} {rs w : Int → Int} (hn : 1 ≤ n) (h : PathI n rs w i) (m0 : 0 ≤ m) (m1 : m < i) : (0 ≤ rs m ∧ rs m < p2 (n - 1) ∧ bN (rs m) (n - 1) = n - 1 - m) ∧ ∀ x, 1 ≤ x → x < n → (rs m / p2 (x - 1) % 2 = 1 ↔ ∀ k, 1 ≤ k → k ≤ m → w k ≠ x) := by
  have := path_b hn h m.toNat (by omega)
  rw [show ((m.toNat : Nat) : Int) = m by omega] at this
  exact this
theorem path_z {n : Int} {rs w : Int → Int} (hn : 1 ≤ n) (h : PathI n rs w n) : rs (n - 1) = 0 := by
  have := (path_bI hn h (m := n - 1) (by omega) (by omega)).1
  exact bits0 this.1 this.2.1 (bN_0 (by omega) (by rw [this.2.2]; omega))
theorem path_in {n m : Int} {rs w : Int → Int} (hn : 1 ≤ n) (h : PathI n rs w n) (m0 : 0 ≤ m) (m1 : m < n) : 0 ≤ w m ∧ w m < n ∧ (m ≠ 0 → 1 ≤ w m) ∧ (w m = 0 ∨ rs m / p2 (w m - 1) % 2 = 0) := by
  by_cases c : m = 0
  · rw [c, h.1]; omega
  · have s := h.2.2 m (by omega) m1
    have b := (path_bI hn h m0 m1).2 (w m) s.1 s.2.1
    refine ⟨by have := s.1; omega, s.2.1, fun _ => s.1, Or.inr ?_⟩
    rcases bit_01 (rs m) (w m - 1) with z | z
    · exact z
    · exact absurd rfl (b.mp z m (by omega) (by omega))
def TabH (D : Int → Int → Int) (n : Int) (h : Int → Int) : Prop := ∀ rest last, 0 ≤ rest → rest < p2 (n - 1) → 0 ≤ last → last < n → (last = 0 ∨ rest / p2 (last - 1) % 2 = 0) → (rest = 0 → h (rest * 8 + last) = D last 0) ∧ ∀ i, 1 ≤ i → i < n → rest / p2 (i - 1) % 2 = 1 → h (rest * 8 + last) ≤ D last i + h ((rest - p2 (i - 1)) * 8 + i)
def TCj (D : Int → Int → Int) (w : Int → Int) (n : Int) : Nat → Int
  | 0 => D (w (n - 1)) 0
  | j + 1 => D (w (n - 2 - j)) (w (n - 1 - j)) + TCj D w n j
theorem path_le {D : Int → Int → Int} {n : Int} {h rs w : Int → Int} (hn : 1 ≤ n) (hT : TabH D n h) (hP : PathI n rs w n) : ∀ j : Nat, (j : Int) ≤ n - 1 → h (rs (n - 1 - j) * 8 + w (n - 1 - j)) ≤ TCj D w n j
  | 0, _ => by
    rw [show n - 1 - ((0 : Nat) : Int) = n - 1 by omega]
    have i := path_in hn hP (m := n - 1) (by omega) (by omega)
    rw [path_z hn hP] at i ⊢
    have := (hT 0 (w (n - 1)) (by omega) (p2_pos _) i.1 i.2.1 i.2.2.2).1 rfl
    simp only [TCj]
    omega
  | j + 1, hj => by
    have ih := path_le hn hT hP j (by omega)
    rw [show n - 1 - ((j + 1 : Nat) : Int) = n - 2 - j by omega]
    have i := path_in hn hP (m := n - 2 - j) (by omega) (by omega)
    have b := path_bI hn hP (m := n - 2 - j) (by omega) (by omega)
    obtain ⟨s1, s2, s3, s4⟩ := hP.2.2 (n - 1 - j) (by omega) (by omega)
    rw [show n - 1 - (j : Int) - 1 = n - 2 - j by omega] at s3 s4
    have t := (hT (rs (n - 2 - j)) (w (n - 2 - j)) b.1.1 b.1.2.1 i.1 i.2.1 i.2.2.2).2 (w (n - 1 - j)) s1 s2 s3
    rw [← s4] at t
    simp only [TCj]
    omega
theorem path_eq {D : Int → Int → Int} {n : Int} {h rs w : Int → Int} (hn : 1 ≤ n) (hT : TabH D n h) (hP : PathI n rs w n) (hE : ∀ m, 1 ≤ m → m < n → D (w (m - 1)) (w m) + h (rs m * 8 + w m) = h (rs (m - 1) * 8 + w (m - 1))) : ∀ j : Nat, (j : Int) ≤ n - 1 → h (rs (n - 1 - j) * 8 + w (n - 1 - j)) = TCj D w n j
  | 0, _ => by
    rw [show n - 1 - ((0 : Nat) : Int) = n - 1 by omega]
    have i := path_in hn hP (m := n - 1) (by omega) (by omega)
    rw [path_z hn hP] at i ⊢
    have := (hT 0 (w (n - 1)) (by omega) (p2_pos _) i.1 i.2.1 i.2.2.2).1 rfl
    simp only [TCj]
    omega
  | j + 1, hj => by
    have ih := path_eq hn hT hP hE j (by omega)
    have e := hE (n - 1 - j) (by omega) (by omega)
    rw [show n - 1 - (j : Int) - 1 = n - 2 - j by omega] at e
    rw [show n - 1 - ((j + 1 : Nat) : Int) = n - 2 - j by omega]
    simp only [TCj]
    omega
/-- the whole way is the sum -/
theorem TCj_sum {D : Int → Int → Int} {n : Int} {w : Int → Int} (hn : 1 ≤ n) (h0 : w 0 = 0) : ∀ j : Nat, (j : Int) ≤ n - 1 → sumT (fun k => D (w k) (w (if k + 1 = n then 0 else k + 1))) n = sumT (fun k => D (w k) (w (if k + 1 = n then 0 else k + 1))) (n - 1 - j) + TCj D w n j
  | 0, _ => by
    have e : sumT (fun k => D (w k) (w (if k + 1 = n then 0 else k + 1))) (n - 1 + 1) = _ := sumT_s _ (by omega)
    rw [show n - 1 + 1 = n by omega] at e
    rw [e, show n - 1 - ((0 : Nat) : Int) = n - 1 by omega, if_pos (by omega), h0]
    rfl
  | j + 1, hj => by
    have ih := TCj_sum (D := D) hn h0 j (by omega)
    have e : sumT (fun k => D (w k) (w (if k + 1 = n then 0 else k + 1))) (n - 2 - j + 1) = _ := sumT_s _ (by omega)
    rw [show n - 2 - (j : Int) + 1 = n - 1 - j by omega, if_neg (by omega)] at e
    rw [ih, e, show n - 1 - ((j + 1 : Nat) : Int) = n - 2 - j by omega]
    simp only [TCj]
    omega
theorem TCj_tour {a tw : Int → Int} {D : Int → Int → Int} {n : Int} {w : Int → Int} (hn : 1 ≤ n) (h0 : w 0 = 0) (hr : ∀ k, 0 ≤ k → k < n → 0 ≤ w k ∧ w k < n) (hD : ∀ i j, 0 ≤ i → i < n → 0 ≤ j → j < n → D i j = mMiles a (tw i) (tw j)) : tourM a (fun k => tw (w k)) n = TCj D w n (n - 1).toNat := by
  have s := TCj_sum (D := D) hn h0 (n - 1).toNat (by omega)
  rw [show n - 1 - (((n - 1).toNat : Nat) : Int) = 0 by omega, sumT_0, Int.zero_add] at s
  rw [← s]
  refine sumT_c (fun k k0 k1 => ?_)
  have r1 := hr k k0 k1
  show mMiles a (tw (w k)) (tw (w (if k + 1 = n then 0 else k + 1))) = _
  by_cases c : k + 1 = n
  · rw [if_pos c]
    have r2 := hr 0 (by omega) (by omega)
    rw [hD _ _ r1.1 r1.2 r2.1 r2.2]
  · rw [if_neg c]
    have r2 := hr (k + 1) (by omega) (by omega)
    rw [hD _ _ r1.1 r1.2 r2.1 r2.2]
/-- the masks along any arrangement -/
def rpS (n : Int) (p : Int → Int) : Nat → Int
  | 0 => p2 (n - 1) - 1
  | m + 1 => rpS n p m - p2 (p ((m + 1 : Nat) : Int) - 1)
theorem arr_path {n : Int} {p : Int → Int} (hn : 1 ≤ n) (h0 : p 0 = 0) (hr : ∀ k, 1 ≤ k → k < n → 1 ≤ p k ∧ p k < n) (hi : ∀ j k, 1 ≤ j → j < k → k < n → p j ≠ p k) : PathI n (fun m => rpS n p m.toNat) p n := by
  have key : ∀ i : Nat, (i : Int) ≤ n → PathI n (fun m => rpS n p m.toNat) p i := by
    intro i
    induction i with
    | zero => intro _; exact ⟨h0, rfl, fun m m0 m1 => by omega⟩
    | succ i ih =>
      intro hh
      have P := ih (by omega)
      refine ⟨h0, rfl, fun m m0 m1 => ?_⟩
      by_cases c : m < i
      · exact P.2.2 m m0 c
      · have em : m = i := by omega
        subst em
        have b := (path_bI hn P (m := (i : Int) - 1) (by omega) (by omega)).2 (p i) (hr _ m0 (by omega)).1 (hr _ m0 (by omega)).2
        refine ⟨(hr _ m0 (by omega)).1, (hr _ m0 (by omega)).2, b.mpr (fun k k0 k1 => hi k i k0 (by omega) (by omega)), ?_⟩
        show rpS n p (i : Int).toNat = rpS n p ((i : Int) - 1).toNat - _
        rw [show ((i : Int)).toNat = ((i : Int) - 1).toNat + 1 by omega]
        simp only [rpS]
        rw [show ((((i : Int) - 1).toNat + 1 : Nat) : Int) = i by omega]
  have := key n.toNat (by omega)
  rw [show ((n.toNat : Nat) : Int) = n by omega] at this
  exact this
def WkE (D : Int → Int → Int) (n : Int) (h rs w : Int → Int) (m : Int) : Prop := D (w (m - 1)) (w m) + h (rs m * 8 + w m) = h (rs (m - 1) * 8 + w (m - 1)) ∧ ∀ x, 1 ≤ x → x < w m → rs (m - 1) / p2 (x - 1) % 2 = 1 → D (w (m - 1)) x + h ((rs (m - 1) - p2 (x - 1)) * 8 + x) ≠ h (rs (m - 1) * 8 + w (m - 1))
theorem round_fin {a tw h rs w : Int → Int} {D : Int → Int → Int} {set n : Int} (hcol : ColT set n (a 0) tw) (hn : 1 ≤ n) (hD : ∀ i j, 0 ≤ i → i < n → 0 ≤ j → j < n → D i j = mMiles a (tw i) (tw j)) (hT : TabH D n h) (hP : PathI n rs w n) (hE : ∀ m, 1 ≤ m → m < n → WkE D n h rs w m) : SoF a (tIn a set) n (tw 0) (fun _ => True) (h ((p2 (n - 1) - 1) * 8)) (fun k => tw (w k)) := by
  have hA := ColT_end hcol
  obtain ⟨c1, c2, c3, c4, c5⟩ := hcol
  have hwr : ∀ k, 0 ≤ k → k < n → 0 ≤ w k ∧ w k < n := fun k k0 k1 => by have := path_in hn hP k0 k1; exact ⟨this.1, this.2.1⟩
  have inj : ∀ j k, 0 ≤ j → j < k → k < n → w j ≠ w k := fun j k j0 j1 k1 => by
    have s := hP.2.2 k (by omega) k1
    by_cases z : j = 0
    · rw [z, hP.1]; have := s.1; omega
    · exact ((path_bI hn hP (m := k - 1) (by omega) (by omega)).2 (w k) s.1 s.2.1).mp s.2.2.1 j (by omega) (by omega)
  have surj : ∀ x, 0 ≤ x → x < n → ∃ k, 0 ≤ k ∧ k < n ∧ w k = x := fun x x0 x1 => by
    by_cases z : x = 0
    · exact ⟨0, by omega, by omega, by rw [hP.1, z]⟩
    · have b := (path_bI hn hP (m := n - 1) (by omega) (by omega)).2 x (by omega) x1
      rw [path_z hn hP, Int.zero_ediv] at b
      refine Classical.byContradiction fun hc => ?_
      have := b.mpr (fun k k0 k1 e => hc ⟨k, by omega, by omega, e⟩)
      omega
  have tinj : ∀ i j, 0 ≤ i → i < n → 0 ≤ j → j < n → tw i = tw j → i = j := fun i j i0 i1 j0 j1 e => hA.2.1 i j i0 i1 j0 j1 e
  have hAw : Arr (tIn a set) n (fun k => tw (w k)) := by
    refine ⟨fun k k0 k1 => hA.1 _ (hwr k k0 k1).1 (hwr k k0 k1).2, fun j k j0 j1 k0 k1 e => ?_, fun x hx => ?_⟩
    · have e2 := tinj _ _ (hwr j j0 j1).1 (hwr j j0 j1).2 (hwr k k0 k1).1 (hwr k k0 k1).2 e
      rcases (show j < k ∨ k < j ∨ j = k by omega) with z | z | z
      · exact absurd e2 (inj j k j0 z k1)
      · exact absurd e2.symm (inj k j k0 z j1)
      · exact z
    · obtain ⟨i, i0, i1, i2⟩ := hA.2.2 x hx
      obtain ⟨k, k0, k1, k2⟩ := surj i i0 i1
      exact ⟨k, k0, k1, by show tw (w k) = x; rw [k2, i2]⟩
  have hle : h ((p2 (n - 1) - 1) * 8) = tourM a (fun k => tw (w k)) n := by
    have e := path_eq hn hT hP (fun m m0 m1 => (hE m m0 m1).1) (n - 1).toNat (by omega)
    rw [show n - 1 - (((n - 1).toNat : Nat) : Int) = 0 by omega, hP.1, hP.2.1, Int.add_zero] at e
    rw [e, TCj_tour hn hP.1 hwr hD]
  refine ⟨hAw, by show tw (w 0) = _; rw [hP.1], hle, fun q hq q0 _ => ?_⟩
  -- the numbers of the towns along q
  obtain ⟨p, hp⟩ : ∃ p : Int → Int, ∀ k, 0 ≤ k → k < n → 0 ≤ p k ∧ p k < n ∧ tw (p k) = q k := by
    refine ⟨fun k => if hk : 0 ≤ k ∧ k < n then Classical.choose (hA.2.2 (q k) (hq.1 k hk.1 hk.2)) else 0, fun k k0 k1 => ?_⟩
    have z := Classical.choose_spec (hA.2.2 (q k) (hq.1 k k0 k1))
    simp only [dif_pos (show 0 ≤ k ∧ k < n from ⟨k0, k1⟩)]
    exact z
  have p0 : p 0 = 0 := by
    have z := hp 0 (by omega) (by omega)
    exact tinj _ _ z.1 z.2.1 (by omega) (by omega) (by rw [z.2.2, q0])
  have pinj : ∀ j k, 0 ≤ j → j < k → k < n → p j ≠ p k := fun j k j0 j1 k1 e => by
    have := hq.2.1 j k j0 (by omega) (by omega) k1 (by rw [← (hp j j0 (by omega)).2.2, ← (hp k (by omega) k1).2.2, e])
    omega
  have pr : ∀ k, 1 ≤ k → k < n → 1 ≤ p k ∧ p k < n := fun k k0 k1 => by
    have z := hp k (by omega) k1
    have := pinj 0 k (by omega) (by omega) k1
    rw [p0] at this
    omega
  have Pp := arr_path hn p0 pr (fun j k j0 j1 k1 => pinj j k (by omega) j1 k1)
  have tq : tourM a q n = TCj D p n (n - 1).toNat := by
    rw [← TCj_tour hn p0 (fun k k0 k1 => ⟨(hp k k0 k1).1, (hp k k0 k1).2.1⟩) hD]
    exact tourM_c (fun k k0 k1 => (hp k k0 k1).2.2.symm)
  have le0 := path_le hn hT Pp (n - 1).toNat (by omega)
  rw [show n - 1 - (((n - 1).toNat : Nat) : Int) = 0 by omega, p0] at le0
  have le0 : h ((p2 (n - 1) - 1) * 8 + 0) ≤ TCj D p n (n - 1).toNat := le0
  rw [Int.add_zero] at le0
  refine ⟨by rw [tq]; exact le0, fun teq ⟨d, d0, d1, d2, d3⟩ => ?_⟩
  -- the first place where they part
  have pw_ : ∀ j, 0 ≤ j → j < d → p j = w j := fun j j0 j1 => by
    have z := hp j j0 (by omega)
    have y := hwr j j0 (by omega)
    exact tinj _ _ z.1 z.2.1 y.1 y.2 (z.2.2.trans (d2 j j0 j1))
  have dd : 1 ≤ d := by
    by_cases z : d = 0
    · rw [z] at d3
      have d3 : q 0 < tw (w 0) := d3
      have : q 0 = tw (w 0) := by rw [q0, hP.1]
      omega
    · omega
  have lt : p d < w d := by
    have z := hp d d0 d1
    have y := hwr d d0 d1
    by_cases c : w d ≤ p d
    · have : tw (w d) ≤ tw (p d) := by
        by_cases e : w d = p d
        · rw [e]; exact Int.le_refl _
        · exact Int.le_of_lt (c4 _ _ y.1 (by omega) z.2.1)
      rw [z.2.2] at this
      have d3 : q d < tw (w d) := d3
      omega
    · omega
  have req : ∀ m : Nat, (m : Int) < d → rpS n p m = rs m := by
    intro m
    induction m with
    | zero => intro _; exact hP.2.1.symm
    | succ m ih =>
      intro hm
      have s := (hP.2.2 ((m + 1 : Nat) : Int) (by omega) (by omega)).2.2.2
      rw [show ((m + 1 : Nat) : Int) - 1 = m by omega] at s
      simp only [rpS]
      rw [ih (by omega), s, pw_ _ (by omega) hm]
  -- what both have cost until there
  have tail : ∀ j : Nat, (j : Int) ≤ n - 1 → n - 1 - j ≤ d - 1 → TCj D p n (n - 1).toNat - TCj D p n j = TCj D w n (n - 1).toNat - TCj D w n j := by
    intro j j1 j2
    have a1 := TCj_sum (D := D) hn p0 (n - 1).toNat (by omega)
    have a2 := TCj_sum (D := D) hn p0 j j1
    have b1 := TCj_sum (D := D) hn hP.1 (n - 1).toNat (by omega)
    have b2 := TCj_sum (D := D) hn hP.1 j j1
    rw [show n - 1 - (((n - 1).toNat : Nat) : Int) = 0 by omega, sumT_0, Int.zero_add] at a1 b1
    have e : sumT (fun k => D (p k) (p (if k + 1 = n then 0 else k + 1))) (n - 1 - j) = sumT (fun k => D (w k) (w (if k + 1 = n then 0 else k + 1))) (n - 1 - j) := sumT_c (fun k k0 k1 => by
      show D (p k) (p (if k + 1 = n then 0 else k + 1)) = D (w k) (w (if k + 1 = n then 0 else k + 1))
      rw [if_neg (by omega), pw_ k k0 (by omega), pw_ (k + 1) (by omega) (by omega)])
    omega
  have jd : ((n - 1 - (d - 1)).toNat : Int) = n - d := by omega
  have t1 := tail (n - 1 - (d - 1)).toNat (by omega) (by omega)
  have w1 := path_eq hn hT hP (fun m m0 m1 => (hE m m0 m1).1) (n - 1 - (d - 1)).toNat (by omega)
  have p1 : h (rpS n p d.toNat * 8 + p d) ≤ TCj D p n (n - d - 1).toNat := by
    have := path_le hn hT Pp (n - d - 1).toNat (by omega)
    rw [show n - 1 - (((n - d - 1).toNat : Nat) : Int) = d by omega] at this
    exact this
  have sp : TCj D p n (n - 1 - (d - 1)).toNat = D (p (d - 1)) (p d) + TCj D p n (n - d - 1).toNat := by
    rw [show (n - 1 - (d - 1)).toNat = (n - d - 1).toNat + 1 by omega]
    simp only [TCj]
    rw [show n - 2 - (((n - d - 1).toNat : Nat) : Int) = d - 1 by omega, show n - 1 - (((n - d - 1).toNat : Nat) : Int) = d by omega]
  have st := Pp.2.2 d dd d1
  have e1 : rpS n p (d - 1).toNat = rs (d - 1) := by
    have := req (d - 1).toNat (by omega)
    rw [show (((d - 1).toNat : Nat) : Int) = d - 1 by omega] at this
    exact this
  have st4 : rpS n p d.toNat = rpS n p (d - 1).toNat - p2 (p d - 1) := st.2.2.2
  have st3 : rpS n p (d - 1).toNat / p2 (p d - 1) % 2 = 1 := st.2.2.1
  rw [e1] at st4 st3
  rw [st4] at p1
  rw [show n - 1 - (((n - 1 - (d - 1)).toNat : Nat) : Int) = d - 1 by omega] at w1
  have ne := (hE d dd d1).2 (p d) st.1 lt st3
  have i := path_in hn hP (m := d - 1) (by omega) (by omega)
  have b := path_bI hn hP (m := d - 1) (by omega) (by omega)
  have tt := (hT (rs (d - 1)) (w (d - 1)) b.1.1 b.1.2.1 i.1 i.2.1 i.2.2.2).2 (p d) st.1 st.2.1 st3
  have ed : p (d - 1) = w (d - 1) := pw_ (d - 1) (by omega) (by omega)
  rw [ed] at sp
  rw [tq, hle, TCj_tour hn hP.1 hwr hD] at teq
  omega
