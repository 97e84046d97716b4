/-! sharing: the class's rows of bits, and how few there must be -/
def ShB (V : Va) (kd my : Int → Int) (cl : Int → Int → Prop) (n : Int) : Prop :=
  (0 ≤ n ∧ n ≤ 12) ∧ (∀ i, 0 ≤ i → i < n → (0 ≤ V 291 i ∧ V 291 i < 4096) ∧ (0 ≤ V 292 i ∧ V 292 i < 4096 ∧ ∀ k, n ≤ k → k < 12 → V 292 i / p2 k % 2 = 0) ∧ V 294 i = my i ∧ 1 ≤ my i ∧ my i ≤ 9) ∧
  (∀ i k, 0 ≤ i → i < n → 0 ≤ k → k < n → (V 291 i / p2 k % 2 = 1 ↔ i ≠ k ∧ cl i k)) ∧ ∀ i k, 0 ≤ i → i < n → 0 ≤ k → k < n → (V 292 i / p2 k % 2 = 1 ↔ kd i = kd k)
theorem bor_as {x y z : Int} : bor x (bor y z) = bor (bor x y) z := by
  simp only [bor, Int.toNat_natCast, Nat.or_assoc]
theorem bor_nn (x y : Int) : 0 ≤ bor x y := by simp only [bor]; omega
theorem Twn_tw {V : Va} {kd my : Int → Int} {cl : Int → Int → Prop} {n : Int} (hB : ShB V kd my cl n) {i j : Int} (hi : 0 ≤ i ∧ i < n) (hj : 0 ≤ j ∧ j < n) (h : Twn V i j) : kd i = kd j ∧ ∀ k, 0 ≤ k → k < n → k ≠ i → k ≠ j → (cl i k ↔ cl j k) := by
  obtain ⟨h0, h1, h2, h3⟩ := hB
  refine ⟨?_, fun k k0 k1 ki kj => ?_⟩
  · have q := (h3 i i hi.1 hi.2 hi.1 hi.2).mpr rfl
    rw [h.1] at q
    exact ((h3 j i hj.1 hj.2 hi.1 hi.2).mp q).symm
  · have e : (bor (V 291 i) (bor (p2 i) (p2 j))) / p2 k % 2 = (bor (V 291 j) (bor (p2 i) (p2 j))) / p2 k % 2 := by rw [h.2]
    have ii := (h1 i hi.1 hi.2).1.1
    have jj := (h1 j hj.1 hj.2).1.1
    rw [bor_as, bor_as, bit_or (bor_nn _ _) hj.1 k0, bit_or (bor_nn _ _) hj.1 k0, if_neg kj, if_neg kj, bit_or ii hi.1 k0, bit_or jj hi.1 k0, if_neg ki, if_neg ki] at e
    have a1 := h2 i k hi.1 hi.2 k0 k1
    have a2 := h2 j k hj.1 hj.2 k0 k1
    rw [e, a2] at a1
    exact ⟨fun z => (a1.mpr ⟨Ne.symm ki, z⟩).2, fun z => (a1.mp ⟨Ne.symm kj, z⟩).2⟩
theorem sumT_leR (f g : Int → Int) : ∀ n : Nat, (∀ k, 0 ≤ k → k < (n : Int) → f k ≤ g k) → sumT f n ≤ sumT g n
  | 0, _ => Int.le_refl _
  | n + 1, h => by
    rw [show ((n + 1 : Nat) : Int) = (n : Int) + 1 by omega, sumT_s _ (by omega), sumT_s _ (by omega)]
    have := sumT_leR f g n (fun k k0 k1 => h k k0 (by omega))
    have := h n (by omega) (by omega)
    omega
theorem sumT_const (c : Int) : ∀ n : Nat, sumT (fun _ => c) n = n * c
  | 0 => by show (0 : Int) = _; simp
  | n + 1 => by
    rw [show ((n + 1 : Nat) : Int) = (n : Int) + 1 by omega, sumT_s _ (by omega), sumT_const c n, Int.add_mul, Int.one_mul]
theorem sumT_pick (v e : Int) {m : Int} (v0 : 0 ≤ v) (v1 : v < m) : sumT (fun s => if v = s then e else 0) m = e := by
  have q : (fun s => if v = s then e else 0) = ua (fun _ => 0) v e := by
    funext s
    simp only [ua]
    by_cases c : v = s
    · rw [if_pos c, if_pos c.symm]
    · rw [if_neg c, if_neg (Ne.symm c)]
  rw [q, sumT_uaI _ v0 v1]
  have z := sumT_const 0 m.toNat
  rw [show ((m.toNat : Nat) : Int) = m by omega, Int.mul_zero] at z
  omega
theorem cnt_le {u g : Int → Int} {n m c : Int} (n0 : 0 ≤ n) (m0 : 0 ≤ m) (hg : ∀ k, 0 ≤ k → k < n → 0 ≤ g k ∧ g k < m) (hc : ∀ s, 0 ≤ s → s < m → sumT (fun k => if g k = s then u k else 0) n ≤ c) : sumT u n ≤ m * c := by
  have e1 : sumT u n = sumT (fun k => sumT (fun s => if g k = s then u k else 0) m) n := sumT_c (fun k k0 k1 => (sumT_pick (g k) (u k) (hg k k0 k1).1 (hg k k0 k1).2).symm)
  have e2 := sumT_comm (fun k s => if g k = s then u k else 0) m.toNat n.toNat
  rw [show ((m.toNat : Nat) : Int) = m by omega, show ((n.toNat : Nat) : Int) = n by omega] at e2
  have e3 := sumT_leR (fun s => sumT (fun k => if g k = s then u k else 0) n) (fun _ => c) m.toNat (fun s s0 s1 => hc s s0 (by omega))
  rw [sumT_const, show ((m.toNat : Nat) : Int) = m by omega] at e3
  rw [e1, e2]
  exact e3
theorem sumT_le1 (f : Int → Int) : ∀ n : Nat, (∀ k, 0 ≤ k → k < (n : Int) → f k = 0 ∨ f k = 1) → (∀ x y, 0 ≤ x → x < (n : Int) → 0 ≤ y → y < (n : Int) → x ≠ y → f x = 1 → f y = 1 → False) → sumT f n ≤ 1
  | 0, _, _ => by show (0 : Int) ≤ 1; omega
  | n + 1, h1, h2 => by
    rw [show ((n + 1 : Nat) : Int) = (n : Int) + 1 by omega, sumT_s _ (by omega)]
    rcases h1 n (by omega) (by omega) with z | z
    · have := sumT_le1 f n (fun k k0 k1 => h1 k k0 (by omega)) (fun x y x0 x1 y0 y1 => h2 x y x0 (by omega) y0 (by omega))
      omega
    · have e : sumT f n = sumT (fun _ => 0) n := sumT_c (fun k k0 k1 => by
        rcases h1 k k0 (by omega) with y | y
        · exact y
        · exact (h2 k n k0 (by omega) (by omega) (by omega) (by omega) y z).elim)
      have := sumT_const 0 n
      rw [Int.mul_zero] at this
      omega
/-- no fewer than r -/
def Lb (kd my : Int → Int) (cl : Int → Int → Prop) (n r : Int) : Prop := ∀ m g, 0 ≤ m → Val kd my cl n m g → r ≤ m
theorem Lb_0 {kd my : Int → Int} {cl : Int → Int → Prop} {n : Int} : Lb kd my cl n 0 := fun m g m0 _ => m0
theorem Lb_max {kd my : Int → Int} {cl : Int → Int → Prop} {n r s : Int} (h1 : Lb kd my cl n r) (h2 : Lb kd my cl n s) : Lb kd my cl n (if r < s then s else r) := by
  split
  · exact h2
  · exact h1
theorem kind_bN {V : Va} {kd my : Int → Int} {cl : Int → Int → Prop} {n i : Int} (hB : ShB V kd my cl n) (i0 : 0 ≤ i) (i1 : i < n) : bN (V 292 i) 16 = sumT (fun k => if kd k = kd i then 1 else 0) n := by
  obtain ⟨h0, h1, h2, h3⟩ := hB
  have e12 : p2 12 = 4096 := by decide
  have r := (h1 i i0 i1).2.1
  have z : bN (V 292 i) 16 = bN (V 292 i) 12 := bN_top (set := V 292 i) (t := 12) r.1 (by omega) (by omega) 4
  have y : bN (V 292 i) 12 = bN (V 292 i) n := sumT_ext (fun k => V 292 i / p2 k % 2) h0.1 h0.2 (fun k k0 k1 => r.2.2 k k0 k1)
  rw [z, y]
  refine sumT_c (fun k k0 k1 => ?_)
  have q := h3 i k i0 i1 k0 k1
  by_cases c : kd k = kd i
  · rw [if_pos c]; exact q.mpr c.symm
  · rw [if_neg c]
    have : ¬ V 292 i / p2 k % 2 = 1 := fun w => c (q.mp w).symm
    omega
theorem Lb_kind {V : Va} {kd my : Int → Int} {cl : Int → Int → Prop} {n i : Int} (hB : ShB V kd my cl n) (hm : ∀ x y, 0 ≤ x → x < n → 0 ≤ y → y < n → kd x = kd y → my x = my y) (i0 : 0 ≤ i) (i1 : i < n) : Lb kd my cl n ((bN (V 292 i) 16 + V 294 i - 1) / V 294 i) := by
  intro m g m0 hv
  have hmy := (hB.2.1 i i0 i1).2.2
  have key : sumT (fun k => if kd k = kd i then 1 else 0) n ≤ m * my i := cnt_le (g := g) hB.1.1 m0 hv.1 (fun s s0 s1 => by
    by_cases c : ∃ k, 0 ≤ k ∧ k < n ∧ g k = s ∧ kd k = kd i
    · obtain ⟨k, k0, k1, k2, k3⟩ := c
      have q := hv.2.2 k k0 k1
      rw [hm k i k0 k1 i0 i1 k3] at q
      have e : sumT (fun x => if g x = s then (if kd x = kd i then (1 : Int) else 0) else 0) n = kdN kd g n k := sumT_c (fun x x0 x1 => by
        rw [k2, k3]
        by_cases a : g x = s
        · by_cases b : kd x = kd i
          · rw [if_pos a, if_pos b, if_pos ⟨a, b⟩]
          · rw [if_pos a, if_neg b, if_neg (fun z => b z.2)]
        · rw [if_neg a, if_neg (fun z => a z.1)])
      rw [e]; exact q
    · have e : sumT (fun x => if g x = s then (if kd x = kd i then (1 : Int) else 0) else 0) n = sumT (fun _ => 0) n := sumT_c (fun x x0 x1 => by
        by_cases a : g x = s
        · by_cases b : kd x = kd i
          · exact absurd ⟨x, x0, x1, a, b⟩ c
          · rw [if_pos a, if_neg b]
        · rw [if_neg a])
      have z := sumT_const 0 n.toNat
      have n0 := hB.1.1
      rw [show ((n.toNat : Nat) : Int) = n by omega, Int.mul_zero] at z
      omega)
  rw [kind_bN hB i0 i1, hmy.1]
  have : (sumT (fun k => if kd k = kd i then 1 else 0) n + my i - 1) / my i < m + 1 := Int.ediv_lt_of_lt_mul (by omega) (by rw [Int.add_mul, Int.one_mul]; omega)
  omega
/-- those chosen all clash, and those left clash with all chosen -/
def ClqI (V : Va) (n i j c z : Int) : Prop := ∃ u : Int → Int, (∀ k, u k = 0 ∨ u k = 1) ∧ (∀ x y, 0 ≤ x → x < n → 0 ≤ y → y < n → u x = 1 → u y = 1 → x ≠ y → V 291 x / p2 y % 2 = 1) ∧ (∀ k x, 0 ≤ k → k < n → 0 ≤ x → x < n → c / p2 k % 2 = 1 → u x = 1 → V 291 k / p2 x % 2 = 1 ∧ V 291 x / p2 k % 2 = 1) ∧ sumT u n = z
theorem ClqI_0 {V : Va} {kd my : Int → Int} {cl : Int → Int → Prop} {n i : Int} (hB : ShB V kd my cl n) (hsy : ∀ x y, 0 ≤ x → x < n → 0 ≤ y → y < n → cl x y → cl y x) (i0 : 0 ≤ i) (i1 : i < n) : ClqI V n i 0 (V 291 i) 1 := by
  refine ⟨fun k => if i = k then 1 else 0, fun k => by show (if i = k then (1 : Int) else 0) = 0 ∨ (if i = k then (1 : Int) else 0) = 1; split <;> omega, fun x y _ _ _ _ hx hy ne => ?_, fun k x k0 k1 x0 x1 hk hx => ?_, sumT_pick i 1 i0 i1⟩
  · have a : i = x := by by_cases c : i = x; (exact c); (have hx : (if i = x then (1 : Int) else 0) = 1 := hx; rw [if_neg c] at hx; omega)
    have b : i = y := by by_cases c : i = y; (exact c); (have hy : (if i = y then (1 : Int) else 0) = 1 := hy; rw [if_neg c] at hy; omega)
    omega
  · have a : i = x := by by_cases c : i = x; (exact c); (have hx : (if i = x then (1 : Int) else 0) = 1 := hx; rw [if_neg c] at hx; omega)
    rw [← a]
    have q := (hB.2.2.1 i k i0 i1 k0 k1).mp hk
    exact ⟨(hB.2.2.1 k i k0 k1 i0 i1).mpr ⟨Ne.symm q.1, hsy i k i0 i1 k0 k1 q.2⟩, hk⟩
theorem bit_and {x y k : Int} (hx : 0 ≤ x) (hy : 0 ≤ y) (hk : 0 ≤ k) : band x y / p2 k % 2 = 1 ↔ x / p2 k % 2 = 1 ∧ y / p2 k % 2 = 1 := by
  have key : ∀ z : Int, 0 ≤ z → (z / p2 k % 2 = 1 ↔ z.toNat.testBit k.toNat = true) := fun z hz => by
    have a := nb_tb z.toNat k.toNat
    have b : z / p2 k % 2 = ((z.toNat / 2 ^ k.toNat % 2 : Nat) : Int) := by
      simp only [p2]
      rw [Int.natCast_emod, Int.natCast_ediv, Int.toNat_of_nonneg hz]
      rfl
    rw [b, a]
    split
    · rename_i c; exact ⟨fun _ => c, fun _ => rfl⟩
    · rename_i c; exact ⟨fun w => by simp at w, fun w => absurd w c⟩
  rw [key _ (by simp only [band]; omega), key x hx, key y hy]
  simp only [band, Int.toNat_natCast, Nat.testBit_and, Bool.and_eq_true]
theorem ClqI_on {V : Va} {kd my : Int → Int} {cl : Int → Int → Prop} {n i j c z : Int} (hB : ShB V kd my cl n) (hsy : ∀ x y, 0 ≤ x → x < n → 0 ≤ y → y < n → cl x y → cl y x) (j0 : 0 ≤ j) (j1 : j < n) (c0 : 0 ≤ c) (hI : ClqI V n i j c z) (hc : c / p2 j % 2 = 1) : ClqI V n i (j + 1) (band c (V 291 j)) (z + 1) := by
  obtain ⟨u, u1, u2, u3, u4⟩ := hI
  have sy : ∀ x y, 0 ≤ x → x < n → 0 ≤ y → y < n → V 291 x / p2 y % 2 = 1 → V 291 y / p2 x % 2 = 1 := fun x y x0 x1 y0 y1 h => by
    have q := (hB.2.2.1 x y x0 x1 y0 y1).mp h
    exact (hB.2.2.1 y x y0 y1 x0 x1).mpr ⟨Ne.symm q.1, hsy x y x0 x1 y0 y1 q.2⟩
  have uj : u j = 0 := by
    rcases u1 j with w | w
    · exact w
    · have q := (u3 j j j0 j1 j0 j1 hc w).1
      exact absurd rfl ((hB.2.2.1 j j j0 j1 j0 j1).mp q).1
  refine ⟨ua u j 1, fun k => ?_, fun x y x0 x1 y0 y1 hx hy ne => ?_, fun k x k0 k1 x0 x1 hk hx => ?_, ?_⟩
  · simp only [ua]
    split
    · exact Or.inr rfl
    · exact u1 k
  · by_cases a : x = j
    · rw [ua_ne (by omega)] at hy
      rw [a]
      exact (u3 j y j0 j1 y0 y1 hc hy).1
    · rw [ua_ne a] at hx
      by_cases b : y = j
      · rw [b]
        exact (u3 j x j0 j1 x0 x1 hc hx).2
      · rw [ua_ne b] at hy
        exact u2 x y x0 x1 y0 y1 hx hy ne
  · have hk := (bit_and c0 (hB.2.1 j j0 j1).1.1 k0).mp hk
    by_cases a : x = j
    · rw [a]
      exact ⟨sy j k j0 j1 k0 k1 hk.2, hk.2⟩
    · rw [ua_ne a] at hx
      exact u3 k x k0 k1 x0 x1 hk.1 hx
  · rw [sumT_uaI _ j0 j1, u4, uj]; omega
theorem ClqI_no {V : Va} {n i j c z : Int} (hI : ClqI V n i j c z) : ClqI V n i (j + 1) c z := hI
theorem ClqI_Lb {V : Va} {kd my : Int → Int} {cl : Int → Int → Prop} {n i j c z : Int} (hB : ShB V kd my cl n) (hI : ClqI V n i j c z) : Lb kd my cl n z := by
  intro m g m0 hv
  obtain ⟨u, u1, u2, u3, u4⟩ := hI
  have n0 := hB.1.1
  have key := cnt_le (u := u) (g := g) (c := 1) n0 m0 hv.1 (fun s s0 s1 => by
    have q := sumT_le1 (fun k => if g k = s then u k else 0) n.toNat (fun k k0 k1 => by
        show (if g k = s then u k else 0) = 0 ∨ (if g k = s then u k else 0) = 1
        split
        · exact u1 k
        · exact Or.inl rfl) (fun x y x0 x1 y0 y1 ne hx hy => by
        have hx : (if g x = s then u x else 0) = 1 := hx
        have hy : (if g y = s then u y else 0) = 1 := hy
        by_cases a : g x = s
        · by_cases b : g y = s
          · rw [if_pos a] at hx
            rw [if_pos b] at hy
            have w := u2 x y x0 (by omega) y0 (by omega) hx hy ne
            exact hv.2.1 x y x0 (by omega) y0 (by omega) ne (a.trans b.symm) ((hB.2.2.1 x y x0 (by omega) y0 (by omega)).mp w).2
          · rw [if_neg b] at hy; omega
        · rw [if_neg a] at hx; omega)
    rw [show ((n.toNat : Nat) : Int) = n by omega] at q
    exact q)
  omega
