/-! sharing: who clashes with whom -/
abbrev Dn (dg : Prop) (i j x y : Int) : Prop := (x < i ∧ y < i) ∨ (x = i ∧ y < j) ∨ (y = i ∧ x < j) ∨ (dg ∧ x = i ∧ y = i)
def CmI (c : Int → Int) (P : Int → Int → Prop) (dg : Prop) (i j : Int) : Prop := (∀ x y, 0 ≤ x → x < 12 → 0 ≤ y → y < 12 → (c x / p2 y % 2 = 1 ↔ Dn dg i j x y ∧ P x y)) ∧ ∀ x, 0 ≤ x → x < 12 → 0 ≤ c x ∧ c x < 4096
theorem CmI_0 {c : Int → Int} {P : Int → Int → Prop} (h : ∀ x, 0 ≤ x → x < 12 → c x = 0) : CmI c P False 0 0 := by
  refine ⟨fun x y x0 x1 y0 y1 => ?_, fun x x0 x1 => by rw [h x x0 x1]; omega⟩
  rw [h x x0 x1, Int.zero_ediv]
  exact ⟨fun z => absurd z (by decide), fun z => by rcases z.1 with w | w | w | w; (omega); (omega); (omega); (exact w.1.elim)⟩
theorem CmI_or {c : Int → Int} {P : Int → Int → Prop} {dg dg' : Prop} {i j i' j' u v : Int} (h : CmI c P dg i j) (u0 : 0 ≤ u) (u1 : u < 12) (v0 : 0 ≤ v) (v1 : v < 12) (hP : P u v) (hD : ∀ x y, 0 ≤ x → x < 12 → 0 ≤ y → y < 12 → (Dn dg' i' j' x y ↔ Dn dg i j x y ∨ (x = u ∧ y = v))) : CmI (ua c u (bor (c u) (p2 v))) P dg' i' j' := by
  have e12 : p2 12 = 4096 := by decide
  refine ⟨fun x y x0 x1 y0 y1 => ?_, fun x x0 x1 => ?_⟩
  · have q := h.1 x y x0 x1 y0 y1
    rw [hD x y x0 x1 y0 y1]
    by_cases a : x = u
    · rw [a, ua_same, bit_or (h.2 u u0 u1).1 v0 y0]
      rw [a] at q
      by_cases b : y = v
      · rw [if_pos b, b]
        exact ⟨fun _ => ⟨Or.inr ⟨rfl, rfl⟩, hP⟩, fun _ => rfl⟩
      · rw [if_neg b, q]
        exact ⟨fun z => ⟨Or.inl z.1, z.2⟩, fun z => ⟨z.1.elim id (fun w => absurd w.2 b), z.2⟩⟩
    · rw [ua_ne a, q]
      exact ⟨fun z => ⟨Or.inl z.1, z.2⟩, fun z => ⟨z.1.elim id (fun w => absurd w.1 a), z.2⟩⟩
  · by_cases a : x = u
    · rw [a, ua_same]
      have z := h.2 u u0 u1
      have := bor_lt (x := c u) (y := p2 v) (n := 12) (by omega) ⟨Int.le_of_lt (p2_pos _), p2_lt v0 v1⟩
      omega
    · rw [ua_ne a]; exact h.2 x x0 x1
theorem CmI_c {c : Int → Int} {P : Int → Int → Prop} {dg dg' : Prop} {i j i' j' : Int} (h : CmI c P dg i j) (hD : ∀ x y, 0 ≤ x → x < 12 → 0 ≤ y → y < 12 → (Dn dg' i' j' x y ∧ P x y ↔ Dn dg i j x y ∧ P x y)) : CmI c P dg' i' j' :=
  ⟨fun x y x0 x1 y0 y1 => (h.1 x y x0 x1 y0 y1).trans (hD x y x0 x1 y0 y1).symm, h.2⟩
/-- the pair i j, both ways -/
theorem CmI_on {c : Int → Int} {P : Int → Int → Prop} {dg : Prop} {i j : Int} (h : CmI c P dg i j) (j0 : 0 ≤ j) (ji : j < i) (i1 : i < 12) (h1 : P i j) (h2 : P j i) : CmI (ua (ua c i (bor (c i) (p2 j))) j (bor (c j) (p2 i))) P dg i (j + 1) := by
  have e12 : p2 12 = 4096 := by decide
  refine ⟨fun x y x0 x1 y0 y1 => ?_, fun x x0 x1 => ?_⟩
  · have q := h.1 x y x0 x1 y0 y1
    by_cases a : x = j
    · rw [a, ua_same, bit_or (h.2 j j0 (by omega)).1 (by omega) y0]
      rw [a] at q
      by_cases b : y = i
      · rw [if_pos b, b]
        exact ⟨fun _ => ⟨Or.inr (Or.inr (Or.inl ⟨rfl, by omega⟩)), h2⟩, fun _ => rfl⟩
      · rw [if_neg b, q]
        exact ⟨fun z => ⟨by rcases z.1 with w | w | w | w <;> omega, z.2⟩, fun z => ⟨by rcases z.1 with w | w | w | w <;> omega, z.2⟩⟩
    · rw [ua_ne a]
      by_cases a2 : x = i
      · rw [a2, ua_same, bit_or (h.2 i (by omega) i1).1 j0 y0]
        rw [a2] at q
        by_cases b : y = j
        · rw [if_pos b, b]
          exact ⟨fun _ => ⟨Or.inr (Or.inl ⟨rfl, by omega⟩), h1⟩, fun _ => rfl⟩
        · rw [if_neg b, q]
          exact ⟨fun z => ⟨by rcases z.1 with w | w | w | w; (omega); (exact Or.inr (Or.inl ⟨rfl, by omega⟩)); (omega); (exact Or.inr (Or.inr (Or.inr w))), z.2⟩, fun z => ⟨by rcases z.1 with w | w | w | w; (omega); (exact Or.inr (Or.inl ⟨rfl, by omega⟩)); (omega); (exact Or.inr (Or.inr (Or.inr w))), z.2⟩⟩
      · rw [ua_ne a2, q]
        exact ⟨fun z => ⟨by rcases z.1 with w | w | w | w <;> omega, z.2⟩, fun z => ⟨by rcases z.1 with w | w | w | w <;> omega, z.2⟩⟩
  · by_cases a : x = j
    · rw [a, ua_same]
      have z := h.2 j j0 (by omega)
      have := bor_lt (x := c j) (y := p2 i) (n := 12) (by omega) ⟨Int.le_of_lt (p2_pos _), p2_lt (by omega) i1⟩
      omega
    · rw [ua_ne a]
      by_cases a2 : x = i
      · rw [a2, ua_same]
        have z := h.2 i (by omega) i1
        have := bor_lt (x := c i) (y := p2 j) (n := 12) (by omega) ⟨Int.le_of_lt (p2_pos _), p2_lt j0 (by omega)⟩
        omega
      · rw [ua_ne a2]; exact h.2 x x0 x1
theorem CmI_no {c : Int → Int} {P : Int → Int → Prop} {dg : Prop} {i j : Int} (h : CmI c P dg i j) (j0 : 0 ≤ j) (ji : j < i) (h1 : ¬ P i j) (h2 : ¬ P j i) : CmI c P dg i (j + 1) :=
  CmI_c h (fun x y x0 x1 y0 y1 => ⟨fun z => ⟨by
      rcases z.1 with w | w | w | w
      · exact Or.inl w
      · by_cases b : y = j
        · rw [w.1, b] at z; exact absurd z.2 h1
        · exact Or.inr (Or.inl ⟨w.1, by omega⟩)
      · by_cases b : x = j
        · rw [w.1, b] at z; exact absurd z.2 h2
        · exact Or.inr (Or.inr (Or.inl ⟨w.1, by omega⟩))
      · exact Or.inr (Or.inr (Or.inr w)), z.2⟩, fun z => ⟨by
      rcases z.1 with w | w | w | w
      · exact Or.inl w
      · exact Or.inr (Or.inl ⟨w.1, by omega⟩)
      · exact Or.inr (Or.inr (Or.inl ⟨w.1, by omega⟩))
      · exact Or.inr (Or.inr (Or.inr w)), z.2⟩⟩)
theorem CmI_dg {c : Int → Int} {P : Int → Int → Prop} {i : Int} (h : CmI c P False i 0) (i0 : 0 ≤ i) (i1 : i < 12) (hP : P i i) : CmI (ua c i (bor (c i) (p2 i))) P True i 0 :=
  CmI_or h i0 i1 i0 i1 hP (fun x y x0 x1 y0 y1 => ⟨fun z => by
      rcases z with w | w | w | w
      · exact Or.inl (Or.inl w)
      · omega
      · omega
      · exact Or.inr w.2, fun z => by
      rcases z with (w | w | w | w) | w
      · exact Or.inl w
      · omega
      · omega
      · exact w.1.elim
      · exact Or.inr (Or.inr (Or.inr ⟨trivial, w⟩))⟩)
theorem CmI_e1 {c : Int → Int} {P : Int → Int → Prop} {i : Int} (h : CmI c P False i i) (hP : ¬ P i i) : CmI c P False (i + 1) 0 :=
  CmI_c h (fun x y x0 x1 y0 y1 => ⟨fun z => ⟨by
      rcases z.1 with w | w | w | w
      · by_cases a : x = i
        · by_cases b : y = i
          · rw [a, b] at z; exact absurd z.2 hP
          · exact Or.inr (Or.inl ⟨a, by omega⟩)
        · by_cases b : y = i
          · exact Or.inr (Or.inr (Or.inl ⟨b, by omega⟩))
          · exact Or.inl ⟨by omega, by omega⟩
      · omega
      · omega
      · exact w.1.elim, z.2⟩, fun z => ⟨by
      rcases z.1 with w | w | w | w
      · exact Or.inl ⟨by omega, by omega⟩
      · exact Or.inl ⟨by omega, by omega⟩
      · exact Or.inl ⟨by omega, by omega⟩
      · exact w.1.elim, z.2⟩⟩)
theorem CmI_e2 {c : Int → Int} {P : Int → Int → Prop} {i : Int} (h : CmI c P True i i) : CmI c P False (i + 1) 0 :=
  CmI_c h (fun x y x0 x1 y0 y1 => ⟨fun z => ⟨by
      rcases z.1 with w | w | w | w
      · by_cases a : x = i
        · by_cases b : y = i
          · exact Or.inr (Or.inr (Or.inr ⟨trivial, a, b⟩))
          · exact Or.inr (Or.inl ⟨a, by omega⟩)
        · by_cases b : y = i
          · exact Or.inr (Or.inr (Or.inl ⟨b, by omega⟩))
          · exact Or.inl ⟨by omega, by omega⟩
      · omega
      · omega
      · exact w.1.elim, z.2⟩, fun z => ⟨by
      rcases z.1 with w | w | w | w
      · exact Or.inl ⟨by omega, by omega⟩
      · exact Or.inl ⟨by omega, by omega⟩
      · exact Or.inl ⟨by omega, by omega⟩
      · exact Or.inl ⟨by omega, by omega⟩, z.2⟩⟩)
/-- all pairs of the first n -/
theorem CmI_fin {c : Int → Int} {P : Int → Int → Prop} {n : Int} (h : CmI c P False n 0) (x y : Int) (x0 : 0 ≤ x) (x1 : x < 12) (y0 : 0 ≤ y) (y1 : y < 12) : c x / p2 y % 2 = 1 ↔ (x < n ∧ y < n) ∧ P x y := by
  rw [h.1 x y x0 x1 y0 y1]
  exact ⟨fun z => ⟨by rcases z.1 with w | w | w | w; (exact w); (omega); (omega); (exact w.1.elim), z.2⟩, fun z => ⟨Or.inl z.1, z.2⟩⟩
/-! the class's own words for it -/
abbrev ClV (V : Va) (a tx : Int → Int) (x y : Int) : Prop := (V 4 (V 290 x) = V 4 (V 290 y) ∧ mMany a tx (V 4 (V 290 x)) = 1) ∨ mUnl a tx (V 290 x) (V 290 y)
theorem mUnl_sy {a tx : Int → Int} {x y : Int} (h : mUnl a tx x y) : mUnl a tx y x := ⟨h.1, h.2.symm⟩
theorem ClV_sy {V : Va} {a tx : Int → Int} {x y : Int} (h : ClV V a tx x y) : ClV V a tx y x := by
  rcases h with z | z
  · exact Or.inl ⟨z.1.symm, by rw [← z.1]; exact z.2⟩
  · exact Or.inr (mUnl_sy z)
theorem mBr_bit (a tx s : Int → Int) (i : Int) : ∀ (k : Nat) (j : Int), 0 ≤ j → (mBr a tx s i k / p2 j % 2 = 1 ↔ j < k ∧ i ≠ j ∧ mUnl a tx (s i) (s j))
  | 0, j, j0 => by
    simp only [mBr]
    rw [Int.zero_ediv]
    exact ⟨fun z => absurd z (by decide), fun z => by omega⟩
  | k + 1, j, j0 => by
    have ih := mBr_bit a tx s i k j j0
    have r := mBr_r a tx s i k
    simp only [mBr]
    split
    · rename_i c
      rw [bit_or r.1 (by omega) j0]
      by_cases e : j = k
      · rw [if_pos e, e]
        exact ⟨fun _ => ⟨by omega, c⟩, fun _ => rfl⟩
      · rw [if_neg e, ih]
        exact ⟨fun z => ⟨by omega, z.2⟩, fun z => ⟨by omega, z.2⟩⟩
    · rename_i c
      rw [ih]
      exact ⟨fun z => ⟨by omega, z.2⟩, fun z => ⟨by
        by_cases e : j = k
        · rw [e] at z; exact absurd z.2 c
        · omega, z.2⟩⟩
theorem mMany_9 {S : Stt} {V : Va} {a tx : Int → Int} (hTx : TSim S V 133 a tx) (h34 : a 4 < a 3) {k : Int} (hk : 0 ≤ k ∧ k ≤ 19) : 1 ≤ mMany a tx k ∧ mMany a tx k ≤ 9 := by
  by_cases c : 0 ≤ a 4
  · obtain ⟨id, cl, cd, e1, e2, e3⟩ := hTx (a 4) c h34
    have q := many_c (S := S) hk c e3
    have q1 := q.1
    split at q1 <;> omega
  · have e : mManyK a tx k < 0 := by simp only [mManyK]; rw [if_pos (by omega)]; omega
    simp only [mMany]
    rw [if_pos e]
    omega
/-- as the class has it, so the reference -/
theorem ShB_of {S : Stt} {V VN : Va} {a tx : Int → Int} {n : Int} (hTx : TSim S V 133 a tx) (h34 : a 4 < a 3) (hn : 0 ≤ n ∧ n ≤ 12) (hk : ∀ i, 0 ≤ i → i < n → V 4 (V 290 i) = a (30 + 6 * V 290 i) ∧ 0 ≤ V 4 (V 290 i) ∧ V 4 (V 290 i) ≤ 19) (h1 : CmI (VN 291) (fun x y => x ≠ y ∧ ClV V a tx x y) False n 0) (h2 : CmI (VN 292) (fun x y => V 4 (V 290 x) = V 4 (V 290 y)) False n 0) (h4 : ∀ x, 0 ≤ x → x < n → VN 294 x = mMany a tx (V 4 (V 290 x))) : ShB VN (fun z => a (30 + 6 * V 290 z)) (fun z => mMany a tx (a (30 + 6 * V 290 z))) (fun x y => ClV V a tx x y) n := by
  refine ⟨hn, fun i i0 i1 => ⟨h1.2 i i0 (by omega), ⟨(h2.2 i i0 (by omega)).1, (h2.2 i i0 (by omega)).2, fun k k0 k1 => ?_⟩, ?_, ?_⟩, fun i k i0 i1 k0 k1 => ?_, fun i k i0 i1 k0 k1 => ?_⟩
  · have q := CmI_fin h2 i k i0 (by omega) (by omega) k1
    have : ¬ VN 292 i / p2 k % 2 = 1 := fun z => by have := (q.mp z).1; omega
    omega
  · show VN 294 i = mMany a tx (a (30 + 6 * V 290 i))
    rw [h4 i i0 i1, (hk i i0 i1).1]
  · show 1 ≤ mMany a tx (a (30 + 6 * V 290 i)) ∧ mMany a tx (a (30 + 6 * V 290 i)) ≤ 9
    rw [← (hk i i0 i1).1]
    exact mMany_9 hTx h34 (hk i i0 i1).2
  · have q := CmI_fin h1 i k i0 (by omega) k0 (by omega)
    rw [q]
    exact ⟨fun z => z.2, fun z => ⟨⟨i1, k1⟩, z⟩⟩
  · have q := CmI_fin h2 i k i0 (by omega) k0 (by omega)
    rw [q]
    show (i < n ∧ k < n) ∧ V 4 (V 290 i) = V 4 (V 290 k) ↔ a (30 + 6 * V 290 i) = a (30 + 6 * V 290 k)
    rw [(hk i i0 i1).1, (hk k k0 k1).1]
    exact ⟨fun z => z.2, fun z => ⟨⟨i1, k1⟩, z⟩⟩
theorem ClB_of {S : Stt} {V : Va} {a tx : Int → Int} {n : Int} (hTx : TSim S V 133 a tx) (h34 : a 4 < a 3) (hn : 0 ≤ n ∧ n ≤ 12) (hk : ∀ i, 0 ≤ i → i < n → V 4 (V 290 i) = a (30 + 6 * V 290 i) ∧ 0 ≤ V 4 (V 290 i) ∧ V 4 (V 290 i) ≤ 19) : ClB (fun z => a (30 + 6 * V 290 z)) (fun z => mMany a tx (a (30 + 6 * V 290 z))) (fun z => mBr a tx (V 290) z n.toNat) (fun x y => ClV V a tx x y) n := by
  refine ⟨fun x y x0 x1 y0 y1 ne => ?_, fun x y x0 x1 y0 y1 ne h => ?_, fun x y x0 x1 y0 y1 e => ?_, fun x x0 x1 => ?_⟩
  · show ClV V a tx x y ↔ (a (30 + 6 * V 290 x) = a (30 + 6 * V 290 y) ∧ mMany a tx (a (30 + 6 * V 290 x)) = 1) ∨ mBr a tx (V 290) x n.toNat / p2 y % 2 = 1
    rw [mBr_bit a tx (V 290) x n.toNat y y0, ← (hk x x0 x1).1, ← (hk y y0 y1).1]
    exact ⟨fun z => z.elim Or.inl (fun w => Or.inr ⟨by omega, ne, w⟩), fun z => z.elim Or.inl (fun w => Or.inr w.2.2)⟩
  · have q := (mBr_bit a tx (V 290) x n.toNat y y0).mp h
    exact (mBr_bit a tx (V 290) y n.toNat x x0).mpr ⟨by omega, Ne.symm ne, mUnl_sy q.2.2⟩
  · show mMany a tx (a (30 + 6 * V 290 x)) = mMany a tx (a (30 + 6 * V 290 y))
    have e : a (30 + 6 * V 290 x) = a (30 + 6 * V 290 y) := e
    rw [e]
  · show 1 ≤ mMany a tx (a (30 + 6 * V 290 x))
    rw [← (hk x x0 x1).1]
    exact (mMany_9 hTx h34 (hk x x0 x1).2).1
