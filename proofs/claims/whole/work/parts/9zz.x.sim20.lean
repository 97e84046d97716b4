/-! a TEXT of the class and the reference's -/
theorem wfL_dOK3 {op ag : Int → Int} {u N T : Int} : ∀ (c : List (Int × Int)) (i n t : Int), (∀ (k : Nat) (x : Int × Int), c[k]? = some x → op (i + k) = x.1 ∧ (x.1 ≤ 1 → ag (i + k) = x.2)) → n + c.length ≤ 330 → t + c.length ≤ 330 → wfL u c n t N T → dOK2 op ag N T c.length i n t
  | [], i, n, t, _, _, _, h => h
  | x :: c, i, n, t, hc, hn, ht, h => by
    have h0 := hc 0 x (by simp)
    rw [show i + ((0 : Nat) : Int) = i by omega] at h0
    simp only [List.length_cons] at hn ht ⊢
    have ih := fun n' t' a b => wfL_dOK3 (op := op) (ag := ag) (u := u) (N := N) (T := T) c (i + 1) n' t' (fun k y hy => by have := hc (k + 1) y (by simpa using hy); rw [show i + ((k + 1 : Nat) : Int) = i + 1 + k by omega] at this; exact this) a b
    simp only [dOK2]
    rw [h0.1]
    rcases h with h | h | h | h | h | h | h
    · rw [h0.2 (by omega)]
      exact Or.inl ⟨h.1, h.2.1.1, h.2.1.2, by omega, ih _ _ (by omega) (by omega) h.2.2⟩
    · rw [h0.2 (by omega)]
      exact Or.inr (Or.inl ⟨h.1, h.2.1.1, h.2.1.2.1, by omega, ih _ _ (by omega) (by omega) h.2.2⟩)
    · exact Or.inr (Or.inr (Or.inl ⟨h.1, h.2.1, ih _ _ (by omega) (by omega) h.2.2⟩))
    · exact Or.inr (Or.inr (Or.inr (Or.inl ⟨h.1.1, h.1.2, h.2.1, ih _ _ (by omega) (by omega) h.2.2⟩)))
    · exact Or.inr (Or.inr (Or.inr (Or.inr (Or.inl ⟨h.1.1, h.1.2, h.2.1, by omega, ih _ _ (by omega) (by omega) h.2.2⟩))))
    · exact Or.inr (Or.inr (Or.inr (Or.inr (Or.inr (Or.inl ⟨h.1, h.2.1.1, h.2.1.2, ih _ _ (by omega) (by omega) h.2.2⟩)))))
    · exact Or.inr (Or.inr (Or.inr (Or.inr (Or.inr (Or.inr ⟨h.1, h.2.1.1, h.2.1.2, ih _ _ (by omega) (by omega) h.2.2⟩)))))
theorem codeL_at {cs : List Cls} {k : Nat} {c : Cls} (h : cs[k]? = some c) : codeL cs = codeL (cs.take k) ++ (c.2.2 ++ codeL (cs.drop (k + 1))) := by
  have hk := (List.getElem?_eq_some_iff.mp h).1
  have e : cs = cs.take k ++ (c :: cs.drop (k + 1)) := by
    have z := List.drop_eq_getElem_cons hk
    rw [(List.getElem?_eq_some_iff.mp h).2] at z
    rw [← z, List.take_append_drop]
  have e2 : codeL cs = codeL (cs.take k ++ (c :: cs.drop (k + 1))) := congrArg codeL e
  rw [e2, codeL_app]
  rfl
theorem codeL_get {cs : List Cls} {k i : Nat} {c : Cls} {x : Int × Int} (h : cs[k]? = some c) (hx : c.2.2[i]? = some x) : (codeL cs)[(codeL (cs.take k)).length + i]? = some x := by
  have hi := (List.getElem?_eq_some_iff.mp hx).1
  rw [codeL_at h, List.getElem?_append_right (by omega), show (codeL (cs.take k)).length + i - (codeL (cs.take k)).length = i by omega, List.getElem?_append_left hi]
  exact hx
theorem codeL_le {cs : List Cls} {k : Nat} {c : Cls} (h : cs[k]? = some c) : (codeL (cs.take k)).length + c.2.2.length ≤ (codeL cs).length := by
  have e := congrArg List.length (codeL_at h)
  rw [List.length_append, List.length_append] at e
  omega
theorem okC_code {c : Cls} (h : okC c) : ∀ x, x ∈ c.2.2 → okX c.1 x := fun x hx => by
  by_cases z : c.1 < 3
  · exact wfL_x (h.2.1 z).2 x hx
  · rw [(h.2.2 (by omega)).1] at hx
    simp at hx
theorem codeL_ok : ∀ {cs : List Cls}, (∀ c, c ∈ cs → okC c) → ∀ x, x ∈ codeL cs → ∃ u, okX u x
  | [], _, x, hx => by simp [codeL] at hx
  | c :: cs, h, x, hx => by
    simp only [codeL] at hx
    rcases List.mem_append.mp hx with z | z
    · exact ⟨_, okC_code (h c (by simp)) x z⟩
    · exact codeL_ok (fun d hd => h d (by simp [hd])) x z
theorem okN_leq : ∀ (L : List (Int × Int × Int)) (vs : List Int), okN L vs → vs.length = (L.filter (fun x => decide (x.1 ≠ 0))).length
  | [], vs, h => by
    have h : vs = [] := h
    rw [h]; rfl
  | x :: L, vs, h => by
    simp only [okN] at h
    by_cases c : x.1 = 0
    · rw [if_pos c] at h
      rw [List.filter_cons_of_neg (by simp [c])]
      exact okN_leq L vs h
    · rw [if_neg c] at h
      obtain ⟨v, vs', e, _, h2⟩ := h
      rw [List.filter_cons_of_pos (by simp [c]), e]
      have := okN_leq L vs' h2
      simp only [List.length_cons]
      omega
theorem okC_num {c : Cls} (h : okC c) : (4 ≤ c.1 → 1 ≤ c.2.1.length) ∧ (4 ≤ c.1 → c.1 ≤ 6 → 2 ≤ c.2.1.length) ∧ (c.1 = 4 → c.2.1.length = 3) := by
  have key : ∀ s : Int, c.1 = s → 3 ≤ s → c.2.1.length = ((itm s).filter (fun x => decide (x.1 ≠ 0))).length := fun s e hs => by
    have z := (h.2.2 (by omega)).2
    rw [e] at z
    exact okN_leq _ _ z
  have r := h.1
  refine ⟨fun z => ?_, fun z z2 => ?_, fun z => ?_⟩
  · rcases (show c.1 = 4 ∨ c.1 = 5 ∨ c.1 = 6 ∨ c.1 = 7 ∨ c.1 = 8 by omega) with e | e | e | e | e <;> rw [key _ e (by decide)] <;> decide
  · rcases (show c.1 = 4 ∨ c.1 = 5 ∨ c.1 = 6 by omega) with e | e | e <;> rw [key _ e (by decide)] <;> decide
  · rw [key _ z (by decide)]; decide
theorem TxV_of {V : Va} {id : Nat} {tx : Int → Int} {T : Int} {cs : List Cls} (hM : MTx tx (700 * T) cs) (hD : TxD cs (V (id + 1)) (V (id + 2)) (V (id + 3)) (V (id + 4)) (V (id + 5))) (h1 : V id 1 = cs.length) (hb : ∀ k, InR (V (id + 1) k)) : TxV V id (4 * cs.length) (codeL cs).length tx T := by
  obtain ⟨d1, d2, d3, d4, d5, d6, d7⟩ := hD
  have e0 : tx (700 * T) = cs.length := hM.1
  have cl : ∀ k : Int, 0 ≤ k → k < tx (700 * T) → ∃ c, cs[k.toNat]? = some c ∧ okC c ∧ tx (700 * T + 1 + 4 * k) = c.1 := fun k k0 k1 => by
    have hk : k.toNat < cs.length := by omega
    refine ⟨cs[k.toNat], by simp [hk], d5 _ (List.getElem_mem hk), ?_⟩
    have z := (hM.2.1 k.toNat _ (show cs[k.toNat]? = some cs[k.toNat] by simp [hk])).2.1
    rw [show ((k.toNat : Nat) : Int) = k by omega] at z
    exact z
  refine ⟨⟨by rw [h1, e0], by omega, by omega, by omega⟩, fun k k0 k1 => ?_, fun i i0 i1 => ?_, fun s s0 s1 => ?_, fun v v0 v1 => ?_, hb⟩
  · obtain ⟨c, hc, ok, ec⟩ := cl k k0 k1
    have w := d1 k.toNat c hc
    have m := hM.2.1 k.toNat c hc
    rw [show ((k.toNat : Nat) : Int) = k by omega] at w m
    have nm := okC_num ok
    have eqj : ∀ j : Nat, j < c.2.1.length → 4 ≤ c.1 → V (id + 1) (4 * k + 1 + j) = tx (700 * T + 1 + 4 * k + 1 + j) := fun j hj h4 => by
      have z := w.2 j c.2.1[j] (by simp [hj]) h4
      have y := m.2.2.2 j c.2.1[j] (by simp [hj])
      rw [z, y]
    refine ⟨⟨by rw [w.1, ec], by rw [ec]; exact ok.1.1, by rw [ec]; exact ok.1.2⟩, fun h4 => ⟨?_, fun h6 => ?_, fun h4' => ?_⟩⟩
    · have z := eqj 0 (by have := nm.1 (by omega); omega) (by omega)
      rw [show 4 * k + 1 + ((0 : Nat) : Int) = 4 * k + 1 by omega, show 700 * T + 1 + 4 * k + 1 + ((0 : Nat) : Int) = 700 * T + 1 + 4 * k + 1 by omega] at z
      exact z
    · have z := eqj 1 (by have := nm.2.1 (by omega) (by omega); omega) (by omega)
      rw [show 4 * k + 1 + ((1 : Nat) : Int) = 4 * k + 2 by omega, show 700 * T + 1 + 4 * k + 1 + ((1 : Nat) : Int) = 700 * T + 1 + 4 * k + 2 by omega] at z
      exact z
    · have z := eqj 2 (by have := nm.2.2 (by omega); omega) (by omega)
      rw [show 4 * k + 1 + ((2 : Nat) : Int) = 4 * k + 3 by omega, show 700 * T + 1 + 4 * k + 1 + ((2 : Nat) : Int) = 700 * T + 1 + 4 * k + 3 by omega] at z
      exact z
  · have hi : i.toNat < (codeL cs).length := by omega
    have hx : (codeL cs)[i.toNat]? = some (codeL cs)[i.toNat] := by simp [hi]
    have z := d2 i.toNat _ hx
    have y := hM.2.2 i.toNat _ hx
    rw [show ((i.toNat : Nat) : Int) = i by omega] at z y
    obtain ⟨u, hu⟩ := codeL_ok d5 _ (List.getElem_mem hi)
    simp only [tOp, tArg]
    rw [z, y.1, y.2, enc_bc hu]
  · have hno : ¬ told cs s → ∀ j : Int, 0 ≤ j → j < tx (700 * T) → (decide (tx (700 * T + 1 + 4 * j) = s)) = false := fun hn j j0 j1 => by
      obtain ⟨c, hc, ok, ec⟩ := cl j j0 j1
      exact decide_eq_false (fun z => hn ⟨c, List.mem_of_getElem? hc, by omega⟩)
    rcases d3 s s0 (by omega) with ⟨n1, n2⟩ | ⟨k, c, n1, n2, n3, n4, n5⟩
    · have ef : fSort tx T s = -1 := findT_no (hno n1)
      exact ⟨fun _ => n2, fun z => by omega⟩
    · have hk := (List.getElem?_eq_some_iff.mp n1).1
      have mk := hM.2.1 k c n1
      have ef : fSort tx T s = k := findT_at (by omega) (by omega) (decide_eq_true (by rw [mk.2.1]; exact n2)) (fun j j0 j1 => by
        obtain ⟨d, hd, ok, ec⟩ := cl j j0 (by omega)
        exact decide_eq_false (fun z => n3 j.toNat d (by omega) hd (by omega)))
      have ok := d5 c (List.mem_of_getElem? n1)
      have m3 := mk.2.2.1 (by omega)
      have le := codeL_le n1
      have hop : ∀ (i : Nat) (x : Int × Int), c.2.2[i]? = some x → tOp tx T ((codeL (cs.take k)).length + i) = x.1 ∧ (x.1 ≤ 1 → tArg tx T ((codeL (cs.take k)).length + i) = x.2) := fun i x hx => by
        have y := hM.2.2 _ _ (codeL_get n1 hx)
        have okx := okC_code ok x (List.mem_of_getElem? hx)
        have r1 := okx.1
        simp only [tOp, tArg]
        rw [show ((codeL (cs.take k)).length : Int) + (i : Int) = (((codeL (cs.take k)).length + i : Nat) : Int) by omega, y.1, y.2]
        refine ⟨bc_in (by omega), fun z => ?_⟩
        have r2 := okx.2.1 z
        exact bc_in (by omega)
      refine ⟨fun z => by omega, fun _ => ⟨by rw [n4, ef, m3.1], by rw [n5, ef, m3.2], ?_⟩⟩
      simp only [cRange]
      rw [ef, m3.1, m3.2]
      refine ⟨by omega, by omega, by omega, ?_, fun hs i i0 i1 ho => ?_⟩
      · rw [show (((codeL (cs.take k)).length : Int) + (c.2.2.length : Int) - ((codeL (cs.take k)).length : Int)).toNat = c.2.2.length by omega]
        have wf := (ok.2.1 (by omega)).2
        rw [n2] at wf
        exact wfL_dOK3 c.2.2 _ 0 0 hop (by omega) (by omega) wf
      · have hi : (i - (codeL (cs.take k)).length).toNat < c.2.2.length := by omega
        have hx : c.2.2[(i - (codeL (cs.take k)).length).toNat]? = some c.2.2[(i - (codeL (cs.take k)).length).toNat] := by simp [hi]
        have y := hop _ _ hx
        rw [show ((codeL (cs.take k)).length : Int) + (((i - (codeL (cs.take k)).length).toNat : Nat) : Int) = i by omega] at y
        have okx := okC_code ok _ (List.mem_of_getElem? hx)
        rw [n2] at okx
        rw [y.2 (by omega)]
        exact okx.2.2 (by omega) hs
  · have hno : ¬ kTold cs v → ∀ j : Int, 0 ≤ j → j < tx (700 * T) → (decide (tx (700 * T + 1 + 4 * j) = 3 ∧ tx (700 * T + 1 + 4 * j + 1) = v)) = false := fun hn j j0 j1 => by
      obtain ⟨c, hc, ok, ec⟩ := cl j j0 j1
      refine decide_eq_false (fun z => hn ⟨c, List.mem_of_getElem? hc, by omega, ?_⟩)
      obtain ⟨a, b, e3, _⟩ := okN_3 (by have := (ok.2.2 (by omega)).2; rw [show c.1 = 3 by omega] at this; exact this)
      have m := (hM.2.1 j.toNat c hc).2.2.2 0 a (by rw [e3]; rfl)
      rw [show ((j.toNat : Nat) : Int) = j by omega, show 700 * T + 1 + 4 * j + 1 + ((0 : Nat) : Int) = 700 * T + 1 + 4 * j + 1 by omega, z.2] at m
      rw [e3, m]
      rfl
    rcases d4 v v0 v1 with ⟨n1, n2⟩ | ⟨k, c, b, n1, n2, n3, n4, n5, n6⟩
    · have ef : fKind tx T v = -1 := findT_no (hno n1)
      exact ⟨fun _ => n2, fun z => by omega⟩
    · have hk := (List.getElem?_eq_some_iff.mp n1).1
      have mk := hM.2.1 k c n1
      have m0 := mk.2.2.2 0 v (by rw [n3]; rfl)
      have m1 := mk.2.2.2 1 b (by rw [n3]; rfl)
      rw [show 700 * T + 1 + 4 * (k : Int) + 1 + ((0 : Nat) : Int) = 700 * T + 1 + 4 * k + 1 by omega] at m0
      rw [show 700 * T + 1 + 4 * (k : Int) + 1 + ((1 : Nat) : Int) = 700 * T + 1 + 4 * k + 2 by omega] at m1
      have ef : fKind tx T v = k := findT_at (by omega) (by omega) (decide_eq_true ⟨by rw [mk.2.1]; exact n2, m0⟩) (fun j j0 j1 => by
        obtain ⟨d, hd, ok, ec⟩ := cl j j0 (by omega)
        refine decide_eq_false (fun z => n4 j.toNat d (by omega) hd ⟨by omega, ?_⟩)
        obtain ⟨a, b', e3, _⟩ := okN_3 (by have := (ok.2.2 (by omega)).2; rw [show d.1 = 3 by omega] at this; exact this)
        have m := (hM.2.1 j.toNat d hd).2.2.2 0 a (by rw [e3]; rfl)
        rw [show ((j.toNat : Nat) : Int) = j by omega, show 700 * T + 1 + 4 * j + 1 + ((0 : Nat) : Int) = 700 * T + 1 + 4 * j + 1 by omega, z.2] at m
        rw [e3, m]
        rfl)
      exact ⟨fun z => by omega, fun _ => ⟨by rw [n5, ef, m1], by omega, by omega⟩⟩
/-- the reference's own needs of a TEXT -/
theorem TW_of {tx : Int → Int} {T : Int} {cs : List Cls} (hM : MTx tx (700 * T) cs) (h5 : ∀ c, c ∈ cs → okC c) (h6 : cs.length ≤ 24) (h7 : (codeL cs).length ≤ 300) : TW tx T := by
  have e0 : tx (700 * T) = cs.length := hM.1
  refine ⟨by omega, by omega, fun k k0 k1 => ?_⟩
  have hk : k.toNat < cs.length := by omega
  have n1 : cs[k.toNat]? = some cs[k.toNat] := by simp [hk]
  have mk := hM.2.1 k.toNat _ n1
  have ok := h5 _ (List.getElem_mem hk)
  have le := codeL_le n1
  rw [show ((k.toNat : Nat) : Int) = k by omega] at mk
  refine ⟨by rw [mk.2.1]; exact ok.1.1, fun h2 => ?_⟩
  rw [mk.2.1] at h2
  have m3 := mk.2.2.1 (by omega)
  have hop : ∀ (i : Nat) (x : Int × Int), cs[k.toNat].2.2[i]? = some x → tOp tx T ((codeL (cs.take k.toNat)).length + i) = x.1 ∧ (x.1 ≤ 1 → tArg tx T ((codeL (cs.take k.toNat)).length + i) = x.2) := fun i x hx => by
    have y := hM.2.2 _ _ (codeL_get n1 hx)
    have okx := okC_code ok x (List.mem_of_getElem? hx)
    have r1 := okx.1
    simp only [tOp, tArg]
    rw [show ((codeL (cs.take k.toNat)).length : Int) + (i : Int) = (((codeL (cs.take k.toNat)).length + i : Nat) : Int) by omega, y.1, y.2]
    refine ⟨bc_in (by omega), fun z => ?_⟩
    have r2 := okx.2.1 z
    exact bc_in (by omega)
  simp only [okCl]
  rw [m3.1, m3.2, mk.2.1]
  refine ⟨by omega, by omega, by omega, ?_⟩
  rw [show (((codeL (cs.take k.toNat)).length : Int) + (cs[k.toNat].2.2.length : Int) - ((codeL (cs.take k.toNat)).length : Int)).toNat = cs[k.toNat].2.2.length by omega]
  exact dOK2_1 _ _ _ _ (wfL_dOK3 _ _ 0 0 hop (by omega) (by omega) (ok.2.1 (by omega)).2)
