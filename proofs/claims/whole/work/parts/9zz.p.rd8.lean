/-! CLAUSES, read by the class -/
def CsI (T : Int → Int) (n : Int) (N : Nat) (cs : List Cls) (i : Nat) (f cl cd fr tw my : Int → Int) : Prop :=
  (f 2 = 0 ∧ f 3 = -1 ∧ f 8 = i ∧ i ≤ N ∧ f 7 = N + 1 ∧ f 11 = cs.length ∧ cs.length ≤ 24 ∧ f 13 = (codeL cs).length ∧ (codeL cs).length ≤ i) ∧
  (∀ (k : Nat) (c : Cls), cs[k]? = some c → cl (4 * k) = 16 + c.1 ∧ ∀ (j : Nat) (v : Int), c.2.1[j]? = some v → 4 ≤ c.1 → cl (4 * k + 1 + j) = v) ∧
  (∀ (k : Nat) (x : Int × Int), (codeL cs)[k]? = some x → cd k = encO x.1 x.2) ∧
  (∀ s, 0 ≤ s → s < 3 → (¬ told cs s ∧ fr s = -1) ∨ (∃ (k : Nat) (c : Cls), cs[k]? = some c ∧ c.1 = s ∧ (∀ (j : Nat) (d : Cls), j < k → cs[j]? = some d → d.1 ≠ s) ∧ fr s = (codeL (cs.take k)).length ∧ tw s = (codeL (cs.take k)).length + c.2.2.length)) ∧
  (∀ v, 0 ≤ v → v ≤ 19 → (¬ kTold cs v ∧ my v = 0) ∨ (∃ (k : Nat) (c : Cls) (b : Int), cs[k]? = some c ∧ c.1 = 3 ∧ c.2.1 = [v, b] ∧ (∀ (j : Nat) (d : Cls), j < k → cs[j]? = some d → ¬ (d.1 = 3 ∧ d.2.1[0]? = some v)) ∧ my v = b ∧ 1 ≤ b ∧ b ≤ 9)) ∧ ∀ c, c ∈ cs → okC c
theorem CsI_fr {T : Int → Int} {n : Int} {N : Nat} {cs : List Cls} {i : Nat} {f cl cd fr tw my : Int → Int} (h : CsI T n N cs i f cl cd fr tw my) {s : Int} (h0 : 0 ≤ s) (h1 : s < 3) : (-1 ≤ fr s ∧ fr s ≤ 300 ∨ True) ∧ (fr s = -1 ↔ ¬ told cs s) ∧ -1 ≤ fr s := by
  rcases h.2.2.2.1 s h0 h1 with ⟨a, b⟩ | ⟨k, c, a, b, _, d, _⟩
  · exact ⟨Or.inr trivial, ⟨fun _ => a, fun _ => b⟩, by omega⟩
  · refine ⟨Or.inr trivial, ⟨fun z => by omega, fun z => absurd ⟨c, List.mem_of_getElem? a, b⟩ z⟩, by omega⟩
theorem CsI_my {T : Int → Int} {n : Int} {N : Nat} {cs : List Cls} {i : Nat} {f cl cd fr tw my : Int → Int} (h : CsI T n N cs i f cl cd fr tw my) {v : Int} (h0 : 0 ≤ v) (h1 : v ≤ 19) : (0 ≤ my v ∧ my v ≤ 9) ∧ (my v ≠ 0 ↔ kTold cs v) := by
  rcases h.2.2.2.2.1 v h0 h1 with ⟨a, b⟩ | ⟨k, c, b, a, e, d, _, g⟩
  · exact ⟨by omega, ⟨fun z => absurd b z, fun z => absurd z a⟩⟩
  · exact ⟨by omega, ⟨fun _ => ⟨c, List.mem_of_getElem? a, e, by rw [d]; rfl⟩, fun _ => by omega⟩⟩
/-- behind a clause's body -/
def BdC (T : Int → Int) (n : Int) (N : Nat) (cs : List Cls) (s x : Int) (i1 : Nat) (f1 cl1 cd1 my1 fq clq cdq myq : Int → Int) : Prop := ∃ r q vs em, BodR T n cs s (pos T n i1) r q vs em ∧ (∀ k, k ≠ 2 → k ≠ 3 → k ≠ 8 → k ≠ 13 → fq k = f1 k) ∧ ((r = 0 ∧ fq 2 = 0 ∧ fq 3 = f1 3 ∧ ∃ j : Nat, i1 ≤ j ∧ j ≤ N ∧ fq 8 = j ∧ q = pos T n j ∧ i1 + em.length ≤ j ∧ fq 13 = f1 13 + em.length ∧ cdq = emC cd1 (f1 13) em) ∨ (r ≠ 0 ∧ fq 2 = r ∧ (0 ≤ r ∧ r < 10) ∧ fq 3 = tPl T n q ∧ (0 ≤ fq 8 ∧ fq 8 ≤ N) ∧ 0 ≤ fq 13 ∧ fq 13 ≤ 300)) ∧ (∀ k, k ≤ x ∨ x + 3 < k → clq k = cl1 k) ∧ (s ≠ 3 → myq = my1 ∧ (r = 0 → ∀ (j : Nat) (v : Int), vs[j]? = some v → clq (x + 1 + j) = v)) ∧ (s = 3 → ∃ a b, (r = 0 → vs = [a, b]) ∧ myq = ua my1 a b ∧ (0 ≤ a ∧ a ≤ 19) ∧ 1 ≤ b ∧ b ≤ 9)
section Bd
variable {T : Int → Int} {n s x : Int} {N i1 : Nat} {cs : List Cls} {f1 cl1 cd1 my1 fq clq cdq myq : Int → Int}
theorem BdC_cp {R : Rs → Prop} (hs : s ≠ 3) (hR : ∀ r q em, R (r, q, em) → BodR T n cs s (pos T n i1) r q [] em) (h : CP T n N i1 R f1 cd1 fq cdq) : BdC T n N cs s x i1 f1 cl1 cd1 my1 fq cl1 cdq my1 := by
  obtain ⟨g0, ⟨j, em, g1, g2, g3, g4, g5, g6, g7, g8, g9⟩ | ⟨q, g1, g2, g3, g4, g5, g6⟩⟩ := h
  · exact ⟨0, pos T n j, [], em, hR _ _ _ g1, g0, Or.inl ⟨rfl, g2, g3, j, by omega, g4, g5, rfl, g7, g8, g9⟩, fun _ _ => rfl, fun _ => ⟨rfl, fun _ k v hv => by simp at hv⟩, fun z => absurd z hs⟩
  · exact ⟨fq 2, q, [], [], hR _ _ _ g1, g0, Or.inr ⟨g2, rfl, g3, g4, g5, g6⟩, fun _ _ => rfl, fun _ => ⟨rfl, fun _ k v hv => by simp at hv⟩, fun z => absurd z hs⟩
theorem BdC_nu (hs : 3 ≤ s) (h13 : 0 ≤ f1 13 ∧ f1 13 ≤ 300) (h : NuC T n N i1 (kTold cs) s x f1 cl1 my1 fq clq myq) (h3 : f1 3 = -1) : BdC T n N cs s x i1 f1 cl1 cd1 my1 fq clq cd1 myq := by
  obtain ⟨R, vs, h1, h2, h4, h5, h6, h7⟩ := h
  have e13 := h4 13 (by decide) (by decide) (by decide)
  rcases h2 with ⟨a1, a1b, j, a2, a3, a4, a5⟩ | ⟨a1, a2, a3, a4, a5⟩
  · refine ⟨0, pos T n j, vs, [], Or.inr (Or.inr ⟨hs, by rw [a5] at h1; exact h1, rfl⟩), fun k k2 k3 k8 _ => h4 k k2 k3 k8, Or.inl ⟨rfl, a1, a1b.trans h3.symm, j, a2, a3, a4, rfl, by simpa using a2, by rw [e13]; simp, rfl⟩, h5, fun z => ⟨(h6 z).1, fun _ => (h6 z).2⟩, fun z => ?_⟩
    obtain ⟨a, b, q1, q2, q3⟩ := h7 z
    exact ⟨a, b, fun _ => q1, q2, q3⟩
  · obtain ⟨R1, R2, R3⟩ := R
    refine ⟨R1, R2, R3, [], Or.inr (Or.inr ⟨hs, h1, rfl⟩), fun k k2 k3 k8 _ => h4 k k2 k3 k8, Or.inr ⟨by rw [show R1 = fq 2 from a2.symm]; exact a1, a2, by rw [show R1 = fq 2 from a2.symm]; exact a5, a3, a4, by omega⟩, h5, fun z => ⟨(h6 z).1, fun y => absurd (a2.trans y) a1⟩, fun z => ?_⟩
    obtain ⟨a, b, q1, q2, q3⟩ := h7 z
    exact ⟨a, b, fun y => absurd (a2.trans y) a1, q2, q3⟩
end Bd
def ClC (T : Int → Int) (n : Int) (N : Nat) (cs : List Cls) (i : Nat) (f0 f cl cd fr tw my : Int → Int) : Prop := (f 1 = f0 1 ∧ f 7 = f0 7) ∧ ((∃ (j : Nat) (c : Cls), ClR T n cs (pos T n i) 0 (pos T n j) c ∧ i < j ∧ CsI T n N (cs ++ [c]) j f cl cd fr tw my) ∨ (∃ q c, ClR T n cs (pos T n i) (f 2) q c ∧ f 2 ≠ 0 ∧ (0 ≤ f 2 ∧ f 2 < 10) ∧ f 3 = tPl T n q ∧ 0 ≤ f 8 ∧ f 8 ≤ N))
theorem kTold_app {cs : List Cls} {c : Cls} {v : Int} : kTold (cs ++ [c]) v ↔ kTold cs v ∨ (c.1 = 3 ∧ c.2.1[0]? = some v) := by
  constructor
  · rintro ⟨d, hd, e⟩
    rcases List.mem_append.mp hd with z | z
    · exact Or.inl ⟨d, z, e⟩
    · simp at z
      rw [z] at e
      exact Or.inr e
  · rintro (⟨d, hd, e⟩ | e)
    · exact ⟨d, List.mem_append_left _ hd, e⟩
    · exact ⟨c, by simp, e⟩
theorem emC_lo : ∀ (c : List (Int × Int)) (cd : Int → Int) (z q : Int), q < z → emC cd z c q = cd q
  | [], _, _, _, _ => rfl
  | y :: c, cd, z, q, h => by
    simp only [emC]
    rw [emC_lo c _ _ _ (by omega), ua_ne (by omega)]
theorem emC_at : ∀ (c : List (Int × Int)) (cd : Int → Int) (z : Int) (k : Nat) (x : Int × Int), c[k]? = some x → emC cd z c (z + k) = encO x.1 x.2
  | [], _, _, _, _, h => by simp at h
  | y :: c, cd, z, 0, x, h => by
    simp at h
    subst h
    simp only [emC]
    rw [emC_lo c _ _ _ (by omega), show z + ((0 : Nat) : Int) = z by omega, ua_same]
  | y :: c, cd, z, k + 1, x, h => by
    simp only [List.getElem?_cons_succ] at h
    have := emC_at c (ua cd z (encO y.1 y.2)) (z + 1) k x h
    rw [show z + 1 + (k : Int) = z + ((k + 1 : Nat) : Int) by omega] at this
    simp only [emC]
    exact this
theorem okN_len : ∀ (L : List (Int × Int × Int)) (vs : List Int), okN L vs → vs.length ≤ (L.filter (fun x => decide (x.1 ≠ 0))).length
  | [], vs, h => by
    have h : vs = [] := h
    rw [h]; simp
  | x :: L, vs, h => by
    simp only [okN] at h
    by_cases c : x.1 = 0
    · rw [if_pos c] at h
      rw [List.filter_cons_of_neg (by simp [c])]
      exact okN_len L vs h
    · rw [if_neg c] at h
      obtain ⟨v, vs', e, _, h2⟩ := h
      rw [List.filter_cons_of_pos (by simp [c]), e]
      have := okN_len L vs' h2
      simp only [List.length_cons]
      omega
theorem okC_len {c : Cls} (h : okC c) : c.2.1.length ≤ 3 := by
  by_cases z : c.1 < 3
  · rw [(h.2.1 z).1]; simp
  · exact Nat.le_trans (okN_len _ _ (h.2.2 (by omega)).2) (itm_len _)
/-- a clause is whole, or has a FAULT -/
theorem ClC_end {T : Int → Int} (hT : ∀ k, 0 ≤ T k ∧ T k < 256) {n s g : Int} {N i : Nat} {cs : List Cls} {f0 cl0 cd0 fr0 tw0 my0 f1 fq clq cdq myq frn twn sr : Int → Int} (hN : N ≤ 300) (hp : pos T n i ≤ n) (I : CsI T n N cs i f0 cl0 cd0 fr0 tw0 my0) (hs : s = tSr T n (pos T n i)) (h0 : 0 ≤ s) (hnt : ¬ (s < 3 ∧ told cs s)) (hl : cs.length ≠ 24) (hiN : i < N) (hf1 : (∀ k, k ≠ 8 → k ≠ 9 → f1 k = f0 k)) (hB : BdC T n N cs s (4 * cs.length) (i + 1) f1 (ua cl0 (4 * cs.length) (16 + s)) cd0 my0 fq clq cdq myq)
    (hfr : (s < 3 → frn = ua fr0 s (f0 13) ∧ twn = ua tw0 s (fq 13)) ∧ (3 ≤ s → frn = fr0 ∧ twn = tw0)) (hsr : ∀ k : Nat, k ≤ N → sr k = tPl T n (pos T n k)) (hg : ∀ j : Nat, j ≤ N → fq 8 = j → (g = 1 ∧ tTok T n (pos T n j) = 59 ∧ j < N) ∨ (g = 0 ∧ tTok T n (pos T n j) ≠ 59)) : ClC T n N cs i f0 (takF (ua fq 11 (fq 11 + 1)) sr g 1) clq cdq frn twn myq := by
  obtain ⟨r, q, vs, em, b1, b2, b3, b4, b5, b6⟩ := hB
  have sr8 := tSr_r T n (pos T n i)
  obtain ⟨⟨c2, c3, c8, ciN, c7, c11, c24, c13, cle⟩, I2, I3, I4, I5, I6⟩ := id I
  have e1 : fq 1 = f0 1 := (b2 1 (by decide) (by decide) (by decide) (by decide)).trans (hf1 1 (by decide) (by decide))
  have e7 : fq 7 = f0 7 := (b2 7 (by decide) (by decide) (by decide) (by decide)).trans (hf1 7 (by decide) (by decide))
  have e11 : fq 11 = f0 11 := (b2 11 (by decide) (by decide) (by decide) (by decide)).trans (hf1 11 (by decide) (by decide))
  have e13 : f1 13 = f0 13 := hf1 13 (by decide) (by decide)
  have e3 : f1 3 = f0 3 := hf1 3 (by decide) (by decide)
  have cl4 : ∀ f' q' c, (∃ f1' q1 vs em, BodR T n cs (tSr T n (pos T n i)) (tNx T n (pos T n i)) f1' q1 vs em ∧ ((f1' ≠ 0 ∧ f' = f1' ∧ q' = q1) ∨ (f1' = 0 ∧ tTok T n q1 ≠ 59 ∧ f' = 1 ∧ q' = q1) ∨ (f1' = 0 ∧ tTok T n q1 = 59 ∧ f' = 0 ∧ q' = tNx T n q1 ∧ c = (tSr T n (pos T n i), vs, em)))) → ClR T n cs (pos T n i) f' q' c := fun f' q' c h => Or.inr (Or.inr (Or.inr ⟨⟨by omega, by rw [← hs]; exact hnt, hl⟩, h⟩))
  have b1' : BodR T n cs (tSr T n (pos T n i)) (tNx T n (pos T n i)) r q vs em := by rw [← hs]; exact b1
  have tk1 : takF (ua fq 11 (fq 11 + 1)) sr g 1 1 = f0 1 := by rw [takF_k (by decide), ua_ne (by decide)]; exact e1
  have tk7 : takF (ua fq 11 (fq 11 + 1)) sr g 1 7 = f0 7 := by rw [takF_k (by decide), ua_ne (by decide)]; exact e7
  refine ⟨⟨tk1, tk7⟩, ?_⟩
  rcases b3 with ⟨r0, a2, a3, j, a4, a5, a6, a7, a8, a9, a10⟩ | ⟨r0, a2, a3, a4, a5, a6⟩
  · subst r0
    have u2 : ua fq 11 (fq 11 + 1) 2 = 0 := by rw [ua_ne (by decide)]; exact a2
    rcases hg j a5 a6 with ⟨g1, g2, g3⟩ | ⟨g1, g2⟩
    · have ok := BodR_ok hT (s := s) (by omega) (tok_r hT hp).2.2.2.1 b1
      have hcl : codeL (cs ++ [(s, vs, em)]) = codeL cs ++ em := by rw [codeL_app]; simp [codeL]
      rw [g1, takF_1 u2 (by rw [ua_ne (by decide), ua_ne (by decide)]; omega)]
      refine Or.inl ⟨j + 1, (s, vs, em), ?_, by omega, ⟨?_, ?_, ?_, ?_, ?_, ?_, ?_, ?_, ?_⟩, fun k c hc => ?_, fun k x hx => ?_, fun s' s0 s1 => ?_, fun v v0 v1 => ?_, fun c hc => ?_⟩
      · exact cl4 _ _ _ ⟨0, q, vs, em, b1', Or.inr (Or.inr ⟨rfl, by rw [a7]; exact g2, rfl, by rw [a7]; rfl, by rw [hs]⟩)⟩
      · rw [ua_ne (by decide), ua_ne (by decide)]; exact a2
      · rw [ua_ne (by decide), ua_ne (by decide), a3, e3]; exact c3
      · rw [ua_same, ua_ne (by decide), a6]; omega
      · omega
      · rw [ua_ne (by decide), ua_ne (by decide), e7]; exact c7
      · rw [ua_ne (by decide), ua_same, e11, c11, List.length_append]; simp
      · rw [List.length_append]; simp; omega
      · rw [ua_ne (by decide), ua_ne (by decide), a9, e13, c13, hcl, List.length_append]; omega
      · rw [hcl, List.length_append]; omega
      · by_cases hk : k < cs.length
        · rw [List.getElem?_append_left hk] at hc
          have w := I2 k c hc
          have lo : ∀ q, q < 4 * (cs.length : Int) → clq q = cl0 q := fun q hq => by rw [b4 q (by omega), ua_ne (by omega)]
          have hok := I6 c (List.mem_of_getElem? hc)
          refine ⟨by rw [lo _ (by omega)]; exact w.1, fun j' v hj h4 => ?_⟩
          have hl3 : c.2.1.length ≤ 3 := okC_len hok
          have hj' := (List.getElem?_eq_some_iff.mp hj).1
          rw [lo _ (by omega)]
          exact w.2 j' v hj h4
        · have hk' := (List.getElem?_eq_some_iff.mp hc).1
          rw [List.length_append] at hk'
          simp only [List.length_cons, List.length_nil] at hk'
          have ek : k = cs.length := by omega
          subst ek
          rw [List.getElem?_append_right (by omega)] at hc
          simp at hc
          subst hc
          refine ⟨by rw [b4 _ (by omega), ua_same], fun j' v hj h4 => ?_⟩
          have h4 : 4 ≤ s := h4
          exact (b5 (by omega)).2 rfl j' v hj
      · rw [hcl] at hx
        rw [a10, e13, c13]
        by_cases hi : k < (codeL cs).length
        · rw [List.getElem?_append_left hi] at hx
          rw [emC_lo _ _ _ _ (by omega)]
          exact I3 k x hx
        · rw [List.getElem?_append_right (by omega)] at hx
          have := emC_at em cd0 ((codeL cs).length) (k - (codeL cs).length) x hx
          rw [show ((codeL cs).length : Int) + ((k - (codeL cs).length : Nat) : Int) = k by omega] at this
          exact this
      · by_cases e : s' = s
        · subst e
          obtain ⟨z1, z2⟩ := hfr.1 s1
          have hno : ¬ told cs s' := fun z => hnt ⟨s1, z⟩
          refine Or.inr ⟨cs.length, (s', vs, em), by rw [List.getElem?_append_right (by omega)]; simp, rfl, fun j' d hj hd => ?_, ?_, ?_⟩
          · rw [List.getElem?_append_left hj] at hd
            exact fun z => hno ⟨d, List.mem_of_getElem? hd, z⟩
          · rw [z1, ua_same, c13, List.take_append_of_le_length (by omega), List.take_of_length_le (by omega)]
          · rw [z2, ua_same, a9, e13, c13, List.take_append_of_le_length (by omega), List.take_of_length_le (by omega)]
        · have ef : frn s' = fr0 s' ∧ twn s' = tw0 s' := by
            by_cases c : s < 3
            · obtain ⟨z1, z2⟩ := hfr.1 c
              rw [z1, z2, ua_ne e, ua_ne e]
              exact ⟨rfl, rfl⟩
            · obtain ⟨z1, z2⟩ := hfr.2 (by omega)
              rw [z1, z2]
              exact ⟨rfl, rfl⟩
          rw [ef.1, ef.2]
          rcases I4 s' s0 s1 with ⟨z1, z2⟩ | ⟨k, c, z1, z2, z3, z4, z5⟩
          · exact Or.inl ⟨fun z => by rcases told_app.mp z with y | y; exact z1 y; exact e y.symm, z2⟩
          · have hk := (List.getElem?_eq_some_iff.mp z1).1
            refine Or.inr ⟨k, c, by rw [List.getElem?_append_left hk]; exact z1, z2, fun j' d hj hd => ?_, by rw [List.take_append_of_le_length (by omega)]; exact z4, by rw [List.take_append_of_le_length (by omega)]; exact z5⟩
            rw [List.getElem?_append_left (by omega)] at hd
            exact z3 j' d hj hd
      · by_cases e3' : s = 3
        · obtain ⟨a, b, q1, q2, q3, q4⟩ := b6 e3'
          have q1 := q1 rfl
          have hk := (ClR_ok hT hp (cl4 0 _ (tSr T n (pos T n i), vs, em) ⟨0, q, vs, em, b1', Or.inr (Or.inr ⟨rfl, by rw [a7]; exact g2, rfl, rfl, rfl⟩)⟩)).2.2.2.2.1 a (by show tSr T n (pos T n i) = 3; omega) (by show vs[0]? = some a; rw [q1]; rfl)
          by_cases ev : v = a
          · subst ev
            refine Or.inr ⟨cs.length, (s, vs, em), b, by rw [List.getElem?_append_right (by omega)]; simp, e3', q1, fun j' d hj hd => ?_, by rw [q2, ua_same], q4⟩
            rw [List.getElem?_append_left hj] at hd
            exact fun z => hk ⟨d, List.mem_of_getElem? hd, z.1, z.2⟩
          · rw [q2, ua_ne ev]
            rcases I5 v v0 v1 with ⟨z1, z2⟩ | ⟨k, c, b', z1, z2, z3, z4, z5⟩
            · refine Or.inl ⟨fun z => ?_, z2⟩
              rcases kTold_app.mp z with y | y
              · exact z1 y
              · have y2 : vs[0]? = some v := y.2
                rw [q1] at y2
                simp at y2
                exact ev y2.symm
            · have hk' := (List.getElem?_eq_some_iff.mp z1).1
              refine Or.inr ⟨k, c, b', by rw [List.getElem?_append_left hk']; exact z1, z2, z3, fun j' d hj hd => ?_, z5⟩
              rw [List.getElem?_append_left (by omega)] at hd
              exact z4 j' d hj hd
        · rw [(b5 e3').1]
          rcases I5 v v0 v1 with ⟨z1, z2⟩ | ⟨k, c, b', z1, z2, z3, z4, z5⟩
          · refine Or.inl ⟨fun z => ?_, z2⟩
            rcases kTold_app.mp z with y | y
            · exact z1 y
            · exact e3' y.1
          · have hk' := (List.getElem?_eq_some_iff.mp z1).1
            refine Or.inr ⟨k, c, b', by rw [List.getElem?_append_left hk']; exact z1, z2, z3, fun j' d hj hd => ?_, z5⟩
            rw [List.getElem?_append_left (by omega)] at hd
            exact z4 j' d hj hd
      · rcases List.mem_append.mp hc with z | z
        · exact I6 c z
        · simp at z
          rw [z]
          exact ok
    · rw [g1, takF_0 u2]
      refine Or.inr ⟨pos T n j, (0, [], []), ?_, ?_, ?_, ?_, ?_⟩
      · rw [ua_ne (by decide), ua_same]
        exact cl4 _ _ _ ⟨0, q, vs, em, b1', Or.inr (Or.inl ⟨rfl, by rw [a7]; exact g2, rfl, a7.symm⟩)⟩
      · rw [ua_ne (by decide), ua_same]; omega
      · rw [ua_ne (by decide), ua_same]; omega
      · rw [ua_same, ua_ne (by decide), a6]; exact hsr j a5
      · rw [ua_ne (by decide), ua_ne (by decide), ua_ne (by decide)]; omega
  · have u2 : ua fq 11 (fq 11 + 1) 2 ≠ 0 := by rw [ua_ne (by decide)]; omega
    rw [takF_f u2]
    refine Or.inr ⟨q, (0, [], []), ?_, u2, ?_, ?_, ?_⟩
    · rw [ua_ne (by decide), a2]
      exact cl4 _ _ _ ⟨r, q, vs, em, b1', Or.inl ⟨r0, rfl, rfl⟩⟩
    · rw [ua_ne (by decide), a2]; exact a3
    · rw [ua_ne (by decide)]; exact a4
    · rw [ua_ne (by decide)]; exact a5
