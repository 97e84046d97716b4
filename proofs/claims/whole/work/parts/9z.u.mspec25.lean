/-! the code of a reading is well formed -/
def wfL (u : Int) : List (Int × Int) → Int → Int → Int → Int → Prop
  | [], n, t, N, T => n = N ∧ t = T
  | x :: c, n, t, N, T => (x.1 = 0 ∧ (0 ≤ x.2 ∧ x.2 ≤ 9999) ∧ wfL u c (n + 1) t N T) ∨ (x.1 = 1 ∧ (0 ≤ x.2 ∧ x.2 ≤ 7 ∧ (u ≠ 2 → x.2 ≤ 4)) ∧ wfL u c (n + 1) t N T) ∨ (x.1 = 2 ∧ 1 ≤ n ∧ wfL u c n t N T) ∨ ((3 ≤ x.1 ∧ x.1 ≤ 6) ∧ 2 ≤ n ∧ wfL u c (n - 1) t N T) ∨ ((10 ≤ x.1 ∧ x.1 ≤ 15) ∧ n = 2 ∧ wfL u c 0 (t + 1) N T) ∨ (x.1 = 20 ∧ (1 ≤ t ∧ n = 0) ∧ wfL u c n t N T) ∨ ((x.1 = 21 ∨ x.1 = 22) ∧ (2 ≤ t ∧ n = 0) ∧ wfL u c n (t - 1) N T)
theorem wfL_app {u : Int} : ∀ {c d : List (Int × Int)} {n t n1 t1 N T : Int}, wfL u c n t n1 t1 → wfL u d n1 t1 N T → wfL u (c ++ d) n t N T
  | [], d, n, t, n1, t1, N, T, h, g => by
    obtain ⟨e1, e2⟩ := h
    rw [e1, e2]
    exact g
  | x :: c, d, n, t, n1, t1, N, T, h, g => by
    simp only [List.cons_append]
    rcases h with h | h | h | h | h | h | h
    · exact Or.inl ⟨h.1, h.2.1, wfL_app h.2.2 g⟩
    · exact Or.inr (Or.inl ⟨h.1, h.2.1, wfL_app h.2.2 g⟩)
    · exact Or.inr (Or.inr (Or.inl ⟨h.1, h.2.1, wfL_app h.2.2 g⟩))
    · exact Or.inr (Or.inr (Or.inr (Or.inl ⟨h.1, h.2.1, wfL_app h.2.2 g⟩)))
    · exact Or.inr (Or.inr (Or.inr (Or.inr (Or.inl ⟨h.1, h.2.1, wfL_app h.2.2 g⟩))))
    · exact Or.inr (Or.inr (Or.inr (Or.inr (Or.inr (Or.inl ⟨h.1, h.2.1, wfL_app h.2.2 g⟩)))))
    · exact Or.inr (Or.inr (Or.inr (Or.inr (Or.inr (Or.inr ⟨h.1, h.2.1, wfL_app h.2.2 g⟩)))))
theorem wfL_dOK {op ag : Int → Int} {u N T : Int} : ∀ (c : List (Int × Int)) (i n t : Int), (∀ (k : Nat) (x : Int × Int), c[k]? = some x → op (i + k) = x.1 ∧ ag (i + k) = x.2) → n + c.length ≤ 330 → t + c.length ≤ 330 → wfL u c n t N T → dOK2 op ag N T c.length i n t
  | [], i, n, t, _, _, _, h => h
  | x :: c, i, n, t, hc, hn, ht, h => by
    have h0 := hc 0 x (by simp)
    rw [show i + ((0 : Nat) : Int) = i by omega] at h0
    simp only [List.length_cons] at hn ht ⊢
    have ih := fun n' t' a b => wfL_dOK (op := op) (ag := ag) (u := u) (N := N) (T := T) c (i + 1) n' t' (fun k y hy => by have := hc (k + 1) y (by simpa using hy); rw [show i + ((k + 1 : Nat) : Int) = i + 1 + k by omega] at this; exact this) a b
    simp only [dOK2]
    rw [h0.1, h0.2]
    rcases h with h | h | h | h | h | h | h
    · exact Or.inl ⟨h.1, h.2.1.1, h.2.1.2, by omega, ih _ _ (by omega) (by omega) h.2.2⟩
    · exact Or.inr (Or.inl ⟨h.1, h.2.1.1, h.2.1.2.1, by omega, ih _ _ (by omega) (by omega) h.2.2⟩)
    · exact Or.inr (Or.inr (Or.inl ⟨h.1, h.2.1, ih _ _ (by omega) (by omega) h.2.2⟩))
    · exact Or.inr (Or.inr (Or.inr (Or.inl ⟨h.1.1, h.1.2, h.2.1, ih _ _ (by omega) (by omega) h.2.2⟩)))
    · exact Or.inr (Or.inr (Or.inr (Or.inr (Or.inl ⟨h.1.1, h.1.2, h.2.1, by omega, ih _ _ (by omega) (by omega) h.2.2⟩))))
    · exact Or.inr (Or.inr (Or.inr (Or.inr (Or.inr (Or.inl ⟨h.1, h.2.1.1, h.2.1.2, ih _ _ (by omega) (by omega) h.2.2⟩)))))
    · exact Or.inr (Or.inr (Or.inr (Or.inr (Or.inr (Or.inr ⟨h.1, h.2.1.1, h.2.1.2, ih _ _ (by omega) (by omega) h.2.2⟩)))))
def okX (u : Int) (x : Int × Int) : Prop := (0 ≤ x.1 ∧ x.1 ≤ 22) ∧ (x.1 ≤ 1 → 0 ≤ x.2 ∧ x.2 ≤ 9999) ∧ (x.1 = 1 → u ≠ 2 → x.2 ≤ 4)
theorem wfL_x {u : Int} : ∀ {c : List (Int × Int)} {n t N T : Int}, wfL u c n t N T → ∀ x, x ∈ c → okX u x
  | [], _, _, _, _, _, x, hx => by simp at hx
  | y :: c, n, t, N, T, h, x, hx => by
    rcases List.mem_cons.mp hx with e | e
    · subst e
      rcases h with h | h | h | h | h | h | h
      · exact ⟨by omega, fun _ => h.2.1, fun z => by omega⟩
      · exact ⟨by omega, fun _ => by have := h.2.1; omega, fun _ => h.2.1.2.2⟩
      · exact ⟨by omega, fun z => by omega, fun z => by omega⟩
      · exact ⟨by omega, fun z => by omega, fun z => by omega⟩
      · exact ⟨by omega, fun z => by omega, fun z => by omega⟩
      · exact ⟨by omega, fun z => by omega, fun z => by omega⟩
      · exact ⟨by omega, fun z => by omega, fun z => by omega⟩
    · rcases h with h | h | h | h | h | h | h <;> exact wfL_x h.2.2 x e
theorem enc_bc {u : Int} {x : Int × Int} (h : okX u x) : encO (bc x.1) (bc x.2) = encO x.1 x.2 := by
  rw [bc_in (y := x.1) ⟨by have := h.1; omega, by have := h.1; omega⟩]
  by_cases c : x.1 ≤ 1
  · have := h.2.1 c
    rw [bc_in (y := x.2) ⟨by omega, by omega⟩]
  · simp only [encO]
    rw [if_neg (by omega), if_neg (by omega), if_neg (show ¬ x.1 = 0 by omega), if_neg (show ¬ x.1 = 1 by omega)]
theorem wfL_w {u w a t : Int} (hw : w = 0 ∨ w = 3 ∨ w = 4) (h1 : 1 ≤ a) (h2 : w ≠ 0 → 2 ≤ a) : wfL u (wlL w) a t (if w = 0 then a else a - 1) t := by
  by_cases c : w = 0
  · rw [if_pos c]
    simp only [wlL]
    rw [if_pos c]
    exact ⟨rfl, rfl⟩
  · rw [if_neg c]
    simp only [wlL]
    rw [if_neg c]
    exact Or.inr (Or.inr (Or.inr (Or.inl ⟨by show 3 ≤ w ∧ w ≤ 6; omega, h2 c, rfl, rfl⟩)))
theorem preR_ok {c : List (Int × Int)} {s : Rs} (h : (preR c s).1 = 0) : s.1 = 0 ∧ preR c s = (0, s.2.1, c ++ s.2.2) := by
  by_cases e : s.1 = 0
  · exact ⟨e, if_pos e⟩
  · rw [preR_f e] at h
    exact absurd h e
theorem gr_wf {T : Int → Int} (hT : ∀ k, 0 ≤ T k ∧ T k < 256) {n u : Int} : ∀ (m : Nat) (k o w p : Int) (r : Rs), gr T n u m k o w p = some r → p ≤ n → (w = 0 ∨ w = 3 ∨ w = 4) → r.1 = 0 → r.2.1 ≤ n ∧ (k = 0 ∨ k = 1 → ∀ a t : Int, 0 ≤ a → wfL u r.2.2 a t (a + 1) t) ∧ (k ≠ 0 → k ≠ 1 → ∀ a t : Int, 1 ≤ a → (w ≠ 0 → 2 ≤ a) → wfL u r.2.2 a t (if w = 0 then a else a - 1) t)
  | 0, k, o, w, p, r, h, _, _, _ => by simp [gr] at h
  | m + 1, k, o, w, p, r, h, hp, hw, hr => by
    have ih := gr_wf hT (n := n) (u := u) m
    have tk := tok_r hT hp
    rw [gr] at h
    by_cases k0 : k = 0
    · rw [if_pos k0] at h
      have fin : r.2.1 ≤ n ∧ (∀ a t : Int, 0 ≤ a → wfL u r.2.2 a t (a + 1) t) := by
        by_cases c1 : tTok T n p = 1
        · rw [if_pos c1] at h
          have tn := tk.2.2.2.2.2.2.2.1 c1
          by_cases c2 : tNum T n p ≤ 9999
          · rw [if_pos c2] at h
            have e := Option.some.inj h
            rw [← e]
            exact ⟨tk.2.2.2.1, fun a t _ => Or.inl ⟨rfl, ⟨tn.1, c2⟩, rfl, rfl⟩⟩
          · rw [if_neg c2] at h
            have e := Option.some.inj h
            rw [← e] at hr
            exact absurd hr (by simp)
        rw [if_neg c1] at h
        by_cases c2 : 0 ≤ tNm T n p
        · rw [if_pos c2] at h
          by_cases c3 : 4 < tNm T n p ∧ u ≠ 2
          · rw [if_pos c3] at h
            have e := Option.some.inj h
            rw [← e] at hr
            exact absurd hr (by simp)
          · rw [if_neg c3] at h
            have e := Option.some.inj h
            rw [← e]
            have nr := nmOf_r (tTok T n p) (tWd T n p)
            have nr2 : tNm T n p ≤ 7 := nr.2
            exact ⟨tk.2.2.2.1, fun a t _ => Or.inr (Or.inl ⟨rfl, ⟨c2, nr2, fun z => by show tNm T n p ≤ 4; omega⟩, rfl, rfl⟩)⟩
        rw [if_neg c2] at h
        by_cases c3 : tTok T n p = 40
        · rw [if_pos c3] at h
          by_cases c4 : o = 8
          · rw [if_pos c4] at h
            have e := Option.some.inj h
            rw [← e] at hr
            exact absurd hr (by simp)
          rw [if_neg c4] at h
          obtain ⟨x, hx, hf⟩ := Option.bind_eq_some_iff.mp h
          have e := Option.some.inj hf
          by_cases d1 : x.1 ≠ 0
          · rw [if_pos d1] at e
            rw [← e] at hr
            exact absurd hr d1
          rw [if_neg d1] at e
          have i1 := ih 1 (o + 1) 0 (tNx T n p) x hx tk.2.2.2.1 (Or.inl rfl) (by omega)
          by_cases d2 : tTok T n x.2.1 = 41
          · rw [if_pos d2] at e
            rw [← e]
            exact ⟨(tok_r hT i1.1).2.2.2.1, i1.2.1 (Or.inr rfl)⟩
          · rw [if_neg d2] at e
            rw [← e] at hr
            exact absurd hr (by simp)
        rw [if_neg c3] at h
        by_cases c3 : tTok T n p = 45
        · rw [if_pos c3] at h
          by_cases c4 : o = 8
          · rw [if_pos c4] at h
            have e := Option.some.inj h
            rw [← e] at hr
            exact absurd hr (by simp)
          rw [if_neg c4] at h
          obtain ⟨x, hx, hf⟩ := Option.bind_eq_some_iff.mp h
          have e := Option.some.inj hf
          by_cases d1 : x.1 ≠ 0
          · rw [if_pos d1] at e
            rw [← e] at hr
            exact absurd hr d1
          rw [if_neg d1] at e
          have i1 := ih 0 (o + 1) 0 (tNx T n p) x hx tk.2.2.2.1 (Or.inl rfl) (by omega)
          rw [← e]
          exact ⟨i1.1, fun a t ha => wfL_app (i1.2.1 (Or.inl rfl) a t ha) (Or.inr (Or.inr (Or.inl ⟨rfl, by omega, rfl, rfl⟩)))⟩
        rw [if_neg c3] at h
        have e := Option.some.inj h
        rw [← e] at hr
        exact absurd hr (by simp)
      exact ⟨fin.1, fun _ => fin.2, fun z => absurd k0 z⟩
    rw [if_neg k0] at h
    by_cases k1 : k = 1
    · rw [if_pos k1] at h
      obtain ⟨x, hx, hf⟩ := Option.bind_eq_some_iff.mp h
      by_cases d1 : x.1 ≠ 0
      · rw [if_pos d1] at hf
        have e := Option.some.inj hf
        rw [← e] at hr
        exact absurd hr d1
      rw [if_neg d1] at hf
      obtain ⟨y, hy, hg⟩ := Option.bind_eq_some_iff.mp hf
      have e := Option.some.inj hg
      rw [← e] at hr
      obtain ⟨y0, y1⟩ := preR_ok hr
      rw [← e, y1]
      have i1 := ih 0 o 0 p x hx hp (Or.inl rfl) (by omega)
      have i2 := ih 2 o 0 x.2.1 y hy i1.1 (Or.inl rfl) y0
      exact ⟨i2.1, fun _ a t ha => wfL_app (i1.2.1 (Or.inl rfl) a t ha) (by have z := i2.2.2 (by decide) (by decide) (a + 1) t (by omega) (fun z => absurd rfl z); rw [if_pos rfl] at z; exact z), fun _ z => absurd k1 z⟩
    rw [if_neg k1] at h
    have fin : r.2.1 ≤ n ∧ (∀ a t : Int, 1 ≤ a → (w ≠ 0 → 2 ≤ a) → wfL u r.2.2 a t (if w = 0 then a else a - 1) t) := by
      by_cases c : tTok T n p = 43 ∨ tTok T n p = 45
      · rw [if_pos c] at h
        obtain ⟨x, hx, hf⟩ := Option.bind_eq_some_iff.mp h
        by_cases d1 : x.1 ≠ 0
        · rw [if_pos d1] at hf
          have e := Option.some.inj hf
          rw [← e] at hr
          exact absurd hr d1
        rw [if_neg d1] at hf
        obtain ⟨y, hy, hg⟩ := Option.bind_eq_some_iff.mp hf
        have e := Option.some.inj hg
        rw [← e] at hr
        obtain ⟨y0, y1⟩ := preR_ok hr
        rw [← e, y1]
        have i1 := ih 0 o 0 (tNx T n p) x hx tk.2.2.2.1 (Or.inl rfl) (by omega)
        have hw2 : (if tTok T n p = 43 then 3 else 4 : Int) = 0 ∨ (if tTok T n p = 43 then 3 else 4 : Int) = 3 ∨ (if tTok T n p = 43 then 3 else 4 : Int) = 4 := by split <;> omega
        have i2 := ih 2 o _ x.2.1 y hy i1.1 hw2 y0
        refine ⟨i2.1, fun a t ha hb => wfL_app (wfL_app (wfL_w hw ha hb) (i1.2.1 (Or.inl rfl) _ t (by split <;> omega))) ?_⟩
        have z := i2.2.2 (by decide) (by decide) ((if w = 0 then a else a - 1) + 1) t (by split <;> omega) (fun _ => by split <;> omega)
        have nz : ¬ (if tTok T n p = 43 then 3 else 4 : Int) = 0 := by split <;> omega
        rw [if_neg nz, show (if w = 0 then a else a - 1) + 1 - 1 = (if w = 0 then a else a - 1) by omega] at z
        exact z
      rw [if_neg c] at h
      by_cases c : tTok T n p = 42 ∨ tTok T n p = 47
      · rw [if_pos c] at h
        obtain ⟨x, hx, hf⟩ := Option.bind_eq_some_iff.mp h
        by_cases d1 : x.1 ≠ 0
        · rw [if_pos d1] at hf
          have e := Option.some.inj hf
          rw [← e] at hr
          exact absurd hr d1
        rw [if_neg d1] at hf
        obtain ⟨y, hy, hg⟩ := Option.bind_eq_some_iff.mp hf
        have e := Option.some.inj hg
        rw [← e] at hr
        obtain ⟨y0, y1⟩ := preR_ok hr
        rw [← e, y1]
        have i1 := ih 0 o 0 (tNx T n p) x hx tk.2.2.2.1 (Or.inl rfl) (by omega)
        have i2 := ih 2 o w x.2.1 y hy i1.1 hw y0
        refine ⟨i2.1, fun a t ha hb => wfL_app (n1 := a) (t1 := t) (wfL_app (n1 := a + 1) (t1 := t) (i1.2.1 (Or.inl rfl) a t (by omega)) ?_) ?_⟩
        · refine Or.inr (Or.inr (Or.inr (Or.inl ⟨?_, by omega, by omega, rfl⟩)))
          show 3 ≤ (if tTok T n p = 42 then 5 else 6 : Int) ∧ (if tTok T n p = 42 then 5 else 6 : Int) ≤ 6
          split <;> omega
        exact i2.2.2 (by decide) (by decide) a t ha hb
      rw [if_neg c] at h
      have e := Option.some.inj h
      rw [← e]
      exact ⟨hp, fun a t ha hb => wfL_w hw ha hb⟩
    exact ⟨fin.1, fun z => by omega, fun _ _ => fin.2⟩
theorem G_wf {T : Int → Int} (hT : ∀ k, 0 ≤ T k ∧ T k < 256) {n u o p q : Int} {em : List (Int × Int)} (h : G T n u 1 o 0 p (0, q, em)) (hp : p ≤ n) : q ≤ n ∧ ∀ a t : Int, 0 ≤ a → wfL u em a t (a + 1) t := by
  obtain ⟨m, hm⟩ := h
  have z := gr_wf hT m 1 o 0 p _ hm hp (Or.inl rfl) rfl
  exact ⟨z.1, z.2.1 (Or.inr rfl)⟩
theorem cmpO_in {t : Int} (h : ¬ cmpO t < 0) : 10 ≤ cmpO t ∧ cmpO t ≤ 15 := by
  simp only [cmpO] at h ⊢
  (repeat' split at h) <;> omega
theorem Ask0_wf {T : Int → Int} (hT : ∀ k, 0 ≤ T k ∧ T k < 256) {n u o p : Int} {r : Rs} (h : Ask0 T n u o p r) (hp : p ≤ n) (hr : r.1 = 0) : r.2.1 ≤ n ∧ ∀ t : Int, wfL u r.2.2 0 t 0 (t + 1) := by
  obtain ⟨s, hs, h⟩ := h
  by_cases c1 : s.1 ≠ 0
  · rw [if_pos c1] at h
    rw [h] at hr
    exact absurd hr c1
  rw [if_neg c1] at h
  obtain ⟨s1, s2, s3⟩ := s
  have e1 : s1 = 0 := by simpa using c1
  subst e1
  by_cases c2 : cmpO (tTok T n s2) < 0
  · rw [if_pos c2] at h
    rw [h] at hr
    exact absurd hr (by simp)
  rw [if_neg c2] at h
  obtain ⟨x, hx, h⟩ := h
  by_cases c3 : x.1 ≠ 0
  · rw [if_pos c3] at h
    rw [h] at hr
    exact absurd hr c3
  rw [if_neg c3] at h
  obtain ⟨x1, x2, x3⟩ := x
  have e2 : x1 = 0 := by simpa using c3
  subst e2
  have g1 := G_wf hT hs hp
  have g2 := G_wf hT hx (tok_r hT g1.1).2.2.2.1
  have hc := cmpO_in c2
  rw [h]
  refine ⟨g2.1, fun t => wfL_app (wfL_app (g1.2 0 t (by omega)) (g2.2 _ t (by omega))) ?_⟩
  exact Or.inr (Or.inr (Or.inr (Or.inr (Or.inl ⟨hc, by omega, rfl, rfl⟩))))
theorem AskF_wf {T : Int → Int} (hT : ∀ k, 0 ≤ T k ∧ T k < 256) {n u : Int} : ∀ (k : Nat) {o p : Int} {r : Rs}, AskF T n u k o p r → p ≤ n → r.1 = 0 → r.2.1 ≤ n ∧ ∀ t : Int, 0 ≤ t → wfL u r.2.2 0 t 0 (t + 1)
  | 0, _, _, _, h, _, _ => h.elim
  | k + 1, o, p, r, h, hp, hr => by
    simp only [AskF] at h
    by_cases c : isNotT T n p
    · rw [if_pos c] at h
      by_cases c8 : o = 8
      · rw [if_pos c8] at h
        rw [h] at hr
        exact absurd hr (by simp)
      rw [if_neg c8] at h
      obtain ⟨s, hs, h⟩ := h
      by_cases c3 : s.1 ≠ 0
      · rw [if_pos c3] at h
        rw [h] at hr
        exact absurd hr c3
      rw [if_neg c3] at h
      have i := AskF_wf hT k hs (tok_r hT hp).2.2.2.1 (by omega)
      rw [h]
      exact ⟨i.1, fun t ht => wfL_app (i.2 t ht) (Or.inr (Or.inr (Or.inr (Or.inr (Or.inr (Or.inl ⟨rfl, ⟨by omega, rfl⟩, rfl, rfl⟩))))))⟩
    · rw [if_neg c] at h
      have i := Ask0_wf hT h hp hr
      exact ⟨i.1, fun t _ => i.2 t⟩
theorem wfL_21 {u a t x : Int} (ha : a = 0 ∨ a = 1) (hx : x = 21 ∨ x = 22) (ht : a = 1 → 2 ≤ t) : wfL u (wlL (x * a)) 0 t 0 (t - a) := by
  rcases ha with e | e
  · subst e
    simp only [wlL]
    rw [if_pos (by omega)]
    exact ⟨rfl, by omega⟩
  · subst e
    simp only [wlL]
    rw [if_neg (by omega)]
    refine Or.inr (Or.inr (Or.inr (Or.inr (Or.inr (Or.inr ⟨?_, ⟨ht rfl, rfl⟩, rfl, rfl⟩)))))
    show x * 1 = 21 ∨ x * 1 = 22
    omega
theorem EiF_wf {T : Int → Int} (hT : ∀ k, 0 ≤ T k ∧ T k < 256) {n u o : Int} : ∀ (m : Nat) {a b p : Int} {r : Rs}, EiF T n u o m a b p r → p ≤ n → (a = 0 ∨ a = 1) → (b = 0 ∨ b = 1) → r.1 = 0 → r.2.1 ≤ n ∧ ∀ t : Int, 0 ≤ t → wfL u r.2.2 0 (t + a + b) 0 (t + 1)
  | 0, _, _, _, _, h, _, _, _, _ => h.elim
  | m + 1, a, b, p, r, h, hp, ha, hb, hr => by
    obtain ⟨s, hs, h⟩ := h
    by_cases c1 : s.1 ≠ 0
    · rw [if_pos c1] at h
      rw [h] at hr
      exact absurd hr c1
    rw [if_neg c1] at h
    have i := AskF_wf hT _ hs hp (by omega)
    have hx := (tok_r hT i.1).2.2.2.1
    have one : ∀ t : Int, 0 ≤ t → wfL u (s.2.2 ++ wlL (21 * a)) 0 (t + a + b) 0 (t + b + 1) := fun t ht => by
      have z := wfL_app (i.2 (t + a + b) (by omega)) (wfL_21 (u := u) (t := t + a + b + 1) ha (Or.inl rfl) (fun _ => by omega))
      rw [show t + a + b + 1 - a = t + b + 1 by omega] at z
      exact z
    have two : ∀ t : Int, 0 ≤ t → wfL u (s.2.2 ++ wlL (21 * a) ++ wlL (22 * b)) 0 (t + a + b) 0 (t + 1) := fun t ht => by
      have z := wfL_app (one t ht) (wfL_21 (u := u) (t := t + b + 1) hb (Or.inr rfl) (fun _ => by omega))
      rw [show t + b + 1 - b = t + 1 by omega] at z
      exact z
    by_cases c2 : isAnd T n s.2.1
    · rw [if_pos c2] at h
      obtain ⟨s2, hs2, h⟩ := h
      rw [h] at hr
      obtain ⟨y0, y1⟩ := preR_ok hr
      have j := EiF_wf hT m hs2 hx (Or.inr rfl) hb y0
      rw [h, y1]
      refine ⟨j.1, fun t ht => wfL_app (one t ht) ?_⟩
      have z := j.2 t ht
      rw [show t + 1 + b = t + b + 1 by omega] at z
      exact z
    rw [if_neg c2] at h
    by_cases c3 : isOr T n s.2.1
    · rw [if_pos c3] at h
      obtain ⟨s2, hs2, h⟩ := h
      rw [h] at hr
      obtain ⟨y0, y1⟩ := preR_ok hr
      have j := EiF_wf hT m hs2 hx (Or.inl rfl) (Or.inr rfl) y0
      rw [h, y1]
      refine ⟨j.1, fun t ht => wfL_app (two t ht) ?_⟩
      have z := j.2 t ht
      rw [show t + 0 + 1 = t + 1 by omega] at z
      exact z
    · rw [if_neg c3] at h
      rw [h]
      exact ⟨i.1, two⟩
/-! what is sure of a clause -/
def okN : List (Int × Int × Int) → List Int → Prop
  | [], vs => vs = []
  | x :: L, vs => if x.1 = 0 then okN L vs else ∃ v vs', vs = v :: vs' ∧ (x.2.1 ≤ v ∧ v ≤ x.2.2) ∧ okN L vs'
theorem numR_ok {T : Int → Int} (hT : ∀ k, 0 ≤ T k ∧ T k < 256) {n : Int} : ∀ (L : List (Int × Int × Int)) (p : Int), p ≤ n → (numR T n L p).2.1 ≤ n ∧ ((numR T n L p).1 = 0 → okN L (numR T n L p).2.2) ∧ p ≤ (numR T n L p).2.1
  | [], p, hp => ⟨hp, fun _ => rfl, by simp [numR]⟩
  | x :: L, p, hp => by
    have tk := tok_r hT hp
    have ih := numR_ok hT L (tNx T n p) tk.2.2.2.1
    simp only [numR, okN]
    by_cases c : x.1 = 0
    · rw [if_pos c, if_pos c]
      by_cases d : tTok T n p = 2 ∧ tWd T n p = x.2.1
      · rw [if_pos d]
        exact ⟨ih.1, ih.2.1, by omega⟩
      · rw [if_neg d]
        exact ⟨hp, fun z => absurd z (by simp), by simp⟩
    · rw [if_neg c, if_neg c]
      by_cases d : tTok T n p ≠ 1
      · rw [if_pos d]
        exact ⟨hp, fun z => absurd z (by simp), by simp⟩
      rw [if_neg d]
      by_cases e : x.2.1 ≤ tNum T n p ∧ tNum T n p ≤ x.2.2
      · rw [if_pos e]
        exact ⟨ih.1, fun z => ⟨_, _, rfl, e, ih.2.1 z⟩, by show p ≤ (numR T n L (tNx T n p)).2.1; omega⟩
      · rw [if_neg e]
        exact ⟨hp, fun z => absurd z (by simp), by simp⟩
def okC (c : Cls) : Prop := (0 ≤ c.1 ∧ c.1 ≤ 8) ∧ (c.1 < 3 → c.2.1 = [] ∧ wfL c.1 c.2.2 0 0 (if c.1 = 0 then 1 else 0) (if c.1 = 0 then 0 else 1)) ∧ (3 ≤ c.1 → c.2.2 = [] ∧ okN (itm c.1) c.2.1)
theorem BodR_ok {T : Int → Int} (hT : ∀ k, 0 ≤ T k ∧ T k < 256) {n s p q : Int} {cs : List Cls} {vs : List Int} {em : List (Int × Int)} (hs : 0 ≤ s ∧ s ≤ 8) (hp : p ≤ n) (h : BodR T n cs s p 0 q vs em) : okC (s, vs, em) := by
  rcases h with ⟨h1, h2, h3⟩ | ⟨h1, h2, h3⟩ | ⟨h1, h2, h3⟩
  · have z := (G_wf hT h2 hp).2 0 0 (by omega)
    refine ⟨hs, fun _ => ⟨h3, ?_⟩, fun y => ?_⟩
    · show wfL s em 0 0 (if s = 0 then 1 else 0) (if s = 0 then 0 else 1)
      rw [if_pos h1, if_pos h1]
      exact z
    · have y : 3 ≤ s := y
      omega
  · obtain ⟨m, h2⟩ := h2
    have z := (EiF_wf hT m h2 hp (Or.inl rfl) (Or.inl rfl) rfl).2 0 (by omega)
    refine ⟨hs, fun _ => ⟨h3, ?_⟩, fun y => ?_⟩
    · show wfL s em 0 0 (if s = 0 then 1 else 0) (if s = 0 then 0 else 1)
      rw [if_neg (by omega), if_neg (by omega)]
      exact z
    · have y : 3 ≤ s := y
      omega
  · refine ⟨hs, fun y => ?_, fun _ => ⟨h3, ?_⟩⟩
    · have y : s < 3 := y
      omega
    · show okN (itm s) vs
      rcases h2 with ⟨e, h2 | h2⟩ | h2
      · have z : (0 : Int) = 4 := congrArg (fun z => z.1) h2.2
        omega
      · have z0 : (0 : Int) = (numR T n (itm 3) p).1 := congrArg (fun z => z.1) h2.2
        have z2 : vs = (numR T n (itm 3) p).2.2 := congrArg (fun z => z.2.2) h2.2
        rw [e, z2]
        exact (numR_ok hT _ _ hp).2.1 z0.symm
      · have z0 : (0 : Int) = (numR T n (itm s) p).1 := congrArg (fun z => z.1) h2.2
        have z2 : vs = (numR T n (itm s) p).2.2 := congrArg (fun z => z.2.2) h2.2
        rw [z2]
        exact (numR_ok hT _ _ hp).2.1 z0.symm
theorem okN_3 {vs : List Int} (h : okN (itm 3) vs) : ∃ a b, vs = [a, b] ∧ (0 ≤ a ∧ a ≤ 19) ∧ 1 ≤ b ∧ b ≤ 9 := by
  obtain ⟨a, v1, e1, ha, b, v2, e2, hb, e3⟩ := (show okN [(1, 0, 19), (0, wMany, 0), (1, 1, 9)] vs from h)
  exact ⟨a, b, by rw [e1, e2, e3], ha, hb⟩
theorem tSr_r (T : Int → Int) (n p : Int) : -1 ≤ tSr T n p ∧ tSr T n p ≤ 8 ∧ (0 ≤ tSr T n p → tTok T n p = 2) := srtOf_r _ _
theorem ClR_ok {T : Int → Int} (hT : ∀ k, 0 ≤ T k ∧ T k < 256) {n p q : Int} {cs : List Cls} {c : Cls} (hp : p ≤ n) (h : ClR T n cs p 0 q c) : okC c ∧ c.1 = tSr T n p ∧ 0 ≤ c.1 ∧ (c.1 < 3 → ¬ told cs c.1) ∧ (∀ v, c.1 = 3 → c.2.1[0]? = some v → ¬ kTold cs v) ∧ cs.length ≠ 24 := by
  have sr := tSr_r T n p
  rcases h with h | h | h | ⟨h0, f1, q1, vs, em, h1, h2⟩
  · omega
  · omega
  · omega
  · rcases h2 with h2 | h2 | h2
    · omega
    · omega
    · obtain ⟨e0, e1, e2, e3, e4⟩ := h2
      subst e0
      subst e4
      refine ⟨BodR_ok hT (by omega) (tok_r hT hp).2.2.2.1 h1, rfl, h0.1, fun z y => h0.2.1 ⟨z, y⟩, fun v z hv => ?_, h0.2.2⟩
      have z : tSr T n p = 3 := z
      rcases h1 with h1 | h1 | h1
      · omega
      · omega
      · rcases h1.2.1 with ⟨e, g | g⟩ | g
        · have y : (0 : Int) = 4 := congrArg (fun z => z.1) g.2
          omega
        · intro kt
          have y0 : (0 : Int) = (numR T n (itm 3) (tNx T n p)).1 := congrArg (fun z => z.1) g.2
          have y2 : vs = (numR T n (itm 3) (tNx T n p)).2.2 := congrArg (fun z => z.2.2) g.2
          have hok := (numR_ok hT (itm 3) (tNx T n p) (tok_r hT hp).2.2.2.1).2.1 y0.symm
          refine g.1 ?_
          have e3 : itm 3 = [(1, 0, 19), (0, wMany, 0), (1, 1, 9)] := rfl
          by_cases t1 : tTok T n (tNx T n p) = 1
          · by_cases t2 : (0 : Int) ≤ tNum T n (tNx T n p) ∧ tNum T n (tNx T n p) ≤ 19
            · rw [e3, numR_n t1 t2] at y2
              rw [y2] at hv
              simp at hv
              exact ⟨t1, t2, by rw [hv]; exact kt⟩
            · rw [e3, numR_n2 t1 t2] at y0
              simp at y0
          · rw [e3, numR_n1 t1] at y0
            simp at y0
        · omega
