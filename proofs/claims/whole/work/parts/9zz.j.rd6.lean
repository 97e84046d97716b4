section Cq
variable {T : Int → Int} {n u o : Int} {N i : Nat} {f cd f1 cd1 f2 cd2 sr : Int → Int}
/-- a reading from the next TOKEN on, and a piece of code behind it -/
theorem CP_post {R R' : Rs → Prop} {x : Int × Int} {v : Int} (hi : i < N) (h : RdS f i N u) (hN : N ≤ 300) (hv : encO x.1 x.2 = v) (hR : ∀ s, R s → R' (if s.1 ≠ 0 then s else (0, s.2.1, s.2.2 ++ [x]))) (hc : CP T n N (i + 1) R (ua f 8 (f 8 + 1)) cd f1 cd1) : CP T n N i R' f cd (emf f1) (emc f1 cd1 v) := by
  obtain ⟨h2, h8, h3, h13, h9⟩ := h
  by_cases c : f1 2 ≠ 0
  · refine CP_e ?_ c
    obtain ⟨g0, g | ⟨q, g1, g2, g3, g4, g5, g6⟩⟩ := hc
    · obtain ⟨j, em, _, z, _⟩ := g
      exact absurd z c
    · refine ⟨fun k k2 k3 k8 k13 => (g0 k k2 k3 k8 k13).trans (ua_ne k8), Or.inr ⟨q, ?_, g2, g3, g4, g5, g6⟩⟩
      have z := hR _ g1
      rw [if_pos g2] at z
      exact z
  · obtain ⟨g0, ⟨j, em, g1, g2, g3, g4, g5, g6, g7, g8, g9⟩ | ⟨q, _, z, _⟩⟩ := hc
    · rw [ua_ne (by decide)] at g3 g8 g9
      have lt : f1 13 < 300 := by omega
      have e1 : emf f1 = ua f1 13 (f1 13 + 1) := if_pos lt
      have e2 : emc f1 cd1 v = ua cd1 (f1 13) v := if_pos lt
      rw [e1, e2]
      refine ⟨fun k k2 k3 k8 k13 => (ua_ne k13).trans ((g0 k k2 k3 k8 k13).trans (ua_ne k8)), Or.inl ⟨j, em ++ [x], ?_, ?_, ?_, g4, ?_, by omega, ?_, ?_, ?_⟩⟩
      · have z := hR _ g1
        rw [if_neg (by simp)] at z
        exact z
      · rw [ua_ne (by decide)]; exact g2
      · rw [ua_ne (by decide)]; exact g3
      · rw [ua_ne (by decide)]; exact g5
      · rw [List.length_append]; simp; omega
      · rw [ua_same, List.length_append, g8]; simp; omega
      · rw [emC_app, ← g9, g8, emC_1, hv]
    · exact absurd z c
theorem Ask_un {d : Nat} (hd : d ≤ 8) (p : Int) (r : Rs) : Ask T n u (8 - (d : Int)) p r ↔ AskF T n u (d + 1) (8 - (d : Int)) p r := by
  simp only [Ask]
  rw [show (9 - (8 - (d : Int))).toNat = d + 1 by omega]
theorem Ask_not {d : Nat} (hd : d ≤ 8) (h0 : 0 < d) {p : Int} {s : Rs} (hn : isNotT T n p) (hs : Ask T n u (8 - ((d - 1 : Nat) : Int)) (tNx T n p) s) : Ask T n u (8 - (d : Int)) p (if s.1 ≠ 0 then s else (0, s.2.1, s.2.2 ++ [(20, 0)])) := by
  rw [Ask_un hd]
  rw [Ask_un (by omega)] at hs
  simp only [AskF]
  rw [if_pos hn, if_neg (by omega)]
  refine ⟨s, ?_, rfl⟩
  have e1 : d - 1 + 1 = d := by omega
  have e2 : 8 - ((d - 1 : Nat) : Int) = 8 - (d : Int) + 1 := by omega
  rw [e1, e2] at hs
  exact hs
theorem Ask_deep {d : Nat} (h0 : d = 0) {p : Int} (hn : isNotT T n p) : Ask T n u (8 - (d : Int)) p (3, p, []) := by
  rw [Ask_un (by omega)]
  simp only [AskF]
  rw [if_pos hn, if_pos (by omega)]
  trivial
theorem Ask_0 {d : Nat} (hd : d ≤ 8) {p : Int} {r : Rs} (hn : ¬ isNotT T n p) (h : Ask0 T n u (8 - (d : Int)) p r) : Ask T n u (8 - (d : Int)) p r := by
  rw [Ask_un hd]
  simp only [AskF]
  rw [if_neg hn]
  exact h
/-- the first SUM has a FAULT -/
theorem CP_c1 {R : Rs → Prop} (hR : ∀ r, Ask0 T n u o (pos T n i) r → R r) (hc : CP T n N i (G T n u 1 o 0 (pos T n i)) f cd f1 cd1) (h2 : f1 2 ≠ 0) : CP T n N i R f cd f1 cd1 := by
  obtain ⟨g0, ⟨j, em, _, z, _⟩ | ⟨q, g1, g2, g3⟩⟩ := hc
  · exact absurd z h2
  · exact ⟨g0, Or.inr ⟨q, hR _ ⟨_, g1, by rw [if_pos g2]⟩, g2, g3⟩⟩
/-- no sign follows -/
theorem CP_c2 {R : Rs → Prop} (hN : N ≤ 300) (h13 : 0 ≤ f 13 ∧ f 13 ≤ i) (hsr : ∀ k : Nat, k ≤ N → sr k = tPl T n (pos T n k)) (hR : ∀ r, Ask0 T n u o (pos T n i) r → R r) (hc : CP T n N i (G T n u 1 o 0 (pos T n i)) f cd f1 cd1) (h2 : f1 2 = 0) (ht : ∀ j : Nat, j ≤ N → f1 8 = j → cmpO (tTok T n (pos T n j)) < 0) : CP T n N i R f cd (ua (ua f1 2 1) 3 (sr (f1 8))) cd1 := by
  obtain ⟨g0, ⟨j, em, g1, g2, g3, g4, g5, g6, g7, g8, g9⟩ | ⟨q, _, z, _⟩⟩ := hc
  · refine ⟨fun k k2 k3 k8 k13 => (ua_ne k3).trans ((ua_ne k2).trans (g0 k k2 k3 k8 k13)), Or.inr ⟨pos T n j, ?_, ?_, ?_, ?_, ?_, ?_⟩⟩
    · rw [ua_ne (by decide), ua_same]
      exact hR _ ⟨_, g1, by rw [if_neg (by simp), if_pos (ht j g4 g5)]⟩
    · rw [ua_ne (by decide), ua_same]; omega
    · rw [ua_ne (by decide), ua_same]; omega
    · rw [ua_same, g5]; exact hsr j g4
    · rw [ua_ne (by decide), ua_ne (by decide)]; omega
    · rw [ua_ne (by decide), ua_ne (by decide)]; omega
  · exact absurd h2 z
/-- a sign and a second SUM -/
theorem CP_c3 {R : Rs → Prop} {j : Nat} {em : List (Int × Int)} {t : Int} (hN : N ≤ 300) (h13 : 0 ≤ f 13 ∧ f 13 ≤ i) (hR : ∀ r, Ask0 T n u o (pos T n i) r → R r) (g0 : ∀ k, k ≠ 2 → k ≠ 3 → k ≠ 8 → k ≠ 13 → f1 k = f k) (g1 : G T n u 1 o 0 (pos T n i) (0, pos T n j, em)) (g3 : f1 3 = f 3) (g6 : i < j) (g7 : i + em.length ≤ j) (g8 : f1 13 = f 13 + em.length) (g9 : cd1 = emC cd (f 13) em) (hq : TkQ T n (pos T n j) t) (ht : 10 ≤ t ∧ t ≤ 15) (hc : CP T n N (j + 1) (G T n u 1 o 0 (pos T n (j + 1))) (ua f1 8 (f1 8 + 1)) cd1 f2 cd2) : CP T n N i R f cd (emf f2) (emc f2 cd2 (-t)) := by
  have hq : t = cTk T n (pos T n j) := hq
  have hcm := cTk_c (T := T) (n := n) (p := pos T n j)
  rw [← hq] at hcm
  have hc0 := hcm.1.mp ht
  by_cases c : f2 2 ≠ 0
  · refine CP_e ?_ c
    obtain ⟨d0, ⟨m, ee, _, z, _⟩ | ⟨q, d1, d2, d3, d4, d5, d6⟩⟩ := hc
    · exact absurd z c
    · exact ⟨fun k k2 k3 k8 k13 => (d0 k k2 k3 k8 k13).trans ((ua_ne k8).trans (g0 k k2 k3 k8 k13)), Or.inr ⟨q, hR _ ⟨_, g1, by rw [if_neg (by simp), if_neg (by simp only; omega)]; exact ⟨_, d1, by rw [if_pos d2]⟩⟩, d2, d3, d4, d5, d6⟩⟩
  · obtain ⟨d0, ⟨m, ee, d1, d2, d3, d4, d5, d6, d7, d8, d9⟩ | ⟨q, _, z, _⟩⟩ := hc
    · rw [ua_ne (by decide)] at d3 d8 d9
      have lt : f2 13 < 300 := by omega
      have e1 : emf f2 = ua f2 13 (f2 13 + 1) := if_pos lt
      have e2 : emc f2 cd2 (-t) = ua cd2 (f2 13) (-t) := if_pos lt
      rw [e1, e2]
      refine ⟨fun k k2 k3 k8 k13 => (ua_ne k13).trans ((d0 k k2 k3 k8 k13).trans ((ua_ne k8).trans (g0 k k2 k3 k8 k13))), Or.inl ⟨m, em ++ ee ++ [(cmpO (tTok T n (pos T n j)), 0)], ?_, ?_, ?_, d4, ?_, by omega, ?_, ?_, ?_⟩⟩
      · exact hR _ ⟨_, g1, by rw [if_neg (by simp), if_neg (by simp only; omega)]; exact ⟨_, d1, by rw [if_neg (by simp)]⟩⟩
      · rw [ua_ne (by decide)]; exact d2
      · rw [ua_ne (by decide)]; exact d3.trans g3
      · rw [ua_ne (by decide)]; exact d5
      · rw [List.length_append, List.length_append]; simp only [List.length_cons, List.length_nil]; omega
      · rw [ua_same, d8, g8, List.length_append, List.length_append]; simp only [List.length_cons, List.length_nil]; omega
      · rw [emC_app, emC_app, ← g9, ← g8, ← d9, List.length_append, show f 13 + ((em.length + ee.length : Nat) : Int) = f2 13 by omega, emC_1]
        show _ = ua cd2 (f2 13) (encO (cmpO (tTok T n (pos T n j))) 0)
        rw [hcm.2 hc0]
    · exact absurd z c
end Cq
/-! EITHER -/
def EiK (T : Int → Int) (n u : Int) (m : Nat) (b p : Int) (r : Rs) : Prop := if isAnd T n p then EiF T n u 0 m 1 b (tNx T n p) r else if isOr T n p then ∃ s, EiF T n u 0 m 0 1 (tNx T n p) s ∧ r = preR (wlL (22 * b)) s else r = (0, p, wlL (22 * b))
theorem preR_nil (s : Rs) (c : List (Int × Int)) (h : s.1 = 0 ∨ True) : preR [] s = s := by
  obtain ⟨x, y, z⟩ := s
  simp only [preR]
  by_cases e : x = 0
  · subst e; rfl
  · rw [if_neg e]
theorem EiK_s {T : Int → Int} {n u : Int} {m : Nat} {a b p q : Int} {em : List (Int × Int)} {r : Rs} (hA : Ask T n u 0 p (0, q, em)) (hK : EiK T n u m b q r) : EiF T n u 0 (m + 1) a b p (preR (em ++ wlL (21 * a)) r) := by
  refine ⟨_, hA, ?_⟩
  rw [if_neg (by simp)]
  simp only [EiK] at hK
  by_cases c : isAnd T n q
  · rw [if_pos c] at hK
    rw [if_pos c]
    exact ⟨r, hK, rfl⟩
  rw [if_neg c] at hK
  rw [if_neg c]
  by_cases d : isOr T n q
  · rw [if_pos d] at hK
    rw [if_pos d]
    obtain ⟨s, h1, h2⟩ := hK
    exact ⟨s, h1, by rw [h2, preR_preR]⟩
  · rw [if_neg d] at hK
    rw [if_neg d]
    rw [hK, preR_0]
theorem EiF_f {T : Int → Int} {n u : Int} {a b p q x : Int} (hA : Ask T n u 0 p (x, q, [])) (hx : x ≠ 0) : EiF T n u 0 1 a b p (x, q, []) := ⟨_, hA, by rw [if_pos hx]⟩
def EcI (T : Int → Int) (n u : Int) (N i : Nat) (f0 cd0 : Int → Int) (b c : Int) (f cd : Int → Int) : Prop := (0 ≤ b ∧ b ≤ 1) ∧ (∀ k, k ≠ 2 → k ≠ 3 → k ≠ 8 → k ≠ 13 → f k = f0 k) ∧ ((∃ (j : Nat) (em : List (Int × Int)), (∀ m r, EiK T n u m b (pos T n j) r → Eith T n u 0 (pos T n i) (preR em r)) ∧ f 2 = 0 ∧ f 3 = f0 3 ∧ j ≤ N ∧ f 8 = j ∧ i + 2 * c < j ∧ (i : Int) + em.length + b ≤ j ∧ f 13 = f0 13 + em.length ∧ cd = emC cd0 (f0 13) em) ∨ (∃ q, Eith T n u 0 (pos T n i) (f 2, q, []) ∧ f 2 ≠ 0 ∧ (0 ≤ f 2 ∧ f 2 < 10) ∧ f 3 = tPl T n q ∧ (0 ≤ f 8 ∧ f 8 ≤ N) ∧ 0 ≤ f 13 ∧ f 13 ≤ 300))
theorem w22 {b x : Int} (h : 0 ≤ b ∧ b ≤ 1) (hx : x = 21 ∨ x = 22) : wlL (x * b) = if b = 0 then [] else [(x, 0)] := by
  rcases (show b = 0 ∨ b = 1 by omega) with e | e <;> subst e <;> rcases hx with z | z <;> subst z <;> decide
section Ec
variable {T : Int → Int} {n u : Int} {N i : Nat} {f0 cd0 f cd f1 cd1 : Int → Int} {b c : Int}
theorem EcI_0 (h : CP T n N i (Ask T n u 0 (pos T n i)) f0 cd0 f cd) : EcI T n u N i f0 cd0 0 0 f cd := by
  obtain ⟨g0, ⟨j, em, g1, g2, g3, g4, g5, g6, g7, g8, g9⟩ | ⟨q, g1, g2, g3⟩⟩ := h
  · refine ⟨by omega, g0, Or.inl ⟨j, em, fun m r hr => ⟨m + 1, ?_⟩, g2, g3, g4, g5, by omega, by omega, g8, g9⟩⟩
    have z := EiK_s (a := 0) g1 hr
    rw [show wlL (21 * 0) = [] by decide, List.append_nil] at z
    exact z
  · exact ⟨by omega, g0, Or.inr ⟨q, ⟨1, EiF_f g1 g2⟩, g2, g3⟩⟩
theorem EcI_q (I : EcI T n u N i f0 cd0 b c f cd) (hN : N ≤ 300) (h13 : 0 ≤ f0 13 ∧ f0 13 ≤ i) (hc : 0 ≤ c) : (0 ≤ f 2 ∧ f 2 < 10) ∧ (0 ≤ f 8 ∧ f 8 ≤ N) ∧ (0 ≤ f 13 ∧ f 13 ≤ 300) ∧ f 7 = f0 7 ∧ f 9 = f0 9 ∧ (0 ≤ b ∧ b ≤ 1) ∧ (f 2 = 0 → c < 300) := by
  obtain ⟨w0, g0, ⟨j, em, g1, g2, g3, g4, g5, g6, g7, g8, g9⟩ | ⟨q, g1, g2, g3, g4, g5, g6⟩⟩ := I
  · exact ⟨by omega, by omega, by omega, g0 7 (by decide) (by decide) (by decide) (by decide), g0 9 (by decide) (by decide) (by decide) (by decide), w0, fun _ => by omega⟩
  · exact ⟨g3, g5, g6, g0 7 (by decide) (by decide) (by decide) (by decide), g0 9 (by decide) (by decide) (by decide) (by decide), w0, fun z => absurd z g2⟩
theorem EcI_end (I : EcI T n u N i f0 cd0 b c f cd) (hc0 : 0 ≤ c) (h0 : f 2 = 0) (hN : N ≤ 300) (h13 : 0 ≤ f0 13 ∧ f0 13 ≤ i) (ht : ∀ j : Nat, j ≤ N → f 8 = j → ¬ isAnd T n (pos T n j) ∧ ¬ isOr T n (pos T n j)) : (b = 0 → CP T n N i (Eith T n u 0 (pos T n i)) f0 cd0 f cd) ∧ (b ≠ 0 → CP T n N i (Eith T n u 0 (pos T n i)) f0 cd0 (emf f) (emc f cd (-31))) := by
  obtain ⟨w0, g0, ⟨j, em, g1, g2, g3, g4, g5, g6, g7, g8, g9⟩ | ⟨q, _, z, _⟩⟩ := I
  · have t := ht j g4 g5
    have e := g1 0 (0, pos T n j, wlL (22 * b)) (by simp only [EiK]; rw [if_neg t.1, if_neg t.2]; trivial)
    rw [preR_0, w22 w0 (Or.inr rfl)] at e
    constructor
    · intro z
      rw [if_pos z, List.append_nil] at e
      exact ⟨g0, Or.inl ⟨j, em, e, g2, g3, g4, g5, by omega, by omega, g8, g9⟩⟩
    · intro z
      rw [if_neg z] at e
      have lt : f 13 < 300 := by omega
      have e1 : emf f = ua f 13 (f 13 + 1) := if_pos lt
      have e2 : emc f cd (-31) = ua cd (f 13) (-31) := if_pos lt
      rw [e1, e2]
      refine ⟨fun k k2 k3 k8 k13 => (ua_ne k13).trans (g0 k k2 k3 k8 k13), Or.inl ⟨j, _, e, ?_, ?_, g4, ?_, by omega, ?_, ?_, ?_⟩⟩
      · rw [ua_ne (by decide)]; exact g2
      · rw [ua_ne (by decide)]; exact g3
      · rw [ua_ne (by decide)]; exact g5
      · rw [List.length_append]; simp; omega
      · rw [ua_same, List.length_append, g8]; simp; omega
      · rw [emC_app, ← g9, g8, emC_1]
        rfl
  · exact absurd h0 z
theorem EcI_fl (I : EcI T n u N i f0 cd0 b c f cd) (h0 : f 2 ≠ 0) : CP T n N i (Eith T n u 0 (pos T n i)) f0 cd0 f cd := by
  obtain ⟨w0, g0, ⟨j, em, g1, g2, _⟩ | g⟩ := I
  · exact absurd g2 h0
  · exact ⟨g0, Or.inr g⟩
theorem EcI_flw {b' c' : Int} (hw : 0 ≤ b' ∧ b' ≤ 1) (h : CP T n N i (Eith T n u 0 (pos T n i)) f0 cd0 f1 cd1) (h0 : f1 2 ≠ 0) : EcI T n u N i f0 cd0 b' c' f1 cd1 := by
  obtain ⟨g0, ⟨j, em, g1, g2, _⟩ | g⟩ := h
  · exact absurd g2 h0
  · exact ⟨hw, g0, Or.inr g⟩
/-- and ASK -/
theorem EcI_and {j : Nat} {em : List (Int × Int)} (hN : N ≤ 300) (h13 : 0 ≤ f0 13 ∧ f0 13 ≤ i) (w0 : 0 ≤ b ∧ b ≤ 1) (g0 : ∀ k, k ≠ 2 → k ≠ 3 → k ≠ 8 → k ≠ 13 → f k = f0 k) (g1 : ∀ m r, EiK T n u m b (pos T n j) r → Eith T n u 0 (pos T n i) (preR em r)) (g3 : f 3 = f0 3) (g6 : i + 2 * c < j) (g7 : (i : Int) + em.length + b ≤ j) (g8 : f 13 = f0 13 + em.length) (g9 : cd = emC cd0 (f0 13) em) (hand : isAnd T n (pos T n j)) (hc : CP T n N (j + 1) (Ask T n u 0 (pos T n (j + 1))) (ua f 8 (f 8 + 1)) cd f1 cd1) : EcI T n u N i f0 cd0 b (c + 1) (emf f1) (emc f1 cd1 (-30)) := by
  obtain ⟨c0, ⟨m, ee, c1, c2, c3, c4, c5, c6, c7, c8, c9⟩ | ⟨q, c1, c2, c3, c4, c5, c6⟩⟩ := hc
  · rw [ua_ne (by decide)] at c3 c8 c9
    have lt : f1 13 < 300 := by omega
    have e1 : emf f1 = ua f1 13 (f1 13 + 1) := if_pos lt
    have e2 : emc f1 cd1 (-30) = ua cd1 (f1 13) (-30) := if_pos lt
    rw [e1, e2]
    refine ⟨w0, fun k k2 k3 k8 k13 => (ua_ne k13).trans ((c0 k k2 k3 k8 k13).trans ((ua_ne k8).trans (g0 k k2 k3 k8 k13))), Or.inl ⟨m, em ++ (ee ++ [(21, 0)]), fun l r hr => ?_, ?_, ?_, c4, ?_, by omega, ?_, ?_, ?_⟩⟩
    · have y := EiK_s (a := 1) c1 hr
      rw [show wlL (21 * 1) = [(21, 0)] by decide] at y
      have z := g1 (l + 1) _ (by simp only [EiK]; rw [if_pos hand]; exact y)
      rw [preR_preR] at z
      exact z
    · rw [ua_ne (by decide)]; exact c2
    · rw [ua_ne (by decide)]; exact c3.trans g3
    · rw [ua_ne (by decide)]; exact c5
    · rw [List.length_append, List.length_append]; simp only [List.length_cons, List.length_nil]; omega
    · rw [ua_same, c8, g8, List.length_append, List.length_append]; simp only [List.length_cons, List.length_nil]; omega
    · rw [emC_app, emC_app, ← g9, ← g8, ← c9, ← c8, emC_1]
      rfl
  · have hx : CP T n N i (Eith T n u 0 (pos T n i)) f0 cd0 f1 cd1 := by
      refine ⟨fun k k2 k3 k8 k13 => (c0 k k2 k3 k8 k13).trans ((ua_ne k8).trans (g0 k k2 k3 k8 k13)), Or.inr ⟨q, ?_, c2, c3, c4, c5, c6⟩⟩
      have z := g1 1 (f1 2, q, []) (by simp only [EiK]; rw [if_pos hand]; exact EiF_f c1 c2)
      rw [preR_f c2] at z
      exact z
    exact EcI_flw w0 (CP_e hx c2) (by rw [emf_k (by decide)]; exact c2)
/-- or ASK -/
theorem EcI_or {j : Nat} {em : List (Int × Int)} {F CD : Int → Int} (w0 : 0 ≤ b ∧ b ≤ 1) (g0 : ∀ k, k ≠ 2 → k ≠ 3 → k ≠ 8 → k ≠ 13 → f k = f0 k) (g1 : ∀ m r, EiK T n u m b (pos T n j) r → Eith T n u 0 (pos T n i) (preR em r)) (g3 : f 3 = f0 3) (g6 : i + 2 * c < j) (g7 : (i : Int) + em.length + b ≤ j) (g8 : f 13 = f0 13 + em.length) (g9 : cd = emC cd0 (f0 13) em) (hna : ¬ isAnd T n (pos T n j)) (hor : isOr T n (pos T n j))
    (hF : (b = 0 ∧ F = ua f 8 (f 8 + 1) ∧ CD = cd) ∨ (b ≠ 0 ∧ F = ua (ua f 8 (f 8 + 1)) 13 (f 13 + 1) ∧ CD = ua cd (f 13) (-31))) (hc : CP T n N (j + 1) (Ask T n u 0 (pos T n (j + 1))) F CD f1 cd1) : EcI T n u N i f0 cd0 1 (c + 1) f1 cd1 := by
  obtain ⟨c0, ⟨m, ee, c1, c2, c3, c4, c5, c6, c7, c8, c9⟩ | ⟨q, c1, c2, c3, c4, c5, c6⟩⟩ := hc
  · have key : ∀ F13 : Int, F 13 = F13 → F 3 = f 3 → (∀ k, k ≠ 2 → k ≠ 3 → k ≠ 8 → k ≠ 13 → F k = f k) → F13 = f0 13 + (em ++ wlL (22 * b)).length → CD = emC cd0 (f0 13) (em ++ wlL (22 * b)) → (i : Int) + (em ++ wlL (22 * b)).length ≤ j → EcI T n u N i f0 cd0 1 (c + 1) f1 cd1 := by
      intro F13 e13 e3 ek e4 e5 e6
      refine ⟨by omega, fun k k2 k3 k8 k13 => (c0 k k2 k3 k8 k13).trans ((ek k k2 k3 k8 k13).trans (g0 k k2 k3 k8 k13)), Or.inl ⟨m, em ++ wlL (22 * b) ++ ee, fun l r hr => ?_, c2, (c3.trans e3).trans g3, c4, c5, by omega, ?_, ?_, ?_⟩⟩
      · have y := EiK_s (a := 0) c1 hr
        rw [show wlL (21 * 0) = [] by decide, List.append_nil] at y
        have z := g1 (l + 1) (preR (wlL (22 * b)) (preR ee r)) (by simp only [EiK]; rw [if_neg hna, if_pos hor]; exact ⟨_, y, rfl⟩)
        rw [preR_preR, preR_preR] at z
        exact z
      · rw [List.length_append]; omega
      · rw [c8, e13, e4, List.length_append (bs := ee)]; omega
      · rw [c9, e13, e4, e5, ← emC_app]
    rcases hF with ⟨z, z1, z2⟩ | ⟨z, z1, z2⟩
    · refine key _ rfl (by rw [z1, ua_ne (by decide)]) (fun k k2 k3 k8 k13 => by rw [z1, ua_ne k8]) ?_ ?_ ?_
      · rw [z1, ua_ne (by decide), g8, w22 w0 (Or.inr rfl), if_pos z, List.append_nil]
      · rw [z2, g9, w22 w0 (Or.inr rfl), if_pos z, List.append_nil]
      · rw [w22 w0 (Or.inr rfl), if_pos z, List.append_nil]; omega
    · refine key _ rfl (by rw [z1, ua_ne (by decide), ua_ne (by decide)]) (fun k k2 k3 k8 k13 => by rw [z1, ua_ne k13, ua_ne k8]) ?_ ?_ ?_
      · rw [z1, ua_same, g8, w22 w0 (Or.inr rfl), if_neg z, List.length_append]; simp; omega
      · rw [z2, w22 w0 (Or.inr rfl), if_neg z, emC_app, ← g9, g8, emC_1]
        rfl
      · rw [w22 w0 (Or.inr rfl), if_neg z, List.length_append]; simp; omega
  · refine ⟨by omega, fun k k2 k3 k8 k13 => ?_, Or.inr ⟨q, ?_, c2, c3, c4, c5, c6⟩⟩
    · rw [c0 k k2 k3 k8 k13]
      rcases hF with ⟨z, z1, z2⟩ | ⟨z, z1, z2⟩
      · rw [z1, ua_ne k8]; exact g0 k k2 k3 k8 k13
      · rw [z1, ua_ne k13, ua_ne k8]; exact g0 k k2 k3 k8 k13
    · have z := g1 1 (preR (wlL (22 * b)) (f1 2, q, [])) (by simp only [EiK]; rw [if_neg hna, if_pos hor]; exact ⟨_, EiF_f c1 c2, rfl⟩)
      rw [preR_f (show (f1 2, q, ([] : List (Int × Int))).1 ≠ 0 from c2), preR_f c2] at z
      exact z
end Ec
def AskC (B : Bs) (S : Stt) (T : Int → Int) (n u : Int) (N d : Nat) : Prop := ∀ (V : Va) (i : Nat), RdH T n N V → RdS (V 277) i N u → C B yX3_readAsk cX3_readAsk 3 none (2 * d + 5) 0 0 [vR B 277, vI (8 - (d : Int))] S V (rCP S V (CP T n N i (Ask T n u (8 - (d : Int)) (pos T n i)) (V 277) (V 283)))
