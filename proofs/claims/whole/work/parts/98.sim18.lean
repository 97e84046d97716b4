/-! BY, RULES, SEEN, FORGET -/
def Hd (a a' : Int → Int) : Prop := ∀ q, (0 ≤ q ∧ q ≤ 3) ∨ q = 5 ∨ (9 ≤ q ∧ q < 126) ∨ 174 ≤ q → a' q = a q
def QSim (V : Va) (b : Nat) (a : Int → Int) : Prop := V (b + 133) 4 = a 6 ∧ V (b + 133) 5 = a 7 ∧ V (b + 133) 6 = a 8 ∧ ∀ s, 0 ≤ s → s < a 6 → V (b + 134) s = a (126 + 4 * s) ∧ V (b + 135) s = a (126 + 4 * s + 1) ∧ V (b + 136) s = a (126 + 4 * s + 2) ∧ V (b + 137) s = a (126 + 4 * s + 3)
def QIv (a : Int → Int) : Prop := ∀ s, 0 ≤ s → s < a 6 → (0 ≤ a (126 + 4 * s) ∧ a (126 + 4 * s) < a 0) ∧ (0 ≤ a (126 + 4 * s + 1) ∧ a (126 + 4 * s + 1) ≤ 19) ∧ (1 ≤ a (126 + 4 * s + 2) ∧ a (126 + 4 * s + 2) ≤ 999) ∧ 0 ≤ a (126 + 4 * s + 3) ∧ a (126 + 4 * s + 3) ≤ 999
theorem WSim_hd {V V' : Va} {a a' : Int → Int} (h : WSim V 1 a) (hM : MIv a) (e : Hd a a') (v : ∀ q : Nat, 2 ≤ q → q ≤ 133 → V' q = V q) (v1 : V' 1 7 = V 1 7) (v2 : V' 1 8 = V 1 8) (v3 : V' 1 9 = a' 4) (v4 : QSim V' 1 a') : WSim V' 1 a' := by
  have i1 := hM.1.2.2.1
  have i0 := hM.1.2.1
  have i5 := hM.1.2.2.2.2.2.1
  have hr := hM.2.2.2.2.2.2.2.2.1
  obtain ⟨e1, e2, e3, e4, e5, e6⟩ := h
  have z0 := e 0 (by omega)
  have z1 := e 1 (by omega)
  have z2 := e 2 (by omega)
  have z3 := e 3 (by omega)
  have z5 := e 5 (by omega)
  refine ⟨⟨by rw [v1, z0]; exact e1.1, by rw [v2, z3]; exact e1.2.1, v3⟩, fun t t0 t1 => ?_, fun x x0 x1 => ?_, ?_, ?_, v4⟩
  · rw [z0] at t1
    rw [v (1 + 1) (by omega) (by omega), v (1 + 2) (by omega) (by omega), e (10 + 2 * t) (by omega), e (10 + 2 * t + 1) (by omega)]
    exact e2 t t0 t1
  · rw [z1] at x1
    rw [v (1 + 3) (by omega) (by omega), e (30 + 6 * x) (by omega)]
    exact e3 x x0 x1
  · rw [z1, z2]
    exact BoSim_g (by omega) (fun x e' x0 x1 f0 f1 => e _ (by omega)) (BoSim_c (fun q q0 q1 => v q (by omega) (by omega)) e4)
  · rw [z5, v (1 + 10) (by omega) (by omega)]
    refine ⟨e5.1, e5.2.1, e5.2.2.1, fun j j0 j1 => ?_⟩
    have h := ringId_r 1 (V (1 + 10) 1) (a 5) j
    have mj := hr j j0 j1
    rw [e (174 + 82 * j) (by omega), e (174 + 82 * j + 1) (by omega)]
    exact BoSim_g (by omega) (fun x e' x0 x1 f0 f1 => e _ (by omega)) (BoSim_c (fun q q0 q1 => v q (by omega) (by omega)) (e5.2.2.2 j j0 j1))
theorem MIv_hd {a a' : Int → Int} (hM : MIv a) (e : Hd a a') (hA : AB a') (h4 : -1 ≤ a' 4 ∧ a' 4 < a 3) (h6 : 0 ≤ a' 6 ∧ a' 6 ≤ 12) (h7 : 0 ≤ a' 7 ∧ a' 7 ≤ 9 ∧ 1 ≤ a' 8 ∧ a' 8 ≤ 99) (hq : QIv a') : MIv a' := by
  obtain ⟨m1, m2, m3, m4, m5, m6, m7, m8, m9, m10⟩ := hM
  obtain ⟨n1, n2, n3, n4, n5, n6, n7⟩ := m1
  have z0 := e 0 (by omega)
  have z1 := e 1 (by omega)
  have z2 := e 2 (by omega)
  have z3 := e 3 (by omega)
  have z5 := e 5 (by omega)
  have gn : ∀ x f, 0 ≤ x → x < 16 → 0 ≤ f → f < 5 → gNow a' x f = gNow a x f := fun x f x0 x1 f0 f1 => e _ (by omega)
  have gr : ∀ j x f, 0 ≤ j → 0 ≤ x → 0 ≤ f → gRec a' j x f = gRec a j x f := fun j x f j0 x0 f0 => e _ (by omega)
  refine ⟨⟨hA, by rw [z0]; exact n2, by rw [z1]; exact n3, by rw [z2]; exact n4, by omega, by rw [z5]; exact n6, fun b b0 b1 => ?_⟩, by rw [z3]; omega, h6, h7, fun t t0 t1 => ?_, fun x x0 x1 => ?_, ?_, fun x x0 x1 => ?_, fun j j0 j1 => ?_, hq⟩
  · rw [e (30 + 6 * b + 5) (by omega)]; exact n7 b b0 b1
  · rw [z0] at t1
    rw [e (10 + 2 * t) (by omega), e (10 + 2 * t + 1) (by omega)]
    exact m5 t t0 t1
  · rw [z1] at x1
    rw [e (30 + 6 * x) (by omega)]
    exact m6 x x0 x1
  · rw [z0, z1]; exact BoOK_c (by omega) gn m7
  · rw [z1] at x0
    rw [gn x 4 (by omega) x1 (by omega) (by omega)]; exact m8 x x0 x1
  · rw [z5] at j1
    obtain ⟨k1, k2, k3, k4⟩ := m9 j j0 j1
    rw [e (174 + 82 * j) (by omega), e (174 + 82 * j + 1) (by omega), z0, z1, z5]
    refine ⟨k1, k2, BoOK_c (by omega) (fun x f x0 x1 f0 f1 => gr j x f j0 x0 f0) k3, fun x x0 x1 => ?_⟩
    rw [gr j x 4 j0 (by omega) (by omega), gn x 4 (by omega) x1 (by omega) (by omega), gr (j + 1) x 4 (by omega) (by omega) (by omega)]
    exact k4 x x0 x1
theorem WB_hd {V V' : Va} (h : WB V 1) (v : ∀ q : Nat, 2 ≤ q → q ≤ 133 → V' q = V q) (h1 : AB (V' 136)) (h2 : ∀ s, 0 ≤ V' 137 s ∧ V' 137 s ≤ 999) (h3 : ∀ s, 0 ≤ V' 138 s ∧ V' 138 s ≤ 999) : WB V' 1 := by
  obtain ⟨w1, w2, w3, w4, w5, w6, w7, w8, w9, w10, w11, w12⟩ := h
  refine ⟨?_, ?_, ?_, ?_, ?_, ?_, ?_, ?_, h1, h2, h3, fun k hk => ?_⟩
  · rw [v (1 + 1) (by omega) (by omega)]; exact w1
  · rw [v (1 + 2) (by omega) (by omega)]; exact w2
  · rw [v (1 + 3) (by omega) (by omega)]; exact w3
  · rw [v (1 + 9) (by omega) (by omega)]; exact w4
  · rw [v (1 + 5) (by omega) (by omega)]; exact w5
  · rw [v (1 + 6) (by omega) (by omega)]; exact w6
  · rw [v (1 + 7) (by omega) (by omega)]; exact w7
  · rw [v (1 + 8) (by omega) (by omega)]; exact w8
  · rw [v _ (by omega) (by omega), v _ (by omega) (by omega), v _ (by omega) (by omega), v _ (by omega) (by omega), v _ (by omega) (by omega), v _ (by omega) (by omega)]
    exact w12 k hk
section SimS
variable {V : Va} {a : Int → Int}
theorem by_s (hW : WSim V 1 a) (hB : WB V 1) (hM : MIv a) (t : Int) : (-1 ≤ t ∧ t < V 1 8 ↔ -1 ≤ t ∧ t ≤ a 3 - 1) ∧ OpR (-1 ≤ t ∧ t ≤ a 3 - 1) (if -1 ≤ t ∧ t ≤ a 3 - 1 then ua a 4 t else a) V (up V 1 (if -1 ≤ t ∧ t < V 1 8 then ua (ua (V 1) 9 t) 10 (V 1 10 + 1) else V 1)) ∧ MIv (if -1 ≤ t ∧ t ≤ a 3 - 1 then ua a 4 t else a) := by
  have w8 : V 1 8 = a 3 := hW.1.2.1
  have hc : -1 ≤ t ∧ t < V 1 8 ↔ -1 ≤ t ∧ t ≤ a 3 - 1 := by omega
  have i3 := hM.2.1
  refine ⟨hc, ?_⟩
  simp only [OpR]
  by_cases c : -1 ≤ t ∧ t ≤ a 3 - 1
  · rw [if_pos c, if_pos (hc.mpr c)]
    have e : Hd a (ua a 4 t) := fun q h => ua_ne (by omega)
    have u : ∀ q : Nat, 2 ≤ q → up V 1 (ua (ua (V 1) 9 t) 10 (V 1 10 + 1)) q = V q := fun q q0 => up_ne (by omega)
    have o : ∀ q, q ≠ 4 → ua a 4 t q = a q := fun q h => ua_ne h
    refine ⟨Or.inl ⟨c, WSim_hd hW hM e (fun q q0 _ => u q q0) rfl rfl ?_ ?_, WB_hd hB (fun q q0 _ => u q q0) hB.2.2.2.2.2.2.2.2.1 hB.2.2.2.2.2.2.2.2.2.1 hB.2.2.2.2.2.2.2.2.2.2.1, fun q q0 _ _ => up_ne (by omega), rfl⟩, MIv_hd hM e (AB_ua hM.1.1 (by omega)) ?_ ?_ ?_ ?_⟩
    · rw [ua_same]; rfl
    · simp only [QSim]
      rw [o 6 (by omega), o 7 (by omega), o 8 (by omega)]
      refine ⟨hW.2.2.2.2.2.1, hW.2.2.2.2.2.2.1, hW.2.2.2.2.2.2.2.1, fun s s0 s1 => ?_⟩
      rw [o _ (by omega), o _ (by omega), o _ (by omega), o _ (by omega)]
      exact hW.2.2.2.2.2.2.2.2 s s0 s1
    · rw [ua_same]; omega
    · rw [o 6 (by omega)]; exact hM.2.2.1
    · rw [o 7 (by omega), o 8 (by omega)]; exact hM.2.2.2.1
    · simp only [QIv]
      rw [o 6 (by omega), o 0 (by omega)]
      intro s s0 s1
      rw [o _ (by omega), o _ (by omega), o _ (by omega), o _ (by omega)]
      exact hM.2.2.2.2.2.2.2.2.2 s s0 s1
  · rw [if_neg c, if_neg (fun z => c (hc.mp z)), up_self]
    exact ⟨Or.inr ⟨c, rfl⟩, hM⟩
theorem rules_s (hW : WSim V 1 a) (hB : WB V 1) (hM : MIv a) (l p : Int) : OpR (0 ≤ l ∧ l ≤ 9 ∧ 1 ≤ p ∧ p ≤ 99) (if 0 ≤ l ∧ l ≤ 9 ∧ 1 ≤ p ∧ p ≤ 99 then ua (ua a 7 l) 8 p else a) V (up (up V 1 (if 0 ≤ l ∧ l ≤ 9 ∧ 1 ≤ p ∧ p ≤ 99 then ua (V 1) 10 (V 1 10 + 1) else V 1)) 134 (if 0 ≤ l ∧ l ≤ 9 ∧ 1 ≤ p ∧ p ≤ 99 then ua (ua (V 134) 5 l) 6 p else V 134)) ∧ MIv (if 0 ≤ l ∧ l ≤ 9 ∧ 1 ≤ p ∧ p ≤ 99 then ua (ua a 7 l) 8 p else a) := by
  simp only [OpR]
  by_cases c : 0 ≤ l ∧ l ≤ 9 ∧ 1 ≤ p ∧ p ≤ 99
  · rw [if_pos c, if_pos c, if_pos c]
    have o : ∀ q, q ≠ 7 → q ≠ 8 → ua (ua a 7 l) 8 p q = a q := fun q h g => by rw [ua_ne g, ua_ne h]
    have e : Hd a (ua (ua a 7 l) 8 p) := fun q h => o q (by omega) (by omega)
    have u : ∀ q : Nat, 2 ≤ q → q ≤ 133 → up (up V 1 (ua (V 1) 10 (V 1 10 + 1))) 134 (ua (ua (V 134) 5 l) 6 p) q = V q := fun q q0 q1 => by rw [up_ne (by omega), up_ne (by omega)]
    refine ⟨Or.inl ⟨c, WSim_hd hW hM e u rfl rfl ?_ ?_, WB_hd hB u hB.2.2.2.2.2.2.2.2.1 hB.2.2.2.2.2.2.2.2.2.1 hB.2.2.2.2.2.2.2.2.2.2.1, fun q q0 _ _ => by rw [up_ne (by omega), up_ne (by omega)], rfl⟩, MIv_hd hM e (AB_ua (AB_ua hM.1.1 (by omega)) (by omega)) ?_ ?_ ?_ ?_⟩
    · rw [o 4 (by omega) (by omega)]; exact hW.1.2.2
    · simp only [QSim]
      rw [o 6 (by omega) (by omega)]
      refine ⟨hW.2.2.2.2.2.1, ?_, ?_, fun s s0 s1 => ?_⟩
      · rw [ua_ne (show (7 : Int) ≠ 8 by omega), ua_same]; rfl
      · rw [ua_same]; rfl
      · rw [o _ (by omega) (by omega), o _ (by omega) (by omega), o _ (by omega) (by omega), o _ (by omega) (by omega)]
        exact hW.2.2.2.2.2.2.2.2 s s0 s1
    · rw [o 4 (by omega) (by omega)]; exact ⟨hM.1.2.2.2.2.1.1, hM.2.1.2.2⟩
    · rw [o 6 (by omega) (by omega)]; exact hM.2.2.1
    · rw [ua_ne (show (7 : Int) ≠ 8 by omega), ua_same, ua_same]; exact c
    · simp only [QIv]
      rw [o 6 (by omega) (by omega), o 0 (by omega) (by omega)]
      intro s s0 s1
      rw [o _ (by omega) (by omega), o _ (by omega) (by omega), o _ (by omega) (by omega), o _ (by omega) (by omega)]
      exact hM.2.2.2.2.2.2.2.2.2 s s0 s1
  · rw [if_neg c, if_neg c, if_neg c, up_self, up_self]
    exact ⟨Or.inr ⟨c, rfl⟩, hM⟩
theorem forget_s (hW : WSim V 1 a) (hB : WB V 1) (hM : MIv a) : OpR True (ua a 6 0) V (up (up V 1 (ua (V 1) 10 (V 1 10 + 1))) 134 (ua (V 134) 4 0)) ∧ MIv (ua a 6 0) := by
  have o : ∀ q, q ≠ 6 → ua a 6 0 q = a q := fun q h => ua_ne h
  have e : Hd a (ua a 6 0) := fun q h => o q (by omega)
  have u : ∀ q : Nat, 2 ≤ q → q ≤ 133 → up (up V 1 (ua (V 1) 10 (V 1 10 + 1))) 134 (ua (V 134) 4 0) q = V q := fun q q0 q1 => by rw [up_ne (by omega), up_ne (by omega)]
  refine ⟨Or.inl ⟨trivial, WSim_hd hW hM e u rfl rfl ?_ ?_, WB_hd hB u hB.2.2.2.2.2.2.2.2.1 hB.2.2.2.2.2.2.2.2.2.1 hB.2.2.2.2.2.2.2.2.2.2.1, fun q q0 _ _ => by rw [up_ne (by omega), up_ne (by omega)], rfl⟩, MIv_hd hM e (AB_ua hM.1.1 (by omega)) ?_ ?_ ?_ ?_⟩
  · rw [o 4 (by omega)]; exact hW.1.2.2
  · simp only [QSim]
    rw [o 7 (by omega), o 8 (by omega), ua_same]
    exact ⟨rfl, hW.2.2.2.2.2.2.1, hW.2.2.2.2.2.2.2.1, fun s s0 s1 => by omega⟩
  · rw [o 4 (by omega)]; exact ⟨hM.1.2.2.2.2.1.1, hM.2.1.2.2⟩
  · rw [ua_same]; omega
  · rw [o 7 (by omega), o 8 (by omega)]; exact hM.2.2.2.1
  · simp only [QIv]
    rw [ua_same]
    intro s s0 s1
    omega
theorem seen_s (hW : WSim V 1 a) (hB : WB V 1) (hM : MIv a) (t k w y : Int) : (cSeenC V t k w y ↔ mSeenC a t k w y) ∧ OpR (mSeenC a t k w y) (if mSeenC a t k w y then mSeenA a t k w y else a) V (cSeenF V t k w y) ∧ MIv (if mSeenC a t k w y then mSeenA a t k w y else a) := by
  have w7 : V 1 7 = a 0 := hW.1.1
  have q4 : V 134 4 = a 6 := hW.2.2.2.2.2.1
  have i6 := hM.2.2.1
  have i0 := hM.1.2.1
  have hc : cSeenC V t k w y ↔ mSeenC a t k w y := by simp only [cSeenC, mSeenC, cTownOk, mTownOk]; omega
  refine ⟨hc, ?_⟩
  simp only [OpR, cSeenF]
  by_cases c : mSeenC a t k w y
  · rw [if_pos c, if_pos (hc.mpr c)]
    have cc := c
    simp only [mSeenC, mTownOk] at cc
    simp only [mSeenA]
    rw [q4]
    obtain ⟨n, hn⟩ : ∃ n, n = a 6 := ⟨_, rfl⟩
    rw [← hn] at i6 cc q4 ⊢
    have o : ∀ q, q ≠ 6 → (q < 126 + 4 * n ∨ 126 + 4 * n + 3 < q) → ua (ua (ua (ua (ua a (126 + 4 * n) t) (126 + 4 * n + 1) k) (126 + 4 * n + 2) w) (126 + 4 * n + 3) y) 6 (n + 1) q = a q := fun q h g => by rw [ua_ne h, ua_ne (by omega), ua_ne (by omega), ua_ne (by omega), ua_ne (by omega)]
    have z6 : ua (ua (ua (ua (ua a (126 + 4 * n) t) (126 + 4 * n + 1) k) (126 + 4 * n + 2) w) (126 + 4 * n + 3) y) 6 (n + 1) 6 = n + 1 := ua_same _ _ _
    have za : ua (ua (ua (ua (ua a (126 + 4 * n) t) (126 + 4 * n + 1) k) (126 + 4 * n + 2) w) (126 + 4 * n + 3) y) 6 (n + 1) (126 + 4 * n) = t := by rw [ua_ne (by omega), ua_ne (by omega), ua_ne (by omega), ua_ne (by omega), ua_same]
    have zb : ua (ua (ua (ua (ua a (126 + 4 * n) t) (126 + 4 * n + 1) k) (126 + 4 * n + 2) w) (126 + 4 * n + 3) y) 6 (n + 1) (126 + 4 * n + 1) = k := by rw [ua_ne (by omega), ua_ne (by omega), ua_ne (by omega), ua_same]
    have zc : ua (ua (ua (ua (ua a (126 + 4 * n) t) (126 + 4 * n + 1) k) (126 + 4 * n + 2) w) (126 + 4 * n + 3) y) 6 (n + 1) (126 + 4 * n + 2) = w := by rw [ua_ne (by omega), ua_ne (by omega), ua_same]
    have zd : ua (ua (ua (ua (ua a (126 + 4 * n) t) (126 + 4 * n + 1) k) (126 + 4 * n + 2) w) (126 + 4 * n + 3) y) 6 (n + 1) (126 + 4 * n + 3) = y := by rw [ua_ne (by omega), ua_same]
    have hA : AB (ua (ua (ua (ua (ua a (126 + 4 * n) t) (126 + 4 * n + 1) k) (126 + 4 * n + 2) w) (126 + 4 * n + 3) y) 6 (n + 1)) := AB_ua (AB_ua (AB_ua (AB_ua (AB_ua hM.1.1 (by omega)) (by omega)) (by omega)) (by omega)) (by omega)
    generalize ua (ua (ua (ua (ua a (126 + 4 * n) t) (126 + 4 * n + 1) k) (126 + 4 * n + 2) w) (126 + 4 * n + 3) y) 6 (n + 1) = a' at *
    have e : Hd a a' := fun q h => o q (by omega) (by omega)
    have u : ∀ q : Nat, 2 ≤ q → q ≤ 133 → up (up (up (up (up (up V 1 (ua (V 1) 10 (V 1 10 + 1))) 134 (ua (V 134) 4 (n + 1))) 135 (ua (V 135) n t)) 136 (ua (V 136) n k)) 137 (ua (V 137) n w)) 138 (ua (V 138) n y) q = V q := fun q q0 q1 => by rw [up_ne (by omega), up_ne (by omega), up_ne (by omega), up_ne (by omega), up_ne (by omega), up_ne (by omega)]
    have b1 := hB.2.2.2.2.2.2.2.2.1
    have b2 := hB.2.2.2.2.2.2.2.2.2.1
    have b3 := hB.2.2.2.2.2.2.2.2.2.2.1
    refine ⟨Or.inl ⟨c, WSim_hd hW hM e u rfl rfl ?_ ?_, WB_hd hB u (AB_ua b1 (by omega)) (fun s => ?_) (fun s => ?_), fun q q0 _ _ => by rw [up_ne (by omega), up_ne (by omega), up_ne (by omega), up_ne (by omega), up_ne (by omega), up_ne (by omega)], rfl⟩, MIv_hd hM e hA ?_ ?_ ?_ ?_⟩
    · rw [o 4 (by omega) (by omega)]; exact hW.1.2.2
    · simp only [QSim]
      rw [z6, o 7 (by omega) (by omega), o 8 (by omega) (by omega)]
      refine ⟨rfl, hW.2.2.2.2.2.2.1, hW.2.2.2.2.2.2.2.1, fun s s0 s1 => ?_⟩
      show ua (V 135) n t s = _ ∧ ua (V 136) n k s = _ ∧ ua (V 137) n w s = _ ∧ ua (V 138) n y s = _
      by_cases cs : s = n
      · rw [cs, ua_same, ua_same, ua_same, ua_same, za, zb, zc, zd]; exact ⟨rfl, rfl, rfl, rfl⟩
      · rw [ua_ne cs, ua_ne cs, ua_ne cs, ua_ne cs, o _ (by omega) (by omega), o _ (by omega) (by omega), o _ (by omega) (by omega), o _ (by omega) (by omega)]
        exact hW.2.2.2.2.2.2.2.2 s s0 (by omega)
    · show 0 ≤ ua (V 137) n w s ∧ ua (V 137) n w s ≤ 999
      by_cases cs : s = n
      · rw [cs, ua_same]; omega
      · rw [ua_ne cs]; exact b2 s
    · show 0 ≤ ua (V 138) n y s ∧ ua (V 138) n y s ≤ 999
      by_cases cs : s = n
      · rw [cs, ua_same]; omega
      · rw [ua_ne cs]; exact b3 s
    · rw [o 4 (by omega) (by omega)]; exact ⟨hM.1.2.2.2.2.1.1, hM.2.1.2.2⟩
    · rw [z6]; omega
    · rw [o 7 (by omega) (by omega), o 8 (by omega) (by omega)]; exact hM.2.2.2.1
    · simp only [QIv]
      rw [z6, o 0 (by omega) (by omega)]
      intro s s0 s1
      by_cases cs : s = n
      · rw [cs, za, zb, zc, zd]; omega
      · rw [o _ (by omega) (by omega), o _ (by omega) (by omega), o _ (by omega) (by omega), o _ (by omega) (by omega)]
        exact hM.2.2.2.2.2.2.2.2.2 s s0 (by omega)
  · rw [if_neg c, if_neg (fun z => c (hc.mp z))]
    exact ⟨Or.inr ⟨c, rfl⟩, hM⟩
end SimS
