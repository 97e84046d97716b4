/-! towns, bones, what is seen, the text that rules -/
def FrM (V V' : Va) : Prop := ∀ q : Nat, q = 0 ∨ 138 < q → q ≠ 287 → q ≠ 288 → V' q = V q
def OpR (C : Prop) (a' : Int → Int) (V V' : Va) : Prop := (C ∧ WSim V' 1 a' ∧ WB V' 1 ∧ FrM V V' ∧ V' 1 10 = V 1 10 + 1) ∨ (¬ C ∧ V' = V)
theorem StpR_Op {C : Prop} {a' : Int → Int} {V V' : Va} (h : StpR C a' V V') : OpR C a' V V' := by
  rcases h with h | h
  · exact Or.inl ⟨h.1, h.2.1, h.2.2.1, fun q q0 q1 q2 => h.2.2.2.1 q (by omega) q1 q2, h.2.2.2.2⟩
  · exact Or.inr h
theorem BoOK_n {n m told : Int} {g : Int → Int → Int} (h : n ≤ m) (k : BoOK n told g) : BoOK m told g := fun x x0 x1 => by
  have e := k x x0 x1
  have p := p2_le h
  omega
section Ops4
variable {V : Va} {a : Int → Int}
theorem town_s (hW : WSim V 1 a) (hB : WB V 1) (hM : MIv a) (x y : Int) : (cTownC V x y ↔ 0 ≤ x ∧ x ≤ 99 ∧ 0 ≤ y ∧ y ≤ 99 ∧ a 0 ≠ 10) ∧ OpR (0 ≤ x ∧ x ≤ 99 ∧ 0 ≤ y ∧ y ≤ 99 ∧ a 0 ≠ 10) (mTownF a x y) V (cTownF V x y) ∧ MIv (mTownF a x y) := by
  have w7 : V 1 7 = a 0 := hW.1.1
  have i0 := hM.1.2.1
  have i1 := hM.1.2.2.1
  have hc : cTownC V x y ↔ 0 ≤ x ∧ x ≤ 99 ∧ 0 ≤ y ∧ y ≤ 99 ∧ a 0 ≠ 10 := by simp only [cTownC]; omega
  refine ⟨hc, ?_⟩
  simp only [mTownF, cTownF, OpR]
  by_cases c : 0 ≤ x ∧ x ≤ 99 ∧ 0 ≤ y ∧ y ≤ 99 ∧ a 0 ≠ 10
  · rw [if_pos c, if_pos (hc.mpr c)]
    obtain ⟨n, hn⟩ : ∃ n, n = a 0 := ⟨_, rfl⟩
    rw [w7, ← hn]
    rw [← hn] at i0
    have o : ∀ q, q ≠ 0 → q ≠ 10 + 2 * n → q ≠ 10 + 2 * n + 1 → ua (ua (ua a (10 + 2 * n) x) (10 + 2 * n + 1) y) 0 (n + 1) q = a q := fun q q0 q1 q2 => by rw [ua_ne q0, ua_ne q2, ua_ne q1]
    have z0 : ua (ua (ua a (10 + 2 * n) x) (10 + 2 * n + 1) y) 0 (n + 1) 0 = n + 1 := ua_same _ _ _
    have zx : ua (ua (ua a (10 + 2 * n) x) (10 + 2 * n + 1) y) 0 (n + 1) (10 + 2 * n) = x := by rw [ua_ne (by omega), ua_ne (by omega), ua_same]
    have zy : ua (ua (ua a (10 + 2 * n) x) (10 + 2 * n + 1) y) 0 (n + 1) (10 + 2 * n + 1) = y := by rw [ua_ne (by omega), ua_same]
    generalize ua (ua (ua a (10 + 2 * n) x) (10 + 2 * n + 1) y) 0 (n + 1) = a' at *
    have lo : ∀ q, 1 ≤ q → q < 10 → a' q = a q := fun q q0 q1 => o q (by omega) (by omega) (by omega)
    have hi : ∀ q, 30 ≤ q → a' q = a q := fun q q0 => o q (by omega) (by omega) (by omega)
    have gn : ∀ x e, 0 ≤ x → x < 16 → 0 ≤ e → e < 5 → gNow a' x e = gNow a x e := fun x e x0 x1 e0 e1 => hi _ (by omega)
    have gr : ∀ j x e, 0 ≤ j → 0 ≤ x → 0 ≤ e → gRec a' j x e = gRec a j x e := fun j x e j0 x0 e0 => hi _ (by omega)
    obtain ⟨e1, e2, e3, e4, e5, e6⟩ := hW
    obtain ⟨m1, m2, m3, m4, m5, m6, m7, m8, m9, m10⟩ := hM
    obtain ⟨n1, n2, n3, n4, n5, n6, n7⟩ := m1
    have r : ∀ q : Nat, q ≠ 1 → q ≠ 2 → q ≠ 3 → up (up (up V 1 (ua (ua (V 1) 10 (V 1 10 + 1)) 7 (n + 1))) 2 (ua (V 2) n x)) 3 (ua (V 3) n y) q = V q := fun q q1 q2 q3 => by rw [up_ne q3, up_ne q2, up_ne q1]
    refine ⟨Or.inl ⟨by rw [hn]; exact c, ⟨?_, ?_, ?_, ?_, ?_, ?_⟩, ?_, fun q q0 q1 q2 => r q (by omega) (by omega) (by omega), rfl⟩, ⟨⟨?_, ?_, ?_, ?_, ?_, ?_, ?_⟩, ?_, ?_, ?_, ?_, ?_, ?_, ?_, ?_, ?_⟩⟩
    · refine ⟨?_, ?_, ?_⟩
      · rw [z0]; rfl
      · rw [lo 3 (by omega) (by omega)]; exact e1.2.1
      · rw [lo 4 (by omega) (by omega)]; exact e1.2.2
    · rw [z0]
      intro t t0 t1
      show ua (V 2) n x t = _ ∧ ua (V 3) n y t = _
      by_cases ct : t = n
      · rw [ct, ua_same, ua_same, zx, zy]; exact ⟨rfl, rfl⟩
      · rw [ua_ne ct, ua_ne ct, o _ (by omega) (by omega) (by omega), o _ (by omega) (by omega) (by omega)]
        exact e2 t t0 (by omega)
    · rw [lo 1 (by omega) (by omega)]
      intro x x0 x1
      rw [hi _ (by omega)]; exact e3 x x0 x1
    · rw [lo 1 (by omega) (by omega), lo 2 (by omega) (by omega)]
      exact BoSim_g (by omega) gn e4
    · rw [lo 5 (by omega) (by omega), r (1 + 10) (by omega) (by omega) (by omega)]
      refine ⟨e5.1, e5.2.1, e5.2.2.1, fun j j0 j1 => ?_⟩
      have h := ringId_r 1 (V (1 + 10) 1) (a 5) j
      have mj := m9 j j0 j1
      rw [hi _ (by omega), hi _ (by omega)]
      exact BoSim_g (by omega) (fun x e x0 x1 e0 e1 => gr j x e j0 x0 e0) (BoSim_c (fun q q0 q1 => r q (by omega) (by omega) (by omega)) (e5.2.2.2 j j0 j1))
    · rw [lo 6 (by omega) (by omega), lo 7 (by omega) (by omega), lo 8 (by omega) (by omega)]
      refine ⟨e6.1, e6.2.1, e6.2.2.1, fun s s0 s1 => ?_⟩
      rw [hi _ (by omega), hi _ (by omega), hi _ (by omega), hi _ (by omega)]
      exact e6.2.2.2 s s0 s1
    · obtain ⟨w1, w2, w3, w4, w5, w6, w7', w8, w9, w10, w11, w12⟩ := hB
      refine ⟨AB_ua w1 (by omega), AB_ua w2 (by omega), w3, w4, w5, w6, w7', w8, w9, w10, w11, fun k hk => ?_⟩
      rw [r _ (by omega) (by omega) (by omega), r _ (by omega) (by omega) (by omega), r _ (by omega) (by omega) (by omega), r _ (by omega) (by omega) (by omega), r _ (by omega) (by omega) (by omega), r _ (by omega) (by omega) (by omega)]
      exact w12 k hk
    · intro q
      by_cases c0 : q = 0
      · rw [c0, z0]; omega
      by_cases c1 : q = 10 + 2 * n
      · rw [c1, zx]; omega
      by_cases c2 : q = 10 + 2 * n + 1
      · rw [c2, zy]; omega
      rw [o q c0 c1 c2]; exact n1 q
    · rw [z0]; omega
    · rw [lo 1 (by omega) (by omega)]; exact n3
    · rw [lo 2 (by omega) (by omega)]; exact n4
    · rw [lo 4 (by omega) (by omega)]; exact n5
    · rw [lo 5 (by omega) (by omega)]; exact n6
    · intro b b0 b1
      rw [hi _ (by omega)]; exact n7 b b0 b1
    · rw [lo 3 (by omega) (by omega), lo 4 (by omega) (by omega)]; exact m2
    · rw [lo 6 (by omega) (by omega)]; exact m3
    · rw [lo 7 (by omega) (by omega), lo 8 (by omega) (by omega)]; exact m4
    · rw [z0]
      intro t t0 t1
      by_cases ct : t = n
      · rw [ct, zx, zy]; omega
      · rw [o _ (by omega) (by omega) (by omega), o _ (by omega) (by omega) (by omega)]
        exact m5 t t0 (by omega)
    · rw [lo 1 (by omega) (by omega)]
      intro x x0 x1
      rw [hi _ (by omega)]; exact m6 x x0 x1
    · rw [z0, lo 1 (by omega) (by omega)]
      exact BoOK_c (by omega) gn (BoOK_n (by omega) m7)
    · rw [lo 1 (by omega) (by omega)]
      intro x x0 x1
      rw [gn x 4 (by omega) x1 (by omega) (by omega)]; exact m8 x x0 x1
    · rw [lo 5 (by omega) (by omega), z0, lo 1 (by omega) (by omega)]
      intro j j0 j1
      rw [hi _ (by omega), hi _ (by omega)]
      obtain ⟨q1, q2, q3, q4⟩ := m9 j j0 j1
      refine ⟨q1, q2, BoOK_c (by omega) (fun x e x0 x1 e0 e1 => gr j x e j0 x0 e0) (BoOK_n (by omega) q3), fun x x0 x1 => ?_⟩
      rw [gr j x 4 j0 (by omega) (by omega), gr (j + 1) x 4 (by omega) (by omega) (by omega), gn x 4 (by omega) x1 (by omega) (by omega)]
      exact q4 x x0 x1
    · rw [lo 6 (by omega) (by omega), z0]
      intro s s0 s1
      rw [hi _ (by omega), hi _ (by omega), hi _ (by omega), hi _ (by omega)]
      have := m10 s s0 s1
      exact ⟨by omega, this.2⟩
  · rw [if_neg c, if_neg (fun z => c (hc.mp z))]
    exact ⟨Or.inr ⟨c, rfl⟩, hM⟩
theorem bone_s (hW : WSim V 1 a) (hB : WB V 1) (hM : MIv a) (sort weight owner : Int) : (cBoneC V sort weight owner ↔ mBoneC a sort weight owner) ∧ OpR (mBoneC a sort weight owner) (mBoneF a sort weight owner) V (cBoneF V sort weight owner) ∧ MIv (mBoneF a sort weight owner) := by
  have w7 : V 1 7 = a 0 := hW.1.1
  have w5 : V 5 5 = a 1 := hW.2.2.2.1.1
  have i0 := hM.1.2.1
  have i1 := hM.1.2.2.1
  have hc : cBoneC V sort weight owner ↔ mBoneC a sort weight owner := by simp only [cBoneC, mBoneC, cTownOk]; omega
  refine ⟨hc, ?_⟩
  simp only [mBoneF, cBoneF, mBoneA, OpR]
  by_cases c : mBoneC a sort weight owner
  · rw [if_pos c, if_pos (hc.mpr c)]
    obtain ⟨c1, c2, c3, c4, c5, c6, c7⟩ := id c
    obtain ⟨n, hn⟩ : ∃ n, n = a 1 := ⟨_, rfl⟩
    rw [w5, ← hn]
    rw [← hn] at i1 c7
    have o : ∀ q, q ≠ 1 → q < 30 + 6 * n ∨ 30 + 6 * n + 5 < q → ua (ua (ua (ua (ua (ua (ua a (30 + 6 * n) sort) (30 + 6 * n + 1) weight) (30 + 6 * n + 2) owner) (30 + 6 * n + 3) owner) (30 + 6 * n + 4) (-1)) (30 + 6 * n + 5) 0) 1 (n + 1) q = a q := fun q q0 q1 => by rw [ua_ne q0, ua_ne (by omega), ua_ne (by omega), ua_ne (by omega), ua_ne (by omega), ua_ne (by omega), ua_ne (by omega)]
    have z1 : ua (ua (ua (ua (ua (ua (ua a (30 + 6 * n) sort) (30 + 6 * n + 1) weight) (30 + 6 * n + 2) owner) (30 + 6 * n + 3) owner) (30 + 6 * n + 4) (-1)) (30 + 6 * n + 5) 0) 1 (n + 1) 1 = n + 1 := ua_same _ _ _
    have y0 : ua (ua (ua (ua (ua (ua (ua a (30 + 6 * n) sort) (30 + 6 * n + 1) weight) (30 + 6 * n + 2) owner) (30 + 6 * n + 3) owner) (30 + 6 * n + 4) (-1)) (30 + 6 * n + 5) 0) 1 (n + 1) (30 + 6 * n) = sort := by rw [ua_ne (by omega), ua_ne (by omega), ua_ne (by omega), ua_ne (by omega), ua_ne (by omega), ua_ne (by omega), ua_same]
    have y1 : ua (ua (ua (ua (ua (ua (ua a (30 + 6 * n) sort) (30 + 6 * n + 1) weight) (30 + 6 * n + 2) owner) (30 + 6 * n + 3) owner) (30 + 6 * n + 4) (-1)) (30 + 6 * n + 5) 0) 1 (n + 1) (30 + 6 * n + 1) = weight := by rw [ua_ne (by omega), ua_ne (by omega), ua_ne (by omega), ua_ne (by omega), ua_ne (by omega), ua_same]
    have y2 : ua (ua (ua (ua (ua (ua (ua a (30 + 6 * n) sort) (30 + 6 * n + 1) weight) (30 + 6 * n + 2) owner) (30 + 6 * n + 3) owner) (30 + 6 * n + 4) (-1)) (30 + 6 * n + 5) 0) 1 (n + 1) (30 + 6 * n + 2) = owner := by rw [ua_ne (by omega), ua_ne (by omega), ua_ne (by omega), ua_ne (by omega), ua_same]
    have y3 : ua (ua (ua (ua (ua (ua (ua a (30 + 6 * n) sort) (30 + 6 * n + 1) weight) (30 + 6 * n + 2) owner) (30 + 6 * n + 3) owner) (30 + 6 * n + 4) (-1)) (30 + 6 * n + 5) 0) 1 (n + 1) (30 + 6 * n + 3) = owner := by rw [ua_ne (by omega), ua_ne (by omega), ua_ne (by omega), ua_same]
    have y4 : ua (ua (ua (ua (ua (ua (ua a (30 + 6 * n) sort) (30 + 6 * n + 1) weight) (30 + 6 * n + 2) owner) (30 + 6 * n + 3) owner) (30 + 6 * n + 4) (-1)) (30 + 6 * n + 5) 0) 1 (n + 1) (30 + 6 * n + 4) = -1 := by rw [ua_ne (by omega), ua_ne (by omega), ua_same]
    have y5 : ua (ua (ua (ua (ua (ua (ua a (30 + 6 * n) sort) (30 + 6 * n + 1) weight) (30 + 6 * n + 2) owner) (30 + 6 * n + 3) owner) (30 + 6 * n + 4) (-1)) (30 + 6 * n + 5) 0) 1 (n + 1) (30 + 6 * n + 5) = 0 := by rw [ua_ne (by omega), ua_same]
    generalize ua (ua (ua (ua (ua (ua (ua a (30 + 6 * n) sort) (30 + 6 * n + 1) weight) (30 + 6 * n + 2) owner) (30 + 6 * n + 3) owner) (30 + 6 * n + 4) (-1)) (30 + 6 * n + 5) 0) 1 (n + 1) = a' at *
    have lo : ∀ q, q ≠ 1 → q < 30 → a' q = a q := fun q q0 q1 => o q q0 (by omega)
    have hi : ∀ q, 126 ≤ q → a' q = a q := fun q q0 => o q (by omega) (by omega)
    have gn : ∀ x e, 0 ≤ x → x ≠ n → 0 ≤ e → e < 5 → gNow a' x e = gNow a x e := fun x e x0 x1 e0 e1 => o _ (by omega) (by omega)
    have g0 : gNow a' n 0 = weight := (congrArg a' (by omega)).trans y1
    have g1 : gNow a' n 1 = owner := (congrArg a' (by omega)).trans y2
    have g2 : gNow a' n 2 = owner := (congrArg a' (by omega)).trans y3
    have g3 : gNow a' n 3 = -1 := (congrArg a' (by omega)).trans y4
    have g4 : gNow a' n 4 = 0 := (congrArg a' (by omega)).trans y5
    have gz : ∀ x, 0 ≤ x → x < 16 → gNow a x 4 = 0 → gNow a' x 4 = 0 := fun x x0 x1 z => by
      by_cases cx : x = n
      · rw [cx]; exact g4
      · rw [gn x 4 x0 cx (by omega) (by omega)]; exact z
    have gr : ∀ j x e, 0 ≤ j → 0 ≤ x → 0 ≤ e → gRec a' j x e = gRec a j x e := fun j x e j0 x0 e0 => hi _ (by omega)
    obtain ⟨e1, e2, e3, e4, e5, e6⟩ := hW
    obtain ⟨m1, m2, m3, m4, m5, m6, m7, m8, m9, m10⟩ := hM
    obtain ⟨n1, n2, n3, n4, n5, n6, n7⟩ := m1
    rw [← hn] at e3 e4 m6 m7 m8 m9
    obtain ⟨k1, k2, k3, k4⟩ := e4
    have hp := p2_le (show n ≤ n + 1 by omega)
    obtain ⟨V', hV'⟩ : ∃ V' : Va, V' = up (up (up (up (up (up (up V 1 (ua (V 1) 10 (V 1 10 + 1))) 4 (ua (V 4) n sort)) 5 (ua (V 5) 5 (n + 1))) 6 (ua (V 6) n weight)) 7 (ua (V 7) n owner)) 8 (ua (V 8) n owner)) 9 (ua (V 9) n (-1)) := ⟨_, rfl⟩
    rw [← hV']
    have r : ∀ q : Nat, q ≠ 1 → q < 4 ∨ 9 < q → V' q = V q := fun q q1 q2 => by rw [hV', up_ne (by omega), up_ne (by omega), up_ne (by omega), up_ne (by omega), up_ne (by omega), up_ne (by omega), up_ne (by omega)]
    have v1 : V' 1 = ua (V 1) 10 (V 1 10 + 1) := by rw [hV']; rfl
    have v4 : V' 4 = ua (V 4) n sort := by rw [hV']; rfl
    have v5 : V' 5 = ua (V 5) 5 (n + 1) := by rw [hV']; rfl
    have v6 : V' 6 = ua (V 6) n weight := by rw [hV']; rfl
    have v7 : V' 7 = ua (V 7) n owner := by rw [hV']; rfl
    have v8 : V' 8 = ua (V 8) n owner := by rw [hV']; rfl
    have v9 : V' 9 = ua (V 9) n (-1) := by rw [hV']; rfl
    refine ⟨Or.inl ⟨c, ⟨?_, ?_, ?_, ?_, ?_, ?_⟩, ?_, fun q q0 q1 q2 => r q (by omega) (by omega), by rw [v1, ua_same]⟩, ⟨⟨?_, ?_, ?_, ?_, ?_, ?_, ?_⟩, ?_, ?_, ?_, ?_, ?_, ?_, ?_, ?_, ?_⟩⟩
    · rw [v1, ua_ne (by omega), ua_ne (by omega), ua_ne (by omega), lo 0 (by omega) (by omega), lo 3 (by omega) (by omega), lo 4 (by omega) (by omega)]
      exact e1
    · rw [lo 0 (by omega) (by omega), r (1 + 1) (by omega) (by omega), r (1 + 2) (by omega) (by omega)]
      intro t t0 t1
      rw [lo _ (by omega) (by omega), lo _ (by omega) (by omega)]
      exact e2 t t0 t1
    · rw [z1]
      intro x x0 x1
      show V' 4 x = _
      rw [v4]
      by_cases cx : x = n
      · rw [cx, ua_same, y0]
      · rw [ua_ne cx, o _ (by omega) (by omega)]; exact e3 x x0 (by omega)
    · rw [z1, lo 2 (by omega) (by omega)]
      refine ⟨?_, ?_, fun x x0 x1 => ?_, fun t t0 t1 => ?_⟩
      · show V' 5 5 = _
        rw [v5, ua_same]
      · show V' 5 6 = _
        rw [v5, ua_ne (by omega)]; exact k2
      · show V' 6 x = _ ∧ V' 7 x = _ ∧ V' 8 x = _ ∧ V' 9 x = _
        rw [v6, v7, v8, v9]
        by_cases cx : x = n
        · rw [cx, ua_same, ua_same, ua_same, ua_same, g0, g1, g2, g3]
          exact ⟨rfl, rfl, rfl, rfl⟩
        · rw [ua_ne cx, ua_ne cx, ua_ne cx, ua_ne cx, gn x 0 x0 cx (by omega) (by omega), gn x 1 x0 cx (by omega) (by omega), gn x 2 x0 cx (by omega) (by omega), gn x 3 x0 cx (by omega) (by omega)]
          exact k3 x x0 (by omega)
      · show 0 ≤ V' 10 t ∧ V' 10 t < _ ∧ ∀ x, 0 ≤ x → x < n + 1 → V' 10 t / p2 x % 2 = _
        rw [r 10 (by omega) (by omega)]
        have k := k4 t t0 t1
        have ka : 0 ≤ V 10 t := k.1
        have kb : V 10 t < p2 n := k.2.1
        refine ⟨ka, by omega, fun x x0 x1 => ?_⟩
        by_cases cx : x = n
        · rw [cx, g4, div_p2_0 ka kb (by omega), Int.zero_ediv]; rfl
        · rw [gn x 4 x0 cx (by omega) (by omega)]; exact k.2.2 x x0 (by omega)
    · rw [lo 5 (by omega) (by omega), r (1 + 10) (by omega) (by omega)]
      refine ⟨e5.1, e5.2.1, e5.2.2.1, fun j j0 j1 => ?_⟩
      have h := ringId_r 1 (V (1 + 10) 1) (a 5) j
      have mj := m9 j j0 j1
      rw [hi _ (by omega), hi _ (by omega)]
      exact BoSim_g (by omega) (fun x e x0 x1 e0 e1 => gr j x e j0 x0 e0) (BoSim_c (fun q q0 q1 => r q (by omega) (by omega)) (e5.2.2.2 j j0 j1))
    · rw [lo 6 (by omega) (by omega), lo 7 (by omega) (by omega), lo 8 (by omega) (by omega), r (1 + 133) (by omega) (by omega), r (1 + 134) (by omega) (by omega), r (1 + 135) (by omega) (by omega), r (1 + 136) (by omega) (by omega), r (1 + 137) (by omega) (by omega)]
      refine ⟨e6.1, e6.2.1, e6.2.2.1, fun s s0 s1 => ?_⟩
      rw [hi _ (by omega), hi _ (by omega), hi _ (by omega), hi _ (by omega)]
      exact e6.2.2.2 s s0 s1
    · obtain ⟨w1, w2, w3, w4, w5, w6, w7', w8, w9, w10, w11, w12⟩ := hB
      refine ⟨?_, ?_, ?_, ?_, ?_, ?_, ?_, ?_, ?_, ?_, ?_, fun k hk => ?_⟩
      · rw [r (1 + 1) (by omega) (by omega)]; exact w1
      · rw [r (1 + 2) (by omega) (by omega)]; exact w2
      · show AB (V' 4)
        rw [v4]; exact AB_ua w3 (by omega)
      · rw [r (1 + 9) (by omega) (by omega)]; exact w4
      · show AB (V' 6)
        rw [v6]; exact AB_ua w5 (by omega)
      · show AB (V' 7)
        rw [v7]; exact AB_ua w6 (by omega)
      · show AB (V' 8)
        rw [v8]; exact AB_ua w7' (by omega)
      · show AB (V' 9)
        rw [v9]; exact AB_ua w8 (by omega)
      · rw [r (1 + 135) (by omega) (by omega)]; exact w9
      · rw [r (1 + 136) (by omega) (by omega)]; exact w10
      · rw [r (1 + 137) (by omega) (by omega)]; exact w11
      · rw [r _ (by omega) (by omega), r _ (by omega) (by omega), r _ (by omega) (by omega), r _ (by omega) (by omega), r _ (by omega) (by omega), r _ (by omega) (by omega)]
        exact w12 k hk
    · intro q
      by_cases b1 : q = 1
      · rw [b1, z1]; omega
      by_cases b2 : q = 30 + 6 * n
      · rw [b2, y0]; omega
      by_cases b3 : q = 30 + 6 * n + 1
      · rw [b3, y1]; omega
      by_cases b4 : q = 30 + 6 * n + 2
      · rw [b4, y2]; omega
      by_cases b5 : q = 30 + 6 * n + 3
      · rw [b5, y3]; omega
      by_cases b6 : q = 30 + 6 * n + 4
      · rw [b6, y4]; omega
      by_cases b7 : q = 30 + 6 * n + 5
      · rw [b7, y5]; omega
      rw [o q b1 (by omega)]; exact n1 q
    · rw [lo 0 (by omega) (by omega)]; exact n2
    · rw [z1]; omega
    · rw [lo 2 (by omega) (by omega)]; exact n4
    · rw [lo 4 (by omega) (by omega)]; exact n5
    · rw [lo 5 (by omega) (by omega)]; exact n6
    · intro b b0 b1
      by_cases cb : b = n
      · rw [cb, y5]; omega
      · rw [o _ (by omega) (by omega)]; exact n7 b b0 b1
    · rw [lo 3 (by omega) (by omega), lo 4 (by omega) (by omega)]; exact m2
    · rw [lo 6 (by omega) (by omega)]; exact m3
    · rw [lo 7 (by omega) (by omega), lo 8 (by omega) (by omega)]; exact m4
    · rw [lo 0 (by omega) (by omega)]
      intro t t0 t1
      rw [lo _ (by omega) (by omega), lo _ (by omega) (by omega)]; exact m5 t t0 t1
    · rw [z1]
      intro x x0 x1
      by_cases cx : x = n
      · rw [cx, y0]; omega
      · rw [o _ (by omega) (by omega)]; exact m6 x x0 (by omega)
    · rw [lo 0 (by omega) (by omega), z1]
      intro x x0 x1
      by_cases cx : x = n
      · rw [cx, g0, g1, g2, g3, g4]
        have := p2_pos (a 0)
        omega
      · rw [gn x 0 x0 cx (by omega) (by omega), gn x 1 x0 cx (by omega) (by omega), gn x 2 x0 cx (by omega) (by omega), gn x 3 x0 cx (by omega) (by omega), gn x 4 x0 cx (by omega) (by omega)]
        exact m7 x x0 (by omega)
    · rw [z1]
      intro x x0 x1
      exact gz x (by omega) x1 (m8 x (by omega) x1)
    · rw [lo 5 (by omega) (by omega), lo 0 (by omega) (by omega), z1]
      intro j j0 j1
      rw [hi _ (by omega), hi _ (by omega)]
      obtain ⟨q1, q2, q3, q4⟩ := m9 j j0 j1
      refine ⟨by omega, q2, BoOK_c (by omega) (fun x e x0 x1 e0 e1 => gr j x e j0 x0 e0) q3, fun x x0 x1 => ?_⟩
      have q := q4 x x0 x1
      rw [gr j x 4 j0 (by omega) (by omega), gr (j + 1) x 4 (by omega) (by omega) (by omega)]
      refine ⟨q.1, ?_⟩
      by_cases l : j + 1 < a 5
      · rw [if_pos l] at q ⊢; exact q.2
      · rw [if_neg l] at q ⊢; exact gz x (by omega) x1 q.2
    · rw [lo 6 (by omega) (by omega), lo 0 (by omega) (by omega)]
      intro s s0 s1
      rw [hi _ (by omega), hi _ (by omega), hi _ (by omega), hi _ (by omega)]
      exact m10 s s0 s1
  · rw [if_neg c, if_neg (fun z => c (hc.mp z))]
    exact ⟨Or.inr ⟨c, rfl⟩, hM⟩
end Ops4
