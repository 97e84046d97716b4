/-! BONES changed on both sides, nothing else -/
theorem WSim_bones {V V' : Va} {a a' : Int → Int} (hW : WSim V 1 a) (h0 : a 0 ≤ 10) (lo : ∀ q, q < 30 → q ≠ 2 → a' q = a q) (hk : ∀ x, a' (30 + 6 * x) = a (30 + 6 * x)) (hi : ∀ q, 126 ≤ q → a' q = a q) (hr : ∀ q : Nat, 1 ≤ q → q ≤ 138 → q < 5 ∨ 10 < q → V' q = V q) (hb : BoSim V' 5 (a' 1) (a' 2) (gNow a')) : WSim V' 1 a' := by
  obtain ⟨e1, e2, e3, e4, e5, e6⟩ := hW
  refine ⟨?_, ?_, ?_, hb, ?_, ?_⟩
  · rw [hr 1 (by omega) (by omega) (by omega), lo 0 (by omega) (by omega), lo 3 (by omega) (by omega), lo 4 (by omega) (by omega)]; exact e1
  · rw [hr (1 + 1) (by omega) (by omega) (by omega), hr (1 + 2) (by omega) (by omega) (by omega), lo 0 (by omega) (by omega)]
    intro t t0 t1
    rw [lo _ (by omega) (by omega), lo _ (by omega) (by omega)]; exact e2 t t0 t1
  · rw [hr (1 + 3) (by omega) (by omega) (by omega), lo 1 (by omega) (by omega)]
    intro x x0 x1
    rw [hk]; exact e3 x x0 x1
  · rw [hr (1 + 10) (by omega) (by omega) (by omega), lo 5 (by omega) (by omega)]
    refine ⟨e5.1, e5.2.1, e5.2.2.1, fun j j0 j1 => ?_⟩
    have h := ringId_r 1 (V (1 + 10) 1) (a 5) j
    have k := BoSim_c (V' := V') (fun q q0 q1 => hr q (by omega) (by omega) (by omega)) (e5.2.2.2 j j0 j1)
    rw [hi _ (by omega), hi _ (by omega)]
    refine ⟨k.1, k.2.1, fun x x0 x1 => ?_, fun t t0 t1 => ⟨(k.2.2.2 t t0 t1).1, (k.2.2.2 t t0 t1).2.1, fun x x0 x1 => ?_⟩⟩
    · simp only [gRec]
      rw [hi _ (by omega), hi _ (by omega), hi _ (by omega), hi _ (by omega)]
      exact k.2.2.1 x x0 x1
    · simp only [gRec]
      rw [hi _ (by omega)]
      exact (k.2.2.2 t t0 t1).2.2 x x0 x1
  · rw [hr (1 + 133) (by omega) (by omega) (by omega), hr (1 + 134) (by omega) (by omega) (by omega), hr (1 + 135) (by omega) (by omega) (by omega), hr (1 + 136) (by omega) (by omega) (by omega), hr (1 + 137) (by omega) (by omega) (by omega), lo 6 (by omega) (by omega), lo 7 (by omega) (by omega), lo 8 (by omega) (by omega)]
    refine ⟨e6.1, e6.2.1, e6.2.2.1, fun s s0 s1 => ?_⟩
    rw [hi _ (by omega), hi _ (by omega), hi _ (by omega), hi _ (by omega)]
    exact e6.2.2.2 s s0 s1
def FrB (V V' : Va) : Prop := ∀ q : Nat, q < 5 ∨ 10 < q → q ≠ 287 → q ≠ 288 → V' q = V q
/-- rows of BONES with small numbers -/
def BB (V : Va) : Prop := (∀ t, 0 ≤ V 10 t ∧ V 10 t < 65536) ∧ AB (V 6) ∧ AB (V 7) ∧ AB (V 8) ∧ AB (V 9)
theorem WB_bb {V V' : Va} (h : WB V 1) (hr : ∀ q : Nat, 1 ≤ q → q ≤ 138 → q < 5 ∨ 10 < q → V' q = V q) (hb : BB V') : WB V' 1 := by
  obtain ⟨w1, w2, w3, w4, w5, w6, w7, w8, w9, w10, w11, w12⟩ := h
  obtain ⟨b1, b2, b3, b4, b5⟩ := hb
  refine ⟨?_, ?_, ?_, b1, b2, b3, b4, b5, ?_, ?_, ?_, fun k hk => ?_⟩
  · rw [hr (1 + 1) (by omega) (by omega) (by omega)]; exact w1
  · rw [hr (1 + 2) (by omega) (by omega) (by omega)]; exact w2
  · rw [hr (1 + 3) (by omega) (by omega) (by omega)]; exact w3
  · rw [hr (1 + 135) (by omega) (by omega) (by omega)]; exact w9
  · rw [hr (1 + 136) (by omega) (by omega) (by omega)]; exact w10
  · rw [hr (1 + 137) (by omega) (by omega) (by omega)]; exact w11
  · rw [hr (1 + 12 + 6 * k) (by omega) (by omega) (by omega), hr (1 + 12 + 6 * k + 1) (by omega) (by omega) (by omega), hr (1 + 12 + 6 * k + 2) (by omega) (by omega) (by omega), hr (1 + 12 + 6 * k + 3) (by omega) (by omega) (by omega), hr (1 + 12 + 6 * k + 4) (by omega) (by omega) (by omega), hr (1 + 12 + 6 * k + 5) (by omega) (by omega) (by omega)]
    exact w12 k hk
theorem WB_BB {V : Va} (h : WB V 1) : BB V := ⟨h.2.2.2.1, h.2.2.2.2.1, h.2.2.2.2.2.1, h.2.2.2.2.2.2.1, h.2.2.2.2.2.2.2.1⟩
theorem WB_keep {V : Va} (h : WB V 1) (f2 : 0 ≤ V 11 1) (f3 : V 11 1 < 20) (f5 : 0 ≤ V 5 5 ∧ V 5 5 ≤ 16) : WB (cRem V) 1 := by
  have hb := WB_BB h
  obtain ⟨w1, w2, w3, w4, w5, w6, w7, w8, w9, w10, w11, w12⟩ := h
  have oth : ∀ q : Nat, q = 0 ∨ (2 ≤ q ∧ q ≤ 10) ∨ q = 12 ∨ 133 ≤ q → cRem V q = V q := fun q hq => cRem_o f2 f3 hq
  have hrow : ∀ q : Nat, 13 ≤ q → q ≤ 132 → cRem V q = bcp V (13 + 6 * (V 11 1).toNat) 5 q := fun q q0 q1 => by
    simp only [cRem, cRem0]
    rw [up_ne (by omega), up_ne (by omega)]
  obtain ⟨c1, c2, c3, c4, c5⟩ := hb
  refine ⟨?_, ?_, ?_, ?_, ?_, ?_, ?_, ?_, ?_, ?_, ?_, fun k hk => ?_⟩
  · rw [oth (1 + 1) (by omega)]; exact w1
  · rw [oth (1 + 2) (by omega)]; exact w2
  · rw [oth (1 + 3) (by omega)]; exact w3
  · rw [oth (1 + 9) (by omega)]; exact w4
  · rw [oth (1 + 5) (by omega)]; exact w5
  · rw [oth (1 + 6) (by omega)]; exact w6
  · rw [oth (1 + 7) (by omega)]; exact w7
  · rw [oth (1 + 8) (by omega)]; exact w8
  · rw [oth (1 + 135) (by omega)]; exact w9
  · rw [oth (1 + 136) (by omega)]; exact w10
  · rw [oth (1 + 137) (by omega)]; exact w11
  · by_cases c : k = (V 11 1).toNat
    · obtain ⟨b0, b1, b2, b3, b4, b5⟩ := bcp_at V (13 + 6 * (V 11 1).toNat) 5
      obtain ⟨v1, v2, v3, v4, v5, v6⟩ := w12 k hk
      rw [show 1 + 12 + 6 * k = 13 + 6 * (V 11 1).toNat by omega] at v1 v2 v3 v4 v5 v6 ⊢
      rw [hrow _ (by omega) (by omega), hrow _ (by omega) (by omega), hrow _ (by omega) (by omega), hrow _ (by omega) (by omega), hrow _ (by omega) (by omega), hrow _ (by omega) (by omega), b0, b1, b2, b3, b4, b5]
      refine ⟨?_, fun t => ?_, AB_cpK c2 v3 _, AB_cpK c3 v4 _, AB_cpK c4 v5 _, AB_cpK c5 v6 _⟩
      · rw [ua_ne (by omega), ua_same]; exact f5
      · simp only [cpK]
        split
        · exact c1 t
        · exact v2 t
    · rw [hrow _ (by omega) (by omega), hrow _ (by omega) (by omega), hrow _ (by omega) (by omega), hrow _ (by omega) (by omega), hrow _ (by omega) (by omega), hrow _ (by omega) (by omega), bcp_o (by omega), bcp_o (by omega), bcp_o (by omega), bcp_o (by omega), bcp_o (by omega), bcp_o (by omega)]
      exact w12 k hk
/-! a year more for one BONE -/
def ageW (a tx : Int → Int) (w b : Int) : Int → Int := if w < 0 then a else ua a (30 + 6 * b + 1) (if a (30 + 6 * b + 1) - (if mVal a tx w b 0 < 0 then 0 else mVal a tx w b 0) < 1 then 1 else a (30 + 6 * b + 1) - (if mVal a tx w b 0 < 0 then 0 else mVal a tx w b 0))
theorem mAgeB_w (a tx : Int → Int) (w b : Int) : mAgeB a tx w b = if a (30 + 6 * b + 4) = a 2 then ua (ua (ageW a tx w b) (30 + 6 * b + 3) (a (30 + 6 * b + 2))) (30 + 6 * b + 4) (-1) else ageW a tx w b := rfl
theorem ageW_o {a tx : Int → Int} {w b q : Int} (h : q ≠ 30 + 6 * b + 1) : ageW a tx w b q = a q := by
  simp only [ageW]
  split
  · rfl
  · rw [ua_ne h]
theorem age_g {a tx : Int → Int} {w b : Int} (hb : 0 ≤ b) : (∀ x e, x ≠ b → 0 ≤ e → e < 5 → gNow (mAgeB a tx w b) x e = gNow a x e) ∧ gNow (mAgeB a tx w b) b 0 = ageW a tx w b (30 + 6 * b + 1) ∧ gNow (mAgeB a tx w b) b 1 = gNow a b 1 ∧ gNow (mAgeB a tx w b) b 2 = (if a (30 + 6 * b + 4) = a 2 then gNow a b 1 else gNow a b 2) ∧ gNow (mAgeB a tx w b) b 3 = (if a (30 + 6 * b + 4) = a 2 then -1 else gNow a b 3) ∧ gNow (mAgeB a tx w b) b 4 = gNow a b 4 := by
  simp only [gNow]
  refine ⟨fun x e hx e0 e1 => mAgeB_o (by omega), ?_, ?_, ?_, ?_, ?_⟩
  · rw [mAgeB_w, show 30 + 6 * b + 1 + 0 = 30 + 6 * b + 1 by omega]
    split
    · rw [ua_ne (by omega), ua_ne (by omega)]
    · rfl
  · rw [mAgeB_w]
    split
    · rw [ua_ne (by omega), ua_ne (by omega), ageW_o (by omega)]
    · rw [ageW_o (by omega)]
  · rw [mAgeB_w, show 30 + 6 * b + 1 + 2 = 30 + 6 * b + 3 by omega]
    by_cases d : a (30 + 6 * b + 4) = a 2
    · rw [if_pos d, if_pos d, ua_ne (by omega), ua_same]; exact congrArg a (by omega)
    · rw [if_neg d, if_neg d, ageW_o (by omega)]
  · rw [mAgeB_w, show 30 + 6 * b + 1 + 3 = 30 + 6 * b + 4 by omega]
    by_cases d : a (30 + 6 * b + 4) = a 2
    · rw [if_pos d, if_pos d, ua_same]
    · rw [if_neg d, if_neg d, ageW_o (by omega)]
  · rw [mAgeB_w]
    split
    · rw [ua_ne (by omega), ua_ne (by omega), ageW_o (by omega)]
    · rw [ageW_o (by omega)]
/-- the class's new weight is the reference's -/
theorem age_e {S : Stt} {V : Va} {a tx : Int → Int} {b x e : Int} (hTx : TSim S V 133 a tx) (h34 : a 4 < a 3) (hx : 1 ≤ x) (hxa : x = a (30 + 6 * b + 1)) (he : e = (if 1 < x - (if 0 < cVal a tx 16 b b 0 then cVal a tx 16 b b 0 else 0) then x - (if 0 < cVal a tx 16 b b 0 then cVal a tx 16 b b 0 else 0) else 1)) : e = ageW a tx (mClause a tx 0) b (30 + 6 * b + 1) := by
  rw [cVal_o (o' := 0) hTx h34 (Or.inl rfl)] at he
  have hv0 : mClause a tx 0 < 0 → cVal a tx 16 b 0 0 = 0 := fun c => if_pos c
  have hv1 : ¬ mClause a tx 0 < 0 → cVal a tx 16 b 0 0 = mVal a tx (mClause a tx 0) b 0 := fun c => (if_neg c).trans (if_pos rfl)
  simp only [ageW]
  by_cases c : mClause a tx 0 < 0
  · rw [hv0 c] at he
    have z : (if (0 : Int) < 0 then (0 : Int) else 0) = 0 := by decide
    rw [z] at he
    rw [if_pos c, he, ← hxa]
    split <;> omega
  · rw [hv1 c] at he
    rw [if_neg c, ua_same, ← hxa]
    generalize mVal a tx (mClause a tx 0) b 0 = v at *
    by_cases d : 0 < v
    · rw [if_pos d] at he
      rw [if_neg (show ¬ v < 0 by omega)]
      rw [he]
      split <;> split <;> omega
    · rw [if_neg d] at he
      have : (if v < 0 then 0 else v) = 0 := by split <;> omega
      rw [this, he]
      split <;> split <;> omega
theorem age_bo {V V' : Va} {a tx : Int → Int} {w b e : Int} (h : BoSim V 5 (a 1) (a 2) (gNow a)) (hb : 0 ≤ b ∧ b < a 1) (he : e = ageW a tx w b (30 + 6 * b + 1)) (h5 : V' 5 = V 5) (h6 : V' 6 = ua (V 6) b e) (h7 : V' 7 = V 7) (h8 : V' 8 = if V 9 b = V 5 6 then ua (V 8) b (V 7 b) else V 8) (h9 : V' 9 = if V 9 b = V 5 6 then ua (V 9) b (-1) else V 9) (h10 : V' 10 = V 10) : BoSim V' 5 (a 1) (a 2) (gNow (mAgeB a tx w b)) := by
  obtain ⟨k1, k2, k3, k4⟩ := h
  obtain ⟨g1, g2, g3, g4, g5, g6⟩ := age_g (a := a) (tx := tx) (w := w) hb.1
  have kb := k3 b hb.1 hb.2
  have hdue : V 9 b = a (30 + 6 * b + 4) := kb.2.2.2.trans (congrArg a (by omega))
  have hyr : V 5 6 = a 2 := k2
  refine ⟨by rw [h5]; exact k1, by rw [h5]; exact k2, fun x x0 x1 => ?_, fun t t0 t1 => ?_⟩
  · have kx := k3 x x0 x1
    show V' 6 x = _ ∧ V' 7 x = _ ∧ V' 8 x = _ ∧ V' 9 x = _
    rw [h6, h7, h8, h9, hdue, hyr]
    by_cases c : x = b
    · subst c
      rw [g2, g3, g4, g5, ua_same]
      refine ⟨he, kx.2.1, ?_, ?_⟩
      · split
        · rw [ua_same]; exact kx.2.1
        · exact kx.2.2.1
      · split
        · rw [ua_same]
        · exact kx.2.2.2
    · rw [g1 x 0 c (by omega) (by omega), g1 x 1 c (by omega) (by omega), g1 x 2 c (by omega) (by omega), g1 x 3 c (by omega) (by omega), ua_ne c]
      refine ⟨kx.1, kx.2.1, ?_, ?_⟩
      · split
        · rw [ua_ne c]; exact kx.2.2.1
        · exact kx.2.2.1
      · split
        · rw [ua_ne c]; exact kx.2.2.2
        · exact kx.2.2.2
  · show 0 ≤ V' 10 t ∧ V' 10 t < _ ∧ ∀ x, 0 ≤ x → x < a 1 → V' 10 t / p2 x % 2 = _
    rw [h10]
    have k := k4 t t0 t1
    refine ⟨k.1, k.2.1, fun x x0 x1 => ?_⟩
    by_cases c : x = b
    · subst c
      rw [g6]; exact k.2.2 x x0 x1
    · rw [g1 x 4 c (by omega) (by omega)]; exact k.2.2 x x0 x1
theorem MIv_age {a tx : Int → Int} {w b : Int} (h : MIv a) (hb : 0 ≤ b ∧ b < a 1) : MIv (mAgeB a tx w b) := by
  obtain ⟨m1, m2, m3, m4, m5, m6, m7, m8, m9, m10⟩ := h
  obtain ⟨n1, n2, n3, n4, n5, n6, n7⟩ := m1
  have lo : ∀ q, q < 30 → mAgeB a tx w b q = a q := fun q hq => mAgeB_o (by omega)
  have hi : ∀ q, 126 ≤ q → mAgeB a tx w b q = a q := fun q hq => mAgeB_o (by omega)
  have kd : ∀ x, mAgeB a tx w b (30 + 6 * x) = a (30 + 6 * x) := fun x => mAgeB_o (by omega)
  have p5 : ∀ x, mAgeB a tx w b (30 + 6 * x + 5) = a (30 + 6 * x + 5) := fun x => mAgeB_o (by omega)
  obtain ⟨g1, g2, g3, g4, g5, g6⟩ := age_g (a := a) (tx := tx) (w := w) hb.1
  have gr : ∀ j x e, 0 ≤ j → 0 ≤ x → 0 ≤ e → gRec (mAgeB a tx w b) j x e = gRec a j x e := fun j x e j0 x0 e0 => by
    simp only [gRec]
    exact hi _ (by omega)
  have g4' : ∀ x, gNow (mAgeB a tx w b) x 4 = gNow a x 4 := fun x => by
    by_cases c : x = b
    · subst c; exact g6
    · exact g1 x 4 c (by omega) (by omega)
  refine ⟨⟨AB_mAgeB n1, ?_, ?_, ?_, ?_, ?_, ?_⟩, ?_, ?_, ?_, ?_, ?_, ?_, ?_, ?_, ?_⟩
  · rw [lo 0 (by omega)]; exact n2
  · rw [lo 1 (by omega)]; exact n3
  · rw [lo 2 (by omega)]; exact n4
  · rw [lo 4 (by omega)]; exact n5
  · rw [lo 5 (by omega)]; exact n6
  · intro x x0 x1
    rw [p5]; exact n7 x x0 x1
  · rw [lo 3 (by omega), lo 4 (by omega)]; exact m2
  · rw [lo 6 (by omega)]; exact m3
  · rw [lo 7 (by omega), lo 8 (by omega)]; exact m4
  · rw [lo 0 (by omega)]
    intro t t0 t1
    rw [lo _ (by omega), lo _ (by omega)]; exact m5 t t0 t1
  · rw [lo 1 (by omega)]
    intro x x0 x1
    rw [kd]; exact m6 x x0 x1
  · rw [lo 0 (by omega), lo 1 (by omega)]
    intro x x0 x1
    have kx := m7 x x0 x1
    by_cases c : x = b
    · subst c
      rw [g2, g3, g4, g5, g6]
      refine ⟨?_, kx.2.1, ?_, ?_, kx.2.2.2.2⟩
      · have e0 : gNow a x 0 = a (30 + 6 * x + 1) := congrArg a (by omega)
        have k0 := kx.1
        rw [e0] at k0
        simp only [ageW]
        split
        · exact k0
        · rw [ua_same]
          generalize mVal a tx w x 0 = v
          split
          · omega
          · split at * <;> omega
      · split
        · exact kx.2.1
        · exact kx.2.2.1
      · split
        · omega
        · exact kx.2.2.2.1
    · rw [g1 x 0 c (by omega) (by omega), g1 x 1 c (by omega) (by omega), g1 x 2 c (by omega) (by omega), g1 x 3 c (by omega) (by omega), g1 x 4 c (by omega) (by omega)]
      exact kx
  · rw [lo 1 (by omega)]
    intro x x0 x1
    rw [g4']; exact m8 x x0 x1
  · rw [lo 5 (by omega), lo 0 (by omega), lo 1 (by omega)]
    intro j j0 j1
    rw [hi _ (by omega), hi _ (by omega)]
    obtain ⟨q1, q2, q3, q4⟩ := m9 j j0 j1
    refine ⟨q1, q2, BoOK_c (by omega) (fun x e x0 x1 e0 e1 => gr j x e j0 x0 e0) q3, fun x x0 x1 => ?_⟩
    rw [gr j x 4 j0 (by omega) (by omega), gr (j + 1) x 4 (by omega) (by omega) (by omega), g4']
    exact q4 x x0 x1
  · rw [lo 6 (by omega), lo 0 (by omega)]
    intro s s0 s1
    rw [hi _ (by omega), hi _ (by omega), hi _ (by omega), hi _ (by omega)]
    exact m10 s s0 s1
