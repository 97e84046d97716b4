/-! one place of one BONE written on both sides -/
def gset (g : Int → Int → Int) (b f v : Int) : Int → Int → Int := fun x e => if x = b ∧ e = f then v else g x e
theorem gset_y (g : Int → Int → Int) (b f v : Int) : gset g b f v b f = v := if_pos ⟨rfl, rfl⟩
theorem gset_x {g : Int → Int → Int} {b f v x e : Int} (h : x ≠ b) : gset g b f v x e = g x e := if_neg (fun z => h z.1)
theorem gset_e {g : Int → Int → Int} {b f v x e : Int} (h : e ≠ f) : gset g b f v x e = g x e := if_neg (fun z => h z.2)
theorem gNow_set {a : Int → Int} {b f v x e : Int} (hf : 0 ≤ f ∧ f < 5) (he : 0 ≤ e ∧ e < 5) : gNow (ua a (30 + 6 * b + 1 + f) v) x e = gset (gNow a) b f v x e := by
  simp only [gNow, gset, ua]
  by_cases c : x = b ∧ e = f
  · rw [if_pos c, if_pos (by omega)]
  · rw [if_neg c, if_neg (by omega)]
theorem BoOK_set {n told : Int} {g : Int → Int → Int} {b f v : Int} (h : BoOK n told g) (h0 : f = 0 → 1 ≤ v ∧ v ≤ 999) (h1 : f = 1 ∨ f = 2 → 0 ≤ v ∧ v < n) (h3 : f = 3 → -1 ≤ v ∧ v ≤ 999) (h4 : f = 4 → 0 ≤ v ∧ v < p2 n) : BoOK n told (gset g b f v) := by
  intro x x0 x1
  have k := h x x0 x1
  simp only [gset]
  refine ⟨?_, ?_, ?_, ?_, ?_⟩
  · split
    · exact h0 (by omega)
    · exact k.1
  · split
    · exact h1 (by omega)
    · exact k.2.1
  · split
    · exact h1 (by omega)
    · exact k.2.2.1
  · split
    · exact h3 (by omega)
    · exact k.2.2.2.1
  · split
    · exact h4 (by omega)
    · exact k.2.2.2.2
theorem MIv_set {a : Int → Int} {b f v : Int} (h : MIv a) (hb : 0 ≤ b ∧ b < a 1) (hf : 0 ≤ f ∧ f < 5) (h0 : f = 0 → 1 ≤ v ∧ v ≤ 999) (h1 : f = 1 ∨ f = 2 → 0 ≤ v ∧ v < a 0) (h3 : f = 3 → -1 ≤ v ∧ v ≤ 999) (h4 : f = 4 → (0 ≤ v ∧ v < p2 (a 0)) ∧ ∀ j, 0 ≤ j → j + 1 = a 5 → b < a (174 + 82 * j + 1)) : MIv (ua a (30 + 6 * b + 1 + f) v) := by
  obtain ⟨m1, m2, m3, m4, m5, m6, m7, m8, m9, m10⟩ := h
  obtain ⟨n1, n2, n3, n4, n5, n6, n7⟩ := m1
  have hp : p2 (a 0) ≤ 1024 := p2_le (u := 10) (by omega)
  have hv : -1 ≤ v ∧ v < 65536 := by
    rcases (show f = 0 ∨ (f = 1 ∨ f = 2) ∨ f = 3 ∨ f = 4 by omega) with z | z | z | z
    · have := h0 z; omega
    · have := h1 z; omega
    · have := h3 z; omega
    · have := h4 z; omega
  have o : ∀ q, q < 30 ∨ 126 ≤ q → ua a (30 + 6 * b + 1 + f) v q = a q := fun q hq => ua_ne (by omega)
  have kd : ∀ x, ua a (30 + 6 * b + 1 + f) v (30 + 6 * x) = a (30 + 6 * x) := fun x => ua_ne (by omega)
  have gr : ∀ j x e, 0 ≤ j → 0 ≤ x → 0 ≤ e → gRec (ua a (30 + 6 * b + 1 + f) v) j x e = gRec a j x e := fun j x e j0 x0 e0 => o _ (by omega)
  have g4 : ∀ x, x ≠ b → gNow (ua a (30 + 6 * b + 1 + f) v) x 4 = gNow a x 4 := fun x hx => by rw [gNow_set hf (by omega), gset_x hx]
  refine ⟨⟨AB_ua n1 hv, ?_, ?_, ?_, ?_, ?_, ?_⟩, ?_, ?_, ?_, ?_, ?_, ?_, ?_, ?_, ?_⟩
  · rw [o 0 (by omega)]; exact n2
  · rw [o 1 (by omega)]; exact n3
  · rw [o 2 (by omega)]; exact n4
  · rw [o 4 (by omega)]; exact n5
  · rw [o 5 (by omega)]; exact n6
  · intro x x0 x1
    by_cases c : 30 + 6 * x + 5 = 30 + 6 * b + 1 + f
    · rw [c, ua_same]; exact (h4 (by omega)).1.1
    · rw [ua_ne c]; exact n7 x x0 x1
  · rw [o 3 (by omega), o 4 (by omega)]; exact m2
  · rw [o 6 (by omega)]; exact m3
  · rw [o 7 (by omega), o 8 (by omega)]; exact m4
  · rw [o 0 (by omega)]
    intro t t0 t1
    rw [o _ (by omega), o _ (by omega)]; exact m5 t t0 t1
  · rw [o 1 (by omega)]
    intro x x0 x1
    rw [kd]; exact m6 x x0 x1
  · rw [o 0 (by omega), o 1 (by omega)]
    exact BoOK_c (by omega) (fun x e x0 x1 e0 e1 => gNow_set hf ⟨e0, e1⟩) (BoOK_set m7 h0 h1 h3 (fun z => (h4 z).1))
  · rw [o 1 (by omega)]
    intro x x0 x1
    rw [g4 x (by omega)]; exact m8 x x0 x1
  · rw [o 5 (by omega), o 0 (by omega), o 1 (by omega)]
    intro j j0 j1
    rw [o _ (by omega), o _ (by omega)]
    obtain ⟨q1, q2, q3, q4⟩ := m9 j j0 j1
    refine ⟨q1, q2, BoOK_c (by omega) (fun x e x0 x1 e0 e1 => gr j x e j0 x0 e0) q3, fun x x0 x1 => ?_⟩
    rw [gr j x 4 j0 (by omega) (by omega), gr (j + 1) x 4 (by omega) (by omega) (by omega)]
    by_cases c : x = b
    · have q := q4 x x0 x1
      by_cases d : f = 4
      · refine ⟨q.1, ?_⟩
        by_cases l : j + 1 < a 5
        · rw [if_pos l]
          rw [if_pos l] at q
          exact q.2
        · have := (h4 d).2 j j0 (by omega)
          omega
      · rw [gNow_set hf (by omega), gset_e (by omega)]
        exact q
    · rw [g4 x c]; exact q4 x x0 x1
  · rw [o 6 (by omega), o 0 (by omega)]
    intro s s0 s1
    rw [o _ (by omega), o _ (by omega), o _ (by omega), o _ (by omega)]
    exact m10 s s0 s1

theorem WSim_f0 {V : Va} {a : Int → Int} {b v : Int} (hW : WSim V 1 a) (h0 : a 0 ≤ 10) (h1 : a 1 ≤ 16) (hb : 0 ≤ b ∧ b < a 1) : WSim (up V 6 (ua (V 6) b v)) 1 (ua a (30 + 6 * b + 1 + 0) v) := by
  obtain ⟨k1, k2, k3, k4⟩ := hW.2.2.2.1
  have e1 : ua a (30 + 6 * b + 1 + 0) v 1 = a 1 := ua_ne (by omega)
  have e2 : ua a (30 + 6 * b + 1 + 0) v 2 = a 2 := ua_ne (by omega)
  refine WSim_bones hW h0 (fun q q0 q1 => ua_ne (by omega)) (fun x => ua_ne (by omega)) (fun q hq => ua_ne (by omega)) (fun q q0 q1 q2 => up_ne (by omega)) ?_
  rw [e1, e2]
  refine BoSim_g (g := gset (gNow a) b 0 v) (by omega) (fun x e x0 x1 e0' e1' => gNow_set (by omega) ⟨e0', e1'⟩) ⟨k1, k2, fun x x0 x1 => ?_, fun t t0 t1 => ⟨(k4 t t0 t1).1, (k4 t t0 t1).2.1, fun x x0 x1 => ?_⟩⟩
  · have kx := k3 x x0 x1
    show ua (V 6) b v x = _ ∧ V 7 x = _ ∧ V 8 x = _ ∧ V 9 x = _
    rw [gset_e (show (1 : Int) ≠ 0 by omega), gset_e (show (2 : Int) ≠ 0 by omega), gset_e (show (3 : Int) ≠ 0 by omega)]
    by_cases c : x = b
    · subst c
      rw [ua_same, gset_y]
      exact ⟨rfl, kx.2.1, kx.2.2.1, kx.2.2.2⟩
    · rw [ua_ne c, gset_x c]
      exact kx
  · rw [gset_e (show (4 : Int) ≠ 0 by omega)]
    exact (k4 t t0 t1).2.2 x x0 x1
theorem WSim_f1 {V : Va} {a : Int → Int} {b v : Int} (hW : WSim V 1 a) (h0 : a 0 ≤ 10) (h1 : a 1 ≤ 16) (hb : 0 ≤ b ∧ b < a 1) : WSim (up V 7 (ua (V 7) b v)) 1 (ua a (30 + 6 * b + 1 + 1) v) := by
  obtain ⟨k1, k2, k3, k4⟩ := hW.2.2.2.1
  have e1 : ua a (30 + 6 * b + 1 + 1) v 1 = a 1 := ua_ne (by omega)
  have e2 : ua a (30 + 6 * b + 1 + 1) v 2 = a 2 := ua_ne (by omega)
  refine WSim_bones hW h0 (fun q q0 q1 => ua_ne (by omega)) (fun x => ua_ne (by omega)) (fun q hq => ua_ne (by omega)) (fun q q0 q1 q2 => up_ne (by omega)) ?_
  rw [e1, e2]
  refine BoSim_g (g := gset (gNow a) b 1 v) (by omega) (fun x e x0 x1 e0' e1' => gNow_set (by omega) ⟨e0', e1'⟩) ⟨k1, k2, fun x x0 x1 => ?_, fun t t0 t1 => ⟨(k4 t t0 t1).1, (k4 t t0 t1).2.1, fun x x0 x1 => ?_⟩⟩
  · have kx := k3 x x0 x1
    show V 6 x = _ ∧ ua (V 7) b v x = _ ∧ V 8 x = _ ∧ V 9 x = _
    rw [gset_e (show (0 : Int) ≠ 1 by omega), gset_e (show (2 : Int) ≠ 1 by omega), gset_e (show (3 : Int) ≠ 1 by omega)]
    by_cases c : x = b
    · subst c
      rw [ua_same, gset_y]
      exact ⟨kx.1, rfl, kx.2.2.1, kx.2.2.2⟩
    · rw [ua_ne c, gset_x c]
      exact kx
  · rw [gset_e (show (4 : Int) ≠ 1 by omega)]
    exact (k4 t t0 t1).2.2 x x0 x1
theorem WSim_f2 {V : Va} {a : Int → Int} {b v : Int} (hW : WSim V 1 a) (h0 : a 0 ≤ 10) (h1 : a 1 ≤ 16) (hb : 0 ≤ b ∧ b < a 1) : WSim (up V 8 (ua (V 8) b v)) 1 (ua a (30 + 6 * b + 1 + 2) v) := by
  obtain ⟨k1, k2, k3, k4⟩ := hW.2.2.2.1
  have e1 : ua a (30 + 6 * b + 1 + 2) v 1 = a 1 := ua_ne (by omega)
  have e2 : ua a (30 + 6 * b + 1 + 2) v 2 = a 2 := ua_ne (by omega)
  refine WSim_bones hW h0 (fun q q0 q1 => ua_ne (by omega)) (fun x => ua_ne (by omega)) (fun q hq => ua_ne (by omega)) (fun q q0 q1 q2 => up_ne (by omega)) ?_
  rw [e1, e2]
  refine BoSim_g (g := gset (gNow a) b 2 v) (by omega) (fun x e x0 x1 e0' e1' => gNow_set (by omega) ⟨e0', e1'⟩) ⟨k1, k2, fun x x0 x1 => ?_, fun t t0 t1 => ⟨(k4 t t0 t1).1, (k4 t t0 t1).2.1, fun x x0 x1 => ?_⟩⟩
  · have kx := k3 x x0 x1
    show V 6 x = _ ∧ V 7 x = _ ∧ ua (V 8) b v x = _ ∧ V 9 x = _
    rw [gset_e (show (0 : Int) ≠ 2 by omega), gset_e (show (1 : Int) ≠ 2 by omega), gset_e (show (3 : Int) ≠ 2 by omega)]
    by_cases c : x = b
    · subst c
      rw [ua_same, gset_y]
      exact ⟨kx.1, kx.2.1, rfl, kx.2.2.2⟩
    · rw [ua_ne c, gset_x c]
      exact kx
  · rw [gset_e (show (4 : Int) ≠ 2 by omega)]
    exact (k4 t t0 t1).2.2 x x0 x1
theorem WSim_f3 {V : Va} {a : Int → Int} {b v : Int} (hW : WSim V 1 a) (h0 : a 0 ≤ 10) (h1 : a 1 ≤ 16) (hb : 0 ≤ b ∧ b < a 1) : WSim (up V 9 (ua (V 9) b v)) 1 (ua a (30 + 6 * b + 1 + 3) v) := by
  obtain ⟨k1, k2, k3, k4⟩ := hW.2.2.2.1
  have e1 : ua a (30 + 6 * b + 1 + 3) v 1 = a 1 := ua_ne (by omega)
  have e2 : ua a (30 + 6 * b + 1 + 3) v 2 = a 2 := ua_ne (by omega)
  refine WSim_bones hW h0 (fun q q0 q1 => ua_ne (by omega)) (fun x => ua_ne (by omega)) (fun q hq => ua_ne (by omega)) (fun q q0 q1 q2 => up_ne (by omega)) ?_
  rw [e1, e2]
  refine BoSim_g (g := gset (gNow a) b 3 v) (by omega) (fun x e x0 x1 e0' e1' => gNow_set (by omega) ⟨e0', e1'⟩) ⟨k1, k2, fun x x0 x1 => ?_, fun t t0 t1 => ⟨(k4 t t0 t1).1, (k4 t t0 t1).2.1, fun x x0 x1 => ?_⟩⟩
  · have kx := k3 x x0 x1
    show V 6 x = _ ∧ V 7 x = _ ∧ V 8 x = _ ∧ ua (V 9) b v x = _
    rw [gset_e (show (0 : Int) ≠ 3 by omega), gset_e (show (1 : Int) ≠ 3 by omega), gset_e (show (2 : Int) ≠ 3 by omega)]
    by_cases c : x = b
    · subst c
      rw [ua_same, gset_y]
      exact ⟨kx.1, kx.2.1, kx.2.2.1, rfl⟩
    · rw [ua_ne c, gset_x c]
      exact kx
  · rw [gset_e (show (4 : Int) ≠ 3 by omega)]
    exact (k4 t t0 t1).2.2 x x0 x1
/-- rows of small numbers stay so -/
theorem WB_row {V : Va} {r : Nat} {f : Int → Int} (h : WB V 1) (hr : 6 ≤ r ∧ r ≤ 9) (hf : AB f) : WB (up V r f) 1 := by
  have b := WB_BB h
  refine WB_bb h (fun q q0 q1 q2 => up_ne (by omega)) ⟨?_, ?_, ?_, ?_, ?_⟩
  · rw [up_ne (by omega)]; exact b.1
  · by_cases c : 6 = r
    · rw [c, up_same]; exact hf
    · rw [up_ne c]; exact b.2.1
  · by_cases c : 7 = r
    · rw [c, up_same]; exact hf
    · rw [up_ne c]; exact b.2.2.1
  · by_cases c : 8 = r
    · rw [c, up_same]; exact hf
    · rw [up_ne c]; exact b.2.2.2.1
  · by_cases c : 9 = r
    · rw [c, up_same]; exact hf
    · rw [up_ne c]; exact b.2.2.2.2
/-- what the two sides say of a BONE -/
theorem W_bone {V : Va} {a : Int → Int} (hW : WSim V 1 a) (hM : MIv a) {b : Int} (h0 : 0 ≤ b) (h1 : b < a 1) : (V 6 b = a (30 + 6 * b + 1) ∧ V 7 b = a (30 + 6 * b + 2) ∧ V 8 b = a (30 + 6 * b + 3) ∧ V 9 b = a (30 + 6 * b + 4)) ∧ (1 ≤ a (30 + 6 * b + 1) ∧ a (30 + 6 * b + 1) ≤ 999) ∧ (0 ≤ a (30 + 6 * b + 2) ∧ a (30 + 6 * b + 2) < a 0) ∧ (0 ≤ a (30 + 6 * b + 3) ∧ a (30 + 6 * b + 3) < a 0) ∧ (-1 ≤ a (30 + 6 * b + 4) ∧ a (30 + 6 * b + 4) ≤ 999) ∧ 0 ≤ a (30 + 6 * b + 5) ∧ a (30 + 6 * b + 5) < p2 (a 0) := by
  have e0 : gNow a b 0 = a (30 + 6 * b + 1) := congrArg a (by omega)
  have e1 : gNow a b 1 = a (30 + 6 * b + 2) := congrArg a (by omega)
  have e2 : gNow a b 2 = a (30 + 6 * b + 3) := congrArg a (by omega)
  have e3 : gNow a b 3 = a (30 + 6 * b + 4) := congrArg a (by omega)
  have e4 : gNow a b 4 = a (30 + 6 * b + 5) := congrArg a (by omega)
  have k := hW.2.2.2.1.2.2.1 b h0 h1
  have m := hM.2.2.2.2.2.2.1 b h0 h1
  rw [e0, e1, e2, e3] at k
  rw [e0, e1, e2, e3, e4] at m
  exact ⟨k, m⟩
/-- what a world is on both sides -/
def Wld (S : Stt) (V : Va) (a tx : Int → Int) : Prop := WSim V 1 a ∧ WB V 1 ∧ MIv a ∧ TSim S V 133 a tx
theorem FrN_rem {V : Va} (r0 : 0 ≤ V 11 1) (r1 : V 11 1 < 20) : FrN V (cRem V) := fun q q0 q1 q2 => cRem_o r0 r1 (by omega)
theorem cRem_10 (V : Va) : cRem V 1 10 = V 1 10 + 1 := by
  simp only [cRem]
  rw [up_same, ua_same]
section Ops
variable {V : Va} {a : Int → Int}
theorem lend_c (hW : WSim V 1 a) (hM : MIv a) (b t y : Int) : cLendC V b t y ↔ mLendC a b t y := by
  have w7 : V 1 7 = a 0 := hW.1.1
  have w5 : V 5 5 = a 1 := hW.2.2.2.1.1
  have w6 : V 5 6 = a 2 := hW.2.2.2.1.2.1
  simp only [cLendC, mLendC, cBoneOk, cTownOk, mBoneOk, mTownOk]
  by_cases c : 0 ≤ b ∧ b < a 1
  · have k := W_bone hW hM c.1 c.2
    omega
  · omega
theorem swap_c (hW : WSim V 1 a) (hM : MIv a) (b t : Int) : cSwapC V b t ↔ mSwapC a b t := by
  have w5 : V 5 5 = a 1 := hW.2.2.2.1.1
  simp only [cSwapC, mSwapC, cBoneOk, mBoneOk]
  by_cases c : (0 ≤ b ∧ b < a 1) ∧ 0 ≤ t ∧ t < a 1
  · have k := W_bone hW hM c.1.1 c.1.2
    have k2 := W_bone hW hM c.2.1 c.2.2
    omega
  · omega
theorem steal_c (hW : WSim V 1 a) (hM : MIv a) (b t : Int) : cStealC V b t ↔ mStealC a b t := by
  have w7 : V 1 7 = a 0 := hW.1.1
  have w5 : V 5 5 = a 1 := hW.2.2.2.1.1
  simp only [cStealC, mStealC, cBoneOk, cTownOk, mBoneOk, mTownOk]
  by_cases c : 0 ≤ b ∧ b < a 1
  · have k := W_bone hW hM c.1 c.2
    omega
  · omega
theorem lend_s (hW : WSim V 1 a) (hB : WB V 1) (hM : MIv a) (b t y : Int) : StpR (mLendC a b t y) (mLendF a b t y) V (cLendF V b t y) ∧ MIv (mLendF a b t y) := by
  have hc := lend_c hW hM b t y
  have r0 : 0 ≤ V 11 1 := hW.2.2.2.2.1.2.1
  have r1 : V 11 1 < 20 := hW.2.2.2.2.1.2.2.1
  have w5 : V 5 5 = a 1 := hW.2.2.2.1.1
  have w6 : V 5 6 = a 2 := hW.2.2.2.1.2.1
  have h5 := hM.1.2.2.2.2.2.1
  have i0 := hM.1.2.1
  have i1 := hM.1.2.2.1
  have i2 := hM.1.2.2.2.1
  have k0 : mKeep a 0 = a 0 := mKeep_lo (by omega) (by omega) h5
  have k1 : mKeep a 1 = a 1 := mKeep_lo (by omega) (by omega) h5
  simp only [mLendF, cLendF, StpR]
  by_cases c : mLendC a b t y
  · rw [if_pos c, if_pos (hc.mpr c)]
    obtain ⟨⟨c1, c2⟩, ⟨c3, c4⟩, c5, c6, c7, -⟩ := id c
    have hWk := WSim_keep hW hM
    have hBk := WB_keep hB r0 r1 (by omega)
    have hMk := MIv_keep hM
    have W1 := WSim_f2 (b := b) (v := t) hWk (by omega) (by omega) (by omega)
    have W2 := WSim_f3 (b := b) (v := a 2 + y) W1 (by rw [ua_ne (by omega)]; omega) (by rw [ua_ne (by omega)]; omega) (by rw [ua_ne (by omega)]; omega)
    have M1 := MIv_set (b := b) (f := 2) (v := t) hMk (by omega) (by omega) (by omega) (by omega) (by omega) (by omega)
    have M2 := MIv_set (b := b) (f := 3) (v := a 2 + y) M1 (by rw [ua_ne (by omega)]; omega) (by omega) (by omega) (by omega) (by omega) (by omega)
    have bk := WB_BB hBk
    rw [show 30 + 6 * b + 1 + 2 = 30 + 6 * b + 3 by omega, show 30 + 6 * b + 1 + 3 = 30 + 6 * b + 4 by omega] at W2 M2
    refine ⟨Or.inl ⟨c, by rw [w6]; exact W2, WB_row (WB_row hBk (by omega) (AB_ua bk.2.2.2.1 (by omega))) (by omega) (AB_ua bk.2.2.2.2 (by omega)), fun q q0 q1 q2 => ?_, cRem_10 V⟩, M2⟩
    rw [up_ne (by omega), up_ne (by omega)]
    exact FrN_rem r0 r1 q q0 q1 q2
  · rw [if_neg c, if_neg (fun z => c (hc.mp z))]
    exact ⟨Or.inr ⟨c, rfl⟩, hM⟩
theorem swap_s (hW : WSim V 1 a) (hB : WB V 1) (hM : MIv a) (b t : Int) : StpR (mSwapC a b t) (mSwapF a b t) V (cSwapF V b t) ∧ MIv (mSwapF a b t) := by
  have hc := swap_c hW hM b t
  have r0 : 0 ≤ V 11 1 := hW.2.2.2.2.1.2.1
  have r1 : V 11 1 < 20 := hW.2.2.2.2.1.2.2.1
  have w5 : V 5 5 = a 1 := hW.2.2.2.1.1
  have h5 := hM.1.2.2.2.2.2.1
  have i0 := hM.1.2.1
  have i1 := hM.1.2.2.1
  have k0 : mKeep a 0 = a 0 := mKeep_lo (by omega) (by omega) h5
  have k1 : mKeep a 1 = a 1 := mKeep_lo (by omega) (by omega) h5
  simp only [mSwapF, cSwapF, StpR]
  by_cases c : mSwapC a b t
  · rw [if_pos c, if_pos (hc.mpr c)]
    obtain ⟨⟨c1, c2⟩, ⟨c3, c4⟩, -⟩ := id c
    have v1 := W_bone hW hM c1 (by omega)
    have v2 := W_bone hW hM c3 (by omega)
    have hWk := WSim_keep hW hM
    have hBk := WB_keep hB r0 r1 (by omega)
    have hMk := MIv_keep hM
    have W1 := WSim_f2 (b := b) (v := a (30 + 6 * t + 3)) hWk (by omega) (by omega) (by omega)
    have W2 := WSim_f2 (b := t) (v := a (30 + 6 * b + 3)) W1 (by rw [ua_ne (by omega)]; omega) (by rw [ua_ne (by omega)]; omega) (by rw [ua_ne (by omega)]; omega)
    have M1 := MIv_set (b := b) (f := 2) (v := a (30 + 6 * t + 3)) hMk (by omega) (by omega) (by omega) (by omega) (by omega) (by omega)
    have M2 := MIv_set (b := t) (f := 2) (v := a (30 + 6 * b + 3)) M1 (by rw [ua_ne (by omega)]; omega) (by omega) (by omega) (by rw [ua_ne (by omega)]; omega) (by omega) (by omega)
    have bk := WB_BB hBk
    rw [up_same, up_up, show 30 + 6 * b + 1 + 2 = 30 + 6 * b + 3 by omega, show 30 + 6 * t + 1 + 2 = 30 + 6 * t + 3 by omega] at W2
    rw [show 30 + 6 * b + 1 + 2 = 30 + 6 * b + 3 by omega, show 30 + 6 * t + 1 + 2 = 30 + 6 * t + 3 by omega] at M2
    refine ⟨Or.inl ⟨c, by rw [v1.1.2.2.1, v2.1.2.2.1]; exact W2, WB_row hBk (by omega) (AB_ua (AB_ua bk.2.2.2.1 (by omega)) (by omega)), fun q q0 q1 q2 => ?_, cRem_10 V⟩, M2⟩
    rw [up_ne (by omega)]
    exact FrN_rem r0 r1 q q0 q1 q2
  · rw [if_neg c, if_neg (fun z => c (hc.mp z))]
    exact ⟨Or.inr ⟨c, rfl⟩, hM⟩
theorem steal_s (hW : WSim V 1 a) (hB : WB V 1) (hM : MIv a) (b t : Int) : StpR (mStealC a b t) (mStealF a b t) V (cStealF V b t) ∧ MIv (mStealF a b t) := by
  have hc := steal_c hW hM b t
  have r0 : 0 ≤ V 11 1 := hW.2.2.2.2.1.2.1
  have r1 : V 11 1 < 20 := hW.2.2.2.2.1.2.2.1
  have w5 : V 5 5 = a 1 := hW.2.2.2.1.1
  have h5 := hM.1.2.2.2.2.2.1
  have i0 := hM.1.2.1
  have i1 := hM.1.2.2.1
  have k0 : mKeep a 0 = a 0 := mKeep_lo (by omega) (by omega) h5
  have k1 : mKeep a 1 = a 1 := mKeep_lo (by omega) (by omega) h5
  simp only [mStealF, cStealF, StpR]
  by_cases c : mStealC a b t
  · rw [if_pos c, if_pos (hc.mpr c)]
    obtain ⟨⟨c1, c2⟩, ⟨c3, c4⟩, -⟩ := id c
    have hWk := WSim_keep hW hM
    have hBk := WB_keep hB r0 r1 (by omega)
    have hMk := MIv_keep hM
    have W1 := WSim_f1 (b := b) (v := t) hWk (by omega) (by omega) (by omega)
    have W2 := WSim_f2 (b := b) (v := t) W1 (by rw [ua_ne (by omega)]; omega) (by rw [ua_ne (by omega)]; omega) (by rw [ua_ne (by omega)]; omega)
    have W3 := WSim_f3 (b := b) (v := -1) W2 (by rw [ua_ne (by omega), ua_ne (by omega)]; omega) (by rw [ua_ne (by omega), ua_ne (by omega)]; omega) (by rw [ua_ne (by omega), ua_ne (by omega)]; omega)
    have M1 := MIv_set (b := b) (f := 1) (v := t) hMk (by omega) (by omega) (by omega) (by omega) (by omega) (by omega)
    have M2 := MIv_set (b := b) (f := 2) (v := t) M1 (by rw [ua_ne (by omega)]; omega) (by omega) (by omega) (by rw [ua_ne (by omega)]; omega) (by omega) (by omega)
    have M3 := MIv_set (b := b) (f := 3) (v := -1) M2 (by rw [ua_ne (by omega), ua_ne (by omega)]; omega) (by omega) (by omega) (by omega) (by omega) (by omega)
    have bk := WB_BB hBk
    rw [show 30 + 6 * b + 1 + 1 = 30 + 6 * b + 2 by omega, show 30 + 6 * b + 1 + 2 = 30 + 6 * b + 3 by omega, show 30 + 6 * b + 1 + 3 = 30 + 6 * b + 4 by omega] at W3 M3
    refine ⟨Or.inl ⟨c, W3, WB_row (WB_row (WB_row hBk (by omega) (AB_ua bk.2.2.1 (by omega))) (by omega) (AB_ua bk.2.2.2.1 (by omega))) (by omega) (AB_ua bk.2.2.2.2 (by omega)), fun q q0 q1 q2 => ?_, cRem_10 V⟩, M3⟩
    rw [up_ne (by omega), up_ne (by omega), up_ne (by omega)]
    exact FrN_rem r0 r1 q q0 q1 q2
  · rw [if_neg c, if_neg (fun z => c (hc.mp z))]
    exact ⟨Or.inr ⟨c, rfl⟩, hM⟩
end Ops
