/-! IMAGE and BACK -/
theorem Stat_tcp {S : Stt} (h : Stat S) {b c : Nat} (hb : b = 133 ∨ b = 271) (hc : c ≠ b) : Stat (tcpS S b c) := by
  rw [← tcp4 hc]
  exact Stat_sq (Stat_sq (Stat_sq (Stat_sq h hb _ _) hb _ _) hb _ _) hb _ _
theorem BoSim_ge {V : Va} {i : Nat} {told year : Int} {g g' : Int → Int → Int} (h : ∀ x e, 0 ≤ x → x < told → 0 ≤ e → e < 5 → g' x e = g x e) (s : BoSim V i told year g) : BoSim V i told year g' := by
  refine ⟨s.1, s.2.1, fun x x0 x1 => ?_, fun t t0 t1 => ⟨(s.2.2.2 t t0 t1).1, (s.2.2.2 t t0 t1).2.1, fun x x0 x1 => ?_⟩⟩
  · rw [h x 0 x0 x1 (by omega) (by omega), h x 1 x0 x1 (by omega) (by omega), h x 2 x0 x1 (by omega) (by omega), h x 3 x0 x1 (by omega) (by omega)]
    exact s.2.2.1 x x0 x1
  · rw [h x 4 x0 x1 (by omega) (by omega)]
    exact (s.2.2.2 t t0 t1).2.2 x x0 x1
theorem BoOK_ge {n told : Int} {g g' : Int → Int → Int} (h : ∀ x e, 0 ≤ x → x < told → 0 ≤ e → e < 5 → g' x e = g x e) (s : BoOK n told g) : BoOK n told g' := fun x x0 x1 => by
  rw [h x 0 x0 x1 (by omega) (by omega), h x 1 x0 x1 (by omega) (by omega), h x 2 x0 x1 (by omega) (by omega), h x 3 x0 x1 (by omega) (by omega), h x 4 x0 x1 (by omega) (by omega)]
  exact s x x0 x1
theorem gNow_e {a a' : Int → Int} (hq : ∀ q, 0 ≤ q → q < 1814 → a' q = a q) {x e : Int} (x0 : 0 ≤ x) (x1 : x < 16) (e0 : 0 ≤ e) (e1 : e < 5) : gNow a' x e = gNow a x e := hq _ (by omega) (by omega)
theorem gRec_e {a a' : Int → Int} (hq : ∀ q, 0 ≤ q → q < 1814 → a' q = a q) {j x e : Int} (j0 : 0 ≤ j) (j1 : j < 20) (x0 : 0 ≤ x) (x1 : x < 16) (e0 : 0 ≤ e) (e1 : e < 5) : gRec a' j x e = gRec a j x e := hq _ (by omega) (by omega)
theorem WSim_e {V : Va} {b : Nat} {a a' : Int → Int} (hq : ∀ q, 0 ≤ q → q < 1814 → a' q = a q) (hM : MIv a) (h : WSim V b a) : WSim V b a' := by
  have i0 := hM.1.2.1
  have i1 := hM.1.2.2.1
  have i5 := hM.1.2.2.2.2.2.1
  have i6 := hM.2.2.1
  have hr := hM.2.2.2.2.2.2.2.2.1
  obtain ⟨e1, e2, e3, e4, e5, e6⟩ := h
  have z0 := hq 0 (by omega) (by omega)
  have z1 := hq 1 (by omega) (by omega)
  have z2 := hq 2 (by omega) (by omega)
  have z3 := hq 3 (by omega) (by omega)
  have z4 := hq 4 (by omega) (by omega)
  have z5 := hq 5 (by omega) (by omega)
  have z6 := hq 6 (by omega) (by omega)
  have z7 := hq 7 (by omega) (by omega)
  have z8 := hq 8 (by omega) (by omega)
  simp only [WSim, z0, z1, z2, z3, z4, z5, z6, z7, z8]
  refine ⟨e1, fun t t0 t1 => ?_, fun x x0 x1 => ?_, BoSim_ge (fun x e x0 x1 f0 f1 => gNow_e hq x0 (by omega) f0 f1) e4, ⟨e5.1, e5.2.1, e5.2.2.1, fun j j0 j1 => ?_⟩, e6.1, e6.2.1, e6.2.2.1, fun s s0 s1 => ?_⟩
  · rw [hq (10 + 2 * t) (by omega) (by omega), hq (10 + 2 * t + 1) (by omega) (by omega)]
    exact e2 t t0 t1
  · rw [hq (30 + 6 * x) (by omega) (by omega)]
    exact e3 x x0 x1
  · rw [hq (174 + 82 * j) (by omega) (by omega), hq (174 + 82 * j + 1) (by omega) (by omega)]
    have k := (hr j j0 j1).1
    exact BoSim_ge (fun x e x0 x1 f0 f1 => gRec_e hq j0 (by omega) x0 (by omega) f0 f1) (e5.2.2.2 j j0 j1)
  · rw [hq (126 + 4 * s) (by omega) (by omega), hq (126 + 4 * s + 1) (by omega) (by omega), hq (126 + 4 * s + 2) (by omega) (by omega), hq (126 + 4 * s + 3) (by omega) (by omega)]
    exact e6.2.2.2 s s0 s1
theorem MIv_e {a a' : Int → Int} (hq : ∀ q, 0 ≤ q → q < 1814 → a' q = a q) (hA : AB a') (hM : MIv a) : MIv a' := by
  obtain ⟨m1, m2, m3, m4, m5, m6, m7, m8, m9, m10⟩ := hM
  obtain ⟨n1, n2, n3, n4, n5, n6, n7⟩ := m1
  have z0 := hq 0 (by omega) (by omega)
  have z1 := hq 1 (by omega) (by omega)
  have z2 := hq 2 (by omega) (by omega)
  have z3 := hq 3 (by omega) (by omega)
  have z4 := hq 4 (by omega) (by omega)
  have z5 := hq 5 (by omega) (by omega)
  have z6 := hq 6 (by omega) (by omega)
  have z7 := hq 7 (by omega) (by omega)
  have z8 := hq 8 (by omega) (by omega)
  simp only [MIv, AI, z0, z1, z2, z3, z4, z5, z6, z7, z8]
  refine ⟨⟨hA, n2, n3, n4, n5, n6, fun b b0 b1 => ?_⟩, m2, m3, m4, fun t t0 t1 => ?_, fun x x0 x1 => ?_, BoOK_ge (fun x e x0 x1 f0 f1 => gNow_e hq x0 (by omega) f0 f1) m7, fun x x0 x1 => ?_, fun j j0 j1 => ?_, fun s s0 s1 => ?_⟩
  · rw [hq (30 + 6 * b + 5) (by omega) (by omega)]; exact n7 b b0 b1
  · rw [hq (10 + 2 * t) (by omega) (by omega), hq (10 + 2 * t + 1) (by omega) (by omega)]
    exact m5 t t0 t1
  · rw [hq (30 + 6 * x) (by omega) (by omega)]
    exact m6 x x0 x1
  · rw [gNow_e hq (by omega) x1 (by omega) (by omega)]; exact m8 x x0 x1
  · rw [hq (174 + 82 * j) (by omega) (by omega), hq (174 + 82 * j + 1) (by omega) (by omega)]
    obtain ⟨k1, k2, k3, k4⟩ := m9 j j0 j1
    refine ⟨k1, k2, BoOK_ge (fun x e x0 x1 f0 f1 => gRec_e hq j0 (by omega) x0 (by omega) f0 f1) k3, fun x x0 x1 => ?_⟩
    rw [gRec_e hq j0 (by omega) (by omega) x1 (by omega) (by omega), gNow_e hq (by omega) x1 (by omega) (by omega)]
    by_cases c : j + 1 < a 5
    · have y := k4 x x0 x1
      rw [if_pos c] at y ⊢
      rw [gRec_e hq (by omega) (by omega) (by omega) x1 (by omega) (by omega)]
      exact y
    · have y := k4 x x0 x1
      rw [if_neg c] at y ⊢
      exact y
  · rw [hq (126 + 4 * s) (by omega) (by omega), hq (126 + 4 * s + 1) (by omega) (by omega), hq (126 + 4 * s + 2) (by omega) (by omega), hq (126 + 4 * s + 3) (by omega) (by omega)]
    exact m10 s s0 s1
theorem AB_cp {f g : Int → Int} (hf : AB f) (hg : AB g) (k : Int) : AB (cpK f g k) := fun q => by
  simp only [cpK]
  split
  · exact hf q
  · exact hg q
theorem TSim_tcp {S : Stt} {V : Va} {b c : Nat} {a tx : Int → Int} (h : TSim S V c a tx) (hb : b < 326) (h3 : a 3 ≤ 4) : TSim (tcpS S b c) V b a tx := fun T h0 h1 => by
  obtain ⟨id, cl, cd, e1, e2, e3⟩ := h T h0 h1
  refine ⟨id, cl, cd, ?_, ?_, e3⟩
  · simp only [tcpS]; rw [up_same, if_pos (by omega)]; exact e1
  · have y := e2.1.1
    simp only [TxS, tcpS] at e2 ⊢
    rw [up_ne (show id ≠ b by omega)]
    exact e2
