/-! a STEP is kept: both sides -/
theorem mKeep_at {a : Int → Int} {q : Int} (hq : q ≠ 5) : mKeep a q = recK (mShift a) (174 + 82 * mShift a 5) 80 q := by
  simp only [mKeep, mRec]
  rw [ua_ne hq]
theorem mKeep_old {a : Int → Int} (h5 : 0 ≤ a 5 ∧ a 5 ≤ 20) {j d : Int} (hj : 0 ≤ j) (hj2 : j < mShift a 5) (hd : 0 ≤ d ∧ d < 82) : mKeep a (174 + 82 * j + d) = if a 5 = 20 then a (174 + 82 * (j + 1) + d) else a (174 + 82 * j + d) := by
  have h1 := mShift_5 h5
  rw [mKeep_at (by omega), recK_rd _ (by omega)]
  by_cases c : a 5 = 20
  · rw [if_pos c] at h1 ⊢
    simp only [mShift]
    rw [if_pos c, ua_ne (by omega)]
    simp only [shiftK]
    rw [if_pos (by omega)]
    exact congrArg a (by omega)
  · rw [if_neg c]
    simp only [mShift]
    rw [if_neg c]
theorem mKeep_n0 {a : Int → Int} (h5 : 0 ≤ a 5 ∧ a 5 ≤ 20) : mKeep a (174 + 82 * mShift a 5) = a 2 ∧ mKeep a (174 + 82 * mShift a 5 + 1) = a 1 := by
  have h1 := mShift_5 h5
  constructor
  · rw [mKeep_at (by omega)]
    simp only [recK]
    rw [if_neg (by omega), if_neg (by omega), if_pos trivial, mShift_lo (by omega) (by omega)]
  · rw [mKeep_at (by omega)]
    simp only [recK]
    rw [if_neg (by omega), if_pos trivial, mShift_lo (by omega) (by omega)]
theorem mKeep_n2 {a : Int → Int} (h5 : 0 ≤ a 5 ∧ a 5 ≤ 20) {x e : Int} (hx : 0 ≤ x ∧ x < 16) (he : 0 ≤ e ∧ e < 5) : mKeep a (174 + 82 * mShift a 5 + 2 + 5 * x + e) = gNow a x e := by
  have h1 := mShift_5 h5
  rw [mKeep_at (by omega)]
  simp only [recK, gNow]
  rw [if_pos (by omega), mShift_lo (by omega) (by omega)]
  exact congrArg a (by omega)
theorem gNow_keep {a : Int → Int} (h5 : 0 ≤ a 5 ∧ a 5 ≤ 20) {x e : Int} (hx : 0 ≤ x ∧ x < 16) (he : 0 ≤ e ∧ e < 5) : gNow (mKeep a) x e = gNow a x e := by
  simp only [gNow]
  rw [mKeep_lo (by omega) (by omega) h5]
/-- the records of a row in which a step is kept: the old ones, then the present -/
theorem keep_rec {a : Int → Int} (h5 : 0 ≤ a 5 ∧ a 5 ≤ 20) {j : Int} (hj : 0 ≤ j ∧ j < mKeep a 5) : (∃ i, 0 ≤ i ∧ i < a 5 ∧ i = (if a 5 = 20 then j + 1 else j) ∧ j < mShift a 5 ∧ mKeep a (174 + 82 * j) = a (174 + 82 * i) ∧ mKeep a (174 + 82 * j + 1) = a (174 + 82 * i + 1) ∧ ∀ x e, 0 ≤ x → x < 16 → 0 ≤ e → e < 5 → gRec (mKeep a) j x e = gRec a i x e) ∨ (j = mShift a 5 ∧ mKeep a (174 + 82 * j) = a 2 ∧ mKeep a (174 + 82 * j + 1) = a 1 ∧ ∀ x e, 0 ≤ x → x < 16 → 0 ≤ e → e < 5 → gRec (mKeep a) j x e = gNow a x e) := by
  have h1 := mShift_5 h5
  have h2 := mKeep_5 h5
  have hj5 : j ≤ mShift a 5 := by
    rw [h2] at hj
    have := h1.2.2
    split at this <;> split at hj <;> omega
  by_cases c : j = mShift a 5
  · right
    refine ⟨c, ?_, ?_, fun x e x0 x1 e0 e1 => ?_⟩
    · rw [c]; exact (mKeep_n0 h5).1
    · rw [c]; exact (mKeep_n0 h5).2
    · simp only [gRec]
      rw [c]; exact mKeep_n2 h5 ⟨x0, x1⟩ ⟨e0, e1⟩
  · left
    have hlt : j < mShift a 5 := by omega
    have key : ∀ d, 0 ≤ d → d < 82 → mKeep a (174 + 82 * j + d) = a (174 + 82 * (if a 5 = 20 then j + 1 else j) + d) := fun d d0 d1 => by
      rw [mKeep_old h5 hj.1 hlt ⟨d0, d1⟩]
      split <;> rfl
    refine ⟨if a 5 = 20 then j + 1 else j, by split <;> omega, ?_, rfl, hlt, ?_, key 1 (by omega) (by omega), fun x e x0 x1 e0 e1 => ?_⟩
    · have := h1.2.2
      split <;> split at this <;> omega
    · have := key 0 (by omega) (by omega)
      rw [Int.add_zero, Int.add_zero] at this
      exact this
    · have := key (2 + 5 * x + e) (by omega) (by omega)
      simp only [gRec]
      rw [show 174 + 82 * j + 2 + 5 * x + e = 174 + 82 * j + (2 + 5 * x + e) by omega, this]
      exact congrArg a (by omega)
theorem BoOK_c {n told : Int} {g g' : Int → Int → Int} (ht : told ≤ 16) (h : ∀ x e, 0 ≤ x → x < 16 → 0 ≤ e → e < 5 → g' x e = g x e) (k : BoOK n told g) : BoOK n told g' := fun x x0 x1 => by
  have e := fun q q0 q1 => h x q x0 (by omega) q0 q1
  have := k x x0 x1
  rw [e 0 (by omega) (by omega), e 1 (by omega) (by omega), e 2 (by omega) (by omega), e 3 (by omega) (by omega), e 4 (by omega) (by omega)]
  exact this
theorem MIv_keep {a : Int → Int} (h : MIv a) : MIv (mKeep a) := by
  obtain ⟨m1, m2, m3, m4, m5, m6, m7, m8, m9, m10⟩ := h
  have h5 := m1.2.2.2.2.2.1
  have i0 := m1.2.1
  have i1 := m1.2.2.1
  have lo : ∀ q, q < 174 → q ≠ 5 → mKeep a q = a q := fun q q0 q1 => mKeep_lo q0 q1 h5
  have s5 := mShift_5 h5
  have k5 := mKeep_5 h5
  refine ⟨AI_mKeep m1, ?_, ?_, ?_, ?_, ?_, ?_, ?_, ?_, ?_⟩
  · rw [lo 3 (by omega) (by omega), lo 4 (by omega) (by omega)]; exact m2
  · rw [lo 6 (by omega) (by omega)]; exact m3
  · rw [lo 7 (by omega) (by omega), lo 8 (by omega) (by omega)]; exact m4
  · rw [lo 0 (by omega) (by omega)]
    intro t t0 t1
    rw [lo _ (by omega) (by omega), lo _ (by omega) (by omega)]
    exact m5 t t0 t1
  · rw [lo 1 (by omega) (by omega)]
    intro x x0 x1
    rw [lo _ (by omega) (by omega)]
    exact m6 x x0 x1
  · rw [lo 0 (by omega) (by omega), lo 1 (by omega) (by omega)]
    exact BoOK_c (by omega) (fun x e x0 x1 e0 e1 => gNow_keep h5 ⟨x0, x1⟩ ⟨e0, e1⟩) m7
  · rw [lo 1 (by omega) (by omega)]
    intro x x0 x1
    rw [gNow_keep h5 ⟨by omega, x1⟩ ⟨by omega, by omega⟩]
    exact m8 x x0 x1
  · intro j j0 j1
    rw [lo 0 (by omega) (by omega), lo 1 (by omega) (by omega)]
    rcases keep_rec h5 ⟨j0, j1⟩ with ⟨i, q0, q1, q2, q3, q4, q5, q6⟩ | ⟨q1, q2, q3, q4⟩
    · obtain ⟨n1, n2, n3, n4⟩ := m9 i q0 q1
      rw [q4, q5]
      refine ⟨n1, n2, BoOK_c (by omega) q6 n3, fun x x0 x1 => ⟨?_, ?_⟩⟩
      · rw [q6 x 4 (by omega) x1 (by omega) (by omega)]; exact (n4 x x0 x1).1
      · have nx := (n4 x x0 x1).2
        rcases keep_rec h5 (j := j + 1) ⟨by omega, by
          rw [k5]
          have := s5.2.2
          split at this <;> split <;> omega⟩ with ⟨i', r0, r1, r2, r3, r4, r5, r6⟩ | ⟨r1, r2, r3, r4⟩
        · rw [if_pos (by rw [k5]; have := s5.2.2; split at this <;> split <;> omega), r6 x 4 (by omega) x1 (by omega) (by omega)]
          have e : i' = i + 1 := by rw [r2, q2]; split <;> omega
          rw [if_pos (by omega)] at nx
          rw [e]; exact nx
        · rw [if_pos (by rw [k5]; have := s5.2.2; split at this <;> split <;> omega), r4 x 4 (by omega) x1 (by omega) (by omega)]
          have e : ¬ i + 1 < a 5 := by
            have := s5.2.2
            rw [q2]
            split at this <;> split <;> omega
          rw [if_neg e] at nx
          exact nx
    · rw [q2, q3]
      refine ⟨by omega, m1.2.2.2.1, BoOK_c (by omega) q4 m7, fun x x0 x1 => ⟨?_, ?_⟩⟩
      · rw [q4 x 4 (by omega) x1 (by omega) (by omega)]; exact m8 x x0 x1
      · rw [if_neg (by rw [k5]; have := s5.2.2; split at this <;> split <;> omega), gNow_keep h5 ⟨by omega, x1⟩ ⟨by omega, by omega⟩]
        exact m8 x x0 x1
  · rw [lo 6 (by omega) (by omega), lo 0 (by omega) (by omega)]
    intro s s0 s1
    rw [lo _ (by omega) (by omega), lo _ (by omega) (by omega), lo _ (by omega) (by omega), lo _ (by omega) (by omega)]
    exact m10 s s0 s1
theorem BoSim_g {V : Va} {i : Nat} {told year : Int} {g g' : Int → Int → Int} (ht : told ≤ 16) (h : ∀ x e, 0 ≤ x → x < 16 → 0 ≤ e → e < 5 → g' x e = g x e) (k : BoSim V i told year g) : BoSim V i told year g' := by
  obtain ⟨k1, k2, k3, k4⟩ := k
  refine ⟨k1, k2, fun x x0 x1 => ?_, fun t t0 t1 => ⟨(k4 t t0 t1).1, (k4 t t0 t1).2.1, fun x x0 x1 => ?_⟩⟩
  · rw [h x 0 x0 (by omega) (by omega) (by omega), h x 1 x0 (by omega) (by omega) (by omega), h x 2 x0 (by omega) (by omega) (by omega), h x 3 x0 (by omega) (by omega) (by omega)]
    exact k3 x x0 x1
  · rw [h x 4 x0 (by omega) (by omega) (by omega)]
    exact (k4 t t0 t1).2.2 x x0 x1
/-- one BONES row becomes another -/
theorem bcp_at (V : Va) (i j : Nat) : bcp V i j i = ua (ua (V i) 5 (V j 5)) 6 (V j 6) ∧ bcp V i j (i + 1) = cpK (V (j + 1)) (V (i + 1)) (V j 5) ∧ bcp V i j (i + 2) = cpK (V (j + 2)) (V (i + 2)) (V j 5) ∧ bcp V i j (i + 3) = cpK (V (j + 3)) (V (i + 3)) (V j 5) ∧ bcp V i j (i + 4) = cpK (V (j + 4)) (V (i + 4)) (V j 5) ∧ bcp V i j (i + 5) = cpK (V (j + 5)) (V (i + 5)) 10 := by
  simp only [bcp]
  refine ⟨by rw [up_same], ?_, ?_, ?_, ?_, ?_⟩
  · rw [up_ne (by omega), up_ne (by omega), up_ne (by omega), up_ne (by omega), up_ne (by omega), up_same]
  · rw [up_ne (by omega), up_ne (by omega), up_ne (by omega), up_ne (by omega), up_same]
  · rw [up_ne (by omega), up_ne (by omega), up_ne (by omega), up_same]
  · rw [up_ne (by omega), up_ne (by omega), up_same]
  · rw [up_ne (by omega), up_same]
theorem cpK_in {f g : Int → Int} {k q : Int} (h0 : 0 ≤ q) (h1 : q < k) : cpK f g k q = f q := by
  simp only [cpK]
  rw [if_pos ⟨h0, h1⟩]
theorem AB_cpK {f g : Int → Int} (hf : AB f) (hg : AB g) (k : Int) : AB (cpK f g k) := fun q => by
  simp only [cpK]
  split
  · exact hf q
  · exact hg q
theorem bcp_sim {V : Va} {i j : Nat} {told year : Int} {g : Int → Int → Int} (k : BoSim V j told year g) : BoSim (bcp V i j) i told year g := by
  obtain ⟨k1, k2, k3, k4⟩ := k
  obtain ⟨b0, b1, b2, b3, b4, b5⟩ := bcp_at V i j
  refine ⟨?_, ?_, fun x x0 x1 => ?_, fun t t0 t1 => ?_⟩
  · rw [b0, ua_ne (by omega), ua_same]; exact k1
  · rw [b0, ua_same]; exact k2
  · rw [b1, b2, b3, b4, cpK_in x0 (by omega), cpK_in x0 (by omega), cpK_in x0 (by omega), cpK_in x0 (by omega)]
    exact k3 x x0 x1
  · rw [b5, cpK_in t0 t1]
    exact k4 t t0 t1
theorem WSim_keep {V : Va} {a : Int → Int} (hW : WSim V 1 a) (hM : MIv a) : WSim (cRem V) 1 (mKeep a) := by
  obtain ⟨e1, e2, e3, e4, e5, e6⟩ := hW
  have h5 := hM.1.2.2.2.2.2.1
  have i0 := hM.1.2.1
  have i1 := hM.1.2.2.1
  have i6 := hM.2.2.1
  have lo : ∀ q, q < 174 → q ≠ 5 → mKeep a q = a q := fun q q0 q1 => mKeep_lo q0 q1 h5
  have s5 := mShift_5 h5
  have k5 := mKeep_5 h5
  obtain ⟨f1, f2, f3, f4⟩ := e5
  have f1 : V 11 2 = a 5 := f1
  have f2 : 0 ≤ V 11 1 := f2
  have f3 : V 11 1 < 20 := f3
  have oth : ∀ q : Nat, q = 0 ∨ (2 ≤ q ∧ q ≤ 10) ∨ q = 12 ∨ 133 ≤ q → cRem V q = V q := fun q hq => cRem_o f2 f3 hq
  have r11 : cRem V 11 = ua (ua (V 11) 1 ((V 11 1 + 1) % 20)) 2 (if 20 < V 11 2 + 1 then 20 else V 11 2 + 1) := by
    simp only [cRem, cRem0]
    rw [up_ne (by omega), up_same]
  have n1 : cRem V 11 1 = (V 11 1 + 1) % 20 := by rw [r11, ua_ne (by omega), ua_same]
  have n2 : cRem V 11 2 = mKeep a 5 := by
    rw [r11, ua_same, f1, k5]
    split <;> split <;> omega
  refine ⟨?_, ?_, ?_, ?_, ⟨n2, ?_, ?_, ?_⟩, ?_⟩
  · rw [cRem_1 (by omega), cRem_1 (by omega), cRem_1 (by omega), lo 0 (by omega) (by omega), lo 3 (by omega) (by omega), lo 4 (by omega) (by omega)]
    exact e1
  · rw [oth (1 + 1) (by omega), oth (1 + 2) (by omega), lo 0 (by omega) (by omega)]
    intro t t0 t1
    rw [lo _ (by omega) (by omega), lo _ (by omega) (by omega)]
    exact e2 t t0 t1
  · rw [oth (1 + 3) (by omega), lo 1 (by omega) (by omega)]
    intro x x0 x1
    rw [lo _ (by omega) (by omega)]
    exact e3 x x0 x1
  · rw [lo 1 (by omega) (by omega), lo 2 (by omega) (by omega)]
    exact BoSim_g (by omega) (fun x e x0 x1 e0' e1' => gNow_keep h5 ⟨x0, x1⟩ ⟨e0', e1'⟩) (BoSim_c (fun q q0 q1 => oth q (by omega)) e4)
  · show 0 ≤ cRem V 11 1
    rw [n1]; omega
  · show cRem V 11 1 < 20
    rw [n1]; omega
  · intro j j0 j1
    show BoSim (cRem V) (ringId 1 (cRem V 11 1) (mKeep a 5) j) _ _ _
    rw [n1]
    have hrow : ∀ q : Nat, 13 ≤ q → q ≤ 132 → cRem V q = bcp V (13 + 6 * (V 11 1).toNat) 5 q := fun q q0 q1 => by
      simp only [cRem, cRem0]
      rw [up_ne (by omega), up_ne (by omega)]
    rcases keep_rec h5 ⟨j0, j1⟩ with ⟨i, q0, q1, q2, q3, q4, q5, q6⟩ | ⟨q1, q2, q3, q4⟩
    · have hid : ringId 1 ((V 11 1 + 1) % 20) (mKeep a 5) j = ringId 1 (V 11 1) (a 5) i := by
        simp only [ringId]
        rw [q2, k5]
        split <;> omega
      have hne : ringId 1 (V 11 1) (a 5) i + 5 < 13 + 6 * (V 11 1).toNat ∨ 13 + 6 * (V 11 1).toNat + 5 < ringId 1 (V 11 1) (a 5) i := by
        simp only [ringId]
        rw [q2]
        have := s5.2.2
        split at this <;> split <;> omega
      have hr := ringId_r 1 (V 11 1) (a 5) i
      have told := (hM.2.2.2.2.2.2.2.2.1 i q0 q1).1
      rw [hid, q4, q5]
      refine BoSim_g (by omega) q6 (BoSim_c (fun q r0 r1 => ?_) (f4 i q0 q1))
      rw [hrow q (by omega) (by omega), bcp_o (by omega)]
    · have hid : ringId 1 ((V 11 1 + 1) % 20) (mKeep a 5) j = 13 + 6 * (V 11 1).toNat := by
        simp only [ringId]
        rw [q1, s5.2.2, k5]
        split <;> omega
      rw [hid, q2, q3]
      refine BoSim_g (by omega) q4 (BoSim_c (fun q r0 r1 => hrow q (by omega) (by omega)) (bcp_sim e4))
  · rw [lo 6 (by omega) (by omega), lo 7 (by omega) (by omega), lo 8 (by omega) (by omega), oth (1 + 133) (by omega), oth (1 + 134) (by omega), oth (1 + 135) (by omega), oth (1 + 136) (by omega), oth (1 + 137) (by omega)]
    refine ⟨e6.1, e6.2.1, e6.2.2.1, fun s s0 s1 => ?_⟩
    rw [lo _ (by omega) (by omega), lo _ (by omega) (by omega), lo _ (by omega) (by omega), lo _ (by omega) (by omega)]
    exact e6.2.2.2 s s0 s1
