/-! burn, undo -/
theorem cpK_out {f g : Int → Int} {k q : Int} (h : k ≤ q) : cpK f g k q = g q := by
  simp only [cpK]
  rw [if_neg (by omega)]
section Ops3
variable {V : Va} {a : Int → Int}
theorem burn_g {t k : Int} {x e : Int} (he : 0 ≤ e ∧ e < 5) (hx : 0 ≤ x) : gNow (burnK a t k) x e = if e = 4 ∧ x < k then gNow a x 4 - band (gNow a x 4) (p2 t) else gNow a x e := by
  simp only [gNow, burnK]
  by_cases c : e = 4 ∧ x < k
  · rw [if_pos c, if_pos (by omega), c.1]
  · rw [if_neg c, if_neg (by omega)]
theorem burn_s (hW : WSim V 1 a) (hB : WB V 1) (hM : MIv a) (t : Int) : StpR (mTownOk a t) (mBurnF a t) V (cBurnF V t) ∧ MIv (mBurnF a t) := by
  have r0 : 0 ≤ V 11 1 := hW.2.2.2.2.1.2.1
  have r1 : V 11 1 < 20 := hW.2.2.2.2.1.2.2.1
  have w5 : V 5 5 = a 1 := hW.2.2.2.1.1
  have w7 : V 1 7 = a 0 := hW.1.1
  have h5 := hM.1.2.2.2.2.2.1
  have i0 := hM.1.2.1
  have i1 := hM.1.2.2.1
  have k0 : mKeep a 0 = a 0 := mKeep_lo (by omega) (by omega) h5
  have k1 : mKeep a 1 = a 1 := mKeep_lo (by omega) (by omega) h5
  have hc : cTownOk V t ↔ mTownOk a t := by simp only [cTownOk, mTownOk]; omega
  simp only [mBurnF, cBurnF, StpR]
  by_cases c : mTownOk a t
  · rw [if_pos c, if_pos (hc.mpr c)]
    have c0 := c.1
    have c1 := c.2
    have hWk := WSim_keep hW hM
    have hBk := WB_keep hB r0 r1 (by omega)
    have hMk := MIv_keep hM
    obtain ⟨q1, q2, q3, q4⟩ := hWk.2.2.2.1
    have e10 : cRem V 10 = V 10 := cRem_o r0 r1 (by omega)
    have bk := WB_BB hB
    have lo : ∀ q, q < 30 → burnK (mKeep a) t (a 1) q = mKeep a q := fun q hq => burnK_rd (Or.inl hq)
    have hi : ∀ q, 126 ≤ q → burnK (mKeep a) t (a 1) q = mKeep a q := fun q hq => by
      by_cases z : (q - 30) % 6 = 5
      · exact burnK_rd (Or.inr (Or.inr (by omega)))
      · exact burnK_rd (Or.inr (Or.inl z))
    have kd : ∀ x, burnK (mKeep a) t (a 1) (30 + 6 * x) = mKeep a (30 + 6 * x) := fun x => burnK_rd (Or.inr (Or.inl (by omega)))
    have gg := fun (x e : Int) (he : 0 ≤ e ∧ e < 5) (hx : 0 ≤ x) => burn_g (a := mKeep a) (t := t) (k := a 1) he hx
    have g4 : ∀ x, 0 ≤ x → gNow (mKeep a) x 4 = 0 → gNow (burnK (mKeep a) t (a 1)) x 4 = 0 := fun x x0 z => by
      rw [gg x 4 (by omega) x0]
      split
      · rw [z]; simp [band]
      · exact z
    refine ⟨Or.inl ⟨c, ?_, WB_r10 hBk (fun q => ?_), fun q q0 q1 q2 => ?_, cRem_10 V⟩, ?_⟩
    · refine WSim_bones hWk (by omega) (fun q q0 q1 => lo q q0) kd hi (fun q q0 q1 q2 => up_ne (by omega)) ?_
      rw [lo 1 (by omega), lo 2 (by omega)]
      refine ⟨q1, q2, fun x x0 x1 => ?_, fun t' t0 t1 => ?_⟩
      · rw [gg x 0 (by omega) x0, gg x 1 (by omega) x0, gg x 2 (by omega) x0, gg x 3 (by omega) x0, if_neg (by omega), if_neg (by omega), if_neg (by omega), if_neg (by omega)]
        exact q3 x x0 x1
      · show 0 ≤ ua (cRem V 10) t 0 t' ∧ ua (cRem V 10) t 0 t' < p2 (mKeep a 1) ∧ ∀ x, 0 ≤ x → x < mKeep a 1 → ua (cRem V 10) t 0 t' / p2 x % 2 = _
        have q4' := q4 t' t0 t1
        have nn : ∀ x, 0 ≤ x → x < mKeep a 1 → 0 ≤ gNow (mKeep a) x 4 := fun x x0 x1 => (hMk.2.2.2.2.2.2.1 x x0 x1).2.2.2.2.1
        by_cases ct : t' = t
        · subst ct
          rw [ua_same]
          refine ⟨by omega, p2_pos _, fun x x0 x1 => ?_⟩
          rw [gg x 4 (by omega) x0, if_pos ⟨rfl, by omega⟩, bit_clear (nn x x0 x1) t0 t0, if_pos rfl, Int.zero_ediv]
          rfl
        · rw [ua_ne ct]
          refine ⟨q4'.1, q4'.2.1, fun x x0 x1 => ?_⟩
          rw [gg x 4 (by omega) x0, if_pos ⟨rfl, by omega⟩, bit_clear (nn x x0 x1) c0 t0, if_neg ct]
          exact q4'.2.2 x x0 x1
    · by_cases cq : q = t
      · rw [cq, ua_same]; omega
      · rw [ua_ne cq, e10]; exact bk.1 q
    · rw [up_ne (by omega)]
      exact FrN_rem r0 r1 q q0 q1 q2
    · obtain ⟨m1, m2, m3, m4, m5, m6, m7, m8, m9, m10⟩ := hMk
      have gr : ∀ j x e, 0 ≤ j → 0 ≤ x → 0 ≤ e → gRec (burnK (mKeep a) t (a 1)) j x e = gRec (mKeep a) j x e := fun j x e j0 x0 e0 => hi _ (by omega)
      refine ⟨AI_burnK m1 (by omega), ?_, ?_, ?_, ?_, ?_, ?_, ?_, ?_, ?_⟩
      · rw [lo 3 (by omega), lo 4 (by omega)]; exact m2
      · rw [lo 6 (by omega)]; exact m3
      · rw [lo 7 (by omega), lo 8 (by omega)]; exact m4
      · rw [lo 0 (by omega)]
        intro t t0 t1
        rw [lo _ (by omega), lo _ (by omega)]; exact m5 t t0 t1
      · rw [lo 1 (by omega)]
        intro x x0 x1
        rw [kd]; exact m6 x x0 x1
      · rw [lo 0 (by omega), lo 1 (by omega)]
        intro x x0 x1
        have k := m7 x x0 x1
        rw [gg x 0 (by omega) x0, gg x 1 (by omega) x0, gg x 2 (by omega) x0, gg x 3 (by omega) x0, gg x 4 (by omega) x0, if_neg (by omega), if_neg (by omega), if_neg (by omega), if_neg (by omega), if_pos ⟨rfl, by omega⟩]
        have bb := band_r (y := p2 t) k.2.2.2.2.1
        exact ⟨k.1, k.2.1, k.2.2.1, k.2.2.2.1, by omega, by omega⟩
      · rw [lo 1 (by omega)]
        intro x x0 x1
        exact g4 x (by omega) (m8 x x0 x1)
      · rw [lo 5 (by omega), lo 0 (by omega), lo 1 (by omega)]
        intro j j0 j1
        rw [hi _ (by omega), hi _ (by omega)]
        obtain ⟨n1, n2, n3, n4⟩ := m9 j j0 j1
        refine ⟨n1, n2, BoOK_c (by omega) (fun x e x0 x1 e0 e1 => gr j x e j0 x0 e0) n3, fun x x0 x1 => ?_⟩
        have q := n4 x x0 x1
        rw [gr j x 4 j0 (by omega) (by omega), gr (j + 1) x 4 (by omega) (by omega) (by omega)]
        refine ⟨q.1, ?_⟩
        by_cases l : j + 1 < mKeep a 5
        · rw [if_pos l] at q ⊢; exact q.2
        · rw [if_neg l] at q ⊢; exact g4 x (by omega) q.2
      · rw [lo 6 (by omega), lo 0 (by omega)]
        intro s s0 s1
        rw [hi _ (by omega), hi _ (by omega), hi _ (by omega), hi _ (by omega)]
        exact m10 s s0 s1
  · rw [if_neg c, if_neg (fun z => c (hc.mp z))]
    exact ⟨Or.inr ⟨c, rfl⟩, hM⟩
/-- the reference's row when a step is taken back -/
theorem undo_r (h5 : 0 < a 5 ∧ a 5 ≤ 20) (ht : 0 ≤ a (174 + 82 * (a 5 - 1) + 1) ∧ a (174 + 82 * (a 5 - 1) + 1) ≤ 16) : (∀ q, q < 30 → q ≠ 2 → q ≠ 5 → mUndo a q = a q) ∧ mUndo a 2 = a (174 + 82 * (a 5 - 1)) ∧ mUndo a 5 = a 5 - 1 ∧ (∀ x, mUndo a (30 + 6 * x) = a (30 + 6 * x)) ∧ (∀ q, 126 ≤ q → mUndo a q = a q) ∧ ∀ x e, 0 ≤ x → x < 16 → 0 ≤ e → e < 5 → gNow (mUndo a) x e = if x < a (174 + 82 * (a 5 - 1) + 1) then gRec a (a 5 - 1) x e else gNow a x e := by
  simp only [mUndo, gNow, gRec]
  refine ⟨fun q q0 q1 q2 => ?_, ?_, ?_, fun x => ?_, fun q hq => ?_, fun x e x0 x1 e0 e1 => ?_⟩
  · rw [undoK_hi (Or.inl q0), ua_ne q1, ua_ne q2]
  · rw [undoK_hi (Or.inl (by omega)), ua_same]
  · rw [undoK_hi (Or.inl (by omega)), ua_ne (by omega), ua_same]
  · simp only [undoK]
    rw [if_neg (by omega), ua_ne (by omega), ua_ne (by omega)]
  · rw [undoK_hi (Or.inr hq), ua_ne (by omega), ua_ne (by omega)]
  · simp only [undoK]
    by_cases c : x < a (174 + 82 * (a 5 - 1) + 1)
    · rw [if_pos c, if_pos (by omega), ua_ne (by omega), ua_ne (by omega)]
      exact congrArg a (by omega)
    · rw [if_neg c, if_neg (by omega), ua_ne (by omega), ua_ne (by omega)]
theorem undo_s (hW : WSim V 1 a) (hB : WB V 1) (hM : MIv a) (hn : a 5 ≠ 0) : WSim (cTB V) 1 (mUndo a) ∧ WB (cTB V) 1 ∧ MIv (mUndo a) ∧ FrN V (cTB V) ∧ cTB V 1 10 = V 1 10 + 1 := by
  obtain ⟨e1, e2, e3, e4, e5, e6⟩ := id hW
  have r0 : 0 ≤ V 11 1 := e5.2.1
  have r1 : V 11 1 < 20 := e5.2.2.1
  have r2 : V 11 2 = a 5 := e5.1
  have w5 : V 5 5 = a 1 := e4.1
  have h5 := hM.1.2.2.2.2.2.1
  have i0 := hM.1.2.1
  have i1 := hM.1.2.2.1
  obtain ⟨m1, m2, m3, m4, m5, m6, m7, m8, m9, m10⟩ := id hM
  have last := m9 (a 5 - 1) (by omega) (by omega)
  obtain ⟨u1, u2, u3, u4, u5, u6⟩ := undo_r (a := a) (by omega) (by omega)
  obtain ⟨r, hr⟩ : ∃ r : Nat, r = 13 + 6 * ((V 11 1 + 20 - 1) % 20).toNat := ⟨_, rfl⟩
  have hr2 : 13 ≤ r ∧ r + 5 ≤ 132 := by omega
  obtain ⟨V1, hV1⟩ : ∃ V1 : Va, V1 = up V 11 (ua (ua (V 11) 1 ((V 11 1 + 20 - 1) % 20)) 2 (if V 11 2 - 1 < 0 then 0 else V 11 2 - 1)) := ⟨_, rfl⟩
  have hT : cTB V = up (up (bcp V1 5 r) 5 (ua (bcp V1 5 r 5) 5 (V 5 5))) 1 (ua (V 1) 10 (V 1 10 + 1)) := by
    simp only [cTB, cTB0]
    rw [← hV1, ← hr]
  have o1 : ∀ q : Nat, q ≠ 11 → V1 q = V q := fun q hq => by rw [hV1]; exact up_ne hq
  obtain ⟨b0, b1, b2, b3, b4, b5⟩ := bcp_at V1 5 r
  have n1 : cTB V 1 = ua (V 1) 10 (V 1 10 + 1) := by rw [hT, up_same]
  have n11 : cTB V 11 = ua (ua (V 11) 1 ((V 11 1 + 20 - 1) % 20)) 2 (if V 11 2 - 1 < 0 then 0 else V 11 2 - 1) := by
    rw [hT, up_ne (by omega), up_ne (by omega), bcp_o (by omega), hV1, up_same]
  have oth : ∀ q : Nat, q ≠ 1 → q ≠ 11 → q < 5 ∨ 10 < q → cTB V q = V q := fun q q0 q1 q2 => by
    rw [hT, up_ne q0, up_ne (by omega), bcp_o (by omega), o1 q q1]
  have n5 : cTB V 5 = ua (ua (ua (V 5) 5 (V r 5)) 6 (V r 6)) 5 (V 5 5) := by
    rw [hT, up_ne (by omega), up_same, b0, o1 5 (by omega), o1 r (by omega)]
  have nr : ∀ k : Nat, 1 ≤ k → k ≤ 4 → cTB V (5 + k) = cpK (V (r + k)) (V (5 + k)) (V r 5) := fun k k1 k4 => by
    rw [hT, up_ne (by omega), up_ne (by omega)]
    rcases (show k = 1 ∨ k = 2 ∨ k = 3 ∨ k = 4 by omega) with z | z | z | z <;> subst z
    · rw [b1, o1 _ (by omega), o1 _ (by omega), o1 _ (by omega)]
    · rw [b2, o1 _ (by omega), o1 _ (by omega), o1 _ (by omega)]
    · rw [b3, o1 _ (by omega), o1 _ (by omega), o1 _ (by omega)]
    · rw [b4, o1 _ (by omega), o1 _ (by omega), o1 _ (by omega)]
  have n10 : cTB V 10 = cpK (V (r + 5)) (V 10) 10 := by
    rw [hT, up_ne (by omega), up_ne (by omega)]
    show bcp V1 5 r (5 + 5) = _
    rw [b5, o1 _ (by omega), o1 _ (by omega)]
  have hrow : BoSim V r (a (174 + 82 * (a 5 - 1) + 1)) (a (174 + 82 * (a 5 - 1))) (gRec a (a 5 - 1)) := by
    have := e5.2.2.2 (a 5 - 1) (by omega) (by omega)
    have e : ringId 1 (V (1 + 10) 1) (a 5) (a 5 - 1) = r := by
      show ringId 1 (V 11 1) (a 5) (a 5 - 1) = r
      simp only [ringId]
      rw [hr]
      omega
    rw [e] at this
    exact this
  obtain ⟨s1, s2, s3, s4⟩ := hrow
  obtain ⟨k1, k2, k3, k4⟩ := e4
  refine ⟨⟨?_, ?_, ?_, ?_, ⟨?_, ?_, ?_, ?_⟩, ?_⟩, ?_, ?_, fun q q0 q1 q2 => oth q (by omega) (by omega) (by omega), ?_⟩
  · rw [n1, ua_ne (by omega), ua_ne (by omega), ua_ne (by omega), u1 0 (by omega) (by omega) (by omega), u1 3 (by omega) (by omega) (by omega), u1 4 (by omega) (by omega) (by omega)]
    exact e1
  · rw [oth (1 + 1) (by omega) (by omega) (by omega), oth (1 + 2) (by omega) (by omega) (by omega), u1 0 (by omega) (by omega) (by omega)]
    intro t t0 t1
    rw [u1 _ (by omega) (by omega) (by omega), u1 _ (by omega) (by omega) (by omega)]
    exact e2 t t0 t1
  · rw [oth (1 + 3) (by omega) (by omega) (by omega), u1 1 (by omega) (by omega) (by omega)]
    intro x x0 x1
    rw [u4]; exact e3 x x0 x1
  · rw [u1 1 (by omega) (by omega) (by omega), u2]
    refine ⟨?_, ?_, fun x x0 x1 => ?_, fun t t0 t1 => ?_⟩
    · show cTB V 5 5 = _
      rw [n5, ua_same]; exact w5
    · show cTB V 5 6 = _
      rw [n5, ua_ne (by omega), ua_same]; exact s2
    · show cTB V (5 + 1) x = _ ∧ cTB V (5 + 2) x = _ ∧ cTB V (5 + 3) x = _ ∧ cTB V (5 + 4) x = _
      rw [nr 1 (by omega) (by omega), nr 2 (by omega) (by omega), nr 3 (by omega) (by omega), nr 4 (by omega) (by omega), u6 x 0 x0 (by omega) (by omega) (by omega), u6 x 1 x0 (by omega) (by omega) (by omega), u6 x 2 x0 (by omega) (by omega) (by omega), u6 x 3 x0 (by omega) (by omega) (by omega)]
      by_cases c : x < a (174 + 82 * (a 5 - 1) + 1)
      · rw [cpK_in x0 (by omega), cpK_in x0 (by omega), cpK_in x0 (by omega), cpK_in x0 (by omega), if_pos c, if_pos c, if_pos c, if_pos c]
        exact s3 x x0 c
      · rw [cpK_out (by omega), cpK_out (by omega), cpK_out (by omega), cpK_out (by omega), if_neg c, if_neg c, if_neg c, if_neg c]
        exact k3 x x0 x1
    · show 0 ≤ cTB V 10 t ∧ cTB V 10 t < _ ∧ ∀ x, 0 ≤ x → x < a 1 → cTB V 10 t / p2 x % 2 = _
      rw [n10, cpK_in t0 t1]
      have q := s4 t t0 t1
      have hp := p2_le last.1.2
      refine ⟨q.1, by omega, fun x x0 x1 => ?_⟩
      rw [u6 x 4 x0 (by omega) (by omega) (by omega)]
      by_cases c : x < a (174 + 82 * (a 5 - 1) + 1)
      · rw [if_pos c]; exact q.2.2 x x0 c
      · rw [if_neg c, div_p2_0 q.1 q.2.1 (by omega)]
        have z := (last.2.2.2 x (by omega) (by omega)).2
        rw [if_neg (by omega)] at z
        rw [z, Int.zero_ediv]
        rfl
  · show cTB V 11 2 = _
    rw [n11, ua_same, u3, r2]
    rw [if_neg (by omega)]
  · show 0 ≤ cTB V 11 1
    rw [n11, ua_ne (by omega), ua_same]; omega
  · show cTB V 11 1 < 20
    rw [n11, ua_ne (by omega), ua_same]; omega
  · rw [u3]
    intro j j0 j1
    have hid : ringId 1 (cTB V (1 + 10) 1) (a 5 - 1) j = ringId 1 (V (1 + 10) 1) (a 5) j := by
      show ringId 1 (cTB V 11 1) (a 5 - 1) j = ringId 1 (V 11 1) (a 5) j
      rw [n11, ua_ne (by omega), ua_same]
      simp only [ringId]
      omega
    have hrr := ringId_r 1 (V (1 + 10) 1) (a 5) j
    have mj := m9 j j0 (by omega)
    rw [hid, u5 _ (by omega), u5 _ (by omega)]
    exact BoSim_g (by omega) (fun x e x0 x1 e0 e1 => by simp only [gRec]; exact u5 _ (by omega)) (BoSim_c (fun q q0 q1 => oth q (by omega) (by omega) (by omega)) (e5.2.2.2 j j0 (by omega)))
  · rw [oth (1 + 133) (by omega) (by omega) (by omega), oth (1 + 134) (by omega) (by omega) (by omega), oth (1 + 135) (by omega) (by omega) (by omega), oth (1 + 136) (by omega) (by omega) (by omega), oth (1 + 137) (by omega) (by omega) (by omega), u1 6 (by omega) (by omega) (by omega), u1 7 (by omega) (by omega) (by omega), u1 8 (by omega) (by omega) (by omega)]
    refine ⟨e6.1, e6.2.1, e6.2.2.1, fun s s0 s1' => ?_⟩
    rw [u5 _ (by omega), u5 _ (by omega), u5 _ (by omega), u5 _ (by omega)]
    exact e6.2.2.2 s s0 s1'
  · obtain ⟨w1, w2, w3, w4, w5', w6, w7, w8, w9, w10, w11, w12⟩ := hB
    have hk := w12 ((V 11 1 + 20 - 1) % 20).toNat (by omega)
    rw [show 1 + 12 + 6 * ((V 11 1 + 20 - 1) % 20).toNat = r by omega] at hk
    refine ⟨?_, ?_, ?_, ?_, ?_, ?_, ?_, ?_, ?_, ?_, ?_, fun k hk2 => ?_⟩
    · rw [oth (1 + 1) (by omega) (by omega) (by omega)]; exact w1
    · rw [oth (1 + 2) (by omega) (by omega) (by omega)]; exact w2
    · rw [oth (1 + 3) (by omega) (by omega) (by omega)]; exact w3
    · intro t
      show 0 ≤ cTB V 10 t ∧ cTB V 10 t < 65536
      rw [n10]
      simp only [cpK]
      split
      · exact hk.2.1 t
      · exact w4 t
    · show AB (cTB V (5 + 1))
      rw [nr 1 (by omega) (by omega)]; exact AB_cpK hk.2.2.1 w5' _
    · show AB (cTB V (5 + 2))
      rw [nr 2 (by omega) (by omega)]; exact AB_cpK hk.2.2.2.1 w6 _
    · show AB (cTB V (5 + 3))
      rw [nr 3 (by omega) (by omega)]; exact AB_cpK hk.2.2.2.2.1 w7 _
    · show AB (cTB V (5 + 4))
      rw [nr 4 (by omega) (by omega)]; exact AB_cpK hk.2.2.2.2.2 w8 _
    · rw [oth (1 + 135) (by omega) (by omega) (by omega)]; exact w9
    · rw [oth (1 + 136) (by omega) (by omega) (by omega)]; exact w10
    · rw [oth (1 + 137) (by omega) (by omega) (by omega)]; exact w11
    · rw [oth (1 + 12 + 6 * k) (by omega) (by omega) (by omega), oth (1 + 12 + 6 * k + 1) (by omega) (by omega) (by omega), oth (1 + 12 + 6 * k + 2) (by omega) (by omega) (by omega), oth (1 + 12 + 6 * k + 3) (by omega) (by omega) (by omega), oth (1 + 12 + 6 * k + 4) (by omega) (by omega) (by omega), oth (1 + 12 + 6 * k + 5) (by omega) (by omega) (by omega)]
      exact w12 k hk2
  · obtain ⟨n1', n2', n3', n4', n5', n6', n7'⟩ := m1
    have gr : ∀ j x e, 0 ≤ j → 0 ≤ x → 0 ≤ e → gRec (mUndo a) j x e = gRec a j x e := fun j x e j0 x0 e0 => u5 _ (by omega)
    have g4 : ∀ x, 0 ≤ x → x < 16 → gNow (mUndo a) x 4 = if x < a (174 + 82 * (a 5 - 1) + 1) then gRec a (a 5 - 1) x 4 else gNow a x 4 := fun x x0 x1 => u6 x 4 x0 x1 (by omega) (by omega)
    refine ⟨⟨?_, ?_, ?_, ?_, ?_, ?_, ?_⟩, ?_, ?_, ?_, ?_, ?_, ?_, ?_, ?_, ?_⟩
    · intro q
      simp only [mUndo, undoK]
      split
      · rw [ua_ne (by omega), ua_ne (by omega)]; exact n1' _
      · exact AB_ua (AB_ua n1' (by omega)) (n1' _) q
    · rw [u1 0 (by omega) (by omega) (by omega)]; exact n2'
    · rw [u1 1 (by omega) (by omega) (by omega)]; exact n3'
    · rw [u2]; exact last.2.1
    · rw [u1 4 (by omega) (by omega) (by omega)]; exact n5'
    · rw [u3]; omega
    · intro x x0 x1
      have := g4 x x0 x1
      simp only [gNow] at this
      rw [show 30 + 6 * x + 1 + 4 = 30 + 6 * x + 5 by omega] at this
      rw [this]
      split
      · rename_i c
        exact (last.2.2.1 x x0 c).2.2.2.2.1
      · exact n7' x x0 x1
    · rw [u1 3 (by omega) (by omega) (by omega), u1 4 (by omega) (by omega) (by omega)]; exact m2
    · rw [u1 6 (by omega) (by omega) (by omega)]; exact m3
    · rw [u1 7 (by omega) (by omega) (by omega), u1 8 (by omega) (by omega) (by omega)]; exact m4
    · rw [u1 0 (by omega) (by omega) (by omega)]
      intro t t0 t1
      rw [u1 _ (by omega) (by omega) (by omega), u1 _ (by omega) (by omega) (by omega)]; exact m5 t t0 t1
    · rw [u1 1 (by omega) (by omega) (by omega)]
      intro x x0 x1
      rw [u4]; exact m6 x x0 x1
    · rw [u1 0 (by omega) (by omega) (by omega), u1 1 (by omega) (by omega) (by omega)]
      intro x x0 x1
      rw [u6 x 0 x0 (by omega) (by omega) (by omega), u6 x 1 x0 (by omega) (by omega) (by omega), u6 x 2 x0 (by omega) (by omega) (by omega), u6 x 3 x0 (by omega) (by omega) (by omega), u6 x 4 x0 (by omega) (by omega) (by omega)]
      by_cases c : x < a (174 + 82 * (a 5 - 1) + 1)
      · rw [if_pos c, if_pos c, if_pos c, if_pos c, if_pos c]; exact last.2.2.1 x x0 c
      · rw [if_neg c, if_neg c, if_neg c, if_neg c, if_neg c]; exact m7 x x0 x1
    · rw [u1 1 (by omega) (by omega) (by omega)]
      intro x x0 x1
      rw [g4 x (by omega) x1, if_neg (by omega)]; exact m8 x x0 x1
    · rw [u3, u1 0 (by omega) (by omega) (by omega), u1 1 (by omega) (by omega) (by omega)]
      intro j j0 j1
      rw [u5 _ (by omega), u5 _ (by omega)]
      obtain ⟨q1, q2, q3, q4⟩ := m9 j j0 (by omega)
      refine ⟨q1, q2, BoOK_c (by omega) (fun x e x0 x1 e0 e1 => gr j x e j0 x0 e0) q3, fun x x0 x1 => ?_⟩
      have q := q4 x x0 x1
      rw [if_pos (show j + 1 < a 5 by omega)] at q
      rw [gr j x 4 j0 (by omega) (by omega), gr (j + 1) x 4 (by omega) (by omega) (by omega)]
      refine ⟨q.1, ?_⟩
      by_cases l : j + 1 < a 5 - 1
      · rw [if_pos l]; exact q.2
      · rw [if_neg l, g4 x (by omega) x1]
        have ej : j + 1 = a 5 - 1 := by omega
        rw [ej] at q
        split
        · exact q.2
        · rename_i c
          have z := (last.2.2.2 x (by omega) x1).2
          rw [if_neg (by omega)] at z
          exact z
    · rw [u1 6 (by omega) (by omega) (by omega), u1 0 (by omega) (by omega) (by omega)]
      intro s s0 s1'
      rw [u5 _ (by omega), u5 _ (by omega), u5 _ (by omega), u5 _ (by omega)]
      exact m10 s s0 s1'
  · rw [n1, ua_same]
end Ops3
