theorem bcp_cg {V V1 : Va} {i j q : Nat} (hi : ∀ r, i ≤ r → r ≤ i + 5 → V1 r = V r) (hj : ∀ r, j ≤ r → r ≤ j + 5 → V1 r = V r) (q0 : i ≤ q) (q1 : q ≤ i + 5) : bcp V1 i j q = bcp V i j q := by
  rw [bcp_row, bcp_row, hi i (by omega) (by omega), hj j (by omega) (by omega), hj (j + 5) (by omega) (by omega), hi q q0 q1]
  by_cases d : i < q ∧ q < i + 5
  · rw [if_pos d, if_pos d, hj _ (by omega) (by omega)]
  · rw [if_neg d, if_neg d]
theorem become_fin {V V1 V2 V3 M : Va} {b c : Nat} (hbc : (b = 1 ∧ c = 139) ∨ (b = 139 ∧ c = 1)) (hV1 : V1 = up (up (up V (b + 1) (cpK (V (c + 1)) (V (b + 1)) 10)) (b + 2) (cpK (V (c + 2)) (V (b + 2)) 10)) (b + 3) (cpK (V (c + 3)) (V (b + 3)) 16)) (hV2 : V2 = bcp V1 (b + 4) (c + 4)) (hV3 : V3 = up (stcp V2 (b + 12) (c + 12) 20) (b + 10) (ua (ua (V2 (b + 10)) 1 (V2 (c + 10) 1)) 2 (V2 (c + 10) 2)))
    (hM : M = up (up (up (up (up (up V3 b (ua (ua (ua (ua (V3 b) 7 (V3 c 7)) 8 (V3 c 8)) 9 (V3 c 9)) 10 (V3 b 10 + 1))) (b + 133) (ua (ua (ua (V3 (b + 133)) 4 (V3 (c + 133) 4)) 5 (V3 (c + 133) 5)) 6 (V3 (c + 133) 6))) (b + 134) (cpK (V3 (c + 134)) (V3 (b + 134)) 12)) (b + 135) (cpK (V3 (c + 135)) (V3 (b + 135)) 12)) (b + 136) (cpK (V3 (c + 136)) (V3 (b + 136)) 12)) (b + 137) (cpK (V3 (c + 137)) (V3 (b + 137)) 12)) (hBb : WB V b) (hBc : WB V c) : (∀ a, MIv a → WSim V c a → WSim M b a) ∧ WB M b ∧ (∀ q : Nat, q < b ∨ b + 137 < q → M q = V q) ∧ M b 10 = V b 10 + 1 := by
  have o1 : ∀ q : Nat, q ≠ b + 1 → q ≠ b + 2 → q ≠ b + 3 → V1 q = V q := fun q h1 h2 h3 => by rw [hV1, up_ne h3, up_ne h2, up_ne h1]
  have o2 : ∀ q : Nat, q < b + 4 ∨ b + 9 < q → V2 q = V1 q := fun q h => by rw [hV2]; exact bcp_o (by omega)
  have o3 : ∀ q : Nat, q ≠ b + 10 → q < b + 12 ∨ b + 132 ≤ q → V3 q = V2 q := fun q h1 h2 => by rw [hV3, up_ne h1, stcp_o 20 (by omega)]
  have o : ∀ q : Nat, q < b + 1 ∨ (b + 132 ≤ q) → V3 q = V q := fun q h => by rw [o3 q (by omega) (by omega), o2 q (by omega), o1 q (by omega) (by omega) (by omega)]
  have oM : ∀ q : Nat, q ≠ b → q < b + 133 ∨ b + 137 < q → M q = V3 q := fun q h1 h2 => by rw [hM, up_ne (by omega), up_ne (by omega), up_ne (by omega), up_ne (by omega), up_ne (by omega), up_ne h1]
  have cc : ∀ k : Nat, c + k < b + 1 ∨ b + 132 ≤ c + k ∨ 138 ≤ k := fun k => by omega
  have e0 : M b = ua (ua (ua (ua (V b) 7 (V c 7)) 8 (V c 8)) 9 (V c 9)) 10 (V b 10 + 1) := by
    rw [hM, up_ne (by omega), up_ne (by omega), up_ne (by omega), up_ne (by omega), up_ne (by omega), up_same, o b (by omega), o c (by omega)]
  have e133 : M (b + 133) = ua (ua (ua (V (b + 133)) 4 (V (c + 133) 4)) 5 (V (c + 133) 5)) 6 (V (c + 133) 6) := by
    rw [hM, up_ne (by omega), up_ne (by omega), up_ne (by omega), up_ne (by omega), up_same, o (b + 133) (by omega), o (c + 133) (by omega)]
  have e134 : M (b + 134) = cpK (V (c + 134)) (V (b + 134)) 12 := by
    rw [hM, up_ne (by omega), up_ne (by omega), up_ne (by omega), up_same, o _ (by omega), o _ (by omega)]
  have e135 : M (b + 135) = cpK (V (c + 135)) (V (b + 135)) 12 := by
    rw [hM, up_ne (by omega), up_ne (by omega), up_same, o _ (by omega), o _ (by omega)]
  have e136 : M (b + 136) = cpK (V (c + 136)) (V (b + 136)) 12 := by
    rw [hM, up_ne (by omega), up_same, o _ (by omega), o _ (by omega)]
  have e137 : M (b + 137) = cpK (V (c + 137)) (V (b + 137)) 12 := by
    rw [hM, up_same, o _ (by omega), o _ (by omega)]
  have e10 : M (b + 10) = ua (ua (V (b + 10)) 1 (V (c + 10) 1)) 2 (V (c + 10) 2) := by
    rw [oM _ (by omega) (by omega), hV3, up_same, o2 _ (by omega), o2 _ (by omega), o1 _ (by omega) (by omega) (by omega), o1 _ (by omega) (by omega) (by omega)]
  have w := WSim_become (V := V) (V' := M) (b := b) (c := c) (by rw [e0, ua_ne (by omega), ua_ne (by omega), ua_ne (by omega), ua_same, ua_ne (by omega), ua_ne (by omega), ua_same, ua_ne (by omega), ua_same]; exact ⟨rfl, rfl, rfl⟩)
    (by rw [oM _ (by omega) (by omega), o3 _ (by omega) (by omega), o2 _ (by omega), hV1, up_ne (by omega), up_ne (by omega), up_same])
    (by rw [oM _ (by omega) (by omega), o3 _ (by omega) (by omega), o2 _ (by omega), hV1, up_ne (by omega), up_same])
    (by rw [oM _ (by omega) (by omega), o3 _ (by omega) (by omega), o2 _ (by omega), hV1, up_same])
    (fun q q0 q1 => by
      rw [oM q (by omega) (by omega), o3 q (by omega) (by omega), hV2]
      exact bcp_cg (fun r r0 r1 => o1 r (by omega) (by omega) (by omega)) (fun r r0 r1 => o1 r (by omega) (by omega) (by omega)) q0 (by omega))
    (by rw [e10, ua_ne (by omega), ua_same, ua_same]; exact ⟨rfl, rfl⟩)
    (fun k hk q q0 q1 => by
      rw [oM q (by omega) (by omega), hV3, up_ne (by omega), stcp_at (by omega) 20 (by omega) k hk q q0 q1]
      exact bcp_cg (fun r r0 r1 => by rw [o2 r (by omega), o1 r (by omega) (by omega) (by omega)]) (fun r r0 r1 => by rw [o2 r (by omega), o1 r (by omega) (by omega) (by omega)]) q0 q1)
    (by rw [e133, ua_ne (by omega), ua_ne (by omega), ua_same, ua_ne (by omega), ua_same, ua_same]; exact ⟨rfl, rfl, rfl⟩)
    e134 e135 e136 e137
  refine ⟨w.1, w.2 hBb hBc, fun q hq => ?_, by rw [e0, ua_same]⟩
  rw [oM q (by omega) (by omega), o q (by omega)]
