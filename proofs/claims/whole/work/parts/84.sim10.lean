/-! a world becomes another -/
def tcpS (S : Stt) (b c : Nat) : Stt := (S.1, up S.2.1 b (fun k => if 0 ≤ k ∧ k < 4 then S.2.1 c k else S.2.1 b k), S.2.2)
theorem tcp4 {S : Stt} {b c : Nat} (h : c ≠ b) : sq2 (sq2 (sq2 (sq2 S b 0 (S.2.1 c 0)) b (0 + 1) (S.2.1 c (0 + 1))) b (0 + 1 + 1) (S.2.1 c (0 + 1 + 1))) b (0 + 1 + 1 + 1) (S.2.1 c (0 + 1 + 1 + 1)) = tcpS S b c := by
  simp only [sq2, tcpS]
  congr 2
  funext q
  by_cases e : q = b
  · subst e
    rw [up_same, up_same, up_same, up_same, up_same]
    funext k
    simp only [uq]
    by_cases c3 : k = 0 + 1 + 1 + 1
    · rw [if_pos c3, if_pos (by omega), c3]
    rw [if_neg c3]
    by_cases c2 : k = 0 + 1 + 1
    · rw [if_pos c2, if_pos (by omega), c2]
    rw [if_neg c2]
    by_cases c1 : k = 0 + 1
    · rw [if_pos c1, if_pos (by omega), c1]
    rw [if_neg c1]
    by_cases c0 : k = 0
    · rw [if_pos c0, if_pos (by omega), c0]
    rw [if_neg c0, if_neg (by omega)]
  · rw [up_ne e, up_ne e, up_ne e, up_ne e, up_ne e]
theorem bcp_row {V : Va} {i j q : Nat} : bcp V i j q = if q = i then ua (ua (V i) 5 (V j 5)) 6 (V j 6) else if i < q ∧ q < i + 5 then cpK (V (j + (q - i))) (V q) (V j 5) else if q = i + 5 then cpK (V (j + 5)) (V q) 10 else V q := by
  obtain ⟨b0, b1, b2, b3, b4, b5⟩ := bcp_at V i j
  by_cases c : q = i
  · rw [if_pos c, c]; exact b0
  rw [if_neg c]
  by_cases d : i < q ∧ q < i + 5
  · rw [if_pos d]
    rcases (show q = i + 1 ∨ q = i + 2 ∨ q = i + 3 ∨ q = i + 4 by omega) with z | z | z | z <;> subst z
    · rw [b1, show j + (i + 1 - i) = j + 1 by omega]
    · rw [b2, show j + (i + 2 - i) = j + 2 by omega]
    · rw [b3, show j + (i + 3 - i) = j + 3 by omega]
    · rw [b4, show j + (i + 4 - i) = j + 4 by omega]
  rw [if_neg d]
  by_cases e : q = i + 5
  · rw [if_pos e, e]; exact b5
  · rw [if_neg e]; exact bcp_o (by omega)
/-- a row of the steps after all are copied -/
theorem stcp_at {V : Va} {b c : Nat} (hbc : b + 120 ≤ c ∨ c + 120 ≤ b) : ∀ n : Nat, n ≤ 20 → ∀ k : Nat, k < n → ∀ q : Nat, b + 6 * k ≤ q → q ≤ b + 6 * k + 5 → stcp V b c n q = bcp V (b + 6 * k) (c + 6 * k) q
  | 0, _, k, hk, _, _, _ => by omega
  | n + 1, hn, k, hk, q, q0, q1 => by
    simp only [stcp]
    by_cases e : k = n
    · subst e
      rw [bcp_row, bcp_row]
      have o : ∀ r : Nat, r < b ∨ b + 6 * k ≤ r → stcp V b c k r = V r := fun r hr => stcp_o k hr
      rw [o (b + 6 * k) (by omega), o (c + 6 * k) (by omega), o (c + 6 * k + 5) (by omega), o q (by omega)]
      by_cases d : b + 6 * k < q ∧ q < b + 6 * k + 5
      · rw [if_pos d, if_pos d, o _ (by omega)]
      · rw [if_neg d, if_neg d]
    · rw [bcp_o (by omega)]
      exact stcp_at hbc n (by omega) k (by omega) q q0 q1
theorem WSim_become {V V' : Va} {b c : Nat} (h7 : V' b 7 = V c 7 ∧ V' b 8 = V c 8 ∧ V' b 9 = V c 9) (h1 : V' (b + 1) = cpK (V (c + 1)) (V (b + 1)) 10) (h2 : V' (b + 2) = cpK (V (c + 2)) (V (b + 2)) 10) (h3 : V' (b + 3) = cpK (V (c + 3)) (V (b + 3)) 16) (h4 : ∀ q, b + 4 ≤ q → q ≤ b + 9 → V' q = bcp V (b + 4) (c + 4) q) (h10 : V' (b + 10) 1 = V (c + 10) 1 ∧ V' (b + 10) 2 = V (c + 10) 2) (h12 : ∀ k : Nat, k < 20 → ∀ q : Nat, b + 12 + 6 * k ≤ q → q ≤ b + 12 + 6 * k + 5 → V' q = bcp V (b + 12 + 6 * k) (c + 12 + 6 * k) q) (h133 : V' (b + 133) 4 = V (c + 133) 4 ∧ V' (b + 133) 5 = V (c + 133) 5 ∧ V' (b + 133) 6 = V (c + 133) 6) (h134 : V' (b + 134) = cpK (V (c + 134)) (V (b + 134)) 12) (h135 : V' (b + 135) = cpK (V (c + 135)) (V (b + 135)) 12) (h136 : V' (b + 136) = cpK (V (c + 136)) (V (b + 136)) 12) (h137 : V' (b + 137) = cpK (V (c + 137)) (V (b + 137)) 12) : (∀ a, MIv a → WSim V c a → WSim V' b a) ∧ (WB V b → WB V c → WB V' b) := by
  constructor
  · intro a hM hW
    obtain ⟨e1, e2, e3, e4, e5, e6⟩ := hW
    have i0 := hM.1.2.1
    have i1 := hM.1.2.2.1
    have i5 := hM.1.2.2.2.2.2.1
    have i6 := hM.2.2.1
    refine ⟨by rw [h7.1, h7.2.1, h7.2.2]; exact e1, fun t t0 t1 => ?_, fun x x0 x1 => ?_, ?_, ⟨by rw [h10.2]; exact e5.1, by rw [h10.1]; exact e5.2.1, by rw [h10.1]; exact e5.2.2.1, fun j j0 j1 => ?_⟩, ⟨by rw [h133.1]; exact e6.1, by rw [h133.2.1]; exact e6.2.1, by rw [h133.2.2]; exact e6.2.2.1, fun s s0 s1 => ?_⟩⟩
    · rw [h1, h2, cpK_in t0 (by omega), cpK_in t0 (by omega)]; exact e2 t t0 t1
    · rw [h3, cpK_in x0 (by omega)]; exact e3 x x0 x1
    · exact BoSim_c (fun q q0 q1 => h4 q q0 (by omega)) (bcp_sim e4)
    · rw [h10.1]
      have eb : ringId b (V (c + 10) 1) (a 5) j = b + 12 + 6 * ((V (c + 10) 1 + 20 - a 5 + j) % 20).toNat := rfl
      have ec : ringId c (V (c + 10) 1) (a 5) j = c + 12 + 6 * ((V (c + 10) 1 + 20 - a 5 + j) % 20).toNat := rfl
      have k := e5.2.2.2 j j0 j1
      rw [ec] at k
      rw [eb]
      exact BoSim_c (fun q q0 q1 => h12 _ (by omega) q q0 q1) (bcp_sim k)
    · rw [h134, h135, h136, h137, cpK_in s0 (by omega), cpK_in s0 (by omega), cpK_in s0 (by omega), cpK_in s0 (by omega)]
      exact e6.2.2.2 s s0 s1
  · intro hb hc
    have cp01 : ∀ {f g : Int → Int} {k hi : Int}, (∀ s, 0 ≤ f s ∧ f s ≤ hi) → (∀ s, 0 ≤ g s ∧ g s ≤ hi) → ∀ s, 0 ≤ cpK f g k s ∧ cpK f g k s ≤ hi := fun hf hg s => by
      simp only [cpK]
      split
      · exact hf s
      · exact hg s
    have cp02 : ∀ {f g : Int → Int} {k hi : Int}, (∀ s, 0 ≤ f s ∧ f s < hi) → (∀ s, 0 ≤ g s ∧ g s < hi) → ∀ s, 0 ≤ cpK f g k s ∧ cpK f g k s < hi := fun hf hg s => by
      simp only [cpK]
      split
      · exact hf s
      · exact hg s
    obtain ⟨b1, b2, b3, b4, b5, b6, b7, b8, b9, b10, b11, b12⟩ := hb
    obtain ⟨c1, c2, c3, c4, c5, c6, c7, c8, c9, c10, c11, c12⟩ := hc
    have e4 := bcp_at V (b + 4) (c + 4)
    refine ⟨by rw [h1]; exact AB_cpK c1 b1 _, by rw [h2]; exact AB_cpK c2 b2 _, by rw [h3]; exact AB_cpK c3 b3 _, ?_, ?_, ?_, ?_, ?_, by rw [h135]; exact AB_cpK c9 b9 _, by rw [h136]; exact cp01 c10 b10, by rw [h137]; exact cp01 c11 b11, fun k hk => ?_⟩
    · rw [h4 (b + 9) (by omega) (by omega), show b + 9 = b + 4 + 5 by omega, e4.2.2.2.2.2]; exact cp02 c4 b4
    · rw [h4 (b + 5) (by omega) (by omega), show b + 5 = b + 4 + 1 by omega, e4.2.1]; exact AB_cpK c5 b5 _
    · rw [h4 (b + 6) (by omega) (by omega), show b + 6 = b + 4 + 2 by omega, e4.2.2.1]; exact AB_cpK c6 b6 _
    · rw [h4 (b + 7) (by omega) (by omega), show b + 7 = b + 4 + 3 by omega, e4.2.2.2.1]; exact AB_cpK c7 b7 _
    · rw [h4 (b + 8) (by omega) (by omega), show b + 8 = b + 4 + 4 by omega, e4.2.2.2.2.1]; exact AB_cpK c8 b8 _
    · obtain ⟨v1, v2, v3, v4, v5, v6⟩ := b12 k hk
      obtain ⟨u1, u2, u3, u4, u5, u6⟩ := c12 k hk
      obtain ⟨f0, f1, f2, f3, f4, f5⟩ := bcp_at V (b + 12 + 6 * k) (c + 12 + 6 * k)
      rw [h12 k hk _ (by omega) (by omega), h12 k hk _ (by omega) (by omega), h12 k hk _ (by omega) (by omega), h12 k hk _ (by omega) (by omega), h12 k hk _ (by omega) (by omega), h12 k hk _ (by omega) (by omega), f0, f1, f2, f3, f4, f5]
      exact ⟨by rw [ua_ne (by omega), ua_same]; exact u1, cp02 u2 v2, AB_cpK u3 v3 _, AB_cpK u4 v4 _, AB_cpK u5 v5 _, AB_cpK u6 v6 _⟩
