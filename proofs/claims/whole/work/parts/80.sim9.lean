/-! played, pilgrims, chance -/
theorem PlR_n {a a' : Int → Int} {V V' : Va} {n m : Int} (h : n ≤ m) (k : PlR n a a' V V') : PlR m a a' V V' := ⟨k.1, k.2.1, k.2.2.1, k.2.2.2.1, by
  rcases k.2.2.2.2 with z | z
  · exact Or.inl z
  · exact Or.inr (by omega)⟩
theorem mPlayK_3 {a tx : Int → Int} {t : Int} (h : MIv a) (k : Nat) : mPlayK a tx t k 3 = a 3 := (mPlayK_inv h.1 k).2.2
/-- which TOWNS have a HOLY BONE, as bits -/
def hSet (a tx : Int → Int) : Nat → Int
  | 0 => 0
  | k + 1 => if mHoly a tx k then bor (hSet a tx k) (p2 (a (30 + 6 * (k : Int) + 3))) else hSet a tx k
theorem hSet_r {a tx : Int → Int} (hM : MIv a) : ∀ k : Nat, (k : Int) ≤ a 1 → 0 ≤ hSet a tx k ∧ hSet a tx k < p2 10
  | 0, _ => by simp only [hSet]; exact ⟨by omega, p2_pos _⟩
  | k + 1, hk => by
    have ih := hSet_r (tx := tx) hM k (by omega)
    have i0 := hM.1.2.1
    have m := hM.2.2.2.2.2.2.1 k (by omega) (by omega)
    have e2 : gNow a k 2 = a (30 + 6 * (k : Int) + 3) := congrArg a (by omega)
    rw [e2] at m
    simp only [hSet]
    split
    · exact bor_lt ih ⟨Int.le_of_lt (p2_pos _), p2_lt (by omega) (by omega)⟩
    · exact ih
theorem hSet_bit {a tx : Int → Int} (hM : MIv a) {t : Int} (t0 : 0 ≤ t) : ∀ k : Nat, (k : Int) ≤ a 1 → (hSet a tx k / p2 t % 2 ≠ 0 ↔ ∃ b : Int, 0 ≤ b ∧ b < k ∧ a (30 + 6 * b + 3) = t ∧ mHoly a tx b)
  | 0, _ => by
    simp only [hSet]
    rw [Int.zero_ediv]
    exact ⟨fun h => absurd rfl h, fun ⟨b, b0, b1, _⟩ => by omega⟩
  | k + 1, hk => by
    have ih := hSet_bit (tx := tx) hM t0 k (by omega)
    have r := hSet_r (tx := tx) hM k (by omega)
    have m := hM.2.2.2.2.2.2.1 k (by omega) (by omega)
    have e2 : gNow a k 2 = a (30 + 6 * (k : Int) + 3) := congrArg a (by omega)
    rw [e2] at m
    simp only [hSet]
    by_cases c : mHoly a tx k
    · rw [if_pos c, bit_or r.1 (by omega) t0]
      by_cases d : t = a (30 + 6 * (k : Int) + 3)
      · rw [if_pos d]
        exact ⟨fun _ => ⟨k, by omega, by omega, d.symm, c⟩, fun _ => by omega⟩
      · rw [if_neg d, ih]
        refine ⟨fun ⟨b, b0, b1, b2, b3⟩ => ⟨b, b0, by omega, b2, b3⟩, fun ⟨b, b0, b1, b2, b3⟩ => ⟨b, b0, ?_, b2, b3⟩⟩
        by_cases e : b = k
        · rw [e] at b2; exact absurd b2.symm d
        · omega
    · rw [if_neg c, ih]
      refine ⟨fun ⟨b, b0, b1, b2, b3⟩ => ⟨b, b0, by omega, b2, b3⟩, fun ⟨b, b0, b1, b2, b3⟩ => ⟨b, b0, ?_, b2, b3⟩⟩
      by_cases e : b = k
      · rw [e] at b3; exact absurd b3 c
      · omega
theorem hSet_town {a tx : Int → Int} (hM : MIv a) {t : Int} (t0 : 0 ≤ t) : hSet a tx (a 1).toNat / p2 t % 2 ≠ 0 ↔ mHolyTown a tx t := by
  have i1 := hM.1.2.2.1
  rw [hSet_bit hM t0 _ (by omega)]
  simp only [mHolyTown]
  rcases findT_r (fun b => decide (a (30 + 6 * b + 3) = t ∧ mHoly a tx b)) (n := a 1) (by omega) with z | z
  · refine ⟨fun ⟨b, b0, b1, b2, b3⟩ => ?_, fun h => by omega⟩
    exact absurd ⟨b2, b3⟩ (of_decide_eq_false (z.2 b b0 (by omega)))
  · have y := of_decide_eq_true z.2.2.1
    exact ⟨fun _ => z.1, fun _ => ⟨_, z.1, by omega, y.1, y.2⟩⟩
/-- n over k, step by step -/
def cCho (n : Int) : Nat → Int
  | 0 => 1
  | k + 1 => cCho n k * (n - k) / ((k : Int) + 1)
def cUp (n h c : Int) : Nat → Int
  | 0 => 0
  | k + 1 => cUp n h c k + (if h ≤ k then cCho n k * pw c k * pw (6 - c) (n - k) else 0)
def strp (d : Int) : Nat → Int × Int → Int × Int
  | 0, s => s
  | k + 1, s => if s.1 % d = 0 then strp d k (s.1 / d, s.2 * d) else s
def cCom (u : Int) (n : Nat) : Int := (strp 3 n (strp 2 n (u, 1))).2
def choT (n : Nat) : Bool := (List.range 22).all fun k => decide (k ≤ n + 1 → 0 ≤ cCho n k ∧ cCho n k ≤ 200000)
def chaT (n : Nat) : Bool := (List.range 21).all fun h => (List.range 7).all fun c => decide (h ≤ n → cUp n h c (n + 1) = chaS n h c ∧ cCom (chaS n h c) n = gcdI (chaS n h c) (pw 6 n))
theorem choT_ok : ∀ n, n < 21 → choT n = true := by decide +kernel
theorem chaT_ok : ∀ n, n < 21 → chaT n = true := by decide +kernel
theorem cCho_r {n : Int} {k : Nat} (hn : 0 ≤ n ∧ n ≤ 20) (hk : (k : Int) ≤ n + 1) : 0 ≤ cCho n k ∧ cCho n k ≤ 200000 := by
  have h := choT_ok n.toNat (by omega)
  simp only [choT, List.all_eq_true, List.mem_range] at h
  have := of_decide_eq_true (h k (by omega)) (by omega)
  rwa [Int.toNat_of_nonneg hn.1] at this
theorem cha_eq {n h c : Int} (hn : 0 ≤ n ∧ n ≤ 20) (hh : 0 ≤ h ∧ h ≤ n) (hc : 0 ≤ c ∧ c ≤ 6) : cUp n h c (n.toNat + 1) = chaS n h c ∧ cCom (chaS n h c) n.toNat = gcdI (chaS n h c) (pw 6 n) := by
  have z := chaT_ok n.toNat (by omega)
  simp only [chaT, List.all_eq_true, List.mem_range] at z
  have := of_decide_eq_true (z h.toNat (by omega) c.toNat (by omega)) (by omega)
  rwa [Int.toNat_of_nonneg hn.1, Int.toNat_of_nonneg hh.1, Int.toNat_of_nonneg hc.1] at this
