/-! the class: shapes of its BONES rows, and what its small methods do to the memory -/
def BoS (S : Stt) (i : Nat) : Prop := S.1 i = (5, 0) ∧ i + 5 < S.2.2 ∧ (S.2.1 i 0 = some (i + 1) ∧ S.2.1 i 1 = some (i + 2) ∧ S.2.1 i 2 = some (i + 3) ∧ S.2.1 i 3 = some (i + 4) ∧ S.2.1 i 4 = some (i + 5)) ∧ S.1 (i + 1) = (0, 16) ∧ S.1 (i + 2) = (0, 16) ∧ S.1 (i + 3) = (0, 16) ∧ S.1 (i + 4) = (0, 16) ∧ S.1 (i + 5) = (0, 10)
theorem bo_s {S : Stt} {i : Nat} (h : BoS S i) : S.1 i = (5, 0) := h.1
theorem bo_l {S : Stt} {i : Nat} (h : BoS S i) : i < S.2.2 := by have := h.2.1; omega
theorem bo_r0 {S : Stt} {i : Nat} (h : BoS S i) : S.2.1 i 0 = some (i + 1) := h.2.2.1.1
theorem bo_r1 {S : Stt} {i : Nat} (h : BoS S i) : S.2.1 i 1 = some (i + 2) := h.2.2.1.2.1
theorem bo_r2 {S : Stt} {i : Nat} (h : BoS S i) : S.2.1 i 2 = some (i + 3) := h.2.2.1.2.2.1
theorem bo_r3 {S : Stt} {i : Nat} (h : BoS S i) : S.2.1 i 3 = some (i + 4) := h.2.2.1.2.2.2.1
theorem bo_r4 {S : Stt} {i : Nat} (h : BoS S i) : S.2.1 i 4 = some (i + 5) := h.2.2.1.2.2.2.2
theorem bo_s1 {S : Stt} {i : Nat} (h : BoS S i) : S.1 (i + 1) = (0, 16) := h.2.2.2.1
theorem bo_s2 {S : Stt} {i : Nat} (h : BoS S i) : S.1 (i + 2) = (0, 16) := h.2.2.2.2.1
theorem bo_s3 {S : Stt} {i : Nat} (h : BoS S i) : S.1 (i + 3) = (0, 16) := h.2.2.2.2.2.1
theorem bo_s4 {S : Stt} {i : Nat} (h : BoS S i) : S.1 (i + 4) = (0, 16) := h.2.2.2.2.2.2.1
theorem bo_s5 {S : Stt} {i : Nat} (h : BoS S i) : S.1 (i + 5) = (0, 10) := h.2.2.2.2.2.2.2
theorem bo_l1 {S : Stt} {i : Nat} (h : BoS S i) : i + 1 < S.2.2 := by have := h.2.1; omega
theorem bo_l2 {S : Stt} {i : Nat} (h : BoS S i) : i + 2 < S.2.2 := by have := h.2.1; omega
theorem bo_l3 {S : Stt} {i : Nat} (h : BoS S i) : i + 3 < S.2.2 := by have := h.2.1; omega
theorem bo_l4 {S : Stt} {i : Nat} (h : BoS S i) : i + 4 < S.2.2 := by have := h.2.1; omega
theorem bo_l5 {S : Stt} {i : Nat} (h : BoS S i) : i + 5 < S.2.2 := h.2.1
def boTest (i : Nat) : Bool := sh0 i == (5, 0) && sh0 (i + 1) == (0, 16) && sh0 (i + 2) == (0, 16) && sh0 (i + 3) == (0, 16) && sh0 (i + 4) == (0, 16) && sh0 (i + 5) == (0, 10) && rfl0.contains (i, 0, i + 1) && rfl0.contains (i, 1, i + 2) && rfl0.contains (i, 2, i + 3) && rfl0.contains (i, 3, i + 4) && rfl0.contains (i, 4, i + 5)
theorem BoS_of {S : Stt} (h : Stat S) {i : Nat} (hi : i + 5 < 326) (ht : boTest i = true) : BoS S i := by
  simp only [boTest, Bool.and_eq_true, beq_iff_eq, List.contains_iff_mem] at ht
  obtain ⟨⟨⟨⟨⟨⟨⟨⟨⟨⟨t0, t1⟩, t2⟩, t3⟩, t4⟩, t5⟩, r0⟩, r1⟩, r2⟩, r3⟩, r4⟩ := ht
  have hn := h.2.2
  have e : NST = 326 := rfl
  exact ⟨(h.1 _ (by omega)).trans t0, by omega, ⟨h.2.1 _ r0, h.2.1 _ r1, h.2.1 _ r2, h.2.1 _ r3, h.2.1 _ r4⟩, (h.1 _ (by omega)).trans t1, (h.1 _ (by omega)).trans t2, (h.1 _ (by omega)).trans t3, (h.1 _ (by omega)).trans t4, (h.1 _ (by omega)).trans t5⟩
theorem boT_now : ∀ k, k < 20 → boTest (13 + 6 * k) = true := by decide +kernel
theorem boT_img : ∀ k, k < 20 → boTest (151 + 6 * k) = true := by decide +kernel
theorem BoS_now {S : Stt} (h : Stat S) {k : Nat} (hk : k < 20) : BoS S (13 + 6 * k) := BoS_of h (by omega) (boT_now k hk)
theorem BoS_img {S : Stt} (h : Stat S) {k : Nat} (hk : k < 20) : BoS S (151 + 6 * k) := BoS_of h (by omega) (boT_img k hk)
theorem BoS_5 {S : Stt} (h : Stat S) : BoS S 5 := BoS_of h (by omega) (by decide +kernel)
theorem BoS_143 {S : Stt} (h : Stat S) : BoS S 143 := BoS_of h (by omega) (by decide +kernel)
theorem rf_now {S : Stt} (h : Stat S) {k : Int} (h0 : 0 ≤ k) (hk : k < 20) : S.2.1 12 k = some (13 + 6 * k.toNat) := by
  have t : ∀ q : Nat, q < 20 → rfl0.contains (12, (q : Int), 13 + 6 * q) = true := by decide +kernel
  have := h.2.1 _ (List.contains_iff_mem.mp (t k.toNat (by omega)))
  rwa [show ((k.toNat : Nat) : Int) = k by omega] at this
theorem rf_img {S : Stt} (h : Stat S) {k : Int} (h0 : 0 ≤ k) (hk : k < 20) : S.2.1 150 k = some (151 + 6 * k.toNat) := by
  have t : ∀ q : Nat, q < 20 → rfl0.contains (150, (q : Int), 151 + 6 * q) = true := by decide +kernel
  have := h.2.1 _ (List.contains_iff_mem.mp (t k.toNat (by omega)))
  rwa [show ((k.toNat : Nat) : Int) = k by omega] at this
/-- one BONES row becomes another -/
def bcp (V : Va) (i j : Nat) : Va := up (up (up (up (up (up V (i + 1) (cpK (V (j + 1)) (V (i + 1)) (V j 5))) (i + 2) (cpK (V (j + 2)) (V (i + 2)) (V j 5))) (i + 3) (cpK (V (j + 3)) (V (i + 3)) (V j 5))) (i + 4) (cpK (V (j + 4)) (V (i + 4)) (V j 5))) (i + 5) (cpK (V (j + 5)) (V (i + 5)) 10)) i (ua (ua (V i) 5 (V j 5)) 6 (V j 6))
theorem bcp_o {V : Va} {i j q : Nat} (h : q < i ∨ i + 5 < q) : bcp V i j q = V q := by
  simp only [bcp]
  rw [up_ne (by omega), up_ne (by omega), up_ne (by omega), up_ne (by omega), up_ne (by omega), up_ne (by omega)]
/-- all rows of the steps -/
def stcp (V : Va) (b c : Nat) : Nat → Va
  | 0 => V
  | k + 1 => bcp (stcp V b c k) (b + 6 * k) (c + 6 * k)
theorem stcp_o {V : Va} {b c q : Nat} : ∀ k, (q < b ∨ b + 6 * k ≤ q) → stcp V b c k q = V q
  | 0, _ => rfl
  | k + 1, h => by
    simp only [stcp]
    rw [bcp_o (by omega), stcp_o k (by omega)]
/-- a STEP is remembered -/
def cRem0 (V : Va) : Va := up (bcp V (13 + 6 * (V 11 1).toNat) 5) 11 (ua (ua (V 11) 1 ((V 11 1 + 1) % 20)) 2 (if 20 < V 11 2 + 1 then 20 else V 11 2 + 1))
def cRem (V : Va) : Va := up (cRem0 V) 1 (ua (V 1) 10 (V 1 10 + 1))
theorem cRem_o {V : Va} {q : Nat} (h0 : 0 ≤ V 11 1) (h1 : V 11 1 < 20) (h : q = 0 ∨ (2 ≤ q ∧ q ≤ 10) ∨ q = 12 ∨ 133 ≤ q) : cRem V q = V q := by
  simp only [cRem, cRem0]
  rw [up_ne (by omega), up_ne (by omega), bcp_o (by omega)]
theorem cRem_1 {V : Va} {k : Int} (hk : k ≠ 10) : cRem V 1 k = V 1 k := by
  simp only [cRem]
  rw [up_same, ua_ne hk]
/-- the latest STEP is taken back -/
def cTB0 (V : Va) : Va := up (bcp (up V 11 (ua (ua (V 11) 1 ((V 11 1 + 20 - 1) % 20)) 2 (if V 11 2 - 1 < 0 then 0 else V 11 2 - 1))) 5 (13 + 6 * ((V 11 1 + 20 - 1) % 20).toNat)) 5 (ua (bcp (up V 11 (ua (ua (V 11) 1 ((V 11 1 + 20 - 1) % 20)) 2 (if V 11 2 - 1 < 0 then 0 else V 11 2 - 1))) 5 (13 + 6 * ((V 11 1 + 20 - 1) % 20).toNat) 5) 5 (V 5 5))
def cTB (V : Va) : Va := up (cTB0 V) 1 (ua (V 1) 10 (V 1 10 + 1))
