/-! rounds: bits as the class has them, the table step by step -/
def bitI (i : Int) : Int := if i = 0 then 0 else p2 (i - 1)
theorem bitI_eq {i : Int} (h : 0 ≤ i) : bitI i = p2 i / p2 1 := by
  simp only [bitI]
  by_cases c : i = 0
  · rw [if_pos c, c]; decide
  · rw [if_neg c]
    have e := p2_succ (t := i - 1) (by omega)
    rw [show i - 1 + 1 = i by omega] at e
    rw [e, show p2 1 = 2 by decide]
    omega
theorem bitI_r {i : Int} (h0 : 0 ≤ i) (h1 : i ≤ 7) : 0 ≤ bitI i ∧ bitI i ≤ 64 := by
  simp only [bitI]
  split
  · omega
  · have a := p2_pos (i - 1)
    have b := p2_le (t := i - 1) (u := 6) (by omega)
    have c : p2 6 = 64 := by decide
    omega
theorem band_and {x k : Int} (hx : 0 ≤ x) : band x (p2 k) = (x / p2 k % 2) * p2 k := by
  obtain ⟨n, rfl⟩ := Int.eq_ofNat_of_zero_le hx
  have : band (n : Int) (p2 k) = ((n &&& 2 ^ k.toNat : Nat) : Int) := by simp only [band, p2]; rw [Int.toNat_natCast, Int.toNat_natCast]
  rw [this, nb_and, iB, Int.natCast_mul]
  rfl
theorem band_on {x i : Int} (hx : 0 ≤ x) (hi : 1 ≤ i) (h : band x (bitI i) ≠ 0) : x / p2 (i - 1) % 2 = 1 := by
  simp only [bitI] at h
  rw [if_neg (by omega), band_and hx] at h
  rcases bit_01 x (i - 1) with z | z
  · rw [z, Int.zero_mul] at h; exact absurd rfl h
  · exact z
theorem band_off {x i : Int} (hx : 0 ≤ x) (hi : 1 ≤ i) (h : band x (bitI i) = 0) : x / p2 (i - 1) % 2 = 0 := by
  simp only [bitI] at h
  rw [if_neg (by omega), band_and hx] at h
  rcases bit_01 x (i - 1) with z | z
  · exact z
  · rw [z, Int.one_mul] at h
    have := p2_pos (i - 1)
    omega
theorem band_of {x i : Int} (hx : 0 ≤ x) (h : i = 0 ∨ x / p2 (i - 1) % 2 = 0) : band x (bitI i) = 0 := by
  simp only [bitI]
  by_cases c : i = 0
  · rw [if_pos c]; simp [band]
  · rw [if_neg c, band_and hx]
    rcases h with z | z
    · exact absurd z c
    · rw [z, Int.zero_mul]
theorem bxor_sub {x k : Int} (hx : 0 ≤ x) (hk : 0 ≤ k) (hb : x / p2 k % 2 = 1) : bxor x (p2 k) = x - p2 k := by
  have s := bit_sub hx hk hb
  obtain ⟨n, rfl⟩ := Int.eq_ofNat_of_zero_le hx
  have e : bxor (n : Int) (p2 k) = ((n ^^^ 2 ^ k.toNat : Nat) : Int) := by simp only [bxor, p2]; rw [Int.toNat_natCast, Int.toNat_natCast]
  have hp : p2 k = ((2 ^ k.toNat : Nat) : Int) := rfl
  have hle : 2 ^ k.toNat ≤ n := by have := s.1; omega
  have e2 : (n : Int) - p2 k = ((n - 2 ^ k.toNat : Nat) : Int) := by rw [hp]; omega
  rw [e, e2]
  congr 1
  apply Nat.eq_of_testBit_eq
  intro i
  have q := s.2 i (by omega)
  rw [e2, iB, iB] at q
  simp only [Int.toNat_natCast] at q
  rw [Nat.testBit_xor, Nat.testBit_two_pow]
  have q1 := nb_tb (n - 2 ^ k.toNat) i
  have q2 := nb_tb n i
  rw [iB] at hb
  by_cases c : (i : Int) = k
  · rw [if_pos c] at q
    have ck : k.toNat = i := by omega
    rw [ck] at hb q1 ⊢
    rw [decide_eq_true rfl]
    cases h1 : n.testBit i <;> cases h2 : (n - 2 ^ i).testBit i <;> first | rfl | (exfalso; rw [h1] at q2; simp only [if_true, Bool.false_eq_true, if_false] at q2; omega) | (exfalso; rw [h2] at q1; rw [ck] at q; simp only [if_true] at q1; omega)
  · rw [if_neg c] at q
    rw [decide_eq_false (by omega), Bool.xor_false]
    cases h1 : n.testBit i <;> cases h2 : (n - 2 ^ k.toNat).testBit i <;> first | rfl | (exfalso; rw [h1] at q2; rw [h2] at q1; simp only [if_true, Bool.false_eq_true, if_false] at q1 q2; omega)
/-- the fewest over the next ones up to k -/
def fwK (D : Int → Int → Int) (h : Int → Int) (rest last : Int) : Nat → Int
  | 0 => 1584
  | k + 1 => if rest / p2 (k : Int) % 2 = 1 then (if D last ((k : Int) + 1) + h ((rest - p2 (k : Int)) * 8 + ((k : Int) + 1)) < fwK D h rest last k then D last ((k : Int) + 1) + h ((rest - p2 (k : Int)) * 8 + ((k : Int) + 1)) else fwK D h rest last k) else fwK D h rest last k
theorem fwK_p {D : Int → Int → Int} {h : Int → Int} {rest last : Int} : ∀ k : Nat, fwK D h rest last k ≤ 1584 ∧ (∀ i, 1 ≤ i → i ≤ (k : Int) → rest / p2 (i - 1) % 2 = 1 → fwK D h rest last k ≤ D last i + h ((rest - p2 (i - 1)) * 8 + i)) ∧ (fwK D h rest last k = 1584 ∨ ∃ i, 1 ≤ i ∧ i ≤ (k : Int) ∧ rest / p2 (i - 1) % 2 = 1 ∧ fwK D h rest last k = D last i + h ((rest - p2 (i - 1)) * 8 + i))
  | 0 => ⟨by simp only [fwK]; omega, fun i i0 i1 => by omega, Or.inl rfl⟩
  | k + 1 => by
    obtain ⟨a, b, c⟩ := fwK_p (D := D) (h := h) (rest := rest) (last := last) k
    simp only [fwK]
    by_cases d : rest / p2 (k : Int) % 2 = 1
    · rw [if_pos d]
      have key : ∀ i, i = (k : Int) + 1 → D last i + h ((rest - p2 (i - 1)) * 8 + i) = D last ((k : Int) + 1) + h ((rest - p2 (k : Int)) * 8 + ((k : Int) + 1)) := fun i e => by rw [e, show (k : Int) + 1 - 1 = k by omega]
      by_cases e : D last ((k : Int) + 1) + h ((rest - p2 (k : Int)) * 8 + ((k : Int) + 1)) < fwK D h rest last k
      · rw [if_pos e]
        refine ⟨by omega, fun i i0 i1 i2 => ?_, Or.inr ⟨(k : Int) + 1, by omega, by omega, by rw [show (k : Int) + 1 - 1 = k by omega]; exact d, (key _ rfl).symm⟩⟩
        by_cases z : i = (k : Int) + 1
        · rw [key i z]; omega
        · have := b i i0 (by omega) i2; omega
      · rw [if_neg e]
        refine ⟨a, fun i i0 i1 i2 => ?_, ?_⟩
        · by_cases z : i = (k : Int) + 1
          · rw [key i z]; omega
          · exact b i i0 (by omega) i2
        · rcases c with c | ⟨i, i0, i1, i2, i3⟩
          · exact Or.inl c
          · exact Or.inr ⟨i, i0, by omega, i2, i3⟩
    · rw [if_neg d]
      refine ⟨a, fun i i0 i1 i2 => ?_, ?_⟩
      · by_cases z : i = (k : Int) + 1
        · rw [z, show (k : Int) + 1 - 1 = k by omega] at i2; exact absurd i2 d
        · exact b i i0 (by omega) i2
      · rcases c with c | ⟨i, i0, i1, i2, i3⟩
        · exact Or.inl c
        · exact Or.inr ⟨i, i0, by omega, i2, i3⟩
def fwV (D : Int → Int → Int) (n : Int) (h : Int → Int) (rest last : Int) : Int := if rest = 0 then D last 0 else fwK D h rest last (n - 1).toNat
abbrev tCond (rest last : Int) : Prop := last = 0 ∨ rest / p2 (last - 1) % 2 = 0
def TabE (D : Int → Int → Int) (n : Int) (h : Int → Int) (rest last : Int) : Prop := (rest = 0 → h (rest * 8 + last) = D last 0) ∧ (∀ i, 1 ≤ i → i < n → rest / p2 (i - 1) % 2 = 1 → h (rest * 8 + last) ≤ D last i + h ((rest - p2 (i - 1)) * 8 + i)) ∧ (rest ≠ 0 → ∃ i, 1 ≤ i ∧ i < n ∧ rest / p2 (i - 1) % 2 = 1 ∧ h (rest * 8 + last) = D last i + h ((rest - p2 (i - 1)) * 8 + i)) ∧ h (rest * 8 + last) ≤ 198 * (bN rest (n - 1) + 1)
def TabP (D : Int → Int → Int) (n : Int) (h : Int → Int) (R L : Int) : Prop := ∀ rest last, 0 ≤ rest → rest < p2 (n - 1) → 0 ≤ last → last < n → tCond rest last → (rest < R ∨ (rest = R ∧ last < L)) → TabE D n h rest last
theorem TabP_s {D : Int → Int → Int} {n R L v : Int} {h : Int → Int} (hn : 1 ≤ n ∧ n ≤ 8) (hD : ∀ i j, 0 ≤ i → i < n → 0 ≤ j → j < n → 0 ≤ D i j ∧ D i j ≤ 198) (I : TabP D n h R L) (hR : 0 ≤ R ∧ R < p2 (n - 1)) (hL : 0 ≤ L ∧ L < n) (hc : tCond R L) (hv : v = fwV D n h R L) : TabP D n (ua h (R * 8 + L) v) R (L + 1) := by
  intro rest last r0 r1 l0 l1 c o
  have rd : ∀ i, 1 ≤ i → i < n → rest / p2 (i - 1) % 2 = 1 → ua h (R * 8 + L) v ((rest - p2 (i - 1)) * 8 + i) = h ((rest - p2 (i - 1)) * 8 + i) := fun i i0 i1 i2 => by
    have := p2_pos (i - 1)
    exact ua_ne (by omega)
  by_cases e : rest = R ∧ last = L
  · obtain ⟨rfl, rfl⟩ := e
    simp only [TabE]
    rw [ua_same]
    simp only [fwV] at hv
    have f := fwK_p (D := D) (h := h) (rest := rest) (last := last) (n - 1).toNat
    have sub : ∀ i, 1 ≤ i → i < n → rest / p2 (i - 1) % 2 = 1 → h ((rest - p2 (i - 1)) * 8 + i) ≤ 198 * bN rest (n - 1) := fun i i0 i1 i2 => by
      have s := bit_sub r0 (by omega) i2
      have p := p2_pos (i - 1)
      have t := I (rest - p2 (i - 1)) i s.1 (by omega) (by omega) i1 (Or.inr (by rw [s.2 (i - 1) (by omega), if_pos rfl])) (Or.inl (by omega))
      have := t.2.2.2
      rw [bN_sub r0 (by omega) (by omega) i2] at this
      omega
    have n0 := bN_mono (set := rest) (n - 1).toNat 0 (by omega)
    have n00 : bN rest 0 = 0 := rfl
    rw [n00, Int.zero_add, show (((n - 1).toNat : Nat) : Int) = n - 1 by omega] at n0
    by_cases z : rest = 0
    · rw [if_pos z] at hv
      refine ⟨fun _ => hv, fun i i0 i1 i2 => ?_, fun y => absurd z y, ?_⟩
      · rw [z, Int.zero_ediv] at i2; omega
      · rw [hv]; have := hD last 0 l0 l1 (by omega) (by omega); omega
    · rw [if_neg z] at hv
      have ex : ∃ i, 1 ≤ i ∧ i < n ∧ rest / p2 (i - 1) % 2 = 1 := by
        refine Classical.byContradiction fun hc => z (bits0 r0 r1 (fun k k0 k1 => ?_))
        rcases bit_01 rest k with y | y
        · exact y
        · exact absurd ⟨k + 1, by omega, by omega, by rw [show k + 1 - 1 = k by omega]; exact y⟩ hc
      obtain ⟨i, i0, i1, i2⟩ := ex
      have b1 := f.2.1 i i0 (by omega) i2
      have b2 := sub i i0 i1 i2
      have b3 := hD last i l0 l1 (by omega) i1
      have bm : bN rest (n - 1) ≤ 7 := by
        have := sumT_01 (fun k => rest / p2 k % 2) (fun k => by constructor <;> omega) (n - 1) (by omega)
        have e : bN rest (n - 1) = sumT (fun k => rest / p2 k % 2) (n - 1) := rfl
        omega
      refine ⟨fun y => absurd y z, fun j j0 j1 j2 => ?_, fun _ => ?_, ?_⟩
      · rw [rd j j0 j1 j2, hv]; exact f.2.1 j j0 (by omega) j2
      · rcases f.2.2 with y | ⟨j, j0, j1, j2, j3⟩
        · exact ⟨i, i0, i1, i2, by rw [rd i i0 i1 i2, hv]; omega⟩
        · exact ⟨j, j0, by omega, j2, by rw [rd j j0 (by omega) j2, hv]; exact j3⟩
      · rw [hv]; omega
  · have t := I rest last r0 r1 l0 l1 c (by omega)
    have e0 : ua h (R * 8 + L) v (rest * 8 + last) = h (rest * 8 + last) := ua_ne (by omega)
    simp only [TabE]
    rw [e0]
    refine ⟨t.1, fun i i0 i1 i2 => by rw [rd i i0 i1 i2]; exact t.2.1 i i0 i1 i2, fun z => ?_, t.2.2.2⟩
    obtain ⟨i, i0, i1, i2, i3⟩ := t.2.2.1 z
    exact ⟨i, i0, i1, i2, by rw [rd i i0 i1 i2]; exact i3⟩
theorem TabP_no {D : Int → Int → Int} {n R L : Int} {h : Int → Int} (I : TabP D n h R L) (hc : ¬ tCond R L) : TabP D n h R (L + 1) := by
  intro rest last r0 r1 l0 l1 c o
  refine I rest last r0 r1 l0 l1 c ?_
  by_cases e : rest = R ∧ last = L
  · obtain ⟨rfl, rfl⟩ := e
    exact absurd c hc
  · omega
theorem TabP_n {D : Int → Int → Int} {n R : Int} {h : Int → Int} (I : TabP D n h R n) : TabP D n h (R + 1) 0 := fun rest last r0 r1 l0 l1 c o => I rest last r0 r1 l0 l1 c (by omega)
theorem TabP_H {D : Int → Int → Int} {n : Int} {h : Int → Int} (I : TabP D n h (p2 (n - 1)) 0) : TabH D n h := fun rest last r0 r1 l0 l1 c => by
  have t := I rest last r0 r1 l0 l1 c (Or.inl r1)
  exact ⟨t.1, t.2.1⟩
theorem fwV_r {D : Int → Int → Int} {n : Int} {h : Int → Int} {rest last : Int} (hD : 0 ≤ D last 0 ∧ D last 0 ≤ 198) (hp : ∀ i, 0 ≤ D last i) (hh : ∀ q, 0 ≤ h q ∧ h q ≤ 1584) : 0 ≤ fwV D n h rest last ∧ fwV D n h rest last ≤ 1584 := by
  simp only [fwV]
  split
  · omega
  · have f := fwK_p (D := D) (h := h) (rest := rest) (last := last) (n - 1).toNat
    refine ⟨?_, f.1⟩
    rcases f.2.2 with z | ⟨i, i0, i1, i2, i3⟩
    · omega
    · have := hp i
      have := (hh ((rest - p2 (i - 1)) * 8 + i)).1
      omega
