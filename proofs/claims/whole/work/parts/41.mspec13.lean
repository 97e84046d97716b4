/-! tokens -/
def tb (T : Int → Int) (n k : Int) : Int := if k < n then T k else -1
abbrev isSp (c : Int) : Prop := c = 32 ∨ c = 10
abbrev isDg (c : Int) : Prop := 48 ≤ c ∧ c ≤ 57
abbrev isLt (c : Int) : Prop := (97 ≤ c ∧ c ≤ 122) ∨ (65 ≤ c ∧ c ≤ 90)
abbrev isSg (c : Int) : Prop := c = 60 ∨ c = 62 ∨ c = 61 ∨ c = 35 ∨ c = 43 ∨ c = 45 ∨ c = 42 ∨ c = 47 ∨ c = 40 ∨ c = 41 ∨ c = 59
theorem tb_r {T : Int → Int} (h : ∀ k, 0 ≤ T k ∧ T k < 256) (n k : Int) : -1 ≤ tb T n k ∧ tb T n k < 256 ∧ (n ≤ k → tb T n k = -1) ∧ (k < n → 0 ≤ tb T n k) := by
  simp only [tb]
  have := h k
  split <;> omega
def ends (T : Int → Int) (n : Int) (p : Int → Bool) (s : Int) : Int := s + findT (fun j => !p (tb T n (s + j))) (n - s + 1)
theorem ends_at {T : Int → Int} {n s e : Int} {p : Int → Bool} (h0 : s ≤ e) (h1 : e ≤ n ∨ e = s) (hs : s ≤ n + 0 ∨ e = s) (hb : ∀ j, s ≤ j → j < e → p (tb T n j) = true) (he : p (tb T n e) = false) (hn : e ≤ n) : ends T n p s = e := by
  simp only [ends]
  rw [findT_at (k := e - s) (by omega) (by omega) (by rw [show s + (e - s) = e by omega, he]; rfl) (fun j j0 j1 => by rw [hb (s + j) (by omega) (by omega)]; rfl)]
  omega
def nmK (T : Int → Int) (s : Int) : Nat → Int
  | 0 => 0
  | k + 1 => if nmK T s k < 100000 then 10 * nmK T s k + T (s + k) - 48 else nmK T s k
def wdK (T : Int → Int) (s : Int) : Nat → Int
  | 0 => 0
  | k + 1 => if k < 7 then wdK T s k * 256 + T (s + k) else wdK T s k
theorem bor_256 {w c : Int} (hw : 0 ≤ w) (hc : 0 ≤ c ∧ c < 256) : bor (w * p2 8) c = w * 256 + c := by
  simp only [bor]
  rw [show p2 8 = 256 by decide]
  have e : (w * 256).toNat = w.toNat <<< 8 := by rw [Nat.shiftLeft_eq]; omega
  rw [e, ← Nat.shiftLeft_add_eq_or_of_lt (show c.toNat < 2 ^ 8 by omega), Nat.shiftLeft_eq]
  omega
theorem wdK_r {T : Int → Int} (h : ∀ k, 0 ≤ T k ∧ T k < 256) (s : Int) : ∀ k : Nat, 0 ≤ wdK T s k ∧ wdK T s k < 72057594037927936 ∧ (k < 7 → wdK T s k < 281474976710656) := by
  have key : ∀ k : Nat, k ≤ 7 → 0 ≤ wdK T s k ∧ wdK T s k < 256 ^ k := by
    intro k
    induction k with
    | zero => intro _; simp only [wdK]; omega
    | succ k ih =>
      intro hk
      have i := ih (by omega)
      have t := h (s + k)
      simp only [wdK]
      rw [if_pos (by omega), Int.pow_succ]
      omega
  intro k
  induction k with
  | zero => simp only [wdK]; omega
  | succ k ih =>
    by_cases c : k < 7
    · have i := key (k + 1) (by omega)
      have q : (256 : Int) ^ (k + 1) ≤ 256 ^ 7 := by
        rcases (show k = 0 ∨ k = 1 ∨ k = 2 ∨ k = 3 ∨ k = 4 ∨ k = 5 ∨ k = 6 by omega) with z | z | z | z | z | z | z <;> subst z <;> decide
      have q2 : k + 1 < 7 → (256 : Int) ^ (k + 1) ≤ 256 ^ 6 := by
        intro hh
        rcases (show k = 0 ∨ k = 1 ∨ k = 2 ∨ k = 3 ∨ k = 4 ∨ k = 5 by omega) with z | z | z | z | z | z <;> subst z <;> decide
      refine ⟨i.1, by omega, fun hh => ?_⟩
      have := q2 hh
      omega
    · simp only [wdK]
      rw [if_neg c]
      exact ⟨ih.1, ih.2.1, fun z => by omega⟩
theorem nmK_r {T : Int → Int} {s : Int} : ∀ k : Nat, (∀ j : Int, s ≤ j → j < s + k → isDg (T j)) → 0 ≤ nmK T s k ∧ nmK T s k < 1000000
  | 0, _ => by simp only [nmK]; omega
  | k + 1, h => by
    have ih := nmK_r (T := T) (s := s) k (fun j h0 h1 => h j h0 (by omega))
    have := h (s + k) (by omega) (by omega)
    simp only [nmK]
    split <;> omega
def tPl (T : Int → Int) (n p : Int) : Int := ends T n (fun c => decide (isSp c)) p
def tC (T : Int → Int) (n p : Int) : Int := tb T n (tPl T n p)
def tDe (T : Int → Int) (n p : Int) : Int := ends T n (fun c => decide (isDg c)) (tPl T n p)
def tLe (T : Int → Int) (n p : Int) : Int := ends T n (fun c => decide (isLt c)) (tPl T n p)
abbrev tTwo (T : Int → Int) (n p : Int) : Prop := (tC T n p = 60 ∨ tC T n p = 62) ∧ tb T n (tPl T n p + 1) = 61
/-- the TOKEN behind p: its sort, and where it ends -/
def tTok (T : Int → Int) (n p : Int) : Int := if tC T n p < 0 then 0 else if isDg (tC T n p) then 1 else if isLt (tC T n p) then 2 else if tTwo T n p then (if tC T n p = 60 then 4 else 5) else if isSg (tC T n p) then tC T n p else 3
def tNx (T : Int → Int) (n p : Int) : Int := if tC T n p < 0 then tPl T n p else if isDg (tC T n p) then tDe T n p else if isLt (tC T n p) then tLe T n p else if tTwo T n p then tPl T n p + 1 + 1 else tPl T n p + 1
def tNum (T : Int → Int) (n p : Int) : Int := nmK T (tPl T n p) (tDe T n p - tPl T n p).toNat
def tWd (T : Int → Int) (n p : Int) : Int := if 7 < tLe T n p - tPl T n p then 0 else wdK T (tPl T n p) (tLe T n p - tPl T n p).toNat
def mTok (f T : Int → Int) : Int → Int := fun k => if k = 7 then tNx T (f 4) (f 7) else if k = 8 then tPl T (f 4) (f 7) else if k = 9 then tTok T (f 4) (f 7) else if k = 10 then (if tTok T (f 4) (f 7) = 1 then tNum T (f 4) (f 7) else f 10) else if k = 11 then (if tTok T (f 4) (f 7) = 2 then tWd T (f 4) (f 7) else f 11) else f k
theorem mTok_eq {f T g : Int → Int} (h7 : g 7 = tNx T (f 4) (f 7)) (h8 : g 8 = tPl T (f 4) (f 7)) (h9 : g 9 = tTok T (f 4) (f 7)) (h10 : g 10 = if tTok T (f 4) (f 7) = 1 then tNum T (f 4) (f 7) else f 10) (h11 : g 11 = if tTok T (f 4) (f 7) = 2 then tWd T (f 4) (f 7) else f 11) (hk : ∀ k, k ≠ 7 → k ≠ 8 → k ≠ 9 → k ≠ 10 → k ≠ 11 → g k = f k) : g = mTok f T := by
  funext k
  simp only [mTok]
  by_cases c7 : k = 7
  · rw [if_pos c7, c7, h7]
  rw [if_neg c7]
  by_cases c8 : k = 8
  · rw [if_pos c8, c8, h8]
  rw [if_neg c8]
  by_cases c9 : k = 9
  · rw [if_pos c9, c9, h9]
  rw [if_neg c9]
  by_cases c10 : k = 10
  · rw [if_pos c10, c10, h10]
  rw [if_neg c10]
  by_cases c11 : k = 11
  · rw [if_pos c11, c11, h11]
  rw [if_neg c11]
  exact hk k c7 c8 c9 c10 c11
theorem ua_self (f : Int → Int) (k : Int) : ua f k (f k) = f := by
  funext q
  simp only [ua]
  split
  · rename_i h; rw [h]
  · rfl
theorem tTok_0 {T : Int → Int} {n p : Int} (h : tC T n p < 0) : tTok T n p = 0 := if_pos h
theorem tTok_1 {T : Int → Int} {n p : Int} (h : isDg (tC T n p)) : tTok T n p = 1 := (if_neg (by omega)).trans (if_pos h)
theorem tTok_2 {T : Int → Int} {n p : Int} (h : isLt (tC T n p)) : tTok T n p = 2 := (if_neg (by omega)).trans ((if_neg (by omega)).trans (if_pos h))
theorem tTok_4 {T : Int → Int} {n p : Int} (h : tTwo T n p) : tTok T n p = if tC T n p = 60 then 4 else 5 := (if_neg (by omega)).trans ((if_neg (by omega)).trans ((if_neg (by omega)).trans (if_pos h)))
theorem tTok_3 {T : Int → Int} {n p : Int} (h0 : 0 ≤ tC T n p) (h1 : ¬ isDg (tC T n p)) (h2 : ¬ isLt (tC T n p)) (h : ¬ tTwo T n p) : tTok T n p = if isSg (tC T n p) then tC T n p else 3 := (if_neg (by omega)).trans ((if_neg h1).trans ((if_neg h2).trans (if_neg h)))
theorem tNx_0 {T : Int → Int} {n p : Int} (h : tC T n p < 0) : tNx T n p = tPl T n p := if_pos h
theorem tNx_1 {T : Int → Int} {n p : Int} (h : isDg (tC T n p)) : tNx T n p = tDe T n p := (if_neg (by omega)).trans (if_pos h)
theorem tNx_2 {T : Int → Int} {n p : Int} (h : isLt (tC T n p)) : tNx T n p = tLe T n p := (if_neg (by omega)).trans ((if_neg (by omega)).trans (if_pos h))
theorem tNx_4 {T : Int → Int} {n p : Int} (h : tTwo T n p) : tNx T n p = tPl T n p + 1 + 1 := (if_neg (by omega)).trans ((if_neg (by omega)).trans ((if_neg (by omega)).trans (if_pos h)))
theorem tNx_3 {T : Int → Int} {n p : Int} (h0 : 0 ≤ tC T n p) (h1 : ¬ isDg (tC T n p)) (h2 : ¬ isLt (tC T n p)) (h : ¬ tTwo T n p) : tNx T n p = tPl T n p + 1 := (if_neg (by omega)).trans ((if_neg h1).trans ((if_neg h2).trans (if_neg h)))
