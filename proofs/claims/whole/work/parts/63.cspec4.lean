/-! the class's rows and the reference's row -/
def gNow (a : Int → Int) : Int → Int → Int := fun x e => a (30 + 6 * x + 1 + e)
def gRec (a : Int → Int) (j : Int) : Int → Int → Int := fun x e => a (174 + 82 * j + 2 + 5 * x + e)
/-- BONES at i hold told, year and g -/
def BoSim (V : Va) (i : Nat) (told year : Int) (g : Int → Int → Int) : Prop := V i 5 = told ∧ V i 6 = year ∧ (∀ x, 0 ≤ x → x < told → V (i + 1) x = g x 0 ∧ V (i + 2) x = g x 1 ∧ V (i + 3) x = g x 2 ∧ V (i + 4) x = g x 3) ∧ ∀ t, 0 ≤ t → t < 10 → 0 ≤ V (i + 5) t ∧ V (i + 5) t < p2 told ∧ ∀ x, 0 ≤ x → x < told → V (i + 5) t / p2 x % 2 = g x 4 / p2 t % 2
def ringId (b : Nat) (next size j : Int) : Nat := b + 12 + 6 * ((next + 20 - size + j) % 20).toNat
def WSim (V : Va) (b : Nat) (a : Int → Int) : Prop := (V b 7 = a 0 ∧ V b 8 = a 3 ∧ V b 9 = a 4) ∧ (∀ t, 0 ≤ t → t < a 0 → V (b + 1) t = a (10 + 2 * t) ∧ V (b + 2) t = a (10 + 2 * t + 1)) ∧ (∀ x, 0 ≤ x → x < a 1 → V (b + 3) x = a (30 + 6 * x)) ∧ BoSim V (b + 4) (a 1) (a 2) (gNow a) ∧ (V (b + 10) 2 = a 5 ∧ 0 ≤ V (b + 10) 1 ∧ V (b + 10) 1 < 20 ∧ ∀ j, 0 ≤ j → j < a 5 → BoSim V (ringId b (V (b + 10) 1) (a 5) j) (a (174 + 82 * j + 1)) (a (174 + 82 * j)) (gRec a j)) ∧ (V (b + 133) 4 = a 6 ∧ V (b + 133) 5 = a 7 ∧ V (b + 133) 6 = a 8 ∧ ∀ s, 0 ≤ s → s < a 6 → V (b + 134) s = a (126 + 4 * s) ∧ V (b + 135) s = a (126 + 4 * s + 1) ∧ V (b + 136) s = a (126 + 4 * s + 2) ∧ V (b + 137) s = a (126 + 4 * s + 3))
/-- rows of a world hold small numbers -/
def WB (V : Va) (b : Nat) : Prop := AB (V (b + 1)) ∧ AB (V (b + 2)) ∧ AB (V (b + 3)) ∧ (∀ t, 0 ≤ V (b + 9) t ∧ V (b + 9) t < 65536) ∧ AB (V (b + 5)) ∧ AB (V (b + 6)) ∧ AB (V (b + 7)) ∧ AB (V (b + 8)) ∧ AB (V (b + 135)) ∧ (∀ s, 0 ≤ V (b + 136) s ∧ V (b + 136) s ≤ 999) ∧ (∀ s, 0 ≤ V (b + 137) s ∧ V (b + 137) s ≤ 999) ∧ ∀ k : Nat, k < 20 → (0 ≤ V (b + 12 + 6 * k) 5 ∧ V (b + 12 + 6 * k) 5 ≤ 16) ∧ (∀ t, 0 ≤ V (b + 12 + 6 * k + 5) t ∧ V (b + 12 + 6 * k + 5) t < 65536) ∧ AB (V (b + 12 + 6 * k + 1)) ∧ AB (V (b + 12 + 6 * k + 2)) ∧ AB (V (b + 12 + 6 * k + 3)) ∧ AB (V (b + 12 + 6 * k + 4))
def BoOK (n told : Int) (g : Int → Int → Int) : Prop := ∀ x, 0 ≤ x → x < told → (1 ≤ g x 0 ∧ g x 0 ≤ 999) ∧ (0 ≤ g x 1 ∧ g x 1 < n) ∧ (0 ≤ g x 2 ∧ g x 2 < n) ∧ (-1 ≤ g x 3 ∧ g x 3 ≤ 999) ∧ 0 ≤ g x 4 ∧ g x 4 < p2 n
/-- what always holds of the reference's row -/
def MIv (a : Int → Int) : Prop := AI a ∧ (0 ≤ a 3 ∧ a 3 ≤ 4 ∧ a 4 < a 3) ∧ (0 ≤ a 6 ∧ a 6 ≤ 12) ∧ (0 ≤ a 7 ∧ a 7 ≤ 9 ∧ 1 ≤ a 8 ∧ a 8 ≤ 99) ∧ (∀ t, 0 ≤ t → t < a 0 → (0 ≤ a (10 + 2 * t) ∧ a (10 + 2 * t) ≤ 99) ∧ 0 ≤ a (10 + 2 * t + 1) ∧ a (10 + 2 * t + 1) ≤ 99) ∧ (∀ x, 0 ≤ x → x < a 1 → 0 ≤ a (30 + 6 * x) ∧ a (30 + 6 * x) ≤ 19) ∧ BoOK (a 0) (a 1) (gNow a) ∧ (∀ x, a 1 ≤ x → x < 16 → gNow a x 4 = 0) ∧ (∀ j, 0 ≤ j → j < a 5 → (0 ≤ a (174 + 82 * j + 1) ∧ a (174 + 82 * j + 1) ≤ a 1) ∧ (0 ≤ a (174 + 82 * j) ∧ a (174 + 82 * j) ≤ 999) ∧ BoOK (a 0) (a (174 + 82 * j + 1)) (gRec a j) ∧ ∀ x, a (174 + 82 * j + 1) ≤ x → x < 16 → gRec a j x 4 = 0 ∧ (if j + 1 < a 5 then gRec a (j + 1) x 4 else gNow a x 4) = 0) ∧ (∀ s, 0 ≤ s → s < a 6 → (0 ≤ a (126 + 4 * s) ∧ a (126 + 4 * s) < a 0) ∧ (0 ≤ a (126 + 4 * s + 1) ∧ a (126 + 4 * s + 1) ≤ 19) ∧ (1 ≤ a (126 + 4 * s + 2) ∧ a (126 + 4 * s + 2) ≤ 999) ∧ 0 ≤ a (126 + 4 * s + 3) ∧ a (126 + 4 * s + 3) ≤ 999)
/-- a TEXT's cells -/
def TxS (S : Stt) (id cl cd : Nat) : Prop := (326 ≤ id ∧ id + 5 < S.2.2 ∧ cl ≤ 96 ∧ cd ≤ 300) ∧ S.1 id = (13, 0) ∧ (S.2.1 id 0 = some (id + 1) ∧ S.2.1 id 2 = some (id + 2) ∧ S.2.1 id 3 = some (id + 3) ∧ S.2.1 id 4 = some (id + 4) ∧ S.2.1 id 5 = some (id + 5)) ∧ S.1 (id + 1) = (0, cl) ∧ S.1 (id + 2) = (0, cd) ∧ S.1 (id + 3) = (0, 3) ∧ S.1 (id + 4) = (0, 3) ∧ S.1 (id + 5) = (0, 20)
def fSort (tx : Int → Int) (T s : Int) : Int := findT (fun k => decide (tx (700 * T + 1 + 4 * k) = s)) (tx (700 * T))
def fKind (tx : Int → Int) (T kind : Int) : Int := findT (fun k => decide (tx (700 * T + 1 + 4 * k) = 3 ∧ tx (700 * T + 1 + 4 * k + 1) = kind)) (tx (700 * T))
def cRange (tx : Int → Int) (T s : Int) (cd : Nat) : Prop := 0 ≤ tx (700 * T + 1 + 4 * fSort tx T s + 1) ∧ tx (700 * T + 1 + 4 * fSort tx T s + 1) ≤ tx (700 * T + 1 + 4 * fSort tx T s + 2) ∧ tx (700 * T + 1 + 4 * fSort tx T s + 2) ≤ cd ∧ dOK2 (tOp tx T) (tArg tx T) (if s = 0 then 1 else 0) (if s = 0 then 0 else 1) (tx (700 * T + 1 + 4 * fSort tx T s + 2) - tx (700 * T + 1 + 4 * fSort tx T s + 1)).toNat (tx (700 * T + 1 + 4 * fSort tx T s + 1)) 0 0 ∧ (s ≠ 2 → ∀ i, tx (700 * T + 1 + 4 * fSort tx T s + 1) ≤ i → i < tx (700 * T + 1 + 4 * fSort tx T s + 2) → tOp tx T i = 1 → tArg tx T i ≤ 4)
def TxV (V : Va) (id cl cd : Nat) (tx : Int → Int) (T : Int) : Prop := (V id 1 = tx (700 * T) ∧ 0 ≤ tx (700 * T) ∧ tx (700 * T) ≤ 24 ∧ (cl : Int) = 4 * tx (700 * T)) ∧ (∀ k, 0 ≤ k → k < tx (700 * T) → (V (id + 1) (4 * k) = 16 + tx (700 * T + 1 + 4 * k) ∧ 0 ≤ tx (700 * T + 1 + 4 * k) ∧ tx (700 * T + 1 + 4 * k) ≤ 8) ∧ (4 ≤ tx (700 * T + 1 + 4 * k) → V (id + 1) (4 * k + 1) = tx (700 * T + 1 + 4 * k + 1) ∧ (tx (700 * T + 1 + 4 * k) ≤ 6 → V (id + 1) (4 * k + 2) = tx (700 * T + 1 + 4 * k + 2)) ∧ (tx (700 * T + 1 + 4 * k) = 4 → V (id + 1) (4 * k + 3) = tx (700 * T + 1 + 4 * k + 3)))) ∧ (∀ i : Int, 0 ≤ i → i < (cd : Int) → V (id + 2) i = encO (tOp tx T i) (tArg tx T i)) ∧ (∀ s, 0 ≤ s → s ≤ 2 → (fSort tx T s < 0 → V (id + 3) s = -1) ∧ (0 ≤ fSort tx T s → V (id + 3) s = tx (700 * T + 1 + 4 * fSort tx T s + 1) ∧ V (id + 4) s = tx (700 * T + 1 + 4 * fSort tx T s + 2) ∧ cRange tx T s cd)) ∧ (∀ kind, 0 ≤ kind → kind ≤ 19 → (fKind tx T kind < 0 → V (id + 5) kind = 0) ∧ (0 ≤ fKind tx T kind → V (id + 5) kind = tx (700 * T + 1 + 4 * fKind tx T kind + 2) ∧ 1 ≤ V (id + 5) kind ∧ V (id + 5) kind ≤ 9)) ∧ ∀ k, InR (V (id + 1) k)
def TSim (S : Stt) (V : Va) (b : Nat) (a tx : Int → Int) : Prop := ∀ T, 0 ≤ T → T < a 3 → ∃ id cl cd, S.2.1 b T = some id ∧ TxS S id cl cd ∧ TxV V id cl cd tx T
theorem TxV_c {V V' : Va} {id cl cd : Nat} {tx : Int → Int} {T : Int} (hid : 326 ≤ id) (h : ∀ q, 326 ≤ q → V' q = V q) (e : TxV V id cl cd tx T) : TxV V' id cl cd tx T := by
  simp only [TxV]
  rw [h id hid, h (id + 1) (by omega), h (id + 2) (by omega), h (id + 3) (by omega), h (id + 4) (by omega), h (id + 5) (by omega)]
  exact e
theorem TSim_c {S : Stt} {V V' : Va} {b : Nat} {a a' tx : Int → Int} (h : ∀ q, 326 ≤ q → V' q = V q) (h3 : a' 3 = a 3) (e : TSim S V b a tx) : TSim S V' b a' tx := fun T h0 h1 => by
  obtain ⟨id, cl, cd, e1, e2, e3⟩ := e T h0 (by omega)
  exact ⟨id, cl, cd, e1, e2, TxV_c e2.1.1 h e3⟩
theorem mClause_f {a tx : Int → Int} {s : Int} (h : 0 ≤ a 4) : mClause a tx s = fSort tx (a 4) s := by
  simp only [mClause]
  rw [if_neg (by omega)]
  rfl
theorem mRun_nmK {nm nm' : Int → Int} {K : Int} (hq : ∀ k, 0 ≤ k → k ≤ K → nm k = nm' k) (op ag : Int → Int) (N T : Int) : ∀ (m : Nat) (i n t : Int) (v r : Int → Int), dOK2 op ag N T m i n t → (∀ q, i ≤ q → q < i + m → op q = 1 → ag q ≤ K) → mRun nm op ag m i (v, r, n, t) = mRun nm' op ag m i (v, r, n, t)
  | 0, _, _, _, _, _, _, _ => rfl
  | m + 1, i, n, t, v, r, hd, hk => by
    have hk' : ∀ q, i + 1 ≤ q → q < i + 1 + m → op q = 1 → ag q ≤ K := fun q q0 q1 => hk q (by omega) (by omega)
    simp only [mRun]
    have e : mEv nm (op i) (ag i) (v, r, n, t) = mEv nm' (op i) (ag i) (v, r, n, t) := by
      simp only [mEv]
      by_cases c : op i ≤ 1
      · rw [if_pos c, if_pos c]
        by_cases d : op i = 0
        · rw [if_pos d, if_pos d]
        · rw [if_neg d, if_neg d]
          have h1 : op i = 1 ∧ 0 ≤ ag i := by
            simp only [dOK2] at hd
            rcases hd with z | z | z | z | z | z | z <;> omega
          rw [hq (ag i) h1.2 (hk i (by omega) (by omega) h1.1)]
      · rw [if_neg c, if_neg c]
    rw [e]
    simp only [dOK2] at hd
    rcases hd with z | z | z | z | z | z | z
    · rw [show mEv nm' (op i) (ag i) (v, r, n, t) = (ua v n (ag i), r, n + 1, t) by simp only [mEv]; rw [if_pos (by omega), if_pos z.1]]
      exact mRun_nmK hq op ag N T m _ _ _ _ _ z.2.2.2.2 hk'
    · rw [show mEv nm' (op i) (ag i) (v, r, n, t) = (ua v n (nm' (ag i)), r, n + 1, t) by simp only [mEv]; rw [if_pos (by omega), if_neg (by omega)]]
      exact mRun_nmK hq op ag N T m _ _ _ _ _ z.2.2.2.2 hk'
    · rw [show mEv nm' (op i) (ag i) (v, r, n, t) = (ua v (n - 1) (-(v (n - 1))), r, n, t) by simp only [mEv]; rw [if_neg (by omega), if_pos z.1]]
      exact mRun_nmK hq op ag N T m _ _ _ _ _ z.2.2 hk'
    · rw [show mEv nm' (op i) (ag i) (v, r, n, t) = (ua v (n - 1 - 1) (mTwo (op i) (v (n - 1 - 1)) (v (n - 1))), r, n - 1, t) by simp only [mEv]; rw [if_neg (by omega), if_neg (by omega), if_pos (by omega)]]
      exact mRun_nmK hq op ag N T m _ _ _ _ _ z.2.2.2 hk'
    · rw [mEv_4 z.1 (by omega)]
      have z3 := z.2.2.1
      subst z3
      exact mRun_nmK hq op ag N T m _ _ _ _ _ z.2.2.2.2 hk'
    · rw [show mEv nm' (op i) (ag i) (v, r, n, t) = (v, ua r (t - 1) (if r (t - 1) = 0 then 1 else 0), n, t) by simp only [mEv]; rw [if_neg (by omega), if_neg (by omega), if_neg (by omega), if_neg (by omega), if_pos z.1]]
      exact mRun_nmK hq op ag N T m _ _ _ _ _ z.2.2.2 hk'
    · rw [show mEv nm' (op i) (ag i) (v, r, n, t) = (v, ua r (t - 1 - 1) (if op i = 21 then (if r (t - 1 - 1) ≠ 0 ∧ r (t - 1) ≠ 0 then 1 else 0) else (if r (t - 1 - 1) ≠ 0 ∨ r (t - 1) ≠ 0 then 1 else 0)), n, t - 1) by simp only [mEv]; rw [if_neg (by omega), if_neg (by omega), if_neg (by omega), if_neg (by omega), if_neg (by omega)]]
      exact mRun_nmK hq op ag N T m _ _ _ _ _ z.2.2.2 hk'
/-- bits above are none -/
theorem div_p2_0 {x n k : Int} (h0 : 0 ≤ x) (h1 : x < p2 n) (hk : n ≤ k) : x / p2 k % 2 = 0 := by
  have := p2_le hk
  rw [Int.ediv_eq_zero_of_lt h0 (by omega)]
  rfl
theorem sumT_ext (f : Int → Int) {n m : Int} (h0 : 0 ≤ n) (h : n ≤ m) (hz : ∀ k, n ≤ k → k < m → f k = 0) : sumT f m = sumT f n := by
  have key : ∀ d : Nat, n + d ≤ m → sumT f (n + d) = sumT f n := by
    intro d
    induction d with
    | zero => intro _; simp
    | succ d ih =>
      intro hd
      rw [show n + ((d + 1 : Nat) : Int) = (n + d) + 1 by omega, sumT_s _ (by omega), ih (by omega), hz _ (by omega) (by omega), Int.add_zero]
  have := key (m - n).toNat (by omega)
  rwa [show n + (((m - n).toNat : Nat) : Int) = m by omega] at this
theorem cProofs_eq {V : Va} {a : Int → Int} {x : Int} (hW : WSim V 1 a) (hM : MIv a) (h0 : 0 ≤ x) (h1 : x < a 1) : cProofsOf V x (V 1 7) = sumT (fun k => a (30 + 6 * x + 5) / p2 k % 2) 16 := by
  have hn := hM.1.2.1
  have hp := (hM.2.2.2.2.2.2.1 x h0 h1).2.2.2.2
  have e : gNow a x 4 = a (30 + 6 * x + 5) := congrArg a (by omega)
  rw [e] at hp
  rw [sumT_ext (n := a 0) (m := 16) (fun k => a (30 + 6 * x + 5) / p2 k % 2) (by omega) (by omega) (fun k k0 k1 => div_p2_0 hp.1 hp.2 k0)]
  simp only [cProofsOf]
  rw [hW.1.1]
  refine sumT_c (fun t t0 t1 => ?_)
  have := (hW.2.2.2.1.2.2.2 t t0 (by omega)).2.2 x h0 h1
  rw [e] at this
  exact this
theorem cName_eq {V : Va} {a : Int → Int} {x y : Int} (hW : WSim V 1 a) (hM : MIv a) (hx : V 287 2 = x) (hy : V 287 3 = y) (h0 : 0 ≤ x ∧ x < a 1) (h1 : 0 ≤ y ∧ y < a 1) : ∀ k, 0 ≤ k → k ≤ 7 → cName V (32 + k) = mNm a zf x y k := by
  intro k k0 k7
  have b := hW.2.2.2.1.2.2.1
  have bx := b x h0.1 h0.2
  have b_y := b y h1.1 h1.2
  have e1 : ∀ z e : Int, gNow a z e = a (30 + 6 * z + 1 + e) := fun z e => rfl
  rcases (show k = 0 ∨ k = 1 ∨ k = 2 ∨ k = 3 ∨ k = 4 ∨ k = 5 ∨ k = 6 ∨ k = 7 by omega) with z | z | z | z | z | z | z | z <;> subst z
  · show V 4 (V 287 2) = a (30 + 6 * x)
    rw [hx]; exact hW.2.2.1 x h0.1 h0.2
  · show V 6 (V 287 2) = a (30 + 6 * x + 1)
    rw [hx, bx.1, e1]; exact congrArg a (by omega)
  · show V 8 (V 287 2) = a (30 + 6 * x + 3)
    rw [hx, bx.2.2.1, e1]; exact congrArg a (by omega)
  · show cProofsOf V (V 287 2) (V 1 7) = _
    rw [hx, cProofs_eq hW hM h0.1 h0.2]; rfl
  · show V 5 6 = a 2
    exact hW.2.2.2.1.2.1
  · show V 4 (V 287 3) = a (30 + 6 * y)
    rw [hy]; exact hW.2.2.1 y h1.1 h1.2
  · show V 6 (V 287 3) = a (30 + 6 * y + 1)
    rw [hy, b_y.1, e1]; exact congrArg a (by omega)
  · show V 8 (V 287 3) = a (30 + 6 * y + 3)
    rw [hy, b_y.2.2.1, e1]; exact congrArg a (by omega)
