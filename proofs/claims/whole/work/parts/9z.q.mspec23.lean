/-! clauses of numbers -/
/-- one thing after the other: (0, w, _) a word, (1, low, top) a number; FAULT, where, and the numbers -/
def numR (T : Int → Int) (n : Int) : List (Int × Int × Int) → Int → Int × Int × List Int
  | [], p => (0, p, [])
  | x :: L, p => if x.1 = 0 then (if tTok T n p = 2 ∧ tWd T n p = x.2.1 then numR T n L (tNx T n p) else (1, p, [])) else if tTok T n p ≠ 1 then (1, p, []) else if x.2.1 ≤ tNum T n p ∧ tNum T n p ≤ x.2.2 then ((numR T n L (tNx T n p)).1, (numR T n L (tNx T n p)).2.1, tNum T n p :: (numR T n L (tNx T n p)).2.2) else (2, p, [])
def wMany : Int := ((109 * 256 + 97) * 256 + 110) * 256 + 121
def wTo : Int := 29807
def wFor : Int := (102 * 256 + 111) * 256 + 114
def wWith : Int := ((119 * 256 + 105) * 256 + 116) * 256 + 104
def itm (s : Int) : List (Int × Int × Int) := if s = 3 then [(1, 0, 19), (0, wMany, 0), (1, 1, 9)] else if s = 4 then [(1, 0, 15), (0, wTo, 0), (1, 0, 9), (0, wFor, 0), (1, 1, 99)] else if s = 5 then [(1, 0, 15), (0, wWith, 0), (1, 0, 15)] else if s = 6 then [(1, 0, 15), (0, wTo, 0), (1, 0, 9)] else if s = 7 then [(1, 0, 9)] else [(1, 0, 99)]
section NumR
variable {T : Int → Int} {n p : Int} {L : List (Int × Int × Int)}
theorem numR_w {w z : Int} (h : tTok T n p = 2 ∧ tWd T n p = w) : numR T n ((0, w, z) :: L) p = numR T n L (tNx T n p) := by
  rw [numR, if_pos rfl, if_pos h]
theorem numR_wF {w z : Int} (h : ¬ (tTok T n p = 2 ∧ tWd T n p = w)) : numR T n ((0, w, z) :: L) p = (1, p, []) := by
  rw [numR, if_pos rfl, if_neg h]
theorem numR_n {lo hi : Int} (h : tTok T n p = 1) (h2 : lo ≤ tNum T n p ∧ tNum T n p ≤ hi) : numR T n ((1, lo, hi) :: L) p = ((numR T n L (tNx T n p)).1, (numR T n L (tNx T n p)).2.1, tNum T n p :: (numR T n L (tNx T n p)).2.2) := by
  rw [numR, if_neg (show ¬ (1 : Int) = 0 by decide), if_neg (by omega), if_pos h2]
theorem numR_n1 {lo hi : Int} (h : tTok T n p ≠ 1) : numR T n ((1, lo, hi) :: L) p = (1, p, []) := by
  rw [numR, if_neg (show ¬ (1 : Int) = 0 by decide), if_pos h]
theorem numR_n2 {lo hi : Int} (h : tTok T n p = 1) (h2 : ¬ (lo ≤ tNum T n p ∧ tNum T n p ≤ hi)) : numR T n ((1, lo, hi) :: L) p = (2, p, []) := by
  rw [numR, if_neg (show ¬ (1 : Int) = 0 by decide), if_neg (by omega), if_neg h2]
end NumR
def preN (vs : List Int) (r : Int × Int × List Int) : Int × Int × List Int := (r.1, r.2.1, vs ++ r.2.2)
/-- I has been read from p0 to p: L is left -/
def NuS (T : Int → Int) (n : Int) (I : List (Int × Int × Int)) (p0 : Int) (vs : List Int) (L : List (Int × Int × Int)) (p : Int) : Prop := numR T n I p0 = preN vs (numR T n L p)
section NuS
variable {T : Int → Int} {n p p0 : Int} {L I : List (Int × Int × Int)} {vs : List Int}
theorem NuS_0 : NuS T n I p0 [] I p0 := rfl
theorem NuS_n {lo hi : Int} (h : NuS T n I p0 vs ((1, lo, hi) :: L) p) (h1 : tTok T n p = 1) (h2 : lo ≤ tNum T n p ∧ tNum T n p ≤ hi) : NuS T n I p0 (vs ++ [tNum T n p]) L (tNx T n p) := by
  simp only [NuS] at h ⊢
  rw [h, numR_n h1 h2]
  simp [preN]
theorem NuS_w {w z : Int} (h : NuS T n I p0 vs ((0, w, z) :: L) p) (h1 : tTok T n p = 2 ∧ tWd T n p = w) : NuS T n I p0 vs L (tNx T n p) := by
  simp only [NuS] at h ⊢
  rw [h, numR_w h1]
theorem NuS_f1 {lo hi : Int} (h : NuS T n I p0 vs ((1, lo, hi) :: L) p) (h1 : ¬ tTok T n p = 1) : (numR T n I p0).1 = 1 ∧ (numR T n I p0).2.1 = p := by
  simp only [NuS] at h
  rw [h, numR_n1 h1]
  exact ⟨rfl, rfl⟩
theorem NuS_f2 {lo hi : Int} (h : NuS T n I p0 vs ((1, lo, hi) :: L) p) (h1 : tTok T n p = 1) (h2 : ¬ (lo ≤ tNum T n p ∧ tNum T n p ≤ hi)) : (numR T n I p0).1 = 2 ∧ (numR T n I p0).2.1 = p := by
  simp only [NuS] at h
  rw [h, numR_n2 h1 h2]
  exact ⟨rfl, rfl⟩
theorem NuS_fw {w z : Int} (h : NuS T n I p0 vs ((0, w, z) :: L) p) (h1 : ¬ (tTok T n p = 2 ∧ tWd T n p = w)) : (numR T n I p0).1 = 1 ∧ (numR T n I p0).2.1 = p := by
  simp only [NuS] at h
  rw [h, numR_wF h1]
  exact ⟨rfl, rfl⟩
theorem NuS_e (h : NuS T n I p0 vs [] p) : ((numR T n I p0).1 = 0 ∧ (numR T n I p0).2.1 = p) ∧ (numR T n I p0).2.2 = vs := by
  simp only [NuS] at h
  rw [h]
  simp [preN, numR]
end NuS
/-- numbers written one behind the other -/
def putL (tx : Int → Int) : Int → List Int → Int → Int
  | _, [] => tx
  | x, v :: L => putL (ua tx x v) (x + 1) L
/-- what a reading of numbers leaves: the tokens go on, x + 1 .. x + 3 may be written -/
def NuP (T : Int → Int) (n x : Int) (tx0 f0 : Int → Int) (R : Int × Int × List Int) (r : Int) (f tx : Int → Int) : Prop := r = R.1 ∧ PS T n R.2.1 f ∧ (∀ k, k < 7 ∨ 11 < k → f k = f0 k) ∧ (r = 0 → tx = putL tx0 (x + 1) R.2.2) ∧ (∀ k, k ≤ x ∨ x + 3 < k → tx k = tx0 k) ∧ 0 ≤ r ∧ r < 10 ∧ ∀ k, tx k = tx0 k ∨ (0 ≤ tx k ∧ tx k ≤ 99)
def rP2 (S : Stt) (V : Va) (P : Int → (Int → Int) → (Int → Int) → Prop) : Option Value → Stt → Va → Prop := fun v S' V' => ∃ r f tx, P r f tx ∧ some (vI r) = v ∧ S = S' ∧ up (up V 308 f) 311 tx = V'
section XP2
variable {Γ : Ctx} {B : Bs} {own nm : String} {cc : ByteArray} {nL : Nat} {ret : Option FieldType} {lev mc ms pc : Nat} {L : List (Option Value)} {st : List Value} {kc ks : Nat} {S : Stt} {V : Va}
theorem x_cVi2 {y : MethodName} {cc' : ByteArray} {nL' n index ci i z lev' : Nat} {ret' : Option FieldType} {As rest : List Value} {S1 : Stt} {V1 : Va} {P : Int → (Int → Int) → (Int → Int) → Prop} (hm : MV y cc' nL' ret' n) (hl : Cond.methodLink own index y ∈ TB) (d : decode cc pc = .ok (.invokevirtual index, 3)) (hC : C B y cc' nL' ret' lev' 0 0 (vR B i :: As) S V (rP2 S1 V1 P)) (hs : S.1 i = (ci + 5, z)) (hi : i < S.2.2)
    (k : ∀ r f tx, P r f tx → X Γ B own nm cc nL ret lev mc ms (pc + 3) L (vI r :: rest) kc ks S1 (up (up V1 308 f) 311 tx)) (hst : st = As.reverse ++ vR B i :: rest := by rfl) (hci : ci < 12 := by decide) (hy : Rc ci = y.cls := by rfl) (hlev : lev' < lev := by decide) (hn : As.length = n := by rfl) (hrm : nL' ≤ 45 := by decide) (hsum : (rest.map fun v => v.category).sum ≤ 8 := by exact Nat.le_of_ble_eq_true rfl) (hf : kc + 0 ≤ mc ∧ ks + 0 ≤ ms := by exact ⟨Nat.le_of_ble_eq_true rfl, Nat.le_of_ble_eq_true rfl⟩) : X Γ B own nm cc nL ret lev mc ms pc L st kc ks S V :=
  x_callV hm hl d hC hs hi (fun v S' V' h => by obtain ⟨r, f, tx, h1, rfl, rfl, rfl⟩ := h; exact k r f tx h1) hst hlev hci hy hn hrm hsum hf
end XP2
theorem figV_0 {f : Int → Int} {lo hi : Int} (h : figC f lo hi) : figV f lo hi = 0 := by
  simp only [figV]
  rw [if_neg (by omega), if_pos h]
theorem figV_1 {f : Int → Int} {lo hi : Int} (h : f 9 ≠ 1) : figV f lo hi = 1 := if_pos h
theorem figV_2 {f : Int → Int} {lo hi : Int} (h : f 9 = 1) (h2 : ¬ (lo ≤ f 10 ∧ f 10 ≤ hi)) : figV f lo hi = 2 := by
  simp only [figV]
  rw [if_neg (by omega), if_neg (fun z => h2 z.2)]
theorem PS_tok {T f : Int → Int} {n p : Int} (hT : ∀ k, 0 ≤ T k ∧ T k < 256) (h : PS T n p f) : 0 ≤ f 9 ∧ f 9 < 256 ∧ 0 ≤ f 7 ∧ f 7 ≤ n ∧ f 4 = n ∧ 0 ≤ f 10 ∧ f 10 < 1000000 ∧ 0 ≤ f 11 ∧ f 11 < 72057594037927936 := by
  obtain ⟨h0, h1, h2, h3, h4, h5, h6, h7, h8⟩ := h
  have r := tok_r hT h0.2
  rw [h2, h4]
  exact ⟨r.2.2.2.2.2.1, r.2.2.2.2.2.2.1, by omega, r.2.2.2.1, h1, h7.1, h7.2, h8.1, h8.2⟩
theorem PS_num {T f : Int → Int} {n p : Int} (h : PS T n p f) (h1 : f 9 = 1) : tTok T n p = 1 ∧ f 10 = tNum T n p := by
  have e := h.2.2.2.2.1
  exact ⟨by omega, h.2.2.2.2.2.1 (by omega)⟩
theorem NuP_f {T tx0 f0 f tx : Int → Int} {n x r p : Int} {R : Int × Int × List Int} (hR : R.1 = r ∧ R.2.1 = p) (hp : PS T n p f) (hk : ∀ k, k < 7 ∨ 11 < k → f k = f0 k) (hr : 1 ≤ r ∧ r < 10) (ht : ∀ k, k ≤ x ∨ x + 3 < k → tx k = tx0 k) (hb : ∀ k, tx k = tx0 k ∨ (0 ≤ tx k ∧ tx k ≤ 99)) : NuP T n x tx0 f0 R r f tx := ⟨hR.1.symm, by rw [hR.2]; exact hp, hk, fun z => by omega, ht, by omega, hr.2, hb⟩
theorem NuP_0 {T tx0 f0 f tx : Int → Int} {n x p : Int} {R : Int × Int × List Int} {vs : List Int} (hR : (R.1 = 0 ∧ R.2.1 = p) ∧ R.2.2 = vs) (hp : PS T n p f) (hk : ∀ k, k < 7 ∨ 11 < k → f k = f0 k) (hv : tx = putL tx0 (x + 1) vs) (ht : ∀ k, k ≤ x ∨ x + 3 < k → tx k = tx0 k) (hb : ∀ k, tx k = tx0 k ∨ (0 ≤ tx k ∧ tx k ≤ 99)) : NuP T n x tx0 f0 R 0 f tx := ⟨hR.1.1.symm, by rw [hR.1.2]; exact hp, hk, fun _ => by rw [hR.2]; exact hv, ht, by omega, by omega, hb⟩
theorem putL_1 (tx : Int → Int) (x a : Int) : ua tx (x + 1) a = putL tx (x + 1) ([] ++ [a]) := rfl
theorem putL_2 (tx : Int → Int) (x a b : Int) : ua (ua tx (x + 1) a) (x + 2) b = putL tx (x + 1) (([] ++ [a]) ++ [b]) := by
  simp only [List.nil_append, List.cons_append, putL]
  rw [show x + 1 + 1 = x + 2 by omega]
theorem putL_3 (tx : Int → Int) (x a b c : Int) : ua (ua (ua tx (x + 1) a) (x + 2) b) (x + 3) c = putL tx (x + 1) ((([] ++ [a]) ++ [b]) ++ [c]) := by
  simp only [List.nil_append, List.cons_append, putL]
  rw [show x + 1 + 1 = x + 2 by omega, show x + 2 + 1 = x + 3 by omega]
/-- a KIND told twice is a FAULT ahead of all else -/
def KnR (T : Int → Int) (n : Int) (K : Int → Prop) (p : Int) (R : Int × Int × List Int) : Prop := ((tTok T n p = 1 ∧ (0 ≤ tNum T n p ∧ tNum T n p ≤ 19) ∧ K (tNum T n p)) ∧ R = (4, p, [])) ∨ (¬ (tTok T n p = 1 ∧ (0 ≤ tNum T n p ∧ tNum T n p ≤ 19) ∧ K (tNum T n p)) ∧ R = numR T n (itm 3) p)
def DoR (T : Int → Int) (n : Int) (K : Int → Prop) (s p : Int) (R : Int × Int × List Int) : Prop := (s = 3 ∧ KnR T n K p R) ∨ (s ≠ 3 ∧ R = numR T n (itm s) p)
theorem KnR_det {T : Int → Int} {n p : Int} {K : Int → Prop} {R R' : Int × Int × List Int} (h : KnR T n K p R) (g : KnR T n K p R') : R = R' := by
  rcases h with h | h <;> rcases g with g | g
  · rw [h.2, g.2]
  · exact absurd h.1 g.1
  · exact absurd g.1 h.1
  · rw [h.2, g.2]
theorem DoR_det {T : Int → Int} {n s p : Int} {K : Int → Prop} {R R' : Int × Int × List Int} (h : DoR T n K s p R) (g : DoR T n K s p R') : R = R' := by
  rcases h with h | h <;> rcases g with g | g
  · exact KnR_det h.2 g.2
  · exact absurd h.1 g.1
  · exact absurd g.1 h.1
  · rw [h.2, g.2]
theorem KnR_c {T : Int → Int} {n p : Int} {K K' : Int → Prop} {R : Int × Int × List Int} (e : ∀ v, 0 ≤ v → v ≤ 19 → (K v ↔ K' v)) (h : KnR T n K p R) : KnR T n K' p R := by
  rcases h with h | h
  · exact Or.inl ⟨⟨h.1.1, h.1.2.1, (e _ h.1.2.1.1 h.1.2.1.2).mp h.1.2.2⟩, h.2⟩
  · exact Or.inr ⟨fun z => h.1 ⟨z.1, z.2.1, (e _ z.2.1.1 z.2.1.2).mpr z.2.2⟩, h.2⟩
theorem DoR_c {T : Int → Int} {n s p : Int} {K K' : Int → Prop} {R : Int × Int × List Int} (e : ∀ v, 0 ≤ v → v ≤ 19 → (K v ↔ K' v)) (h : DoR T n K s p R) : DoR T n K' s p R := by
  rcases h with h | h
  · exact Or.inl ⟨h.1, KnR_c e h.2⟩
  · exact Or.inr h
def mKd (tx : Int → Int) (t0 v : Int) : Prop := ∃ k, 0 ≤ k ∧ k < tx t0 ∧ tx (t0 + 1 + 4 * k) = 3 ∧ tx (t0 + 2 + 4 * k) = v
