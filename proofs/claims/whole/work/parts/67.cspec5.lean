/-! what the LAW's methods answer -/
theorem BoSim_c {V V' : Va} {i : Nat} {told year : Int} {g : Int → Int → Int} (h : ∀ q, i ≤ q → q ≤ i + 5 → V' q = V q) (e : BoSim V i told year g) : BoSim V' i told year g := by
  simp only [BoSim]
  rw [h i (by omega) (by omega), h (i + 1) (by omega) (by omega), h (i + 2) (by omega) (by omega), h (i + 3) (by omega) (by omega), h (i + 4) (by omega) (by omega), h (i + 5) (by omega) (by omega)]
  exact e
theorem ringId_r (b : Nat) (x y z : Int) : b + 12 ≤ ringId b x y z ∧ ringId b x y z + 5 ≤ b + 131 := by
  simp only [ringId]
  omega
theorem WSim_c {V V' : Va} {b : Nat} {a : Int → Int} (h : ∀ q, b ≤ q → q ≤ b + 137 → V' q = V q) (e : WSim V b a) : WSim V' b a := by
  obtain ⟨e1, e2, e3, e4, e5, e6⟩ := e
  refine ⟨?_, ?_, ?_, BoSim_c (fun q q0 q1 => h q (by omega) (by omega)) e4, ?_, ?_⟩
  · rw [h b (by omega) (by omega)]; exact e1
  · rw [h (b + 1) (by omega) (by omega), h (b + 2) (by omega) (by omega)]; exact e2
  · rw [h (b + 3) (by omega) (by omega)]; exact e3
  · rw [h (b + 10) (by omega) (by omega)]
    refine ⟨e5.1, e5.2.1, e5.2.2.1, fun j j0 j1 => BoSim_c (fun q q0 q1 => ?_) (e5.2.2.2 j j0 j1)⟩
    have := ringId_r b (V (b + 10) 1) (a 5) j
    exact h q (by omega) (by omega)
  · rw [h (b + 133) (by omega) (by omega), h (b + 134) (by omega) (by omega), h (b + 135) (by omega) (by omega), h (b + 136) (by omega) (by omega), h (b + 137) (by omega) (by omega)]
    exact e6
def cVal (a tx : Int → Int) (c b o w : Int) : Int := if mClause a tx (c - 16) < 0 then w else if c = 16 then mVal a tx (mClause a tx (c - 16)) b o else mTru a tx (mClause a tx (c - 16)) b o
def rIc (S : Stt) (V : Va) (e : Int) : Option Value → Stt → Va → Prop := fun v S' V' => ∃ f g, some (vI e) = v ∧ S = S' ∧ up (up V 287 f) 288 g = V'
section XLw
variable {Γ : Ctx} {B : Bs} {own nm : String} {cc : ByteArray} {nL : Nat} {ret : Option FieldType} {lev mc ms pc : Nat} {L : List (Option Value)} {st : List Value} {kc ks : Nat} {S : Stt} {V : Va}
theorem x_cVic {y : MethodName} {cc' : ByteArray} {nL' n index ci i z lev' : Nat} {ret' : Option FieldType} {As rest : List Value} {S1 : Stt} {V1 : Va} {r : Int} (hm : MV y cc' nL' ret' n) (hl : Cond.methodLink own index y ∈ TB) (d : decode cc pc = .ok (.invokevirtual index, 3)) (hC : C B y cc' nL' ret' lev' 0 0 (vR B i :: As) S V (rIc S1 V1 r)) (hs : S.1 i = (ci + 5, z)) (hi : i < S.2.2)
    (k : ∀ f g, X Γ B own nm cc nL ret lev mc ms (pc + 3) L (vI r :: rest) kc ks S1 (up (up V1 287 f) 288 g)) (hst : st = As.reverse ++ vR B i :: rest := by rfl) (hci : ci < 12 := by decide) (hy : Rc ci = y.cls := by rfl) (hlev : lev' < lev := by decide) (hn : As.length = n := by rfl) (hrm : nL' ≤ 45 := by decide) (hsum : (rest.map fun v => v.category).sum ≤ 8 := by exact Nat.le_of_ble_eq_true rfl) (hf : kc + 0 ≤ mc ∧ ks + 0 ≤ ms := by exact ⟨Nat.le_of_ble_eq_true rfl, Nat.le_of_ble_eq_true rfl⟩) : X Γ B own nm cc nL ret lev mc ms pc L st kc ks S V :=
  x_callV hm hl d hC hs hi (fun v S' V' h => by obtain ⟨f, g, rfl, rfl, rfl⟩ := h; exact k f g) hst hlev hci hy hn hrm hsum hf
end XLw
theorem lw_self (W : Va) : up (up W 287 (W 287)) 288 (W 288) = W := by
  rw [up_self]
  show up W 288 (W 288) = W
  rw [up_self]
theorem fSort_r {tx : Int → Int} {T s : Int} (hn : 0 ≤ tx (700 * T)) : fSort tx T s = -1 ∨ (0 ≤ fSort tx T s ∧ fSort tx T s < tx (700 * T) ∧ tx (700 * T + 1 + 4 * fSort tx T s) = s) := by
  rcases findT_r (fun k => decide (tx (700 * T + 1 + 4 * k) = s)) hn with h | h
  · exact Or.inl h.1
  · exact Or.inr ⟨h.1, h.2.1, of_decide_eq_true h.2.2.1⟩
theorem cVal_no {a tx : Int → Int} {c b o w : Int} (h : mClause a tx (c - 16) < 0) : cVal a tx c b o w = w := if_pos h
theorem cVal_fin {a tx : Int → Int} {c b o w r : Int} (hc : 16 ≤ c ∧ c ≤ 18) (h4 : 0 ≤ a 4) (hk : 0 ≤ fSort tx (a 4) (c - 16)) (hr : r = if (if c - 16 = 0 then (1 : Int) else 0) = 1 then (mRun (mNm a zf b o) (tOp tx (a 4)) (tArg tx (a 4)) (tx (700 * a 4 + 1 + 4 * fSort tx (a 4) (c - 16) + 2) - tx (700 * a 4 + 1 + 4 * fSort tx (a 4) (c - 16) + 1)).toNat (tx (700 * a 4 + 1 + 4 * fSort tx (a 4) (c - 16) + 1)) (zf, zf, 0, 0)).1 0 else (mRun (mNm a zf b o) (tOp tx (a 4)) (tArg tx (a 4)) (tx (700 * a 4 + 1 + 4 * fSort tx (a 4) (c - 16) + 2) - tx (700 * a 4 + 1 + 4 * fSort tx (a 4) (c - 16) + 1)).toNat (tx (700 * a 4 + 1 + 4 * fSort tx (a 4) (c - 16) + 1)) (zf, zf, 0, 0)).2.1 0) : r = cVal a tx c b o w := by
  have em := mClause_f (tx := tx) (s := c - 16) h4
  simp only [cVal]
  rw [if_neg (by omega), em]
  by_cases z : c = 16
  · rw [if_pos z]
    rw [if_pos (show (if c - 16 = 0 then (1 : Int) else 0) = 1 by rw [if_pos (by omega)])] at hr
    exact hr
  · rw [if_neg z]
    rw [if_neg (show ¬ (if c - 16 = 0 then (1 : Int) else 0) = 1 by rw [if_neg (by omega)]; decide)] at hr
    exact hr
/-- worn and holy don't ask for another BONE -/
theorem cVal_o {S : Stt} {V : Va} {a tx : Int → Int} {c b o o' w : Int} (hTx : TSim S V 133 a tx) (h34 : a 4 < a 3) (hc : c = 16 ∨ c = 17) : cVal a tx c b o w = cVal a tx c b o' w := by
  by_cases h4 : 0 ≤ a 4
  · obtain ⟨id, cl, cd, e1, e2, e3⟩ := hTx (a 4) h4 h34
    have em := mClause_f (tx := tx) (s := c - 16) h4
    simp only [cVal]
    rw [em]
    rcases fSort_r (s := c - 16) e3.1.2.1 with z | z
    · rw [if_pos (by omega), if_pos (by omega)]
    · rw [if_neg (show ¬ fSort tx (a 4) (c - 16) < 0 by omega), if_neg (show ¬ fSort tx (a 4) (c - 16) < 0 by omega)]
      obtain ⟨-, -, r1, r2, r3, r4, r5⟩ := (e3.2.2.2.1 (c - 16) (by omega) (by omega)).2 z.1
      have key := mRun_nmK (nm := mNm a zf b o) (nm' := mNm a zf b o') (K := 4) (fun k k0 k4 => by
        rcases (show k = 0 ∨ k = 1 ∨ k = 2 ∨ k = 3 ∨ k = 4 by omega) with y | y | y | y | y <;> subst y <;> rfl) (tOp tx (a 4)) (tArg tx (a 4)) _ _ _ _ _ _ zf zf r4 (fun q q0 q1 q2 => r5 (by omega) q q0 (by omega) q2)
      have k2 : mCl (mNm a zf b o) tx (a 4) (fSort tx (a 4) (c - 16)) zf zf = mCl (mNm a zf b o') tx (a 4) (fSort tx (a 4) (c - 16)) zf zf := key
      simp only [mVal, mTru]
      rw [k2]
  · have hn : mClause a tx (c - 16) = -1 := by simp only [mClause]; rw [if_pos (by omega)]
    rw [cVal_no (by omega), cVal_no (by omega)]
theorem holy_c {S : Stt} {V : Va} {a tx : Int → Int} {b : Int} (hTx : TSim S V 133 a tx) (h34 : a 4 < a 3) : cVal a tx 17 b b 1 ≠ 0 ↔ mHoly a tx b := by
  rw [cVal_o (o' := 0) hTx h34 (Or.inr rfl)]
  have e : mClause a tx (17 - 16) = mClause a tx 1 := rfl
  simp only [cVal, mHoly]
  rw [e]
  by_cases c : mClause a tx 1 < 0
  · rw [if_pos c]
    exact ⟨fun _ => Or.inl c, fun _ => by decide⟩
  · rw [if_neg c, if_neg (by decide)]
    have := mTru_01 a tx (mClause a tx 1) b 0
    exact ⟨fun h => Or.inr (by omega), fun h => by omega⟩
theorem unl_c {a tx : Int → Int} {x y : Int} : (cVal a tx 18 x y 0 ≠ 0 ∨ cVal a tx 18 y x 0 ≠ 0) ↔ mUnl a tx x y := by
  have e : mClause a tx (18 - 16) = mClause a tx 2 := rfl
  simp only [cVal, mUnl]
  rw [e]
  by_cases c : mClause a tx 2 < 0
  · rw [if_pos c, if_pos c]
    exact ⟨fun h => by omega, fun h => absurd c h.1⟩
  · rw [if_neg c, if_neg c, if_neg (by decide), if_neg (by decide)]
    have h1 := mTru_01 a tx (mClause a tx 2) x y
    have h2 := mTru_01 a tx (mClause a tx 2) y x
    exact ⟨fun h => ⟨c, by omega⟩, fun h => by omega⟩
/-- how many of a KIND -/
theorem many_c {S : Stt} {V : Va} {a tx : Int → Int} {kind : Int} (hk : 0 ≤ kind ∧ kind ≤ 19) (h4 : 0 ≤ a 4) {id cl cd : Nat} (e3 : TxV V id cl cd tx (a 4)) : (if V (id + 5) kind = 0 then 1 else V (id + 5) kind) = mMany a tx kind ∧ 0 ≤ V (id + 5) kind ∧ V (id + 5) kind ≤ 9 := by
  obtain ⟨f1, f2⟩ := e3.2.2.2.2.1 kind hk.1 hk.2
  have em : mManyK a tx kind = fKind tx (a 4) kind := by simp only [mManyK]; rw [if_neg (by omega)]; rfl
  simp only [mMany]
  rw [em]
  by_cases c : fKind tx (a 4) kind < 0
  · have := f1 c
    rw [if_pos c, if_pos this]
    omega
  · have := f2 (by omega)
    rw [if_neg c, if_neg (by omega)]
    exact ⟨this.1, by omega, by omega⟩
