/-! answers with a memory of which something is known -/
def rVR (S : Stt) (P : Va → Prop) : Option Value → Stt → Va → Prop := fun v S' V' => none = v ∧ S = S' ∧ P V'
def rIR (S : Stt) (e : Int) (P : Va → Prop) : Option Value → Stt → Va → Prop := fun v S' V' => some (vI e) = v ∧ S = S' ∧ P V'
section XRl
variable {Γ : Ctx} {B : Bs} {own nm : String} {cc : ByteArray} {nL : Nat} {ret : Option FieldType} {lev mc ms pc : Nat} {L : List (Option Value)} {st : List Value} {kc ks : Nat} {S : Stt} {V : Va}
theorem x_cVvR {y : MethodName} {cc' : ByteArray} {nL' n index ci i z lev' : Nat} {ret' : Option FieldType} {As rest : List Value} {S1 : Stt} {P : Va → Prop} (hm : MV y cc' nL' ret' n) (hl : Cond.methodLink own index y ∈ TB) (d : decode cc pc = .ok (.invokevirtual index, 3)) (hC : C B y cc' nL' ret' lev' 0 0 (vR B i :: As) S V (rVR S1 P)) (hs : S.1 i = (ci + 5, z)) (hi : i < S.2.2)
    (k : ∀ V1, P V1 → X Γ B own nm cc nL ret lev mc ms (pc + 3) L rest kc ks S1 V1) (hst : st = As.reverse ++ vR B i :: rest := by rfl) (hci : ci < 12 := by decide) (hy : Rc ci = y.cls := by rfl) (hlev : lev' < lev := by decide) (hn : As.length = n := by rfl) (hrm : nL' ≤ 45 := by decide) (hsum : (rest.map fun v => v.category).sum ≤ 8 := by exact Nat.le_of_ble_eq_true rfl) (hf : kc + 0 ≤ mc ∧ ks + 0 ≤ ms := by exact ⟨Nat.le_of_ble_eq_true rfl, Nat.le_of_ble_eq_true rfl⟩) : X Γ B own nm cc nL ret lev mc ms pc L st kc ks S V :=
  x_callV hm hl d hC hs hi (fun v S' V' h => by obtain ⟨rfl, rfl, h⟩ := h; exact k V' h) hst hlev hci hy hn hrm hsum hf
theorem x_cViR {y : MethodName} {cc' : ByteArray} {nL' n index ci i z lev' : Nat} {ret' : Option FieldType} {As rest : List Value} {S1 : Stt} {r : Int} {P : Va → Prop} (hm : MV y cc' nL' ret' n) (hl : Cond.methodLink own index y ∈ TB) (d : decode cc pc = .ok (.invokevirtual index, 3)) (hC : C B y cc' nL' ret' lev' 0 0 (vR B i :: As) S V (rIR S1 r P)) (hs : S.1 i = (ci + 5, z)) (hi : i < S.2.2)
    (k : ∀ V1, P V1 → X Γ B own nm cc nL ret lev mc ms (pc + 3) L (vI r :: rest) kc ks S1 V1) (hst : st = As.reverse ++ vR B i :: rest := by rfl) (hci : ci < 12 := by decide) (hy : Rc ci = y.cls := by rfl) (hlev : lev' < lev := by decide) (hn : As.length = n := by rfl) (hrm : nL' ≤ 45 := by decide) (hsum : (rest.map fun v => v.category).sum ≤ 8 := by exact Nat.le_of_ble_eq_true rfl) (hf : kc + 0 ≤ mc ∧ ks + 0 ≤ ms := by exact ⟨Nat.le_of_ble_eq_true rfl, Nat.le_of_ble_eq_true rfl⟩) : X Γ B own nm cc nL ret lev mc ms pc L st kc ks S V :=
  x_callV hm hl d hC hs hi (fun v S' V' h => by obtain ⟨rfl, rfl, h⟩ := h; exact k V' h) hst hlev hci hy hn hrm hsum hf
end XRl
def FrN (V V' : Va) : Prop := ∀ q : Nat, q = 0 ∨ 132 < q → q ≠ 287 → q ≠ 288 → V' q = V q
/-- a call that is a STEP, or none -/
def StpR (C : Prop) (a' : Int → Int) (V V' : Va) : Prop := (C ∧ WSim V' 1 a' ∧ WB V' 1 ∧ FrN V V' ∧ V' 1 10 = V 1 10 + 1) ∨ (¬ C ∧ V' = V)
theorem FrN_t {V V' W : Va} (h : FrN V V') (k : FrN V' W) : FrN V W := fun q h0 h1 h2 => (k q h0 h1 h2).trans (h q h0 h1 h2)
theorem FrB_N {V V' : Va} (h : FrB V V') : FrN V V' := fun q h0 h1 h2 => h q (by omega) h1 h2
theorem TSim_F {S : Stt} {V V' : Va} {a a' tx : Int → Int} (h : FrN V V') (h3 : a' 3 = a 3) (e : TSim S V 133 a tx) : TSim S V' 133 a' tx := TSim_c (fun q hq => h q (by omega) (by omega) (by omega)) h3 e
theorem mClause_c {a a' tx : Int → Int} {s : Int} (h : a' 4 = a 4) : mClause a' tx s = mClause a tx s := by simp only [mClause]; rw [h]
theorem cVal16_r {S : Stt} {V : Va} {a tx : Int → Int} {b o : Int} (hM : MIv a) (hTx : TSim S V 133 a tx) : -1000000 ≤ cVal a tx 16 b o 0 ∧ cVal a tx 16 b o 0 ≤ 1000000 := by
  have ec : mClause a tx (16 - 16) = mClause a tx 0 := rfl
  simp only [cVal]
  rw [ec]
  by_cases c : mClause a tx 0 < 0
  · rw [if_pos c]; omega
  · rw [if_neg c, if_pos trivial]
    by_cases h4 : 0 ≤ a 4
    · obtain ⟨id, cl, cd, e1, e2, e3⟩ := hTx (a 4) h4 hM.2.1.2.2
      have em := mClause_f (tx := tx) (s := 0) h4
      rcases fSort_r (s := 0) e3.1.2.1 with z | z
      · omega
      · obtain ⟨-, -, r1, r2, r3, r4, r5⟩ := (e3.2.2.2.1 0 (by omega) (by omega)).2 z.1
        have hcd := e2.1.2.2.2
        rw [em]
        refine mVal_r hM.1.1 ⟨r1, r2, by omega, ?_⟩ z.2.2
        rw [if_pos z.2.2, if_pos z.2.2]
        exact dOK2_1 _ _ _ _ r4
    · have hn : mClause a tx 0 = -1 := by simp only [mClause]; rw [if_pos (by omega)]
      omega
/-- a year more -/
theorem WSim_year {V : Va} {a : Int → Int} (hW : WSim V 1 a) (hM : MIv a) : WSim (up V 5 (ua (V 5) 6 (V 5 6 + 1))) 1 (ua a 2 (a 2 + 1)) := by
  have h0 := hM.1.2.1
  obtain ⟨k1, k2, k3, k4⟩ := hW.2.2.2.1
  refine WSim_bones hW (by omega) (fun q q0 q1 => ua_ne q1) (fun x => by
    by_cases c : 30 + 6 * x = 2
    · omega
    · exact ua_ne c) (fun q hq => ua_ne (by omega)) (fun q q0 q1 q2 => up_ne (by omega)) ⟨?_, ?_, ?_, ?_⟩
  · show ua (V 5) 6 (V 5 6 + 1) 5 = _
    rw [ua_ne (by omega), ua_ne (by omega)]; exact k1
  · show ua (V 5) 6 (V 5 6 + 1) 6 = _
    rw [ua_same, ua_same]
    have k2 : V 5 6 = a 2 := k2
    rw [k2]
  · rw [ua_ne (show (1 : Int) ≠ 2 by omega)]
    intro x x0 x1
    have := k3 x x0 x1
    simp only [gNow] at this ⊢
    rw [ua_ne (by omega), ua_ne (by omega), ua_ne (by omega), ua_ne (by omega)]
    exact this
  · rw [ua_ne (show (1 : Int) ≠ 2 by omega)]
    intro t t0 t1
    have := k4 t t0 t1
    refine ⟨this.1, this.2.1, fun x x0 x1 => ?_⟩
    have := this.2.2 x x0 x1
    simp only [gNow] at this ⊢
    rw [ua_ne (by omega)]
    exact this
theorem MIv_year {a : Int → Int} (h : MIv a) (h2 : a 2 < 999) : MIv (ua a 2 (a 2 + 1)) := by
  obtain ⟨m1, m2, m3, m4, m5, m6, m7, m8, m9, m10⟩ := h
  obtain ⟨n1, n2, n3, n4, n5, n6, n7⟩ := m1
  have o : ∀ q, q ≠ 2 → ua a 2 (a 2 + 1) q = a q := fun q hq => ua_ne hq
  have gn : ∀ x e, 0 ≤ x → 0 ≤ e → gNow (ua a 2 (a 2 + 1)) x e = gNow a x e := fun x e x0 e0 => o _ (by omega)
  have gr : ∀ j x e, 0 ≤ j → 0 ≤ x → 0 ≤ e → gRec (ua a 2 (a 2 + 1)) j x e = gRec a j x e := fun j x e j0 x0 e0 => o _ (by omega)
  refine ⟨⟨AB_ua n1 (by omega), ?_, ?_, ?_, ?_, ?_, ?_⟩, ?_, ?_, ?_, ?_, ?_, ?_, ?_, ?_, ?_⟩
  · rw [o 0 (by omega)]; exact n2
  · rw [o 1 (by omega)]; exact n3
  · rw [ua_same]; omega
  · rw [o 4 (by omega)]; exact n5
  · rw [o 5 (by omega)]; exact n6
  · intro x x0 x1
    rw [o _ (by omega)]; exact n7 x x0 x1
  · rw [o 3 (by omega), o 4 (by omega)]; exact m2
  · rw [o 6 (by omega)]; exact m3
  · rw [o 7 (by omega), o 8 (by omega)]; exact m4
  · rw [o 0 (by omega)]
    intro t t0 t1
    rw [o _ (by omega), o _ (by omega)]; exact m5 t t0 t1
  · rw [o 1 (by omega)]
    intro x x0 x1
    rw [o _ (by omega)]; exact m6 x x0 x1
  · rw [o 0 (by omega), o 1 (by omega)]
    exact BoOK_c (by omega) (fun x e x0 x1 e0 e1 => gn x e x0 e0) m7
  · rw [o 1 (by omega)]
    intro x x0 x1
    rw [gn x 4 (by omega) (by omega)]; exact m8 x x0 x1
  · rw [o 5 (by omega), o 0 (by omega), o 1 (by omega)]
    intro j j0 j1
    rw [o _ (by omega), o _ (by omega)]
    obtain ⟨q1, q2, q3, q4⟩ := m9 j j0 j1
    refine ⟨q1, q2, BoOK_c (by omega) (fun x e x0 x1 e0 e1 => gr j x e j0 x0 e0) q3, fun x x0 x1 => ?_⟩
    rw [gr j x 4 j0 (by omega) (by omega), gr (j + 1) x 4 (by omega) (by omega) (by omega), gn x 4 (by omega) (by omega)]
    exact q4 x x0 x1
  · rw [o 6 (by omega), o 0 (by omega)]
    intro s s0 s1
    rw [o _ (by omega), o _ (by omega), o _ (by omega), o _ (by omega)]
    exact m10 s s0 s1
theorem mAgeK_l {a tx : Int → Int} {w q : Int} (k : Nat) (h : q < 30) : mAgeK a tx w k q = a q := mAgeK_lo k (Or.inl h)
theorem MIv_ageK {a tx : Int → Int} {w : Int} (h : MIv a) : ∀ k : Nat, (k : Int) ≤ a 1 → MIv (mAgeK a tx w k)
  | 0, _ => h
  | k + 1, hk => by
    simp only [mAgeK]
    exact MIv_age (MIv_ageK h k (by omega)) (by rw [mAgeK_l k (by omega)]; omega)
theorem MIv_passOne {a tx : Int → Int} (h : MIv a) (h2 : a 2 < 999) : MIv (mPassOne a tx) := by
  have h1 := h.1.2.2.1
  simp only [mPassOne]
  refine MIv_ageK (MIv_year h h2) _ ?_
  rw [ua_ne (by omega)]
  omega
theorem MIv_passK {a tx : Int → Int} (h : MIv a) : ∀ k : Nat, a 2 + k ≤ 999 → MIv (mPassK a tx k)
  | 0, _ => h
  | k + 1, hk => by
    simp only [mPassK]
    exact MIv_passOne (MIv_passK h k (by omega)) (by rw [mPassK_2]; omega)
theorem MIv_passF {a tx : Int → Int} (h : MIv a) (y : Int) : MIv (mPassF a tx y) := by
  simp only [mPassF]
  split
  · rename_i c
    exact MIv_passK (MIv_keep h) _ (by rw [mKeep_lo (by omega) (by omega) h.1.2.2.2.2.2.1]; omega)
  · exact h
