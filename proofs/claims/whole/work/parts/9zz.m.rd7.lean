/-! clauses of numbers, read by the class -/
def NcS (T : Int → Int) (n : Int) (N i : Nat) (R : Int × Int × List Int) (vs : List Int) (L : List (Int × Int × Int)) (f : Int → Int) : Prop := (f 2 = 0 ∧ f 3 = -1 ∧ ∃ j : Nat, i ≤ j ∧ j ≤ N ∧ f 8 = j ∧ R = preN vs (numR T n L (pos T n j))) ∨ (f 2 ≠ 0 ∧ f 2 = R.1 ∧ f 3 = tPl T n R.2.1 ∧ (0 ≤ f 8 ∧ f 8 ≤ N) ∧ 0 ≤ f 2 ∧ f 2 < 10)
def rNu (S : Stt) (V : Va) (P : Int → (Int → Int) → Prop) : Option Value → Stt → Va → Prop := fun v S' V' => ∃ r f, P r f ∧ some (vI r) = v ∧ S = S' ∧ up V 277 f = V'
section XNu
variable {Γ : Ctx} {B : Bs} {own nm : String} {cc : ByteArray} {nL : Nat} {ret : Option FieldType} {lev mc ms pc : Nat} {L : List (Option Value)} {st : List Value} {kc ks : Nat} {S : Stt} {V : Va}
theorem x_cVnu {y : MethodName} {cc' : ByteArray} {nL' n index ci i z lev' : Nat} {ret' : Option FieldType} {As rest : List Value} {S1 : Stt} {V1 : Va} {P : Int → (Int → Int) → Prop} (hm : MV y cc' nL' ret' n) (hl : Cond.methodLink own index y ∈ TB) (d : decode cc pc = .ok (.invokevirtual index, 3)) (hC : C B y cc' nL' ret' lev' 0 0 (vR B i :: As) S V (rNu S1 V1 P)) (hs : S.1 i = (ci + 5, z)) (hi : i < S.2.2)
    (k : ∀ r f, P r f → X Γ B own nm cc nL ret lev mc ms (pc + 3) L (vI r :: rest) kc ks S1 (up V1 277 f)) (hst : st = As.reverse ++ vR B i :: rest := by rfl) (hlev : lev' < lev := by decide) (hci : ci < 12 := by decide) (hy : Rc ci = y.cls := by rfl) (hn : As.length = n := by rfl) (hrm : nL' ≤ 45 := by decide) (hsum : (rest.map fun v => v.category).sum ≤ 8 := by exact Nat.le_of_ble_eq_true rfl) (hf : kc + 0 ≤ mc ∧ ks + 0 ≤ ms := by exact ⟨Nat.le_of_ble_eq_true rfl, Nat.le_of_ble_eq_true rfl⟩) : X Γ B own nm cc nL ret lev mc ms pc L st kc ks S V :=
  x_callV hm hl d hC hs hi (fun v S' V' h => by obtain ⟨r, f, h1, rfl, rfl, rfl⟩ := h; exact k r f h1) hst hlev hci hy hn hrm hsum hf
end XNu
section Nc
variable {T : Int → Int} {n : Int} {N i : Nat} {R : Int × Int × List Int} {vs : List Int} {L : List (Int × Int × Int)} {f sr : Int → Int} {lo hi w z : Int}
theorem NcS_q (h : NcS T n N i R vs L f) : (0 ≤ f 2 ∧ f 2 < 10) ∧ 0 ≤ f 8 ∧ f 8 ≤ N := by
  rcases h with ⟨h1, h1b, j, h2, h3, h4, h5⟩ | h
  · omega
  · omega
/-- no number, or none of those told -/
theorem NcS_bad {x v : Int} (hsr : ∀ k : Nat, k ≤ N → sr k = tPl T n (pos T n k)) (h : NcS T n N i R vs ((1, lo, hi) :: L) f) (h0 : f 2 = 0) (hx : ∀ j : Nat, j ≤ N → f 8 = j → (tTok T n (pos T n j) ≠ 1 ∧ x = 1) ∨ (tTok T n (pos T n j) = 1 ∧ ¬ (lo ≤ tNum T n (pos T n j) ∧ tNum T n (pos T n j) ≤ hi) ∧ x = 2)) : NcS T n N i R (vs ++ [v]) L (ua (ua f 2 x) 3 (sr (f 8))) := by
  rcases h with ⟨h1, h1b, j, h2, h3, h4, h5⟩ | h
  · have e : R.1 = x ∧ R.2.1 = pos T n j ∧ (x = 1 ∨ x = 2) := by
      rcases hx j h3 h4 with ⟨t, e⟩ | ⟨t, t2, e⟩
      · rw [h5, numR_n1 t]; exact ⟨e.symm, rfl, Or.inl e⟩
      · rw [h5, numR_n2 t t2]; exact ⟨e.symm, rfl, Or.inr e⟩
    refine Or.inr ⟨?_, ?_, ?_, ?_, ?_⟩
    · rw [ua_ne (by decide), ua_same]; omega
    · rw [ua_ne (by decide), ua_same]; exact e.1.symm
    · rw [ua_same, h4, e.2.1]; exact hsr j h3
    · rw [ua_ne (by decide), ua_ne (by decide)]; omega
    · rw [ua_ne (by decide), ua_same]; omega
  · exact absurd h0 h.1
theorem NcS_fl {vs' : List Int} {L' : List (Int × Int × Int)} (h : NcS T n N i R vs L f) (h0 : f 2 ≠ 0) : NcS T n N i R vs' L' f := by
  rcases h with h | h
  · exact absurd h.1 h0
  · exact Or.inr h
theorem NcS_num {v : Int} (h : NcS T n N i R vs ((1, lo, hi) :: L) f) (h0 : f 2 = 0) (hlt : ∀ j : Nat, j ≤ N → f 8 = j → j < N ∧ tTok T n (pos T n j) = 1 ∧ tNum T n (pos T n j) = v) (hv : lo ≤ v ∧ v ≤ hi) : NcS T n N i R (vs ++ [v]) L (ua f 8 (f 8 + 1)) := by
  rcases h with ⟨h1, h1b, j, h2, h3, h4, h5⟩ | h
  · obtain ⟨a, b, c⟩ := hlt j h3 h4
    refine Or.inl ⟨by rw [ua_ne (by decide)]; exact h1, by rw [ua_ne (by decide)]; exact h1b, j + 1, by omega, by omega, by rw [ua_same, h4]; omega, ?_⟩
    rw [h5, numR_n b (by rw [c]; exact hv), c]
    simp only [preN, pos, List.append_assoc]
    rfl
  · exact absurd h0 h.1
theorem NcS_take {g : Int} (hN : f 7 = N + 1) (hsr : ∀ k : Nat, k ≤ N → sr k = tPl T n (pos T n k)) (h : NcS T n N i R vs ((0, w, z) :: L) f) (hg : ∀ j : Nat, j ≤ N → f 8 = j → (g = 1 ∧ j < N ∧ tTok T n (pos T n j) = 2 ∧ tWd T n (pos T n j) = w) ∨ (g = 0 ∧ ¬ (tTok T n (pos T n j) = 2 ∧ tWd T n (pos T n j) = w))) : NcS T n N i R vs L (takF f sr g 1) := by
  rcases h with ⟨h1, h1b, j, h2, h3, h4, h5⟩ | h
  · rcases hg j h3 h4 with ⟨e, a, b, c⟩ | ⟨e, a⟩
    · rw [e, takF_1 h1 (by omega)]
      refine Or.inl ⟨by rw [ua_ne (by decide)]; exact h1, by rw [ua_ne (by decide)]; exact h1b, j + 1, by omega, by omega, by rw [ua_same, h4]; omega, ?_⟩
      rw [h5, numR_w ⟨b, c⟩]
      rfl
    · rw [e, takF_0 h1]
      have e2 : R.1 = 1 ∧ R.2.1 = pos T n j := by rw [h5, numR_wF a]; exact ⟨rfl, rfl⟩
      refine Or.inr ⟨?_, ?_, ?_, ?_, ?_⟩
      · rw [ua_ne (by decide), ua_same]; omega
      · rw [ua_ne (by decide), ua_same]; exact e2.1.symm
      · rw [ua_same, h4, e2.2]; exact hsr j h3
      · rw [ua_ne (by decide), ua_ne (by decide)]; omega
      · rw [ua_ne (by decide), ua_same]; omega
  · rw [takF_f h.1]
    exact Or.inr h
end Nc
/-- the end of such a clause -/
def NcE (T : Int → Int) (n : Int) (N i : Nat) (R : Int × Int × List Int) (vs : List Int) (f : Int → Int) : Prop := (f 2 = 0 ∧ f 3 = -1 ∧ ∃ j : Nat, i ≤ j ∧ j ≤ N ∧ f 8 = j ∧ R = (0, pos T n j, vs)) ∨ (f 2 ≠ 0 ∧ f 2 = R.1 ∧ f 3 = tPl T n R.2.1 ∧ (0 ≤ f 8 ∧ f 8 ≤ N) ∧ 0 ≤ f 2 ∧ f 2 < 10)
theorem NcS_e {T : Int → Int} {n : Int} {N i : Nat} {R : Int × Int × List Int} {vs : List Int} {f : Int → Int} (h : NcS T n N i R vs [] f) : NcE T n N i R vs f := by
  rcases h with ⟨h1, h1b, j, h2, h3, h4, h5⟩ | h
  · refine Or.inl ⟨h1, h1b, j, h2, h3, h4, ?_⟩
    rw [h5]
    simp [preN, numR]
  · exact Or.inr h
/-- what readNumbers leaves -/
def NuC (T : Int → Int) (n : Int) (N i : Nat) (K : Int → Prop) (s x : Int) (f0 cl0 my0 f cl my : Int → Int) : Prop := ∃ R vs, DoR T n K s (pos T n i) R ∧ NcE T n N i R vs f ∧ (∀ k, k ≠ 2 → k ≠ 3 → k ≠ 8 → f k = f0 k) ∧ (∀ k, k ≤ x ∨ x + 3 < k → cl k = cl0 k) ∧ (s ≠ 3 → my = my0 ∧ ∀ (j : Nat) (v : Int), vs[j]? = some v → cl (x + 1 + j) = v) ∧ (s = 3 → ∃ a b, vs = [a, b] ∧ my = ua my0 a b ∧ (0 ≤ a ∧ a ≤ 19) ∧ 1 ≤ b ∧ b ≤ 9)
def rNc (S : Stt) (V : Va) (P : (Int → Int) → (Int → Int) → (Int → Int) → Prop) : Option Value → Stt → Va → Prop := fun v S' V' => ∃ f cl my, P f cl my ∧ none = v ∧ S = S' ∧ up (up (up V 277 f) 282 cl) 286 my = V'
section XNc
variable {Γ : Ctx} {B : Bs} {own nm : String} {cc : ByteArray} {nL : Nat} {ret : Option FieldType} {lev mc ms pc : Nat} {L : List (Option Value)} {st : List Value} {kc ks : Nat} {S : Stt} {V : Va}
theorem x_cVnc {y : MethodName} {cc' : ByteArray} {nL' n index ci i z lev' : Nat} {ret' : Option FieldType} {As rest : List Value} {S1 : Stt} {V1 : Va} {P : (Int → Int) → (Int → Int) → (Int → Int) → Prop} (hm : MV y cc' nL' ret' n) (hl : Cond.methodLink own index y ∈ TB) (d : decode cc pc = .ok (.invokevirtual index, 3)) (hC : C B y cc' nL' ret' lev' 0 0 (vR B i :: As) S V (rNc S1 V1 P)) (hs : S.1 i = (ci + 5, z)) (hi : i < S.2.2)
    (k : ∀ f cl my, P f cl my → X Γ B own nm cc nL ret lev mc ms (pc + 3) L rest kc ks S1 (up (up (up V1 277 f) 282 cl) 286 my)) (hst : st = As.reverse ++ vR B i :: rest := by rfl) (hlev : lev' < lev := by decide) (hci : ci < 12 := by decide) (hy : Rc ci = y.cls := by rfl) (hn : As.length = n := by rfl) (hrm : nL' ≤ 45 := by decide) (hsum : (rest.map fun v => v.category).sum ≤ 8 := by exact Nat.le_of_ble_eq_true rfl) (hf : kc + 0 ≤ mc ∧ ks + 0 ≤ ms := by exact ⟨Nat.le_of_ble_eq_true rfl, Nat.le_of_ble_eq_true rfl⟩) : X Γ B own nm cc nL ret lev mc ms pc L st kc ks S V :=
  x_callV hm hl d hC hs hi (fun v S' V' h => by obtain ⟨f, cl, my, h1, rfl, rfl, rfl⟩ := h; exact k f cl my h1) hst hlev hci hy hn hrm hsum hf
end XNc
theorem TkR_v {T : Int → Int} (hT : ∀ k, 0 ≤ T k ∧ T k < 256) {n x : Int} {N : Nat} {tk sr vl : Int → Int} (hn : 0 ≤ n) (h : TkR T n N tk sr vl) (h0 : 0 ≤ x) (h1 : x ≤ N) : 0 ≤ vl x ∧ vl x ≤ 10000 := by
  have q := (h.2.1 x.toNat (by omega)).2.2
  rw [show ((x.toNat : Nat) : Int) = x by omega] at q
  rw [q]
  exact (cVl_q hT (pos_le hT hn x.toNat).2).1
/-- what readMany leaves -/
def MyP (T : Int → Int) (n : Int) (N i : Nat) (K : Int → Prop) (f0 my0 f my : Int → Int) : Prop := ∃ R, KnR T n K (pos T n i) R ∧ ∃ a b, NcE T n N i R [a, b] f ∧ (∀ k, k ≠ 2 → k ≠ 3 → k ≠ 8 → f k = f0 k) ∧ my = ua my0 a b ∧ (0 ≤ a ∧ a ≤ 19) ∧ 1 ≤ b ∧ b ≤ 9
def rMy (S : Stt) (V : Va) (P : (Int → Int) → (Int → Int) → Prop) : Option Value → Stt → Va → Prop := fun v S' V' => ∃ f my, P f my ∧ none = v ∧ S = S' ∧ up (up V 277 f) 286 my = V'
section XMy
variable {Γ : Ctx} {B : Bs} {own nm : String} {cc : ByteArray} {nL : Nat} {ret : Option FieldType} {lev mc ms pc : Nat} {L : List (Option Value)} {st : List Value} {kc ks : Nat} {S : Stt} {V : Va}
theorem x_cVmy {y : MethodName} {cc' : ByteArray} {nL' n index ci i z lev' : Nat} {ret' : Option FieldType} {As rest : List Value} {S1 : Stt} {V1 : Va} {P : (Int → Int) → (Int → Int) → Prop} (hm : MV y cc' nL' ret' n) (hl : Cond.methodLink own index y ∈ TB) (d : decode cc pc = .ok (.invokevirtual index, 3)) (hC : C B y cc' nL' ret' lev' 0 0 (vR B i :: As) S V (rMy S1 V1 P)) (hs : S.1 i = (ci + 5, z)) (hi : i < S.2.2)
    (k : ∀ f my, P f my → X Γ B own nm cc nL ret lev mc ms (pc + 3) L rest kc ks S1 (up (up V1 277 f) 286 my)) (hst : st = As.reverse ++ vR B i :: rest := by rfl) (hlev : lev' < lev := by decide) (hci : ci < 12 := by decide) (hy : Rc ci = y.cls := by rfl) (hn : As.length = n := by rfl) (hrm : nL' ≤ 45 := by decide) (hsum : (rest.map fun v => v.category).sum ≤ 8 := by exact Nat.le_of_ble_eq_true rfl) (hf : kc + 0 ≤ mc ∧ ks + 0 ≤ ms := by exact ⟨Nat.le_of_ble_eq_true rfl, Nat.le_of_ble_eq_true rfl⟩) : X Γ B own nm cc nL ret lev mc ms pc L st kc ks S V :=
  x_callV hm hl d hC hs hi (fun v S' V' h => by obtain ⟨f, my, h1, rfl, rfl, rfl⟩ := h; exact k f my h1) hst hlev hci hy hn hrm hsum hf
end XMy
theorem nu_at1 (cl : Int → Int) (x a : Int) : ∀ (j : Nat) (v : Int), ([] ++ [a])[j]? = some v → ua cl (x + 1) a (x + 1 + j) = v
  | 0, v, h => by
    simp at h
    rw [show x + 1 + ((0 : Nat) : Int) = x + 1 by omega, ua_same, h]
  | j + 1, v, h => by simp at h
theorem nu_at2 (cl : Int → Int) (x a b : Int) : ∀ (j : Nat) (v : Int), (([] ++ [a]) ++ [b])[j]? = some v → ua (ua cl (x + 1) a) (x + 2) b (x + 1 + j) = v
  | 0, v, h => by
    simp at h
    rw [show x + 1 + ((0 : Nat) : Int) = x + 1 by omega, ua_ne (by omega), ua_same, h]
  | 1, v, h => by
    simp at h
    rw [show x + 1 + ((1 : Nat) : Int) = x + 2 by omega, ua_same, h]
  | j + 2, v, h => by simp at h
theorem nu_at3 (cl : Int → Int) (x a b c : Int) : ∀ (j : Nat) (v : Int), ((([] ++ [a]) ++ [b]) ++ [c])[j]? = some v → ua (ua (ua cl (x + 1) a) (x + 2) b) (x + 3) c (x + 1 + j) = v
  | 0, v, h => by
    simp at h
    rw [show x + 1 + ((0 : Nat) : Int) = x + 1 by omega, ua_ne (by omega), ua_ne (by omega), ua_same, h]
  | 1, v, h => by
    simp at h
    rw [show x + 1 + ((1 : Nat) : Int) = x + 2 by omega, ua_ne (by omega), ua_same, h]
  | 2, v, h => by
    simp at h
    rw [show x + 1 + ((2 : Nat) : Int) = x + 3 by omega, ua_same, h]
  | j + 3, v, h => by simp at h
theorem TkR_x {T : Int → Int} {n x : Int} {N : Nat} {tk sr vl : Int → Int} (h : TkR T n N tk sr vl) (h0 : 0 ≤ x) (h1 : x ≤ N) (ht : tk x ≠ 0) : x < N := by
  have q := (h.2.1 x.toNat (by omega)).1
  rw [show ((x.toNat : Nat) : Int) = x by omega] at q
  have := TkR_lt h (i := x.toNat) (by omega) (fun z => ht (by rw [q]; exact cTk_0.mpr z))
  omega
