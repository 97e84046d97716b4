/-! sharing: what place leaves -/
def rPl (S : Stt) (V : Va) (P : Int → (Int → Int) → Prop) : Option Value → Stt → Va → Prop := fun v S' V' => ∃ r h g, some (vI r) = v ∧ S = S' ∧ up (up V 293 h) 296 g = V' ∧ (r = 0 → h = V 293) ∧ (r = 0 ∨ r = 1) ∧ P r g
section XPl
variable {Γ : Ctx} {B : Bs} {own nm : String} {cc : ByteArray} {nL : Nat} {ret : Option FieldType} {lev mc ms pc : Nat} {L : List (Option Value)} {st : List Value} {kc ks : Nat} {S : Stt} {V : Va}
theorem x_cVPl {y : MethodName} {cc' : ByteArray} {nL' n index ci i z lev' : Nat} {ret' : Option FieldType} {As rest : List Value} {P : Int → (Int → Int) → Prop} (hm : MV y cc' nL' ret' n) (hl : Cond.methodLink own index y ∈ TB) (d : decode cc pc = .ok (.invokevirtual index, 3)) (hC : C B y cc' nL' ret' lev' 0 0 (vR B i :: As) S V (rPl S V P)) (hs : S.1 i = (ci + 5, z)) (hi : i < S.2.2)
    (k : ∀ r h g, (r = 0 → h = V 293) → (r = 0 ∨ r = 1) → P r g → X Γ B own nm cc nL ret lev mc ms (pc + 3) L (vI r :: rest) kc ks S (up (up V 293 h) 296 g)) (hst : st = As.reverse ++ vR B i :: rest := by rfl) (hci : ci < 12 := by decide) (hy : Rc ci = y.cls := by rfl) (hlev : lev' < lev := by decide) (hn : As.length = n := by rfl) (hrm : nL' ≤ 45 := by decide) (hsum : (rest.map fun v => v.category).sum ≤ 8 := by exact Nat.le_of_ble_eq_true rfl) (hf : kc + 0 ≤ mc ∧ ks + 0 ≤ ms := by exact ⟨Nat.le_of_ble_eq_true rfl, Nat.le_of_ble_eq_true rfl⟩) : X Γ B own nm cc nL ret lev mc ms pc L st kc ks S V :=
  x_callV hm hl d hC hs hi (fun v S' V' h => by obtain ⟨r, h, g, rfl, rfl, rfl, h1, h2, h3⟩ := h; exact k r h g h1 h2 h3) hst hlev hci hy hn hrm hsum hf
end XPl
theorem PlP_end {kd br my tw g : Int → Int} {n most i : Int} (h : n ≤ i) : PlP kd br my tw n most i g 1 g := ⟨fun _ _ => rfl, Or.inr ⟨rfl, fun k k0 k1 => by omega, fun f _ _ k k0 k1 => by omega⟩⟩
theorem HasI_g {h g g' : Int → Int} {i : Int} (hI : HasI h g i) (e : ∀ k, 0 ≤ k → k < i → g' k = g k) : HasI h g' i := ⟨fun s k s0 s1 k0 k1 => by
  rw [hI.1 s k s0 s1 k0 k1]
  exact ⟨fun z => ⟨z.1, by rw [e k k0 z.1]; exact z.2⟩, fun z => ⟨z.1, by rw [← e k k0 z.1]; exact z.2⟩⟩, hI.2⟩
theorem used_on {g g0 : Int → Int} {i s u : Int} (i0 : 0 ≤ i) (e : ∀ k, k < i → g k = g0 k) (hu : u = usedN g0 i.toNat) : (if u < s + 1 then s + 1 else u) = usedN (ua g i s) (i + 1).toNat := by
  rw [show (i + 1).toNat = i.toNat + 1 by omega]
  simp only [usedN]
  rw [usedN_c (h := ua g i s) (g := g0) i.toNat (fun j j0 j1 => by rw [ua_ne (by omega)]; exact e j (by omega)), ← hu, show ((i.toNat : Nat) : Int) = i by omega, ua_same]
  by_cases c : u < s + 1
  · rw [if_pos c, if_pos (by omega)]
  · rw [if_neg c, if_neg (by omega)]
theorem pre_on {g g0 : Int → Int} {i s : Int} (e : ∀ k, k < i → g k = g0 k) (h : ∀ k, 0 ≤ k → k < i → 0 ≤ g0 k ∧ g0 k ≤ k) (s0 : 0 ≤ s) (s1 : s ≤ i) : ∀ k, 0 ≤ k → k < i + 1 → 0 ≤ ua g i s k ∧ ua g i s k ≤ k := fun k k0 k1 => by
  by_cases c : k = i
  · rw [c, ua_same]; omega
  · rw [ua_ne c, e k (by omega)]; exact h k k0 (by omega)
