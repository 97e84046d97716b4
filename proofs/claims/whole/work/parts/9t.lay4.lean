/-! a long, with a memory of which something is known -/
def rLR (S : Stt) (e : Int) (P : Va → Prop) : Option Value → Stt → Va → Prop := fun v S' V' => some (vL e) = v ∧ S = S' ∧ P V'
section XRm
variable {Γ : Ctx} {B : Bs} {own nm : String} {cc : ByteArray} {nL : Nat} {ret : Option FieldType} {lev mc ms pc : Nat} {L : List (Option Value)} {st : List Value} {kc ks : Nat} {S : Stt} {V : Va}
theorem x_cVlR {y : MethodName} {cc' : ByteArray} {nL' n index ci i z lev' : Nat} {ret' : Option FieldType} {As rest : List Value} {S1 : Stt} {r : Int} {P : Va → Prop} (hm : MV y cc' nL' ret' n) (hl : Cond.methodLink own index y ∈ TB) (d : decode cc pc = .ok (.invokevirtual index, 3)) (hC : C B y cc' nL' ret' lev' 0 0 (vR B i :: As) S V (rLR S1 r P)) (hs : S.1 i = (ci + 5, z)) (hi : i < S.2.2)
    (k : ∀ V1, P V1 → X Γ B own nm cc nL ret lev mc ms (pc + 3) L (vL r :: rest) kc ks S1 V1) (hst : st = As.reverse ++ vR B i :: rest := by rfl) (hci : ci < 12 := by decide) (hy : Rc ci = y.cls := by rfl) (hlev : lev' < lev := by decide) (hn : As.length = n := by rfl) (hrm : nL' ≤ 45 := by decide) (hsum : (rest.map fun v => v.category).sum ≤ 8 := by exact Nat.le_of_ble_eq_true rfl) (hf : kc + 0 ≤ mc ∧ ks + 0 ≤ ms := by exact ⟨Nat.le_of_ble_eq_true rfl, Nat.le_of_ble_eq_true rfl⟩) : X Γ B own nm cc nL ret lev mc ms pc L st kc ks S V :=
  x_callV hm hl d hC hs hi (fun v S' V' h => by obtain ⟨rfl, rfl, h⟩ := h; exact k V' h) hst hlev hci hy hn hrm hsum hf
end XRm
