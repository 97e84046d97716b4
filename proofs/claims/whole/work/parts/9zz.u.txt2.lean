/-- a TEXT's rows hold its clauses -/
def TxD (cs : List Cls) (cl cd fr tw my : Int → Int) : Prop := (∀ (k : Nat) (c : Cls), cs[k]? = some c → cl (4 * k) = 16 + c.1 ∧ ∀ (j : Nat) (v : Int), c.2.1[j]? = some v → 4 ≤ c.1 → cl (4 * k + 1 + j) = v) ∧
  (∀ (k : Nat) (x : Int × Int), (codeL cs)[k]? = some x → cd k = encO x.1 x.2) ∧
  (∀ s, 0 ≤ s → s < 3 → (¬ told cs s ∧ fr s = -1) ∨ (∃ (k : Nat) (c : Cls), cs[k]? = some c ∧ c.1 = s ∧ (∀ (j : Nat) (d : Cls), j < k → cs[j]? = some d → d.1 ≠ s) ∧ fr s = (codeL (cs.take k)).length ∧ tw s = (codeL (cs.take k)).length + c.2.2.length)) ∧
  (∀ v, 0 ≤ v → v ≤ 19 → (¬ kTold cs v ∧ my v = 0) ∨ (∃ (k : Nat) (c : Cls) (b : Int), cs[k]? = some c ∧ c.1 = 3 ∧ c.2.1 = [v, b] ∧ (∀ (j : Nat) (d : Cls), j < k → cs[j]? = some d → ¬ (d.1 = 3 ∧ d.2.1[0]? = some v)) ∧ my v = b ∧ 1 ≤ b ∧ b ≤ 9)) ∧ (∀ c, c ∈ cs → okC c) ∧ cs.length ≤ 24 ∧ (codeL cs).length ≤ 300
theorem TxD_mk {T : Int → Int} {n : Int} {N : Nat} {cs : List Cls} {i : Nat} {f cl cd fr tw my cl' cd' : Int → Int} (hN : N ≤ 300) (I : CsI T n N cs i f cl cd fr tw my) (h1 : ∀ k : Int, 0 ≤ k → k < (4 * cs.length : Nat) → cl' k = cl k) (h2 : ∀ k : Int, 0 ≤ k → k < (codeL cs).length → cd' k = cd k) : TxD cs cl' cd' fr tw my := by
  obtain ⟨⟨c2, c3, c8, ciN, c7, c11, c24, c13, cle⟩, I2, I3, I4, I5, I6⟩ := I
  refine ⟨fun k c hc => ?_, fun k x hx => ?_, I4, I5, I6, c24, by omega⟩
  · have hk := (List.getElem?_eq_some_iff.mp hc).1
    have w := I2 k c hc
    refine ⟨by rw [h1 _ (by omega) (by omega)]; exact w.1, fun j v hj h4 => ?_⟩
    have hl3 := okC_len (I6 c (List.mem_of_getElem? hc))
    have hj' := (List.getElem?_eq_some_iff.mp hj).1
    rw [h1 _ (by omega) (by omega)]
    exact w.2 j v hj h4
  · have hk := (List.getElem?_eq_some_iff.mp hx).1
    rw [h2 _ (by omega) (by omega)]
    exact I3 k x hx
/-- what read leaves -/
def rRd (B : Bs) (S : Stt) (V : Va) : Option Value → Stt → Va → Prop := fun v S' V' => V' 277 1 = 0 ∧ (∀ q, q < S.2.2 → (q < 277 ∨ 286 < q ∨ q = 278) → V' q = V q) ∧
  ((∃ q cs, TxR (V 278) (V 277 1) (V' 277 2) q cs ∧ V' 277 2 ≠ 0 ∧ (0 ≤ V' 277 2 ∧ V' 277 2 < 10) ∧ V' 277 3 = tPl (V 278) (V 277 1) q ∧ some (vQ B none) = v ∧ S = S') ∨
   (∃ q cs, TxR (V 278) (V 277 1) 0 q cs ∧ V' 277 2 = 0 ∧ V' 277 3 = -1 ∧ some (vQ B (some S.2.2)) = v ∧ Stat S' ∧ S'.2.2 = S.2.2 + 6 ∧ TxS S' S.2.2 (4 * cs.length) (codeL cs).length ∧ (V' S.2.2 1 = cs.length ∧ TxD cs (V' (S.2.2 + 1)) (V' (S.2.2 + 2)) (V' (S.2.2 + 3)) (V' (S.2.2 + 4)) (V' (S.2.2 + 5))) ∧ ∀ q, q < S.2.2 → S'.1 q = S.1 q ∧ S'.2.1 q = S.2.1 q))
section XTx
variable {Γ : Ctx} {B : Bs} {own nm : String} {cc : ByteArray} {nL : Nat} {ret : Option FieldType} {lev mc ms pc : Nat} {L : List (Option Value)} {st : List Value} {kc ks : Nat} {S : Stt} {V : Va}
theorem x_cItx {y : MethodName} {cc' : ByteArray} {nL' n index i m c z lev' mc' ms' : Nat} {As rest : List Value} (hm : MI y cc' nL' n) (hl : Cond.methodLink own index y ∈ TB) (d : decode cc pc = .ok (.invokespecial index, 3)) (hC : C B y cc' nL' none lev' mc' ms' (vR B i :: As) S V (rTx S V m c z))
    (k : ∀ S' V', rTx S V m c z none S' V' → X Γ B own nm cc nL ret lev mc ms (pc + 3) L rest (kc + mc') (ks + ms') S' V') (hst : st = As.reverse ++ vR B i :: rest := by rfl) (hlev : lev' < lev := by decide) (hn : As.length = n := by rfl) (hrm : nL' ≤ 45 := by decide) (hsum : (rest.map fun v => v.category).sum ≤ 8 := by exact Nat.le_of_ble_eq_true rfl) (hf : kc + mc' ≤ mc ∧ ks + ms' ≤ ms := by exact ⟨Nat.le_of_ble_eq_true rfl, Nat.le_of_ble_eq_true rfl⟩) : X Γ B own nm cc nL ret lev mc ms pc L st kc ks S V :=
  x_callI hm hl d hC (fun v S' V' h => by obtain ⟨rfl, h1⟩ := h; exact k S' V' ⟨rfl, h1⟩) hst hlev hn hrm hsum hf
end XTx
theorem ins_8 : Cond.instantiable (Rc 8) (Nc 8) ∈ TB := tb_3 202 rfl rfl
theorem filK_in {f : Int → Int} {v n k : Int} (h0 : 0 ≤ k) (h1 : k < n) : filK f (fun _ => v) n k = v := filK_rd h0 h1
