def rRc (S : Stt) (V : Va) (P : (Int → Int) → (Int → Int) → (Int → Int) → (Int → Int) → (Int → Int) → (Int → Int) → Prop) : Option Value → Stt → Va → Prop := fun v S' V' => ∃ f cl cd fr tw my, P f cl cd fr tw my ∧ none = v ∧ S = S' ∧ up (up (up (up (up (up V 277 f) 282 cl) 283 cd) 284 fr) 285 tw) 286 my = V'
section XRc
variable {Γ : Ctx} {B : Bs} {own nm : String} {cc : ByteArray} {nL : Nat} {ret : Option FieldType} {lev mc ms pc : Nat} {L : List (Option Value)} {st : List Value} {kc ks : Nat} {S : Stt} {V : Va}
theorem x_cVrc {y : MethodName} {cc' : ByteArray} {nL' n index ci i z lev' : Nat} {ret' : Option FieldType} {As rest : List Value} {S1 : Stt} {V1 : Va} {P : (Int → Int) → (Int → Int) → (Int → Int) → (Int → Int) → (Int → Int) → (Int → Int) → Prop} (hm : MV y cc' nL' ret' n) (hl : Cond.methodLink own index y ∈ TB) (d : decode cc pc = .ok (.invokevirtual index, 3)) (hC : C B y cc' nL' ret' lev' 0 0 (vR B i :: As) S V (rRc S1 V1 P)) (hs : S.1 i = (ci + 5, z)) (hi : i < S.2.2)
    (k : ∀ f cl cd fr tw my, P f cl cd fr tw my → X Γ B own nm cc nL ret lev mc ms (pc + 3) L rest kc ks S1 (up (up (up (up (up (up V1 277 f) 282 cl) 283 cd) 284 fr) 285 tw) 286 my)) (hst : st = As.reverse ++ vR B i :: rest := by rfl) (hlev : lev' < lev := by decide) (hci : ci < 12 := by decide) (hy : Rc ci = y.cls := by rfl) (hn : As.length = n := by rfl) (hrm : nL' ≤ 45 := by decide) (hsum : (rest.map fun v => v.category).sum ≤ 8 := by exact Nat.le_of_ble_eq_true rfl) (hf : kc + 0 ≤ mc ∧ ks + 0 ≤ ms := by exact ⟨Nat.le_of_ble_eq_true rfl, Nat.le_of_ble_eq_true rfl⟩) : X Γ B own nm cc nL ret lev mc ms pc L st kc ks S V :=
  x_callV hm hl d hC hs hi (fun v S' V' h => by obtain ⟨f, cl, cd, fr, tw, my, h1, rfl, rfl, rfl⟩ := h; exact k f cl cd fr tw my h1) hst hlev hci hy hn hrm hsum hf
end XRc
theorem ClC_f {T : Int → Int} {n x : Int} {N i : Nat} {cs : List Cls} {f cl cd fr tw my sr : Int → Int} (h8 : f 8 = i ∧ i ≤ N) (hx : 1 ≤ x ∧ x < 10) (hsr : sr (f 8) = tPl T n (pos T n i)) (hR : ClR T n cs (pos T n i) x (pos T n i) (0, [], [])) : ClC T n N cs i f (ua (ua f 2 x) 3 (sr (f 8))) cl cd fr tw my := by
  refine ⟨⟨by rw [ua_ne (by decide), ua_ne (by decide)], by rw [ua_ne (by decide), ua_ne (by decide)]⟩, Or.inr ⟨pos T n i, (0, [], []), ?_, ?_, ?_, ?_, ?_⟩⟩
  · rw [ua_ne (by decide), ua_same]; exact hR
  · rw [ua_ne (by decide), ua_same]; omega
  · rw [ua_ne (by decide), ua_same]; omega
  · rw [ua_same]; exact hsr
  · rw [ua_ne (by decide), ua_ne (by decide)]; omega
/-- reading all clauses -/
def RdX (T : Int → Int) (n : Int) (N : Nat) (c : Int) (f cl cd fr tw my : Int → Int) : Prop := (f 1 = 0 ∧ f 7 = N + 1) ∧ ((∃ cs i, CsI T n N cs i f cl cd fr tw my ∧ (cs.length : Int) = c ∧ ∀ m r q d, RdR T n m cs (pos T n i) r q d → TxR T n r q d) ∨ (∃ q cs, TxR T n (f 2) q cs ∧ f 2 ≠ 0 ∧ (0 ≤ f 2 ∧ f 2 < 10) ∧ f 3 = tPl T n q ∧ 0 ≤ f 8 ∧ f 8 ≤ N))
section Rx
variable {T : Int → Int} {n c : Int} {N : Nat} {f cl cd fr tw my f' cl' cd' fr' tw' my' : Int → Int}
theorem RdX_q (h : RdX T n N c f cl cd fr tw my) : (0 ≤ f 2 ∧ f 2 < 10) ∧ (0 ≤ f 8 ∧ f 8 ≤ N) ∧ (f 2 = 0 → c ≤ 24) := by
  obtain ⟨-, ⟨cs, i, ⟨⟨c2, c3, c8, ciN, c7, c11, c24, _⟩, _⟩, e, _⟩ | ⟨q, cs, h1, h2, h3, h4, h5⟩⟩ := h
  · exact ⟨by omega, by omega, fun _ => by omega⟩
  · exact ⟨h3, h5, fun z => absurd z h2⟩
theorem RdX_s {cs : List Cls} {i : Nat} (h1 : f 1 = 0 ∧ f 7 = N + 1) (hL : ∀ m r q d, RdR T n m cs (pos T n i) r q d → TxR T n r q d) (e : (cs.length : Int) = c) (ht : tTok T n (pos T n i) ≠ 0) (h : ClC T n N cs i f f' cl' cd' fr' tw' my') : RdX T n N (c + 1) f' cl' cd' fr' tw' my' := by
  obtain ⟨⟨a1, a2⟩, ⟨j, d, b1, b2, b3⟩ | ⟨q, d, b1, b2, b3, b4, b5⟩⟩ := h
  · exact ⟨⟨a1.trans h1.1, a2.trans h1.2⟩, Or.inl ⟨cs ++ [d], j, b3, by rw [List.length_append]; simp; omega, fun m r q d' hd => hL (m + 1) r q d' (Or.inr ⟨ht, 0, pos T n j, d, b1, Or.inr ⟨rfl, hd⟩⟩)⟩⟩
  · exact ⟨⟨a1.trans h1.1, a2.trans h1.2⟩, Or.inr ⟨q, cs, hL 1 _ _ _ (Or.inr ⟨ht, f' 2, q, d, b1, Or.inl ⟨b2, rfl, rfl, rfl⟩⟩), b2, b3, b4, b5⟩⟩
end Rx
theorem CsI_0 {T : Int → Int} {n : Int} {N : Nat} {f cl cd fr tw my : Int → Int} (h2 : f 2 = 0) (h3 : f 3 = -1) (h8 : f 8 = 0) (h7 : f 7 = N + 1) (h11 : f 11 = 0) (h13 : f 13 = 0) (hf : ∀ s, 0 ≤ s → s < 3 → fr s = -1) (hm : ∀ v, 0 ≤ v → v < 20 → my v = 0) : CsI T n N [] 0 f cl cd fr tw my := by
  refine ⟨⟨h2, h3, by rw [h8]; rfl, by omega, h7, by rw [h11]; rfl, by simp, by rw [h13]; rfl, by simp [codeL]⟩, fun k c hc => by simp at hc, fun k x hx => by simp [codeL] at hx, fun s s0 s1 => Or.inl ⟨fun ⟨c, hc, _⟩ => by simp at hc, hf s s0 s1⟩, fun v v0 v1 => Or.inl ⟨fun ⟨c, hc, _⟩ => by simp at hc, hm v v0 (by omega)⟩, fun c hc => by simp at hc⟩
theorem CsI_frr {T : Int → Int} {n : Int} {N : Nat} {cs : List Cls} {i : Nat} {f cl cd fr tw my : Int → Int} (hN : N ≤ 300) (h : CsI T n N cs i f cl cd fr tw my) {s : Int} (h0 : 0 ≤ s) (h1 : s < 3) : InR (fr s) := by
  rcases h.2.2.2.1 s h0 h1 with ⟨a, b⟩ | ⟨k, c, a, b, _, d, _⟩
  · rw [b]; exact ⟨by omega, by omega⟩
  · have e : (codeL (cs.take k)).length ≤ (codeL cs).length := by
      have z : codeL cs = codeL (cs.take k) ++ codeL (cs.drop k) := by rw [← codeL_app, List.take_append_drop]
      rw [z, List.length_append]
      omega
    have c := h.1.2.2.2.2.2.2.2.2
    have ci := h.1.2.2.2.1
    rw [d]
    exact ⟨by omega, by omega⟩
