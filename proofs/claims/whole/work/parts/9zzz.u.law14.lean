/-! the law from its entry -/
section LwS
variable {Γ : Ctx} {B : Bs} {nm : String} {b n : Nat} {xs : Nat → Int32}
set_option maxRecDepth 100000 in
set_option maxHeartbeats 4000000 in
theorem law_start (hc : Scp Γ B b n xs) (hn : n ≤ 3072) (E : ∀ (S : Stt) (V : Va) (i : Int) (kc ks : Nat), kc ≤ 600000 → ks ≤ 7302250 → X Γ B RL nm cL_law 4 (some .boolean) 26 600000 7302250 1066 [some (.ref b), some (vR B 0), some (vR B 308), some (vI i)] [] kc ks S V) : X Γ B RL nm cL_law 4 (some .boolean) 26 600000 7302250 0 [some (.ref b), none, none, none] [] 0 0 (sO []) (vO []) := by
  have h1 := c_X10_init (B := B) []
  simp only [List.length_nil, List.nil_append] at h1
  have h2 := c_X11_init (B := B) (ninC 0) (ninC_len 0) (by rw [ninC_len]; exact Stat_0)
  rw [ninC_len] at h2
  refine l_newo (ci := 10) (m := 0) (M' := [nC (15, 0)]) (by decide) cl_L_7 is_X10 rfl rfl dL_law_0 ?_
  refine x_dup dL_law_3 ?_
  refine l_callI (M1 := ninC 0) mm_X10_init ml_L_9 dL_law_4 h1 ?_
  refine x_as1 dL_law_7 ?_
  refine l_newo (ci := 11) (m := 308) (M' := ninC 0 ++ [nC (16, 0)]) (by decide) cl_L_10 is_X11 (ninC_len 0) rfl dL_law_8 ?_
  refine x_dup dL_law_11 ?_
  refine x_callI mm_X11_init ml_L_12 dL_law_12 h2 (fun v S' V' h => ?_)
  obtain ⟨rfl, rfl, rfl⟩ := h
  refine x_as2 dL_law_15 ?_
  refine x_iconst dL_law_16 ?_
  refine x_is3 dL_law_17 ?_
  exact law_loop hc hn E 3072 0 0 _ _ S0 V0 INV_0 (by omega) (by omega) (by omega) (by omega) (by decide) (by decide)
end LwS
theorem arr_known {args : Array Value} {s : State} {ty : FieldType} (h : (Cond.arrayClass ty).before args s = true) : ∃ cA, ArrOfT s cA ty ∧ s.vm.findClass ("[" ++ ty.toString) = some cA := by
  obtain ⟨cA, k, comp, h1, h2, h3⟩ := Cond.arrayClass_spec h
  exact ⟨cA, fun n z => ⟨(fun k h => by cases h), k, h2, comp, h3⟩, h1⟩
theorem arr_knownO {args : Array Value} {s : State} {C : String} (h : (Cond.arrayOver (.object C)).before args s = true) : ∃ cA, ArrOfT s cA (.object C) ∧ va_RA s cA (.object C) := by
  obtain ⟨comp, cA, k, h1, _, h3, h4, h5⟩ := Cond.arrayOver_spec h
  exact ⟨cA, fun n z => ⟨(fun k h => by cases h), k, h3, comp, h4⟩, k, comp, h3, h4, h1, h5⟩
theorem kw_c : ∀ c, c < 12 → (∀ w ∈ u_ws (Rc c) (Tc c) (Nc c), w ∈ lw_tbl) ∧ Cond.instantiable (Rc c) (Nc c) ∈ lw_tbl := by decide +kernel
theorem K_known {args : Array Value} {s : State} (hts : ∀ w ∈ lw_tbl, w.before args s = true) : ∃ (D : va_G) (ca : Nat → ClassId), va_K D cls (tyL ca) s := by
  have kn : ∀ c, c < 12 → ∃ (cC : ClassId) (iS : Nat → Nat), u_Kn s (Rc c) (Tc c) (Nc c) cC iS := fun c hc => u_known hts (kw_c c hc).1 (hts _ (kw_c c hc).2)
  have hcl : ∀ c : Nat, ∃ x : ClassId × (Nat → Nat), ∀ q, cls[c]? = some q → u_Kn s q.1 q.2.1 q.2.2 x.1 x.2 := fun c => by
    by_cases hlt : c < 12
    · obtain ⟨cC, iS, h⟩ := kn c hlt
      refine ⟨(cC, iS), fun q e => ?_⟩
      rw [cls_at c hlt] at e
      cases e
      exact h
    · obtain ⟨cC, iS, h⟩ := kn 0 (by decide)
      refine ⟨(cC, iS), fun q e => ?_⟩
      rw [List.getElem?_eq_none (by show 12 ≤ c; omega)] at e
      cases e
  obtain ⟨f, hf⟩ := Classical.axiomOfChoice hcl
  obtain ⟨c0, a0, b0⟩ := arr_known (hts (Cond.arrayClass .int) (by decide +kernel))
  obtain ⟨c1, a1, b1⟩ := arr_known (hts (Cond.arrayClass .long) (by decide +kernel))
  obtain ⟨c2, a2, b2⟩ := arr_known (hts (Cond.arrayClass .boolean) (by decide +kernel))
  obtain ⟨c3, a3, b3⟩ := arr_knownO (hts (Cond.arrayOver (.object RX8)) (by decide +kernel))
  obtain ⟨c4, a4, b4⟩ := arr_knownO (hts (Cond.arrayOver (.object RX0)) (by decide +kernel))
  refine ⟨(fun c => (f c).1, fun c => (f c).2), fun k => if k = 0 then c0 else if k = 1 then c1 else if k = 2 then c2 else if k = 3 then c3 else c4, fun c q e => hf c q e, fun k q e => ?_⟩
  match k, e with
  | 0, e => cases e; exact ⟨a0, b0⟩
  | 1, e => cases e; exact ⟨a1, b1⟩
  | 2, e => cases e; exact ⟨a2, b2⟩
  | 3, e => cases e; exact ⟨a3, b3⟩
  | 4, e => cases e; exact ⟨a4, b4⟩
  | k + 5, e => cases e
def tmS (i : Nat) : Term := if i = 0 then .string RX3 108 else .string RX3 115
