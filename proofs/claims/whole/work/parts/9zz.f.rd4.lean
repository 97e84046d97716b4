/-! the class reads: take, emit -/
def takF (f sr : Int → Int) (good oth : Int) : Int → Int := if f 2 ≠ 0 then f else if good = 0 then ua (ua f 2 oth) 3 (sr (f 8)) else if f 8 + 1 < f 7 then ua f 8 (f 8 + 1) else f
def takV (f : Int → Int) (good : Int) : Int := if f 2 ≠ 0 then 0 else good
def emf (f : Int → Int) : Int → Int := if f 13 < 300 then ua f 13 (f 13 + 1) else f
def emc (f cd : Int → Int) (x : Int) : Int → Int := if f 13 < 300 then ua cd (f 13) x else cd
theorem emf_k {f : Int → Int} {k : Int} (h : k ≠ 13) : emf f k = f k := by
  simp only [emf]
  split
  · exact ua_ne h
  · rfl
theorem emf_r {f : Int → Int} (h : 0 ≤ f 13 ∧ f 13 ≤ 300) : 0 ≤ emf f 13 ∧ emf f 13 ≤ 300 := by
  simp only [emf]
  split
  · rw [ua_same]; omega
  · exact h
theorem takF_k {f sr : Int → Int} {g o k : Int} (h : k ≠ 2 ∧ k ≠ 3 ∧ k ≠ 8) : takF f sr g o k = f k := by
  simp only [takF]
  (repeat' split)
  · rfl
  · rw [ua_ne (by omega), ua_ne (by omega)]
  · rw [ua_ne (by omega)]
  · rfl
theorem takF_f {f sr : Int → Int} {g o : Int} (h : f 2 ≠ 0) : takF f sr g o = f := if_pos h
theorem takF_0 {f sr : Int → Int} {o : Int} (h : f 2 = 0) : takF f sr 0 o = ua (ua f 2 o) 3 (sr (f 8)) := (if_neg (by omega)).trans (if_pos rfl)
theorem takF_1 {f sr : Int → Int} {o : Int} (h : f 2 = 0) (h8 : f 8 + 1 < f 7) : takF f sr 1 o = ua f 8 (f 8 + 1) := (if_neg (by omega)).trans ((if_neg (by decide)).trans (if_pos h8))
theorem takV_1 {f : Int → Int} {g : Int} (h : f 2 = 0) : takV f g = g := if_neg (by omega)
def emC (cd : Int → Int) : Int → List (Int × Int) → Int → Int
  | _, [] => cd
  | z, x :: c => emC (ua cd z (encO x.1 x.2)) (z + 1) c
theorem emC_app : ∀ (c d : List (Int × Int)) (cd : Int → Int) (z : Int), emC cd z (c ++ d) = emC (emC cd z c) (z + c.length) d
  | [], d, cd, z => by simp [emC]
  | x :: c, d, cd, z => by
    simp only [List.cons_append, emC, List.length_cons]
    rw [emC_app c d, show z + 1 + (c.length : Int) = z + ((c.length + 1 : Nat) : Int) by omega]
theorem emC_1 (cd : Int → Int) (z : Int) (x : Int × Int) : emC cd z [x] = ua cd z (encO x.1 x.2) := rfl
/-- what is sure while the class reads -/
def RdH (T : Int → Int) (n : Int) (N : Nat) (V : Va) : Prop := TkR T n N (V 279) (V 280) (V 281) ∧ V 277 7 = N + 1 ∧ (0 ≤ n ∧ n ≤ 300) ∧ ∀ k, 0 ≤ T k ∧ T k < 256
def RdS (f : Int → Int) (i N : Nat) (u : Int) : Prop := f 2 = 0 ∧ f 8 = i ∧ i ≤ N ∧ (0 ≤ f 13 ∧ f 13 ≤ i) ∧ f 9 = if u = 2 then 1 else 0
/-- behind a reading from TOKEN i on -/
def CP (T : Int → Int) (n : Int) (N i : Nat) (R : Rs → Prop) (f cd f' cd' : Int → Int) : Prop := (∀ k, k ≠ 2 → k ≠ 3 → k ≠ 8 → k ≠ 13 → f' k = f k) ∧ ((∃ (j : Nat) (em : List (Int × Int)), R (0, pos T n j, em) ∧ f' 2 = 0 ∧ f' 3 = f 3 ∧ j ≤ N ∧ f' 8 = j ∧ i < j ∧ i + em.length ≤ j ∧ f' 13 = f 13 + em.length ∧ cd' = emC cd (f 13) em) ∨ (∃ q, R (f' 2, q, []) ∧ f' 2 ≠ 0 ∧ (0 ≤ f' 2 ∧ f' 2 < 10) ∧ f' 3 = tPl T n q ∧ (0 ≤ f' 8 ∧ f' 8 ≤ N) ∧ 0 ≤ f' 13 ∧ f' 13 ≤ 300))
def rCP (S : Stt) (V : Va) (P : (Int → Int) → (Int → Int) → Prop) : Option Value → Stt → Va → Prop := fun v S' V' => ∃ f cd, P f cd ∧ none = v ∧ S = S' ∧ up (up V 277 f) 283 cd = V'
section XCP
variable {Γ : Ctx} {B : Bs} {own nm : String} {cc : ByteArray} {nL : Nat} {ret : Option FieldType} {lev mc ms pc : Nat} {L : List (Option Value)} {st : List Value} {kc ks : Nat} {S : Stt} {V : Va}
theorem x_cVcp {y : MethodName} {cc' : ByteArray} {nL' n index ci i z lev' : Nat} {ret' : Option FieldType} {As rest : List Value} {S1 : Stt} {V1 : Va} {P : (Int → Int) → (Int → Int) → Prop} (hm : MV y cc' nL' ret' n) (hl : Cond.methodLink own index y ∈ TB) (d : decode cc pc = .ok (.invokevirtual index, 3)) (hC : C B y cc' nL' ret' lev' 0 0 (vR B i :: As) S V (rCP S1 V1 P)) (hs : S.1 i = (ci + 5, z)) (hi : i < S.2.2)
    (k : ∀ f cd, P f cd → X Γ B own nm cc nL ret lev mc ms (pc + 3) L rest kc ks S1 (up (up V1 277 f) 283 cd)) (hst : st = As.reverse ++ vR B i :: rest := by rfl) (hlev : lev' < lev := by decide) (hci : ci < 12 := by decide) (hy : Rc ci = y.cls := by rfl) (hn : As.length = n := by rfl) (hrm : nL' ≤ 45 := by decide) (hsum : (rest.map fun v => v.category).sum ≤ 8 := by exact Nat.le_of_ble_eq_true rfl) (hf : kc + 0 ≤ mc ∧ ks + 0 ≤ ms := by exact ⟨Nat.le_of_ble_eq_true rfl, Nat.le_of_ble_eq_true rfl⟩) : X Γ B own nm cc nL ret lev mc ms pc L st kc ks S V :=
  x_callV hm hl d hC hs hi (fun v S' V' h => by obtain ⟨f, cd, h1, rfl, rfl, rfl⟩ := h; exact k f cd h1) hst hlev hci hy hn hrm hsum hf
end XCP
theorem RdH_c {T : Int → Int} {n : Int} {N : Nat} {V V' : Va} (h : RdH T n N V) (e1 : V' 279 = V 279) (e2 : V' 280 = V 280) (e3 : V' 281 = V 281) (e7 : V' 277 7 = V 277 7) : RdH T n N V' := by
  obtain ⟨h1, h2, h3, h4⟩ := h
  exact ⟨by rw [e1, e2, e3]; exact h1, by rw [e7]; exact h2, h3, h4⟩
section Cp
variable {T : Int → Int} {n u o : Int} {N i : Nat} {f cd f1 cd1 sr : Int → Int}
/-- a FAULT at this TOKEN -/
theorem CP_f {R : Rs → Prop} {x : Int} (h8 : f 8 = i ∧ i ≤ N) (h13 : 0 ≤ f 13 ∧ f 13 ≤ 300) (hx : 1 ≤ x ∧ x < 10) (hsr : sr (f 8) = tPl T n (pos T n i)) (hR : R (x, pos T n i, [])) : CP T n N i R f cd (ua (ua f 2 x) 3 (sr (f 8))) cd1 := by
  refine ⟨fun k k2 k3 _ _ => by rw [ua_ne (by omega), ua_ne (by omega)], Or.inr ⟨pos T n i, ?_, ?_, ?_, ?_, ?_, ?_⟩⟩
  · rw [ua_ne (by decide), ua_same]; exact hR
  · rw [ua_ne (by decide), ua_same]; omega
  · rw [ua_ne (by decide), ua_same]; omega
  · rw [ua_same]; exact hsr
  · rw [ua_ne (by decide), ua_ne (by decide)]; omega
  · rw [ua_ne (by decide), ua_ne (by decide)]; exact h13
/-- emit behind a FAULT -/
theorem CP_e {R : Rs → Prop} {x : Int} (h : CP T n N i R f cd f1 cd1) (hf : f1 2 ≠ 0) : CP T n N i R f cd (emf f1) (emc f1 cd1 x) := by
  obtain ⟨h0, h | ⟨q, h1, h2, h3, h4, h5, h6⟩⟩ := h
  · obtain ⟨j, em, _, z, _⟩ := h
    exact absurd z hf
  · refine ⟨fun k k2 k3 k8 k13 => (emf_k k13).trans (h0 k k2 k3 k8 k13), Or.inr ⟨q, ?_, ?_, ?_, ?_, ?_, emf_r h6⟩⟩
    · rw [emf_k (by decide)]; exact h1
    · rw [emf_k (by decide)]; exact h2
    · rw [emf_k (by decide)]; exact h3
    · rw [emf_k (by decide)]; exact h4
    · rw [emf_k (by decide)]; exact h5
theorem CP_m {R R' : Rs → Prop} (h : CP T n N i R f cd f1 cd1) (hR : ∀ r, R r → R' r) : CP T n N i R' f cd f1 cd1 := by
  obtain ⟨h0, ⟨j, em, h1, h2⟩ | ⟨q, h1, h2⟩⟩ := h
  · exact ⟨h0, Or.inl ⟨j, em, hR _ h1, h2⟩⟩
  · exact ⟨h0, Or.inr ⟨q, hR _ h1, h2⟩⟩
/-- one TOKEN, one piece of code -/
theorem CP_one {R : Rs → Prop} {c : Int × Int} {v : Int} (hi : i < N) (h : RdS f i N u) (hv : encO c.1 c.2 = v) (hR : R (0, tNx T n (pos T n i), [c])) : CP T n N i R f cd (ua (ua f 8 (f 8 + 1)) 13 (f 13 + 1)) (ua cd (f 13) v) := by
  obtain ⟨h2, h8, h3, h13, h9⟩ := h
  refine ⟨fun k k2 k3 k8 k13 => by rw [ua_ne k13, ua_ne k8], Or.inl ⟨i + 1, [c], hR, ?_, ?_, hi, ?_, by omega, by simp, ?_, ?_⟩⟩
  · rw [ua_ne (by decide), ua_ne (by decide)]; exact h2
  · rw [ua_ne (by decide), ua_ne (by decide)]
  · rw [ua_ne (by decide), ua_same, h8]; omega
  · rw [ua_same]; simp
  · rw [emC_1, hv]
/-- - ONE -/
theorem CP_neg (hi : i < N) (h : RdS f i N u) (hN : N ≤ 300) (ht : tTok T n (pos T n i) = 45) (hn : tNm T n (pos T n i) < 0) (ho : o ≠ 8) (hc : CP T n N (i + 1) (G T n u 0 (o + 1) 0 (pos T n (i + 1))) (ua f 8 (f 8 + 1)) cd f1 cd1) : CP T n N i (G T n u 0 o 0 (pos T n i)) f cd (emf f1) (emc f1 cd1 (-40)) := by
  obtain ⟨h2, h8, h3, h13, h9⟩ := h
  by_cases c : f1 2 ≠ 0
  · refine CP_e ?_ c
    obtain ⟨g0, g | ⟨q, g1, g2, g3, g4, g5, g6⟩⟩ := hc
    · obtain ⟨j, em, _, z, _⟩ := g
      exact absurd z c
    · refine ⟨fun k k2 k3 k8 k13 => (g0 k k2 k3 k8 k13).trans (ua_ne k8), Or.inr ⟨q, ?_, g2, g3, g4, g5, g6⟩⟩
      have z := G_neg (w := 0) ht hn ho g1
      rw [if_pos g2] at z
      exact z
  · obtain ⟨g0, ⟨j, em, g1, g2, g3, g4, g5, g6, g7, g8, g9⟩ | ⟨q, _, z, _⟩⟩ := hc
    · rw [ua_ne (by decide)] at g3 g8 g9
      have lt : f1 13 < 300 := by omega
      have e1 : emf f1 = ua f1 13 (f1 13 + 1) := if_pos lt
      have e2 : emc f1 cd1 (-40) = ua cd1 (f1 13) (-40) := if_pos lt
      rw [e1, e2]
      refine ⟨fun k k2 k3 k8 k13 => (ua_ne k13).trans ((g0 k k2 k3 k8 k13).trans (ua_ne k8)), Or.inl ⟨j, em ++ [(2, 0)], ?_, ?_, ?_, g4, ?_, by omega, ?_, ?_, ?_⟩⟩
      · have z := G_neg (w := 0) ht hn ho g1
        rw [if_neg (by simp)] at z
        exact z
      · rw [ua_ne (by decide)]; exact g2
      · rw [ua_ne (by decide)]; exact g3
      · rw [ua_ne (by decide)]; exact g5
      · rw [List.length_append]; simp; omega
      · rw [ua_same, List.length_append, g8]; simp; omega
      · rw [emC_app, ← g9, g8, emC_1]; rfl
    · exact absurd z c
/-- ( SUM ) -/
theorem CP_par {g : Int} (hN : N ≤ 300) (hi : i < N) (h : RdS f i N u) (hsr : ∀ k : Nat, k ≤ N → sr k = tPl T n (pos T n k)) (h7 : f 7 = N + 1) (ht : tTok T n (pos T n i) = 40) (hn : tNm T n (pos T n i) < 0) (ho : o ≠ 8) (htz : ∀ k : Nat, k ≤ N → tTok T n (pos T n k) = 41 → k < N) (hc : CP T n N (i + 1) (G T n u 1 (o + 1) 0 (pos T n (i + 1))) (ua f 8 (f 8 + 1)) cd f1 cd1) (hg : ∀ k : Nat, k ≤ N → f1 8 = k → ((g = 1 ∧ tTok T n (pos T n k) = 41) ∨ (g = 0 ∧ tTok T n (pos T n k) ≠ 41))) : CP T n N i (G T n u 0 o 0 (pos T n i)) f cd (takF f1 sr g 1) cd1 := by
  obtain ⟨h2, h8, h3, h13, h9⟩ := h
  by_cases c : f1 2 ≠ 0
  · rw [takF_f c]
    obtain ⟨g0, z | ⟨q, g1, g2, g3, g4, g5, g6⟩⟩ := hc
    · obtain ⟨j, em, _, z, _⟩ := z
      exact absurd z c
    · refine ⟨fun k k2 k3 k8 k13 => (g0 k k2 k3 k8 k13).trans (ua_ne k8), Or.inr ⟨q, ?_, g2, g3, g4, g5, g6⟩⟩
      have z := G_par (w := 0) ht hn ho g1
      rw [if_pos g2] at z
      exact z
  · obtain ⟨g0, ⟨j, em, g1, g2, g3, g4, g5, g6, g7, g8, g9⟩ | ⟨q, _, z, _⟩⟩ := hc
    · rw [ua_ne (by decide)] at g3 g8 g9
      have f7 : f1 7 = N + 1 := (g0 7 (by decide) (by decide) (by decide) (by decide)).trans ((ua_ne (by decide)).trans h7)
      have z := G_par (w := 0) ht hn ho g1
      rw [if_neg (by simp)] at z
      rcases hg j g4 g5 with ⟨e, t⟩ | ⟨e, t⟩
      · have jn := htz j g4 t
        rw [e, takF_1 g2 (by omega)]
        rw [if_pos t] at z
        refine ⟨fun k k2 k3 k8 k13 => (ua_ne k8).trans ((g0 k k2 k3 k8 k13).trans (ua_ne k8)), Or.inl ⟨j + 1, em, z, ?_, ?_, jn, ?_, by omega, by omega, ?_, g9⟩⟩
        · rw [ua_ne (by decide)]; exact g2
        · rw [ua_ne (by decide)]; exact g3
        · rw [ua_same, g5]; omega
        · rw [ua_ne (by decide)]; exact g8
      · rw [e, takF_0 g2]
        rw [if_neg t] at z
        refine ⟨fun k k2 k3 k8 k13 => (ua_ne k3).trans ((ua_ne k2).trans ((g0 k k2 k3 k8 k13).trans (ua_ne k8))), Or.inr ⟨pos T n j, ?_, ?_, ?_, ?_, ?_, ?_⟩⟩
        · rw [ua_ne (by decide), ua_same]; exact z
        · rw [ua_ne (by decide), ua_same]; omega
        · rw [ua_ne (by decide), ua_same]; omega
        · rw [ua_same, g5]; exact hsr j g4
        · rw [ua_ne (by decide), ua_ne (by decide)]; omega
        · rw [ua_ne (by decide), ua_ne (by decide)]; omega
    · exact absurd z c
end Cp
/-- sums: where the class stands -/
def wOf (w : Int) : Int := if w = 0 then 0 else if w = 6 then 3 else 4
def SuI (T : Int → Int) (n u o : Int) (N i : Nat) (f0 cd0 : Int → Int) (w c : Int) (f cd : Int → Int) : Prop := (w = 0 ∨ w = 6 ∨ w = 7) ∧ (∀ k, k ≠ 2 → k ≠ 3 → k ≠ 8 → k ≠ 13 → f k = f0 k) ∧ ((∃ (j : Nat) (em : List (Int × Int)), (∀ s, G T n u 2 o (wOf w) (pos T n j) s → G T n u 1 o 0 (pos T n i) (preR em s)) ∧ f 2 = 0 ∧ f 3 = f0 3 ∧ j ≤ N ∧ f 8 = j ∧ i + 2 * c < j ∧ (i : Int) + em.length + (if w = 0 then 0 else 1) ≤ j ∧ f 13 = f0 13 + em.length ∧ cd = emC cd0 (f0 13) em) ∨ (∃ q, G T n u 1 o 0 (pos T n i) (f 2, q, []) ∧ f 2 ≠ 0 ∧ (0 ≤ f 2 ∧ f 2 < 10) ∧ f 3 = tPl T n q ∧ (0 ≤ f 8 ∧ f 8 ≤ N) ∧ 0 ≤ f 13 ∧ f 13 ≤ 300))
section Su
variable {T : Int → Int} {n u o : Int} {N i : Nat} {f0 cd0 f cd f1 cd1 : Int → Int} {w c : Int}
theorem SuI_0 (h : CP T n N i (G T n u 0 o 0 (pos T n i)) f0 cd0 f cd) : SuI T n u o N i f0 cd0 0 0 f cd := by
  obtain ⟨g0, ⟨j, em, g1, g2, g3, g4, g5, g6, g7, g8, g9⟩ | ⟨q, g1, g2, g3⟩⟩ := h
  · refine ⟨Or.inl rfl, g0, Or.inl ⟨j, em, fun s hs => ?_, g2, g3, g4, g5, by omega, by rw [if_pos rfl]; omega, g8, g9⟩⟩
    exact G_sum g1 rfl hs
  · exact ⟨Or.inl rfl, g0, Or.inr ⟨q, G_sumF g1 g2, g2, g3⟩⟩
theorem wOf_l {w : Int} (h : w = 0 ∨ w = 6 ∨ w = 7) : wlL (wOf w) = if w = 0 then [] else [(wOf w, 0)] := by
  rcases h with e | e | e <;> subst e <;> decide
theorem wOf_e {w : Int} (h : w = 6 ∨ w = 7) : encO (wOf w) 0 = -w := by
  rcases h with e | e <;> subst e <;> decide
/-- the end of a sum -/
theorem SuI_end (I : SuI T n u o N i f0 cd0 w c f cd) (hc0 : 0 ≤ c) (h0 : f 2 = 0) (hN : N ≤ 300) (h13 : 0 ≤ f0 13 ∧ f0 13 ≤ i) (ht : ∀ j : Nat, j ≤ N → f 8 = j → tTok T n (pos T n j) ≠ 43 ∧ tTok T n (pos T n j) ≠ 45 ∧ tTok T n (pos T n j) ≠ 42 ∧ tTok T n (pos T n j) ≠ 47) : (w = 0 → CP T n N i (G T n u 1 o 0 (pos T n i)) f0 cd0 f cd) ∧ (w ≠ 0 → CP T n N i (G T n u 1 o 0 (pos T n i)) f0 cd0 (emf f) (emc f cd (-w))) := by
  obtain ⟨w0, g0, ⟨j, em, g1, g2, g3, g4, g5, g6, g7, g8, g9⟩ | ⟨q, _, z, _⟩⟩ := I
  · have t := ht j g4 g5
    have e := g1 _ (G_end t.1 t.2.1 t.2.2.1 t.2.2.2)
    rw [preR_0, wOf_l w0] at e
    constructor
    · intro z
      rw [if_pos z, List.append_nil] at e
      rw [if_pos z] at g7
      exact ⟨g0, Or.inl ⟨j, em, e, g2, g3, g4, g5, by omega, by omega, g8, g9⟩⟩
    · intro z
      rw [if_neg z] at e g7
      have lt : f 13 < 300 := by omega
      have e1 : emf f = ua f 13 (f 13 + 1) := if_pos lt
      have e2 : emc f cd (-w) = ua cd (f 13) (-w) := if_pos lt
      rw [e1, e2]
      refine ⟨fun k k2 k3 k8 k13 => (ua_ne k13).trans (g0 k k2 k3 k8 k13), Or.inl ⟨j, _, e, ?_, ?_, g4, ?_, by omega, ?_, ?_, ?_⟩⟩
      · rw [ua_ne (by decide)]; exact g2
      · rw [ua_ne (by decide)]; exact g3
      · rw [ua_ne (by decide)]; exact g5
      · rw [List.length_append]; simp; omega
      · rw [ua_same, List.length_append, g8]; simp; omega
      · rw [emC_app, ← g9, g8, emC_1]
        show _ = ua cd (f0 13 + em.length) (encO (wOf w) 0)
        rw [wOf_e (by omega)]
  · exact absurd h0 z
theorem SuI_fl (I : SuI T n u o N i f0 cd0 w c f cd) (h0 : f 2 ≠ 0) : CP T n N i (G T n u 1 o 0 (pos T n i)) f0 cd0 f cd := by
  obtain ⟨w0, g0, ⟨j, em, g1, g2, _⟩ | g⟩ := I
  · exact absurd g2 h0
  · exact ⟨g0, Or.inr g⟩
theorem SuI_flw {w' c' : Int} (hw : w' = 0 ∨ w' = 6 ∨ w' = 7) (h : CP T n N i (G T n u 1 o 0 (pos T n i)) f0 cd0 f1 cd1) (h0 : f1 2 ≠ 0) : SuI T n u o N i f0 cd0 w' c' f1 cd1 := by
  obtain ⟨g0, ⟨j, em, g1, g2, _⟩ | g⟩ := h
  · exact absurd g2 h0
  · exact ⟨hw, g0, Or.inr g⟩
/-- + or - and a ONE -/
theorem SuI_add {j : Nat} {em : List (Int × Int)} {w' : Int} {F CD : Int → Int} (w0 : w = 0 ∨ w = 6 ∨ w = 7) (g0 : ∀ k, k ≠ 2 → k ≠ 3 → k ≠ 8 → k ≠ 13 → f k = f0 k) (g1 : ∀ s, G T n u 2 o (wOf w) (pos T n j) s → G T n u 1 o 0 (pos T n i) (preR em s)) (g3 : f 3 = f0 3) (g6 : i + 2 * c < j) (g7 : (i : Int) + em.length + (if w = 0 then 0 else 1) ≤ j) (g8 : f 13 = f0 13 + em.length) (g9 : cd = emC cd0 (f0 13) em) (hw' : (w' = 6 ∧ tTok T n (pos T n j) = 43) ∨ (w' = 7 ∧ tTok T n (pos T n j) = 45))
    (hF : (w = 0 ∧ F = ua f 8 (f 8 + 1) ∧ CD = cd) ∨ (w ≠ 0 ∧ F = ua (ua f 8 (f 8 + 1)) 13 (f 13 + 1) ∧ CD = ua cd (f 13) (-w))) (hc : CP T n N (j + 1) (G T n u 0 o 0 (pos T n (j + 1))) F CD f1 cd1) : SuI T n u o N i f0 cd0 w' (c + 1) f1 cd1 := by
  have hw2 : w' = 0 ∨ w' = 6 ∨ w' = 7 := by omega
  have tk : tTok T n (pos T n j) = 43 ∨ tTok T n (pos T n j) = 45 := by omega
  have wo : wOf w' = if tTok T n (pos T n j) = 43 then 3 else 4 := by
    rcases hw' with z | z
    · rw [z.1, if_pos z.2]; rfl
    · rw [z.1, if_neg (by omega)]; rfl
  obtain ⟨c0, ⟨m, ee, c1, c2, c3, c4, c5, c6, c7, c8, c9⟩ | ⟨q, c1, c2, c3, c4, c5, c6⟩⟩ := hc
  · have key : ∀ F13 : Int, F 13 = F13 → F 3 = f 3 → (∀ k, k ≠ 2 → k ≠ 3 → k ≠ 8 → k ≠ 13 → F k = f k) → F13 = f0 13 + (em ++ wlL (wOf w)).length → CD = emC cd0 (f0 13) (em ++ wlL (wOf w)) → (i : Int) + (em ++ wlL (wOf w)).length ≤ j → SuI T n u o N i f0 cd0 w' (c + 1) f1 cd1 := by
      intro F13 e13 e3 ek e4 e5 e6
      refine ⟨hw2, fun k k2 k3 k8 k13 => (c0 k k2 k3 k8 k13).trans ((ek k k2 k3 k8 k13).trans (g0 k k2 k3 k8 k13)), Or.inl ⟨m, em ++ wlL (wOf w) ++ ee, fun s hs => ?_, c2, (c3.trans e3).trans g3, c4, c5, by omega, ?_, ?_, ?_⟩⟩
      · rw [wo] at hs
        have z := g1 _ (G_add (w := wOf w) tk c1 rfl hs)
        rw [preR_preR, ← List.append_assoc] at z
        exact z
      · rw [if_neg (by omega), List.length_append]; omega
      · rw [c8, e13, e4, List.length_append (bs := ee)]; omega
      · rw [c9, e13, e4, e5, ← emC_app]
    rcases hF with ⟨z, z1, z2⟩ | ⟨z, z1, z2⟩
    · refine key _ rfl (by rw [z1, ua_ne (by decide)]) (fun k k2 k3 k8 k13 => by rw [z1, ua_ne k8]) ?_ ?_ ?_
      · rw [z1, ua_ne (by decide), g8, wOf_l w0, if_pos z, List.append_nil]
      · rw [z2, g9, wOf_l w0, if_pos z, List.append_nil]
      · rw [if_pos z] at g7
        rw [wOf_l w0, if_pos z, List.append_nil]; omega
    · refine key _ rfl (by rw [z1, ua_ne (by decide), ua_ne (by decide)]) (fun k k2 k3 k8 k13 => by rw [z1, ua_ne k13, ua_ne k8]) ?_ ?_ ?_
      · rw [z1, ua_same, g8, wOf_l w0, if_neg z, List.length_append]; simp; omega
      · rw [z2, wOf_l w0, if_neg z, emC_app, ← g9, g8, emC_1]
        show _ = ua cd (f0 13 + em.length) (encO (wOf w) 0)
        rw [wOf_e (by omega)]
      · rw [if_neg z] at g7
        rw [wOf_l w0, if_neg z, List.length_append]; simp; omega
  · refine ⟨hw2, fun k k2 k3 k8 k13 => ?_, Or.inr ⟨q, ?_, c2, c3, c4, c5, c6⟩⟩
    · rw [c0 k k2 k3 k8 k13]
      rcases hF with ⟨z, z1, z2⟩ | ⟨z, z1, z2⟩
      · rw [z1, ua_ne k8]; exact g0 k k2 k3 k8 k13
      · rw [z1, ua_ne k13, ua_ne k8]; exact g0 k k2 k3 k8 k13
    · have z := g1 _ (G_addF (w := wOf w) tk c1 c2)
      rw [preR_f c2] at z
      exact z
/-- * or / and a ONE -/
theorem SuI_mul {j : Nat} {em : List (Int × Int)} {sg : Int} (hN : N ≤ 300) (h13 : 0 ≤ f0 13 ∧ f0 13 ≤ i) (w0 : w = 0 ∨ w = 6 ∨ w = 7) (g0 : ∀ k, k ≠ 2 → k ≠ 3 → k ≠ 8 → k ≠ 13 → f k = f0 k) (g1 : ∀ s, G T n u 2 o (wOf w) (pos T n j) s → G T n u 1 o 0 (pos T n i) (preR em s)) (g3 : f 3 = f0 3) (g6 : i + 2 * c < j) (g7 : (i : Int) + em.length + (if w = 0 then 0 else 1) ≤ j) (g8 : f 13 = f0 13 + em.length) (g9 : cd = emC cd0 (f0 13) em) (hsg : (sg = 8 ∧ tTok T n (pos T n j) = 42) ∨ (sg = 9 ∧ tTok T n (pos T n j) = 47)) (hc : CP T n N (j + 1) (G T n u 0 o 0 (pos T n (j + 1))) (ua f 8 (f 8 + 1)) cd f1 cd1) : SuI T n u o N i f0 cd0 w (c + 1) (emf f1) (emc f1 cd1 (-sg)) := by
  have tk : tTok T n (pos T n j) = 42 ∨ tTok T n (pos T n j) = 47 := by omega
  obtain ⟨c0, ⟨m, ee, c1, c2, c3, c4, c5, c6, c7, c8, c9⟩ | ⟨q, c1, c2, c3, c4, c5, c6⟩⟩ := hc
  · rw [ua_ne (by decide)] at c3 c8 c9
    have lt : f1 13 < 300 := by omega
    have e1 : emf f1 = ua f1 13 (f1 13 + 1) := if_pos lt
    have e2 : emc f1 cd1 (-sg) = ua cd1 (f1 13) (-sg) := if_pos lt
    have eo : encO (if tTok T n (pos T n j) = 42 then 5 else 6) 0 = -sg := by
      rcases hsg with z | z
      · rw [if_pos z.2, z.1]; decide
      · rw [if_neg (by omega), z.1]; decide
    rw [e1, e2]
    refine ⟨w0, fun k k2 k3 k8 k13 => (ua_ne k13).trans ((c0 k k2 k3 k8 k13).trans ((ua_ne k8).trans (g0 k k2 k3 k8 k13))), Or.inl ⟨m, em ++ (ee ++ [(if tTok T n (pos T n j) = 42 then 5 else 6, 0)]), fun s hs => ?_, ?_, ?_, c4, ?_, by omega, ?_, ?_, ?_⟩⟩
    · have z := g1 _ (G_mul (w := wOf w) tk c1 rfl hs)
      rw [preR_preR] at z
      exact z
    · rw [ua_ne (by decide)]; exact c2
    · rw [ua_ne (by decide)]; exact c3.trans g3
    · rw [ua_ne (by decide)]; exact c5
    · rw [List.length_append, List.length_append]; simp only [List.length_cons, List.length_nil]; omega
    · rw [ua_same, c8, g8, List.length_append, List.length_append]; simp only [List.length_cons, List.length_nil]; omega
    · rw [emC_app, emC_app, ← g9, ← g8, ← c9, ← c8, emC_1]
      show _ = ua cd1 (f1 13) (encO (if tTok T n (pos T n j) = 42 then 5 else 6) 0)
      rw [eo]
  · have hx : CP T n N i (G T n u 1 o 0 (pos T n i)) f0 cd0 f1 cd1 := by
      refine ⟨fun k k2 k3 k8 k13 => (c0 k k2 k3 k8 k13).trans ((ua_ne k8).trans (g0 k k2 k3 k8 k13)), Or.inr ⟨q, ?_, c2, c3, c4, c5, c6⟩⟩
      have z := g1 _ (G_mulF (w := wOf w) tk c1 c2)
      rw [preR_f c2] at z
      exact z
    exact SuI_flw w0 (CP_e hx c2) (by rw [emf_k (by decide)]; exact c2)
end Su
