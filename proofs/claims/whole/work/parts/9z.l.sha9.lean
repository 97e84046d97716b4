/-! sharing: kept while nothing changes -/
section XIx
variable {Γ : Ctx} {B : Bs} {own nm : String} {cc : ByteArray} {nL : Nat} {ret : Option FieldType} {lev mc ms pc : Nat} {L : List (Option Value)} {st : List Value} {kc ks : Nat} {S : Stt} {V : Va}
theorem x_cVix {y : MethodName} {cc' : ByteArray} {nL' n index ci i z lev' : Nat} {ret' : Option FieldType} {As rest : List Value} {S1 : Stt} {P : Int → Va → Prop} (hm : MV y cc' nL' ret' n) (hl : Cond.methodLink own index y ∈ TB) (d : decode cc pc = .ok (.invokevirtual index, 3)) (hC : C B y cc' nL' ret' lev' 0 0 (vR B i :: As) S V (rIX S1 P)) (hs : S.1 i = (ci + 5, z)) (hi : i < S.2.2)
    (k : ∀ r V1, P r V1 → X Γ B own nm cc nL ret lev mc ms (pc + 3) L (vI r :: rest) kc ks S1 V1) (hst : st = As.reverse ++ vR B i :: rest := by rfl) (hci : ci < 12 := by decide) (hy : Rc ci = y.cls := by rfl) (hlev : lev' < lev := by decide) (hn : As.length = n := by rfl) (hrm : nL' ≤ 45 := by decide) (hsum : (rest.map fun v => v.category).sum ≤ 8 := by exact Nat.le_of_ble_eq_true rfl) (hf : kc + 0 ≤ mc ∧ ks + 0 ≤ ms := by exact ⟨Nat.le_of_ble_eq_true rfl, Nat.le_of_ble_eq_true rfl⟩) : X Γ B own nm cc nL ret lev mc ms pc L st kc ks S V :=
  x_callV hm hl d hC hs hi (fun v S' V' h => by obtain ⟨r, rfl, rfl, h1⟩ := h; exact k r V' h1) hst hlev hci hy hn hrm hsum hf
end XIx
theorem TwL_r {V : Va} {i t : Int} (h0 : 0 ≤ i) (h : TwL V i i t) : -1 ≤ t ∧ t < i := by
  rcases h with z | z
  · omega
  · omega
def ShE (a tx : Int → Int) (set : Int) (V : Va) : Prop := (∃ row, V 290 = mAr a tx set row (a 1).toNat) ∧ V 289 9 = mAc a tx set (a 1).toNat ∧ Best (fun z => a (30 + 6 * V 290 z)) (fun z => mBr a tx (V 290) z (V 289 9).toNat) (fun z => mMany a tx (a (30 + 6 * V 290 z))) (V 289 9) (V 289 13) (V 296)
def ShC (a tx : Int → Int) (V : Va) : Prop := V 289 11 = V 1 10 → 0 ≤ V 289 10 → (V 289 12 = if mAc a tx (V 289 10) (a 1).toNat ≤ 12 then 1 else 0) ∧ (mAc a tx (V 289 10) (a 1).toNat ≤ 12 → ShE a tx (V 289 10) V)
def ShK (V : Va) : Prop := InR (V 289 10) ∧ InR (V 289 11) ∧ (V 289 12 = 0 ∨ V 289 12 = 1) ∧ V 289 11 ≤ V 1 10
def FrS (V V' : Va) : Prop := ∀ q : Nat, q < 287 ∨ 296 < q → V' q = V q
theorem Best_cg {a tx s s' g g' : Int → Int} {n m : Int} (hs : s = s') (hb : Best (fun z => a (30 + 6 * s z)) (fun z => mBr a tx s z n.toNat) (fun z => mMany a tx (a (30 + 6 * s z))) n m g) (hg : g = g') : Best (fun z => a (30 + 6 * s' z)) (fun z => mBr a tx s' z n.toNat) (fun z => mMany a tx (a (30 + 6 * s' z))) n m g' := by subst hs; subst hg; exact hb
theorem share_no {a tx : Int → Int} {t : Int} {V V0 W1 V1 : Va} (ht : 0 ≤ t ∧ t < 1024) (hch : 0 ≤ V 1 10 ∧ V 1 10 ≤ 1000000) (e0 : V0 = up V 289 (ua (ua (V 289) 10 t) 11 (V 1 10))) (f1 : ∀ q : Nat, q < 287 ∨ 290 < q → W1 q = V0 q) (g1 : ∀ k, k ≠ 9 → W1 289 k = V0 289 k) (e1 : V1 = up W1 289 (ua (W1 289) 12 (if mAc a tx (V0 289 10) (a 1).toNat ≤ 12 then 1 else 0))) (hn : ¬ mAc a tx t (a 1).toNat ≤ 12) : FrS V V1 ∧ ShC a tx V1 ∧ ShK V1 := by
  have s10 : V0 289 10 = t := by rw [e0]; rfl
  have v10 : V1 289 10 = t := by rw [e1]; show W1 289 10 = t; rw [g1 10 (by omega)]; exact s10
  have v11 : V1 289 11 = V 1 10 := by rw [e1]; show W1 289 11 = _; rw [g1 11 (by omega), e0]; rfl
  have v12 : V1 289 12 = if mAc a tx t (a 1).toNat ≤ 12 then 1 else 0 := by rw [e1, s10]; rfl
  refine ⟨fun q hq => ?_, fun _ _ => ?_, ?_, ?_, ?_, ?_⟩
  · rw [e1, up_ne (by omega), f1 q (by omega), e0, up_ne (by omega)]
  · rw [v10]
    exact ⟨v12, fun z => absurd z hn⟩
  · rw [v10]; exact inr (by omega)
  · rw [v11]; exact inr (by omega)
  · rw [v12, if_neg hn]; exact Or.inl rfl
  · rw [v11, show V1 1 = V 1 by rw [e1, up_ne (by omega), f1 1 (by omega), e0, up_ne (by omega)]]; exact Int.le_refl _
theorem share_fin {a tx : Int → Int} {t most : Int} {V V0 W1 V1 W2 W3 W4 : Va} {tw h g : Int → Int} (ht : 0 ≤ t ∧ t < 1024) (hch : 0 ≤ V 1 10 ∧ V 1 10 ≤ 1000000) (e0 : V0 = up V 289 (ua (ua (V 289) 10 t) 11 (V 1 10))) (f1 : ∀ q : Nat, q < 287 ∨ 290 < q → W1 q = V0 q) (g1 : ∀ k, k ≠ 9 → W1 289 k = V0 289 k) (h1 : W1 289 9 = mAc a tx t (a 1).toNat ∧ W1 290 = mAr a tx t (V0 290) (a 1).toNat) (e1 : V1 = up W1 289 (ua (W1 289) 12 (if mAc a tx (V0 289 10) (a 1).toNat ≤ 12 then 1 else 0))) (hn : mAc a tx t (a 1).toNat ≤ 12)
    (f2 : ∀ q : Nat, q < 287 ∨ 294 < q ∨ q = 289 ∨ q = 290 → W2 q = V1 q) (e3 : W3 = up W2 295 tw) (e4 : W4 = up (up (up W3 289 (ua (W3 289) 13 most)) 293 h) 296 g) (hb : Best (fun z => a (30 + 6 * V1 290 z)) (fun z => mBr a tx (V1 290) z (W3 289 9).toNat) (fun z => mMany a tx (a (30 + 6 * V1 290 z))) (W3 289 9) most g) : FrS V W4 ∧ ShC a tx W4 ∧ ShK W4 ∧ ShE a tx t W4 := by
  have s10 : V0 289 10 = t := by rw [e0]; rfl
  have w3 : ∀ q : Nat, q < 287 ∨ 296 < q ∨ q = 289 ∨ q = 290 → W3 q = V1 q := fun q hq => by rw [e3, up_ne (by omega)]; exact f2 q (by omega)
  have w4 : ∀ k, k ≠ 13 → W4 289 k = V1 289 k := fun k hk => by
    rw [e4]
    show ua (W3 289) 13 most k = _
    rw [ua_ne hk, w3 289 (by omega)]
  have v10 : W4 289 10 = t := by rw [w4 10 (by omega), e1]; show W1 289 10 = t; rw [g1 10 (by omega)]; exact s10
  have v11 : W4 289 11 = V 1 10 := by rw [w4 11 (by omega), e1]; show W1 289 11 = _; rw [g1 11 (by omega), e0]; rfl
  have v12 : W4 289 12 = if mAc a tx t (a 1).toNat ≤ 12 then 1 else 0 := by rw [w4 12 (by omega), e1, s10]; rfl
  have v9 : W4 289 9 = V1 289 9 := w4 9 (by omega)
  have n9 : V1 289 9 = mAc a tx t (a 1).toNat := by rw [e1]; show W1 289 9 = _; exact h1.1
  have v13 : W4 289 13 = most := by rw [e4]; rfl
  have v290 : W4 290 = V1 290 := by rw [e4, up_ne (by omega), up_ne (by omega), up_ne (by omega), w3 290 (by omega)]
  have v296 : W4 296 = g := by rw [e4]; rfl
  have E : ShE a tx t W4 := by
    refine ⟨⟨V0 290, ?_⟩, by rw [v9, n9], ?_⟩
    · rw [v290, e1, up_ne (by omega)]; exact h1.2
    · rw [w3 289 (by omega)] at hb
      rw [v13, v9]
      exact Best_cg v290.symm hb v296.symm
  refine ⟨fun q hq => ?_, fun _ _ => ?_, ⟨?_, ?_, ?_, ?_⟩, E⟩
  · rw [e4, up_ne (by omega), up_ne (by omega), up_ne (by omega), w3 q (by omega), e1, up_ne (by omega), f1 q (by omega), e0, up_ne (by omega)]
  · rw [v10]
    exact ⟨v12, fun _ => E⟩
  · rw [v10]; exact inr (by omega)
  · rw [v11]; exact inr (by omega)
  · rw [v12, if_pos hn]; exact Or.inr rfl
  · rw [v11, show W4 1 = V 1 by rw [e4, up_ne (by omega), up_ne (by omega), up_ne (by omega), w3 1 (by omega), e1, up_ne (by omega), f1 1 (by omega), e0, up_ne (by omega)]]; exact Int.le_refl _
theorem SaR_no {a tx : Int → Int} {set bone : Int} (h : ¬ (0 ≤ set ∧ set ≤ p2 (a 0) - 1 ∧ (bone = -1 ∨ mBoneOk a bone) ∧ mAc a tx set (a 1).toNat ≤ 12)) : SaR a tx set bone (-2) := by
  simp only [SaR]
  rw [if_neg h]
  trivial
theorem SaR_yes {a tx : Int → Int} {set bone r : Int} {V : Va} (h : 0 ≤ set ∧ set ≤ p2 (a 0) - 1 ∧ (bone = -1 ∨ mBoneOk a bone) ∧ mAc a tx set (a 1).toNat ≤ 12) (hE : ShE a tx set V) (hr : r = if bone = -1 then V 289 13 else soV V bone) : SaR a tx set bone r := by
  simp only [SaR]
  rw [if_pos h]
  obtain ⟨⟨row, e1⟩, e2, e3⟩ := hE
  rw [e2, e1] at e3
  refine ⟨row, V 289 13, V 296, e3, ?_⟩
  rw [hr]
  simp only [soV]
  rw [e1, e2]
theorem Full_k {kd kd' br my g : Int → Int} {n most : Int} (e : ∀ i, 0 ≤ i → i < n → kd i = kd' i) (h : Full kd br my n most g) : Full kd' br my n most g := fun i i0 i1 => by
  obtain ⟨h1, h2, h3, h4, h5⟩ := h i i0 i1
  refine ⟨h1, h2, h3, h4, ?_⟩
  have q : canC kd' g i (g i) i = canC kd g i (g i) i := sumT_c (fun k k0 k1 => by rw [e k k0 (by omega), e i i0 i1])
  rw [q]; exact h5
theorem Best_k {kd kd' br my g : Int → Int} {n most : Int} (n0 : 0 ≤ n) (e : ∀ i, 0 ≤ i → i < n → kd i = kd' i) (b : Best kd br my n most g) : Best kd' br my n most g :=
  ⟨b.1, fun m m0 m1 f hf => b.2.1 m m0 m1 f (Full_k (fun i i0 i1 => (e i i0 i1).symm) hf), Full_k e b.2.2.1, fun f hf => b.2.2.2 f (Full_k (fun i i0 i1 => (e i i0 i1).symm) hf)⟩
theorem mAr_cg (a tx : Int → Int) (set : Int) (r r' : Int → Int) : ∀ (b : Nat) (i : Int), 0 ≤ i → i < mAc a tx set b → mAr a tx set r b i = mAr a tx set r' b i
  | 0, i, h0, h1 => by simp only [mAc] at h1; omega
  | b + 1, i, h0, h1 => by
    simp only [mAc] at h1
    simp only [mAr]
    split at h1
    · rename_i c
      rw [if_pos c, if_pos c]
      by_cases e : i = mAc a tx set b
      · rw [e, ua_same, ua_same]
      · rw [ua_ne e, ua_ne e]
        exact mAr_cg a tx set r r' b i h0 (by omega)
    · rename_i c
      rw [if_neg c, if_neg c]
      exact mAr_cg a tx set r r' b i h0 h1
theorem mBr_cg {a tx s s' : Int → Int} {i : Int} : ∀ (k : Nat), (∀ z, 0 ≤ z → z < (k : Int) → s z = s' z) → s i = s' i → mBr a tx s i k = mBr a tx s' i k
  | 0, _, _ => rfl
  | k + 1, h, hi => by
    simp only [mBr]
    rw [mBr_cg k (fun z z0 z1 => h z z0 (by omega)) hi, h k (by omega) (by omega), hi]
theorem Best_row {a tx s s' g : Int → Int} {n m : Int} (n0 : 0 ≤ n) (e : ∀ z, 0 ≤ z → z < n → s z = s' z) (hb : Best (fun z => a (30 + 6 * s z)) (fun z => mBr a tx s z n.toNat) (fun z => mMany a tx (a (30 + 6 * s z))) n m g) : Best (fun z => a (30 + 6 * s' z)) (fun z => mBr a tx s' z n.toNat) (fun z => mMany a tx (a (30 + 6 * s' z))) n m g := by
  have h1 : Best (fun z => a (30 + 6 * s z)) (fun z => mBr a tx s' z n.toNat) (fun z => mMany a tx (a (30 + 6 * s' z))) n m g := Best_c (fun i i0 i1 => mBr_cg n.toNat (fun z z0 z1 => e z z0 (by omega)) (e i i0 i1)) (fun i i0 i1 => by show mMany a tx (a (30 + 6 * s i)) = mMany a tx (a (30 + 6 * s' i)); rw [e i i0 i1]) hb
  exact Best_k n0 (fun i i0 i1 => by show a (30 + 6 * s i) = a (30 + 6 * s' i); rw [e i i0 i1]) h1
theorem SaR_det {a tx : Int → Int} {set bone r s : Int} (h : SaR a tx set bone r) (g : SaR a tx set bone s) : r = s := by
  simp only [SaR] at h g
  by_cases c : 0 ≤ set ∧ set ≤ p2 (a 0) - 1 ∧ (bone = -1 ∨ mBoneOk a bone) ∧ mAc a tx set (a 1).toNat ≤ 12
  · rw [if_pos c] at h g
    obtain ⟨row, m, f, h1, h2⟩ := h
    obtain ⟨row', m', f', g1, g2⟩ := g
    have er : ∀ z, 0 ≤ z → z < mAc a tx set (a 1).toNat → mAr a tx set row (a 1).toNat z = mAr a tx set row' (a 1).toNat z := fun z z0 z1 => mAr_cg a tx set row row' _ z z0 z1
    have fe : findT (fun i => decide (mAr a tx set row (a 1).toNat i = bone)) (mAc a tx set (a 1).toNat) = findT (fun i => decide (mAr a tx set row' (a 1).toNat i = bone)) (mAc a tx set (a 1).toNat) := findT_c (fun j j0 j1 => by rw [er j j0 j1])
    have g1' := Best_row (a := a) (tx := tx) (mAc_r a tx set _).1 (fun z z0 z1 => (er z z0 z1).symm) g1
    have y := Best_eq h1 g1'
    rw [h2, g2, fe]
    by_cases d : bone = -1
    · rw [if_pos d, if_pos d]; exact y.1
    · rw [if_neg d, if_neg d]
      by_cases w : findT (fun i => decide (mAr a tx set row' (a 1).toNat i = bone)) (mAc a tx set (a 1).toNat) < 0
      · rw [if_pos w, if_pos w]
      · rw [if_neg w, if_neg w]
        rcases findT_r (fun i => decide (mAr a tx set row' (a 1).toNat i = bone)) (mAc_r a tx set (a 1).toNat).1 with q | q
        · omega
        · exact y.2 _ q.1 q.2.1
  · rw [if_neg c] at h g
    rw [h, g]
