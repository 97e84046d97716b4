theorem pileL_m (Fs : List (Int × Int × Nat)) (w pr : Int) (m : Nat) : pileL Fs (w, pr, m) = List.replicate m 2 ++ pileL Fs (w, pr, 0) := by
  cases Fs with
  | nil => simp [pileL, segL]
  | cons g Fs => simp [pileL, segL]
theorem pileL_n2 {Fs : List (Int × Int × Nat)} {w pr : Int} (h : shF (w, pr, 0)) (L2 : List Int) : pileL Fs (w, pr, 0) ≠ 2 :: L2 := by
  intro e
  obtain ⟨h1, h2⟩ := h
  simp only at h1 h2
  cases Fs with
  | nil =>
    simp only [pileL, segL, List.replicate_zero, List.nil_append] at e
    by_cases a : pr = 0
    · rw [if_pos a] at e
      by_cases b : w = 0
      · rw [if_pos b] at e; simp at e
      · rw [if_neg b] at e; simp at e; omega
    · rw [if_neg a] at e; simp at e; omega
  | cons g Fs =>
    simp only [pileL, segL, List.replicate_zero, List.nil_append] at e
    by_cases a : pr = 0
    · rw [if_pos a] at e
      by_cases b : w = 0
      · rw [if_pos b] at e; simp at e
      · rw [if_neg b] at e; simp at e; omega
    · rw [if_neg a] at e; simp at e; omega
theorem opsN_m (Fs : List (Int × Int × Nat)) (w pr : Int) (m : Nat) : opsN Fs (w, pr, m) = m + opsN Fs (w, pr, 0) := by
  cases Fs with
  | nil => simp [opsN]
  | cons g Fs => simp only [opsN]; omega
section Iv
variable {T tx0 f0 f tx pl : Int → Int} {n u p0 o0 t0 wr0 p w pr o : Int} {m : Nat} {Fs : List (Int × Int × Nat)} {em : List (Int × Int)}
/-- a number or a name: the one is whole, its minuses are written -/
theorem IV_one {c1 c2 : Int} (hT : ∀ k, 0 ≤ T k ∧ T k < 256) (I : IV T n u p0 o0 t0 wr0 tx0 f0 p w pr o m Fs em f tx pl) (h19 : f 19 = 0) (g : G T n u 0 o 0 p (0, tNx T n p, [(c1, c2)])) (ht : tTok T n p ≠ 0) (hc1 : -1 ≤ c1 ∧ c1 < 65536) (hc2 : -1 ≤ c2 ∧ c2 < 65536) :
    IV T n u p0 o0 t0 wr0 tx0 f0 (tNx T n p) w pr (o - m) 0 Fs (em ++ [(c1, c2)] ++ repN m) (ua (ua (ua (ua (mTok (ua f 14 (f 14 + 1)) T) 19 1) 17 (f 17 - m)) 18 (f 18 - m)) 14 (f 14 + 1 + m)) (emL (ua (ua tx (t0 + 100 + 2 * f 14) c1) (t0 + 100 + 2 * f 14 + 1) c2) t0 (f 14 + 1) (repN m)) pl := by
  obtain ⟨i1, i2, i3, i4, i5, i6, i7, i8, i9, i10, i11, i12, i13, i14, i15, i16⟩ := I
  have r := tok_r hT i1.1.2
  have e19 : ua (ua (ua (ua (mTok (ua f 14 (f 14 + 1)) T) 19 1) 17 (f 17 - m)) 18 (f 18 - m)) 14 (f 14 + 1 + m) 19 = 1 := rfl
  have e17 : ua (ua (ua (ua (mTok (ua f 14 (f 14 + 1)) T) 19 1) 17 (f 17 - m)) 18 (f 18 - m)) 14 (f 14 + 1 + m) 17 = f 17 - m := rfl
  have e18 : ua (ua (ua (ua (mTok (ua f 14 (f 14 + 1)) T) 19 1) 17 (f 17 - m)) 18 (f 18 - m)) 14 (f 14 + 1 + m) 18 = f 18 - m := rfl
  have e14 : ua (ua (ua (ua (mTok (ua f 14 (f 14 + 1)) T) 19 1) 17 (f 17 - m)) 18 (f 18 - m)) 14 (f 14 + 1 + m) 14 = f 14 + 1 + m := rfl
  have hp := pileL_m Fs w pr m
  have hpl : (pileL Fs (w, pr, m)).length = m + (pileL Fs (w, pr, 0)).length := by rw [hp, List.length_append, List.length_replicate]
  have hlen : (em ++ [(c1, c2)] ++ repN m).length = em.length + 1 + m := by simp [repN_len]; omega
  refine ⟨PS_ua (PS_ua (PS_ua (PS_ua (PS_nx hT (PS_ua i1 (by decide))) (by decide)) (by decide)) (by decide)) (by decide), ?_, ?_, ?_, ?_, fun _ => rfl, ?_, ?_, by omega, ⟨i10.1, i10.2⟩, i11, by omega, ?_, ?_, ?_, i16⟩
  · rw [e14, hlen, i2]; omega
  · rw [e17]; rw [hp] at i3; exact (Pile_rep i3).1
  · rw [e18, i4]
  · rw [e19]; exact Or.inr rfl
  · rw [List.append_assoc, emL_app, ← i7, emL_app, emL_1 _ _ _ _ _ hc1 hc2, ← i2]
    simp only [List.length_cons, List.length_nil]
    rfl
  · have := opsN_m Fs w pr m; omega
  · rw [hlen]; omega
  · intro s h
    rw [e19, if_pos rfl] at h
    refine i14 s ?_
    rw [h19, if_neg (by decide)]
    exact EvB_ok g h
  · intro k hk
    rw [ua_ne (by omega), ua_ne (by omega), ua_ne (by omega), ua_ne (by omega), mTok_k (by omega), ua_ne (by omega)]
    exact i15 k hk
theorem IV_neg (hT : ∀ k, 0 ≤ T k ∧ T k < 256) (I : IV T n u p0 o0 t0 wr0 tx0 f0 p w pr o m Fs em f tx pl) (h19 : f 19 = 0) (ht : tTok T n p = 45) (hn : tNm T n p < 0) (ho : f 18 ≠ 8) :
    IV T n u p0 o0 t0 wr0 tx0 f0 (tNx T n p) w pr (o + 1) (m + 1) Fs em (mTok (ua (ua f 18 (f 18 + 1)) 17 (f 17 + 1)) T) tx (ua pl (f 17) 2) := by
  obtain ⟨i1, i2, i3, i4, i5, i6, i7, i8, i9, i10, i11, i12, i13, i14, i15, i16⟩ := I
  have r := tok_r hT i1.1.2
  have hp := pileL_m Fs w pr m
  have hp1 : pileL Fs (w, pr, m + 1) = 2 :: pileL Fs (w, pr, m) := by rw [pileL_m Fs w pr (m + 1), hp]; rfl
  refine ⟨PS_nx hT (PS_ua (PS_ua i1 (by decide)) (by decide)), i2, ?_, ?_, Or.inl h19, ?_, i7, ?_, by omega, ⟨i10.1, i10.2⟩, i11, by omega, ?_, ?_, ?_, AB_ua i16 (by omega)⟩
  · rw [hp1]; exact Pile_push i3
  · show f 18 + 1 = o + 1; rw [i4]
  · intro z; exact absurd ((show f 19 = 1 from z)) (by omega)
  · have h1 := opsN_m Fs w pr m; have h2 := opsN_m Fs w pr (m + 1); omega
  · rw [hp1, List.length_cons]; omega
  · intro s h
    rw [if_neg (show ¬ mTok (ua (ua f 18 (f 18 + 1)) 17 (f 17 + 1)) T 19 = 1 from (show ¬ f 19 = 1 by omega))] at h
    refine i14 s ?_
    rw [h19, if_neg (by decide)]
    exact EvB_neg ht hn (by omega) h
  · intro k hk
    rw [mTok_k (by omega), ua_ne (by omega), ua_ne (by omega)]
    exact i15 k hk
theorem IV_par (hT : ∀ k, 0 ≤ T k ∧ T k < 256) (I : IV T n u p0 o0 t0 wr0 tx0 f0 p w pr o m Fs em f tx pl) (h19 : f 19 = 0) (ht : tTok T n p = 40) (hn : tNm T n p < 0) (ho : f 18 ≠ 8) :
    IV T n u p0 o0 t0 wr0 tx0 f0 (tNx T n p) 0 0 (o + 1) 0 ((w, pr, m) :: Fs) em (mTok (ua (ua f 18 (f 18 + 1)) 17 (f 17 + 1)) T) tx (ua pl (f 17) 40) := by
  obtain ⟨i1, i2, i3, i4, i5, i6, i7, i8, i9, i10, i11, i12, i13, i14, i15, i16⟩ := I
  have r := tok_r hT i1.1.2
  have hp1 : pileL ((w, pr, m) :: Fs) (0, 0, 0) = 40 :: pileL Fs (w, pr, m) := rfl
  refine ⟨PS_nx hT (PS_ua (PS_ua i1 (by decide)) (by decide)), i2, ?_, ?_, Or.inl h19, ?_, i7, ?_, by omega, ⟨Or.inl rfl, Or.inl rfl⟩, ?_, by omega, ?_, ?_, ?_, AB_ua i16 (by omega)⟩
  · rw [hp1]; exact Pile_push i3
  · show f 18 + 1 = o + 1; rw [i4]
  · intro z; exact absurd ((show f 19 = 1 from z)) (by omega)
  · simp only [opsN]; omega
  · intro g hg
    rcases List.mem_cons.mp hg with z | z
    · rw [z]; exact i10
    · exact i11 g z
  · rw [hp1, List.length_cons]; omega
  · intro s h
    rw [if_neg (show ¬ mTok (ua (ua f 18 (f 18 + 1)) 17 (f 17 + 1)) T 19 = 1 from (show ¬ f 19 = 1 by omega))] at h
    refine i14 s ?_
    rw [h19, if_neg (by decide)]
    exact EvB_par ht hn (by omega) h
  · intro k hk
    rw [mTok_k (by omega), ua_ne (by omega), ua_ne (by omega)]
    exact i15 k hk
/-- a FAULT -/
def IVF (T : Int → Int) (n u p0 o0 t0 wr0 : Int) (tx0 f0 : Int → Int) (r : Int) (f tx pl : Int → Int) : Prop := ∃ q em, G T n u 1 o0 0 p0 (r, q, []) ∧ PS T n q f ∧ tx = emL tx0 t0 wr0 em ∧ p0 ≤ q ∧ (em.length : Int) ≤ q - p0 ∧ (∀ k, k < 7 ∨ k = 12 ∨ k = 20 ∨ k = 21 ∨ 22 ≤ k → f k = f0 k) ∧ AB pl
theorem IV_fault {r : Int} (I : IV T n u p0 o0 t0 wr0 tx0 f0 p w pr o m Fs em f tx pl) (h19 : f 19 = 0) (g : G T n u 0 o 0 p (r, p, [])) (hr : r ≠ 0) : IVF T n u p0 o0 t0 wr0 tx0 f0 r f tx pl := by
  obtain ⟨i1, i2, i3, i4, i5, i6, i7, i8, i9, i10, i11, i12, i13, i14, i15, i16⟩ := I
  refine ⟨p, em, EvB_top (i14 _ ?_), i1, i7, i12, by omega, i15, i16⟩
  rw [h19, if_neg (by decide)]
  exact EvB_f g hr
def IVP (T : Int → Int) (n u p0 o0 t0 wr0 : Int) (tx0 f0 : Int → Int) (z r : Int) (f tx pl : Int → Int) : Prop := (r = 0 ∧ ∃ p w pr o m Fs em, z < p ∧ IV T n u p0 o0 t0 wr0 tx0 f0 p w pr o m Fs em f tx pl) ∨ (r ≠ 0 ∧ r < 10 ∧ 0 ≤ r ∧ IVF T n u p0 o0 t0 wr0 tx0 f0 r f tx pl)
end Iv
/-- an answer and the reader's three rows -/
def rP3 (S : Stt) (V : Va) (P : Int → (Int → Int) → (Int → Int) → (Int → Int) → Prop) : Option Value → Stt → Va → Prop := fun v S' V' => ∃ r f tx pl, P r f tx pl ∧ some (vI r) = v ∧ S = S' ∧ up (up (up V 308 f) 311 tx) 313 pl = V'
section XP
variable {Γ : Ctx} {B : Bs} {own nm : String} {cc : ByteArray} {nL : Nat} {ret : Option FieldType} {lev mc ms pc : Nat} {L : List (Option Value)} {st : List Value} {kc ks : Nat} {S : Stt} {V : Va}
theorem x_cVi3 {y : MethodName} {cc' : ByteArray} {nL' n index ci i z lev' : Nat} {ret' : Option FieldType} {As rest : List Value} {S1 : Stt} {V1 : Va} {P : Int → (Int → Int) → (Int → Int) → (Int → Int) → Prop} (hm : MV y cc' nL' ret' n) (hl : Cond.methodLink own index y ∈ TB) (d : decode cc pc = .ok (.invokevirtual index, 3)) (hC : C B y cc' nL' ret' lev' 0 0 (vR B i :: As) S V (rP3 S1 V1 P)) (hs : S.1 i = (ci + 5, z)) (hi : i < S.2.2)
    (k : ∀ r f tx pl, P r f tx pl → X Γ B own nm cc nL ret lev mc ms (pc + 3) L (vI r :: rest) kc ks S1 (up (up (up V1 308 f) 311 tx) 313 pl)) (hst : st = As.reverse ++ vR B i :: rest := by rfl) (hci : ci < 12 := by decide) (hy : Rc ci = y.cls := by rfl) (hlev : lev' < lev := by decide) (hn : As.length = n := by rfl) (hrm : nL' ≤ 45 := by decide) (hsum : (rest.map fun v => v.category).sum ≤ 8 := by exact Nat.le_of_ble_eq_true rfl) (hf : kc + 0 ≤ mc ∧ ks + 0 ≤ ms := by exact ⟨Nat.le_of_ble_eq_true rfl, Nat.le_of_ble_eq_true rfl⟩) : X Γ B own nm cc nL ret lev mc ms pc L st kc ks S V :=
  x_callV hm hl d hC hs hi (fun v S' V' h => by obtain ⟨r, f, tx, pl, h1, rfl, rfl, rfl⟩ := h; exact k r f tx pl h1) hst hlev hci hy hn hrm hsum hf
end XP
theorem nmOf_2 {t w : Int} (h : 0 ≤ nmOf t w) : t = 2 := by
  by_cases c : t = 2
  · exact c
  · simp only [nmOf] at h
    rw [if_pos c] at h
    omega
/-- what summed answers -/
def SuP (T : Int → Int) (n u p0 o0 t0 wr0 : Int) (tx0 f0 : Int → Int) (r : Int) (f tx pl : Int → Int) : Prop := (r = 0 ∧ ∃ q em, G T n u 1 o0 0 p0 (0, q, em) ∧ PS T n q f ∧ f 14 = wr0 + em.length ∧ f 18 = o0 ∧ tx = emL tx0 t0 wr0 em ∧ p0 ≤ q ∧ (em.length : Int) ≤ q - p0 ∧ (∀ k, k < 7 ∨ k = 12 ∨ k = 20 ∨ k = 21 ∨ 22 ≤ k → f k = f0 k) ∧ AB pl) ∨ (r ≠ 0 ∧ r < 10 ∧ 0 ≤ r ∧ IVF T n u p0 o0 t0 wr0 tx0 f0 r f tx pl)
theorem IV_start {T f pl tx : Int → Int} {n p : Int} (h : PS T n p f) (h18 : f 18 ≤ 8) (hp : AB pl) : IV T n (f 20) p (f 18) (f 12) (f 14) tx f p 0 0 (f 18) 0 [] [] (ua (ua f 17 0) 19 0) tx pl := by
  refine ⟨PS_ua (PS_ua h (by decide)) (by decide), ?_, rfl, rfl, Or.inl rfl, fun _ => rfl, rfl, ?_, h18, ⟨Or.inl rfl, Or.inl rfl⟩, fun g hg => by simp at hg, by omega, ?_, ?_, ?_, hp⟩
  · show f 14 = _; simp
  · simp [opsN]
  · simp [pileL, segL]
  · intro r h
    exact h
  · intro k hk
    rw [ua_ne (by omega), ua_ne (by omega)]
