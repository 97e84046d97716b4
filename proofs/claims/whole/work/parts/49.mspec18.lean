def prL (x : Int) : List Int := if x = 0 then [] else [x]
def restL : List (Int × Int × Nat) → List Int
  | [] => []
  | g :: Fs => 40 :: pileL Fs g
theorem pileL_0 (Fs : List (Int × Int × Nat)) (w pr : Int) : pileL Fs (w, pr, 0) = prL pr ++ prL w ++ restL Fs := by
  cases Fs with
  | nil => simp [pileL, segL, prL, restL]
  | cons g Fs => simp [pileL, segL, prL, restL]
theorem opsN_w (Fs : List (Int × Int × Nat)) (w pr w' pr' : Int) (m : Nat) : opsN Fs (w, pr, m) = opsN Fs (w', pr', m) := by
  cases Fs with
  | nil => rfl
  | cons g Fs => rfl
theorem prL_map (x : Int) : (prL x).map (fun zz => (zz, (0 : Int))) = wlL x := by
  simp only [prL, wlL]
  split <;> rfl
theorem prL_len (x : Int) : (prL x).length = (wlL x).length := by rw [← prL_map, List.length_map]
theorem prL_mem {x y : Int} (h : y ∈ prL x) : y = x ∧ x ≠ 0 := by
  simp only [prL] at h
  split at h
  · simp at h
  · rename_i c; simp at h; exact ⟨h, c⟩
theorem restL_top {Fs : List (Int × Int × Nat)} {x : Int} {L2 : List Int} (h : restL Fs = x :: L2) : x = 40 := by
  cases Fs with
  | nil => simp [restL] at h
  | cons g Fs => simp only [restL] at h; exact (List.cons.inj h).1.symm
theorem settle3_c {w pr x : Int} {m : Nat} (h : shF (w, pr, m)) (hx : x ∈ prL pr ++ prL w) : 3 ≤ x ∧ x < 40 := by
  obtain ⟨h1, h2⟩ := h
  simp only at h1 h2
  rcases List.mem_append.mp hx with q | q
  · have := prL_mem q; omega
  · have := prL_mem q; omega
theorem settle5_c {w pr x : Int} {m : Nat} (h : shF (w, pr, m)) (hx : x ∈ prL pr) : 5 ≤ x ∧ x < 40 := by
  obtain ⟨h1, h2⟩ := h
  simp only at h1 h2
  have := prL_mem hx; omega
theorem settle5_L {Fs : List (Int × Int × Nat)} {w pr x : Int} {m : Nat} {L2 : List Int} (h : shF (w, pr, m)) (e : prL w ++ restL Fs = x :: L2) : ¬ (5 ≤ x ∧ x < 40) := by
  obtain ⟨h1, h2⟩ := h
  simp only at h1 h2
  simp only [prL] at e
  split at e
  · have := restL_top (by simpa using e); omega
  · simp only [List.cons_append] at e
    have := (List.cons.inj e).1
    omega
theorem Pile_mem {row : Int → Int} : ∀ {L : List Int} {pd : Int}, Pile row L pd → ∀ k, 0 ≤ k → k < pd → row k ∈ L
  | [], pd, h, k, k0, k1 => by simp only [Pile] at h; omega
  | x :: L, pd, h, k, k0, k1 => by
    by_cases c : k = pd - 1
    · rw [c, h.2.1]; simp
    · exact List.mem_cons_of_mem _ (Pile_mem h.2.2 k k0 (by omega))
theorem Pile_has {row : Int → Int} : ∀ {L : List Int} {pd x : Int}, Pile row L pd → x ∈ L → ∃ k, 0 ≤ k ∧ k < pd ∧ row k = x
  | [], pd, x, h, hx => by simp at hx
  | y :: L, pd, x, h, hx => by
    have hl := Pile_len h
    rcases List.mem_cons.mp hx with q | q
    · exact ⟨pd - 1, by have := h.1; omega, by omega, by rw [h.2.1, q]⟩
    · obtain ⟨k, k0, k1, k2⟩ := Pile_has h.2.2 q
      exact ⟨k, k0, by omega, k2⟩
theorem paren_iff {row : Int → Int} {Fs : List (Int × Int × Nat)} {w pr pd : Int} (h : shF (w, pr, 0)) (hP : Pile row (pileL Fs (w, pr, 0)) pd) : 0 ≤ findT (fun zz => decide (row zz = 40)) pd ↔ Fs ≠ [] := by
  have hl := Pile_len hP
  constructor
  · intro q e
    rcases findT_r (fun zz => decide (row zz = 40)) (n := pd) (by omega) with z | z
    · omega
    · have m := Pile_mem hP _ z.1 z.2.1
      have z2 := of_decide_eq_true z.2.2.1
      rw [z2, e, pileL_0] at m
      simp only [restL, List.append_nil] at m
      have := settle3_c h m
      omega
  · intro e
    rcases findT_r (fun zz => decide (row zz = 40)) (n := pd) (by omega) with z | z
    · cases Fs with
      | nil => exact absurd rfl e
      | cons g Fs =>
        obtain ⟨k, k0, k1, k2⟩ := Pile_has (x := 40) hP (by rw [pileL_0]; simp [restL])
        exact absurd k2 (of_decide_eq_false (z.2 k k0 k1))
    · exact z.1
theorem pileL_w {Fs : List (Int × Int × Nat)} {x : Int} (hx : x ≠ 0) : pileL Fs (x, 0, 0) = x :: restL Fs := by
  rw [pileL_0]
  simp [prL, hx]
theorem pileL_p {Fs : List (Int × Int × Nat)} {w x : Int} (hx : x ≠ 0) : pileL Fs (w, x, 0) = x :: (prL w ++ restL Fs) := by
  rw [pileL_0]
  simp [prL, hx]
section Iv
variable {T tx0 f0 f tx pl : Int → Int} {n u p0 o0 t0 wr0 p w pr o : Int} {m : Nat} {Fs : List (Int × Int × Nat)} {em : List (Int × Int)}
theorem IV_add {x : Int} (hT : ∀ k, 0 ≤ T k ∧ T k < 256) (I : IV T n u p0 o0 t0 wr0 tx0 f0 p w pr o m Fs em f tx pl) (h19 : f 19 = 1) (ht : tTok T n p = 43 ∨ tTok T n p = 45) (hx : x = if tTok T n p = 43 then 3 else 4) :
    IV T n u p0 o0 t0 wr0 tx0 f0 (tNx T n p) x 0 o 0 Fs (em ++ wlL pr ++ wlL w) (mTok (ua (ua (ua (ua f 17 (f 17 - (prL pr ++ prL w).length)) 14 (f 14 + (prL pr ++ prL w).length)) 17 (f 17 - (prL pr ++ prL w).length + 1)) 19 0) T) (emL tx t0 (f 14) ((prL pr ++ prL w).map fun zz => (zz, 0))) (ua pl (f 17 - (prL pr ++ prL w).length) x) := by
  obtain ⟨i1, i2, i3, i4, i5, i6, i7, i8, i9, i10, i11, i12, i13, i14, i15, i16⟩ := I
  have r := tok_r hT i1.1.2
  have m0 := i6 h19
  subst m0
  have x34 : x = 3 ∨ x = 4 := by rw [hx]; split <;> omega
  have hp := pileL_0 Fs w pr
  rw [hp] at i3 i13
  have hd := Pile_drop i3
  have hll : (prL pr ++ prL w).length = (wlL pr ++ wlL w).length := by rw [List.length_append, List.length_append, prL_len, prL_len]
  have hmm : ((prL pr ++ prL w).map fun zz => (zz, (0 : Int))) = wlL pr ++ wlL w := by rw [List.map_append, prL_map, prL_map]
  have hlen : (em ++ wlL pr ++ wlL w).length = em.length + (prL pr ++ prL w).length := by rw [List.append_assoc, List.length_append, hll]
  refine ⟨PS_nx hT (PS_ua (PS_ua (PS_ua (PS_ua i1 (by decide)) (by decide)) (by decide)) (by decide)), ?_, ?_, i4, Or.inl rfl, fun _ => rfl, ?_, ?_, i9, ⟨Or.inr x34, Or.inl rfl⟩, i11, by omega, ?_, ?_, ?_, AB_ua i16 (by omega)⟩
  · show f 14 + _ = _
    rw [hlen, i2]; omega
  · rw [pileL_w (by omega)]
    exact Pile_push hd
  · rw [hmm, i7, i2, List.append_assoc em, emL_app t0 em]
  · rw [i8]; rw [opsN_w Fs x 0 w pr 0]
  · rw [hlen, pileL_w (by omega), List.length_cons]
    rw [List.length_append] at i13
    omega
  · intro s h
    refine i14 s ?_
    rw [h19, if_pos rfl]
    rw [hx] at h
    exact EvS_add ht h
  · intro k hk
    rw [mTok_k (by omega), ua_ne (by omega), ua_ne (by omega), ua_ne (by omega), ua_ne (by omega)]
    exact i15 k hk
theorem IV_mul {x : Int} (hT : ∀ k, 0 ≤ T k ∧ T k < 256) (I : IV T n u p0 o0 t0 wr0 tx0 f0 p w pr o m Fs em f tx pl) (h19 : f 19 = 1) (ht : tTok T n p = 42 ∨ tTok T n p = 47) (hx : x = if tTok T n p = 42 then 5 else 6) :
    IV T n u p0 o0 t0 wr0 tx0 f0 (tNx T n p) w x o 0 Fs (em ++ wlL pr) (mTok (ua (ua (ua (ua f 17 (f 17 - (prL pr).length)) 14 (f 14 + (prL pr).length)) 17 (f 17 - (prL pr).length + 1)) 19 0) T) (emL tx t0 (f 14) ((prL pr).map fun zz => (zz, 0))) (ua pl (f 17 - (prL pr).length) x) := by
  obtain ⟨i1, i2, i3, i4, i5, i6, i7, i8, i9, i10, i11, i12, i13, i14, i15, i16⟩ := I
  have r := tok_r hT i1.1.2
  have m0 := i6 h19
  subst m0
  have x56 : x = 5 ∨ x = 6 := by rw [hx]; split <;> omega
  have hp := pileL_0 Fs w pr
  rw [hp, List.append_assoc] at i3 i13
  have hd := Pile_drop i3
  have hlen : (em ++ wlL pr).length = em.length + (prL pr).length := by rw [List.length_append, prL_len]
  refine ⟨PS_nx hT (PS_ua (PS_ua (PS_ua (PS_ua i1 (by decide)) (by decide)) (by decide)) (by decide)), ?_, ?_, i4, Or.inl rfl, fun _ => rfl, ?_, ?_, i9, ⟨i10.1, Or.inr x56⟩, i11, by omega, ?_, ?_, ?_, AB_ua i16 (by omega)⟩
  · show f 14 + _ = _
    rw [hlen, i2]; omega
  · rw [pileL_p (by omega)]
    exact Pile_push hd
  · rw [prL_map, i7, i2, emL_app]
  · rw [i8]; rw [opsN_w Fs w x w pr 0]
  · rw [hlen, pileL_p (by omega), List.length_cons]
    rw [List.length_append] at i13
    omega
  · intro s h
    refine i14 s ?_
    rw [h19, if_pos rfl]
    rw [hx] at h
    exact EvS_mul ht h
  · intro k hk
    rw [mTok_k (by omega), ua_ne (by omega), ua_ne (by omega), ua_ne (by omega), ua_ne (by omega)]
    exact i15 k hk
theorem IV_close {w1 p1 : Int} {m1 : Nat} {F1 : List (Int × Int × Nat)} (hT : ∀ k, 0 ≤ T k ∧ T k < 256) (I : IV T n u p0 o0 t0 wr0 tx0 f0 p w pr o m Fs em f tx pl) (h19 : f 19 = 1) (ht : tTok T n p = 41) (hF : Fs = (w1, p1, m1) :: F1) :
    IV T n u p0 o0 t0 wr0 tx0 f0 (tNx T n p) w1 p1 (o - 1 - m1) 0 F1 (em ++ wlL pr ++ wlL w ++ repN m1) (mTok (ua (ua (ua (ua (ua (ua (ua (ua f 17 (f 17 - (prL pr ++ prL w).length)) 14 (f 14 + (prL pr ++ prL w).length)) 17 (f 17 - (prL pr ++ prL w).length - 1)) 18 (f 18 - 1)) 19 1) 17 (f 17 - (prL pr ++ prL w).length - 1 - m1)) 18 (f 18 - 1 - m1)) 14 (f 14 + (prL pr ++ prL w).length + m1)) T) (emL (emL tx t0 (f 14) ((prL pr ++ prL w).map fun zz => (zz, 0))) t0 (f 14 + (prL pr ++ prL w).length) (repN m1)) pl := by
  obtain ⟨i1, i2, i3, i4, i5, i6, i7, i8, i9, i10, i11, i12, i13, i14, i15, i16⟩ := I
  have r := tok_r hT i1.1.2
  have m0 := i6 h19
  subst m0
  subst hF
  have hp := pileL_0 ((w1, p1, m1) :: F1) w pr
  rw [hp] at i3 i13
  have hd := Pile_drop i3
  have hm := (Pile_rep (m := m1) (L := pileL F1 (w1, p1, 0)) (by rw [← pileL_m]; exact hd.2.2)).1
  have hml : (pileL F1 (w1, p1, m1)).length = m1 + (pileL F1 (w1, p1, 0)).length := by rw [pileL_m, List.length_append, List.length_replicate]
  have hll : (prL pr ++ prL w).length = (wlL pr ++ wlL w).length := by rw [List.length_append, List.length_append, prL_len, prL_len]
  have hmm : ((prL pr ++ prL w).map fun zz => (zz, (0 : Int))) = wlL pr ++ wlL w := by rw [List.map_append, prL_map, prL_map]
  have hlen : (em ++ wlL pr ++ wlL w ++ repN m1).length = em.length + (prL pr ++ prL w).length + m1 := by rw [List.length_append, repN_len, List.append_assoc, List.length_append, hll]
  have hops : opsN ((w1, p1, m1) :: F1) (w, pr, 0) = 1 + m1 + opsN F1 (w1, p1, 0) := by
    have := opsN_m F1 w1 p1 m1
    simp only [opsN]
    omega
  have hsh := i11 (w1, p1, m1) (by simp)
  refine ⟨PS_nx hT (PS_ua (PS_ua (PS_ua (PS_ua (PS_ua (PS_ua (PS_ua (PS_ua i1 (by decide)) (by decide)) (by decide)) (by decide)) (by decide)) (by decide)) (by decide)) (by decide)), ?_, hm, ?_, Or.inr rfl, fun _ => rfl, ?_, ?_, by omega, ⟨hsh.1, hsh.2⟩, fun g hg => i11 g (List.mem_cons_of_mem _ hg), by omega, ?_, ?_, ?_, i16⟩
  · show f 14 + _ + _ = _
    rw [hlen, i2]; omega
  · show f 18 - 1 - _ = _
    rw [i4]
  · rw [hmm, i7, i2, List.append_assoc em, emL_app t0 (em ++ (wlL pr ++ wlL w)), emL_app t0 em, hll, show (em ++ (wlL pr ++ wlL w)).length = em.length + (wlL pr ++ wlL w).length from List.length_append]
    rw [show wr0 + ((em.length + (wlL pr ++ wlL w).length : Nat) : Int) = wr0 + em.length + (wlL pr ++ wlL w).length by omega]
  · rw [i8, hops]; omega
  · rw [hlen]
    rw [List.length_append] at i13
    simp only [restL, List.length_cons] at i13
    omega
  · intro s h
    refine i14 s ?_
    rw [h19, if_pos rfl]
    exact EvS_close ht h
  · intro k hk
    rw [mTok_k (by omega), ua_ne (by omega), ua_ne (by omega), ua_ne (by omega), ua_ne (by omega), ua_ne (by omega), ua_ne (by omega), ua_ne (by omega), ua_ne (by omega)]
    exact i15 k hk
end Iv
section Iv
variable {T tx0 f0 f tx pl : Int → Int} {n u p0 o0 t0 wr0 p w pr o : Int} {m : Nat} {Fs : List (Int × Int × Nat)} {em : List (Int × Int)}
theorem IV_end (I : IV T n u p0 o0 t0 wr0 tx0 f0 p w pr o m Fs em f tx pl) (h19 : f 19 = 1) (hg : ¬ (f 9 = 43 ∨ f 9 = 45 ∨ f 9 = 42 ∨ f 9 = 47 ∨ (f 9 = 41 ∧ 0 ≤ findT (fun zz => decide (pl zz = 40)) (f 17)))) (hF : (restL Fs).length = 0) :
    0 = (0 : Int) ∧ ∃ q em', G T n u 1 o0 0 p0 (0, q, em') ∧ PS T n q (ua (ua f 17 (f 17 - (prL pr ++ prL w).length)) 14 (f 14 + (prL pr ++ prL w).length)) ∧ ua (ua f 17 (f 17 - (prL pr ++ prL w).length)) 14 (f 14 + (prL pr ++ prL w).length) 14 = wr0 + em'.length ∧ ua (ua f 17 (f 17 - (prL pr ++ prL w).length)) 14 (f 14 + (prL pr ++ prL w).length) 18 = o0 ∧ emL tx t0 (f 14) ((prL pr ++ prL w).map fun zz => (zz, 0)) = emL tx0 t0 wr0 em' ∧ p0 ≤ q ∧ (em'.length : Int) ≤ q - p0 ∧ (∀ k, k < 7 ∨ k = 12 ∨ k = 20 ∨ k = 21 ∨ 22 ≤ k → ua (ua f 17 (f 17 - (prL pr ++ prL w).length)) 14 (f 14 + (prL pr ++ prL w).length) k = f0 k) ∧ AB pl := by
  obtain ⟨i1, i2, i3, i4, i5, i6, i7, i8, i9, i10, i11, i12, i13, i14, i15, i16⟩ := I
  have m0 := i6 h19
  subst m0
  have hn : Fs = [] := by
    cases Fs with
    | nil => rfl
    | cons g F => simp [restL] at hF
  subst hn
  have q5 := i1.2.2.2.2.1
  have hll : (prL pr ++ prL w).length = (wlL pr ++ wlL w).length := by rw [List.length_append, List.length_append, prL_len, prL_len]
  have hmm : ((prL pr ++ prL w).map fun zz => (zz, (0 : Int))) = wlL pr ++ wlL w := by rw [List.map_append, prL_map, prL_map]
  have hlen : (em ++ wlL pr ++ wlL w).length = em.length + (prL pr ++ prL w).length := by rw [List.append_assoc, List.length_append, hll]
  refine ⟨rfl, p, em ++ wlL pr ++ wlL w, EvB_top (i14 _ (by rw [h19, if_pos rfl]; exact EvS_end (by omega) (by omega) (by omega) (by omega))), PS_ua (PS_ua i1 (by decide)) (by decide), ?_, ?_, ?_, i12, ?_, ?_, i16⟩
  · show f 14 + _ = _
    rw [hlen, i2]; omega
  · show f 18 = o0
    simp [opsN] at i8
    omega
  · rw [hmm, i7, i2, List.append_assoc em, emL_app t0 em]
  · rw [hlen]
    rw [pileL_0, List.length_append] at i13
    omega
  · intro k hk
    rw [ua_ne (by omega), ua_ne (by omega)]
    exact i15 k hk
theorem IV_endF (I : IV T n u p0 o0 t0 wr0 tx0 f0 p w pr o m Fs em f tx pl) (h19 : f 19 = 1) (hg : ¬ (f 9 = 43 ∨ f 9 = 45 ∨ f 9 = 42 ∨ f 9 = 47 ∨ (f 9 = 41 ∧ 0 ≤ findT (fun zz => decide (pl zz = 40)) (f 17)))) (hF : 0 < (restL Fs).length) :
    IVF T n u p0 o0 t0 wr0 tx0 f0 1 (ua (ua f 17 (f 17 - (prL pr ++ prL w).length)) 14 (f 14 + (prL pr ++ prL w).length)) (emL tx t0 (f 14) ((prL pr ++ prL w).map fun zz => (zz, 0))) pl := by
  obtain ⟨i1, i2, i3, i4, i5, i6, i7, i8, i9, i10, i11, i12, i13, i14, i15, i16⟩ := I
  have m0 := i6 h19
  subst m0
  have q5 := i1.2.2.2.2.1
  have hne : Fs ≠ [] := by
    intro z
    rw [z] at hF
    simp [restL] at hF
  have hpa := (paren_iff ⟨i10.1, i10.2⟩ i3).mpr hne
  have hll : (prL pr ++ prL w).length = (wlL pr ++ wlL w).length := by rw [List.length_append, List.length_append, prL_len, prL_len]
  have hmm : ((prL pr ++ prL w).map fun zz => (zz, (0 : Int))) = wlL pr ++ wlL w := by rw [List.map_append, prL_map, prL_map]
  have hlen : (em ++ wlL pr ++ wlL w).length = em.length + (prL pr ++ prL w).length := by rw [List.append_assoc, List.length_append, hll]
  refine ⟨p, em ++ wlL pr ++ wlL w, EvB_top (i14 _ ?_), PS_ua (PS_ua i1 (by decide)) (by decide), ?_, i12, ?_, ?_, i16⟩
  · rw [h19, if_pos rfl]
    cases Fs with
    | nil => exact absurd rfl hne
    | cons g F => exact EvS_endF (by omega) (by omega) (by omega) (by omega) (by omega)
  · rw [hmm, i7, i2, List.append_assoc em, emL_app t0 em]
  · rw [hlen]
    rw [pileL_0, List.length_append] at i13
    omega
  · intro k hk
    rw [ua_ne (by omega), ua_ne (by omega)]
    exact i15 k hk
end Iv
