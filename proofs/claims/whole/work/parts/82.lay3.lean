/-! a TEXT is put into a row of TEXTS -/
section XTa
variable {Γ : Ctx} {B : Bs} {own nm : String} {cc : ByteArray} {nL : Nat} {ret : Option FieldType} {lev mc ms pc : Nat} {L : List (Option Value)} {st : List Value} {kc ks : Nat} {S : Stt} {V : Va}
theorem ofQ_uq {f : Int → Option Nat} {k : Int} {r : Option Nat} {b : Nat} (h0 : 0 ≤ k) : (fun j : Nat => (uq f k r j).map (b + ·)) = va_up (fun j : Nat => (f j).map (b + ·)) k.toNat (r.map (b + ·)) := by
  funext j
  by_cases h : (j : Int) = k
  · have h2 : j = k.toNat := by omega
    simp only [uq, va_up, if_pos h, if_pos h2]
  · have h2 : ¬ j = k.toNat := by omega
    simp only [uq, va_up, if_neg h, if_neg h2]
theorem x_tast {i j n z : Nat} {k : Int} (hs : S.1 i = (3, n)) (hi : i < S.2.2) (h0 : 0 ≤ k) (hk : k < n) (hsj : S.1 j = (13, z)) (hj : j < S.2.2) (d : decode cc pc = .ok (.aastore, 1)) (kk : X Γ B own nm cc nL ret lev mc ms (pc + 1) L st kc ks (sq2 S i k (some j)) V) (hn : n < 2147483648 := by decide) : X Γ B own nm cc nL ret lev mc ms pc L (vR B j :: vI k :: vR B i :: st) kc ks S V := by
  obtain ⟨p, l, e, R, s, m, args, below, meth, c, Q, D, ca⟩ := Γ
  intro o H locs ls h1 h2 h3
  have hr : InR k := ⟨by omega, by omega⟩
  have hin := iI_in hn h0 hk
  have hK := o.2.2.2.2.2.2.2.2.1
  have hlt : (Int32.ofInt k).toNatClampNeg < n := Nat.not_le.mp fun q => hin (Or.inr q)
  have hneg : ¬ Int32.ofInt k < 0 := fun q => hin (Or.inl q)
  have he : (wl B ca S V)[i]? = some (B.1 + i, .inl (ca 3, n, .inr (.inr (.inr (.inr fun q : Nat => (S.2.1 i q).map (B.1 + ·)))))) := by rw [wl_get hi, cE_t hs]
  have hv : (wl B ca S V)[j]? = some (B.1 + j, .inr (8, fsL B S V j 8)) := by rw [wl_get hj, cE_o (ci := 8) hsj]
  have hc := cls_at 8 (by decide)
  obtain ⟨r', hr', cellV, g1, g2, g3, -⟩ := h1.2 j _ hv
  have hcls := (hK.1 8 _ hc).2
  obtain ⟨kA, comp, k1, k2, k3, -⟩ := (hK.2 3 _ rfl).2
  have hcomp : comp = D.1 8 := Option.some.inj (k3.symm.trans hcls.1)
  subst hcomp
  obtain ⟨kC, hkC, -⟩ := hcls.2
  refine W.aast o.1 o.2.1 (h1.2 i _ he) (fun q h => by cases h) (fun h => by cases h) k1 k2 rfl hkC ⟨hneg, by show _ < (arrV _ _ _).slots.size; rw [arrV_size]; exact hlt⟩ g1 (fun q h => by rw [g3] at h; cases h) (by rw [g2]; exact hkC) (by rw [g2]; exact va_assign hcls) rfl rfl d fun H1 ee zz oq => ?_
  have hset : (wl B ca S V).set i (B.1 + i, .inl (ca 3, n, .inr (.inr (.inr (.inr (va_up (fun q : Nat => (S.2.1 i q).map (B.1 + ·)) k.toNat (some (B.1 + j)))))))) = wl B ca (sq2 S i k (some j)) V := wl_set hi rfl (by
    rw [cE_t (S := sq2 S i k (some j)) hs]
    have e1 : (sq2 S i k (some j)).2.1 i = uq (S.2.1 i) k (some j) := up_same _ _ _
    rw [e1, ofQ_uq h0]
    rfl) (fun q _ hq => cE_congr rfl (sq2_row hq) rfl)
  refine kk o H1 _ ls ⟨by rw [zz]; exact h1.1, ?_⟩ (h2.put zz oq (Nat.le_add_right _ _)) h3
  rw [← hset]
  refine h1.2.set wl_D he ?_ oq
  rw [iI_nat h0 hr] at ee
  show H1[B.1 + i]? = some (vp_cell _ _)
  rw [ee, vp_cell_q, vp_cell_q, arrV_store]
  congr 2
  funext q
  by_cases hq : q = k.toNat
  · subst hq; simp [updV, va_up, va_rf, vR]
  · simp [updV, va_up, hq]
theorem x_tastN {i n : Nat} {k : Int} (hs : S.1 i = (3, n)) (hi : i < S.2.2) (h0 : 0 ≤ k) (hk : k < n) (d : decode cc pc = .ok (.aastore, 1)) (kk : X Γ B own nm cc nL ret lev mc ms (pc + 1) L st kc ks (sq2 S i k none) V) (hn : n < 2147483648 := by decide) : X Γ B own nm cc nL ret lev mc ms pc L (.null :: vI k :: vR B i :: st) kc ks S V := by
  obtain ⟨p, l, e, R, s, m, args, below, meth, c, Q, D, ca⟩ := Γ
  intro o H locs ls h1 h2 h3
  have hr : InR k := ⟨by omega, by omega⟩
  have hin := iI_in hn h0 hk
  have hK := o.2.2.2.2.2.2.2.2.1
  have he : (wl B ca S V)[i]? = some (B.1 + i, .inl (ca 3, n, .inr (.inr (.inr (.inr fun q : Nat => (S.2.1 i q).map (B.1 + ·)))))) := by rw [wl_get hi, cE_t hs]
  refine va_WaastN (C := RX8) (g := F0 m pc ls (.null :: vI k :: vR B i :: st)) o.1 o.2.1 (h1.2 i _ he) ((hK.2 3 _ rfl).1 n (fun q => va_rf ((S.2.1 i q).map (B.1 + ·)))) (fun q => by cases q) (by show ¬ (_ ∨ (arrV _ _ _).slots.size ≤ _); rw [arrV_size]; exact hin) rfl rfl d fun H1 ee zz oq => ?_
  have hset : (wl B ca S V).set i (B.1 + i, .inl (ca 3, n, .inr (.inr (.inr (.inr (va_up (fun q : Nat => (S.2.1 i q).map (B.1 + ·)) k.toNat none)))))) = wl B ca (sq2 S i k none) V := wl_set hi rfl (by
    rw [cE_t (S := sq2 S i k none) hs]
    have e1 : (sq2 S i k none).2.1 i = uq (S.2.1 i) k none := up_same _ _ _
    rw [e1, ofQ_uq h0]
    rfl) (fun q _ hq => cE_congr rfl (sq2_row hq) rfl)
  refine kk o H1 _ ls ⟨by rw [zz]; exact h1.1, ?_⟩ (h2.put zz oq (Nat.le_add_right _ _)) h3
  rw [← hset]
  refine h1.2.set wl_D he ?_ oq
  rw [iI_nat h0 hr] at ee
  show H1[B.1 + i]? = some (vp_cell _ _)
  rw [ee, vp_cell_q, vp_cell_q, arrV_store]
  congr 2
  funext q
  by_cases hq : q = k.toNat
  · subst hq; simp [updV, va_up, va_rf]
  · simp [updV, va_up, hq]
/-- whatever stands there -/
theorem x_tastQ {i n : Nat} {k : Int} {r : Option Nat} (hs : S.1 i = (3, n)) (hi : i < S.2.2) (h0 : 0 ≤ k) (hk : k < n) (hr : ∀ j, r = some j → S.1 j = (13, 0) ∧ j < S.2.2) (d : decode cc pc = .ok (.aastore, 1)) (kk : X Γ B own nm cc nL ret lev mc ms (pc + 1) L st kc ks (sq2 S i k r) V) (hn : n < 2147483648 := by decide) : X Γ B own nm cc nL ret lev mc ms pc L (vQ B r :: vI k :: vR B i :: st) kc ks S V := by
  cases r with
  | none => exact x_tastN hs hi h0 hk d kk hn
  | some j => exact x_tast hs hi h0 hk (hr j rfl).1 (hr j rfl).2 d kk hn
end XTa
theorem rfl0_t : ∀ q ∈ rfl0, q.1 ≠ 133 ∧ q.1 ≠ 271 := by decide +kernel
theorem Stat_sq {S : Stt} (h : Stat S) {i : Nat} (hi : i = 133 ∨ i = 271) (k : Int) (r : Option Nat) : Stat (sq2 S i k r) := by
  refine ⟨h.1, fun q hq => ?_, h.2.2⟩
  have := rfl0_t q hq
  rw [sq2_row (by omega)]
  exact h.2.1 q hq
theorem WB_c {V V' : Va} {b : Nat} (h : ∀ q, b ≤ q → q ≤ b + 137 → V' q = V q) (e : WB V b) : WB V' b := by
  obtain ⟨w1, w2, w3, w4, w5, w6, w7, w8, w9, w10, w11, w12⟩ := e
  refine ⟨?_, ?_, ?_, ?_, ?_, ?_, ?_, ?_, ?_, ?_, ?_, fun k hk => ?_⟩
  · rw [h (b + 1) (by omega) (by omega)]; exact w1
  · rw [h (b + 2) (by omega) (by omega)]; exact w2
  · rw [h (b + 3) (by omega) (by omega)]; exact w3
  · rw [h (b + 9) (by omega) (by omega)]; exact w4
  · rw [h (b + 5) (by omega) (by omega)]; exact w5
  · rw [h (b + 6) (by omega) (by omega)]; exact w6
  · rw [h (b + 7) (by omega) (by omega)]; exact w7
  · rw [h (b + 8) (by omega) (by omega)]; exact w8
  · rw [h (b + 135) (by omega) (by omega)]; exact w9
  · rw [h (b + 136) (by omega) (by omega)]; exact w10
  · rw [h (b + 137) (by omega) (by omega)]; exact w11
  · rw [h (b + 12 + 6 * k) (by omega) (by omega), h (b + 12 + 6 * k + 1) (by omega) (by omega), h (b + 12 + 6 * k + 2) (by omega) (by omega), h (b + 12 + 6 * k + 3) (by omega) (by omega), h (b + 12 + 6 * k + 4) (by omega) (by omega), h (b + 12 + 6 * k + 5) (by omega) (by omega)]
    exact w12 k hk
