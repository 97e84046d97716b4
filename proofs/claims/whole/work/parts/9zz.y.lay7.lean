section XBa
variable {Γ : Ctx} {B : Bs} {own nm : String} {cc : ByteArray} {nL : Nat} {ret : Option FieldType} {lev mc ms pc : Nat} {L : List (Option Value)} {st : List Value} {kc ks : Nat} {S : Stt} {V : Va}
theorem x_bast {i j n z : Nat} {k : Int} (hs : S.1 i = (4, n)) (hi : i < S.2.2) (h0 : 0 ≤ k) (hk : k < n) (hsj : S.1 j = (5, z)) (hj : j < S.2.2) (d : decode cc pc = .ok (.aastore, 1)) (kk : X Γ B own nm cc nL ret lev mc ms (pc + 1) L st kc ks (sq2 S i k (some j)) V) (hn : n < 2147483648 := by decide) : X Γ B own nm cc nL ret lev mc ms pc L (vR B j :: vI k :: vR B i :: st) kc ks S V := by
  obtain ⟨p, l, e, R, s, m, args, below, meth, c, Q, D, ca⟩ := Γ
  intro o H locs ls h1 h2 h3
  have hr : InR k := ⟨by omega, by omega⟩
  have hin := iI_in hn h0 hk
  have hK := o.2.2.2.2.2.2.2.2.1
  have hlt : (Int32.ofInt k).toNatClampNeg < n := Nat.not_le.mp fun q => hin (Or.inr q)
  have hneg : ¬ Int32.ofInt k < 0 := fun q => hin (Or.inl q)
  have he : (wl B ca S V)[i]? = some (B.1 + i, .inl (ca 4, n, .inr (.inr (.inr (.inr fun q : Nat => (S.2.1 i q).map (B.1 + ·)))))) := by rw [wl_get hi, cE_b hs]
  have hv : (wl B ca S V)[j]? = some (B.1 + j, .inr (0, fsL B S V j 0)) := by rw [wl_get hj, cE_o (ci := 0) hsj]
  have hc := cls_at 0 (by decide)
  obtain ⟨r', hr', cellV, g1, g2, g3, -⟩ := h1.2 j _ hv
  have hcls := (hK.1 0 _ hc).2
  obtain ⟨kA, comp, k1, k2, k3, -⟩ := (hK.2 4 _ rfl).2
  have hcomp : comp = D.1 0 := Option.some.inj (k3.symm.trans hcls.1)
  subst hcomp
  obtain ⟨kC, hkC, -⟩ := hcls.2
  refine W.aast o.1 o.2.1 (h1.2 i _ he) (fun q h => by cases h) (fun h => by cases h) k1 k2 rfl hkC ⟨hneg, by show _ < (arrV _ _ _).slots.size; rw [arrV_size]; exact hlt⟩ g1 (fun q h => by rw [g3] at h; cases h) (by rw [g2]; exact hkC) (by rw [g2]; exact va_assign hcls) rfl rfl d fun H1 ee zz oq => ?_
  have hset : (wl B ca S V).set i (B.1 + i, .inl (ca 4, n, .inr (.inr (.inr (.inr (va_up (fun q : Nat => (S.2.1 i q).map (B.1 + ·)) k.toNat (some (B.1 + j)))))))) = wl B ca (sq2 S i k (some j)) V := wl_set hi rfl (by
    rw [cE_b (S := sq2 S i k (some j)) hs]
    have e1 : (sq2 S i k (some j)).2.1 i = uq (S.2.1 i) k (some j) := up_same _ _ _
    rw [e1, ofQ_uq h0]
    rfl) (fun q _ hq => cE_congr rfl (sq2_row hq) rfl)
  refine kk o H1 _ ls ⟨by rw [zz]; exact h1.1, ?_⟩ (h2.put zz oq (Nat.le_add_right _ _)) h3
  rw [← hset]
  refine h1.2.set wl_D he ?_ oq
  rw [iI_nat h0 hr] at ee
  show H1[B.1 + i]? = some (vp_cell _ _)
  rw [ee, vp_cell_q, vp_cell_q, arrV_store]
  congr 2
  funext q
  by_cases hq : q = k.toNat
  · subst hq; simp [updV, va_up, va_rf, vR]
  · simp [updV, va_up, hq]
end XBa
/-! the memory as a list of cells, while it is made -/
abbrev CelM : Type := (Nat × Nat) × (Int → Option Nat) × (Int → Int)
def dC : CelM := ((0, 0), fun _ => none, fun _ => 0)
def nC (sh : Nat × Nat) : CelM := (sh, fun _ => none, fun _ => 0)
def sO (M : List CelM) : Stt := (fun i => (M.getD i dC).1, fun i => (M.getD i dC).2.1, M.length)
def vO (M : List CelM) : Va := fun i => (M.getD i dC).2.2
theorem gD_app {M : List CelM} {c : CelM} (i : Nat) : (M ++ [c]).getD i dC = if i = M.length then c else M.getD i dC := by
  show ((M ++ [c])[i]?).getD dC = if i = M.length then c else (M[i]?).getD dC
  by_cases h : i = M.length
  · rw [if_pos h, h, List.getElem?_append_right (Nat.le_refl _)]
    simp
  · rw [if_neg h]
    rcases Nat.lt_or_ge i M.length with z | z
    · rw [List.getElem?_append_left z]
    · rw [List.getElem?_append_right z, List.getElem?_eq_none (by simp; omega), List.getElem?_eq_none z]
theorem nS_l (M : List CelM) (sh : Nat × Nat) : nS (sO M) sh = sO (M ++ [nC sh]) := by
  refine Prod.ext ?_ (Prod.ext ?_ ?_)
  · funext i
    show up (fun i => (M.getD i dC).1) M.length sh i = ((M ++ [nC sh]).getD i dC).1
    rw [gD_app]
    simp only [up]
    split <;> rfl
  · funext i
    show up (fun i => (M.getD i dC).2.1) M.length (fun _ => none) i = ((M ++ [nC sh]).getD i dC).2.1
    rw [gD_app]
    simp only [up]
    split <;> rfl
  · show M.length + 1 = (M ++ [nC sh]).length
    simp
theorem nV_l (M : List CelM) (sh : Nat × Nat) : nV (sO M) (vO M) (fun _ => 0) = vO (M ++ [nC sh]) := by
  funext i
  show up (fun i => (M.getD i dC).2.2) M.length (fun _ => 0) i = ((M ++ [nC sh]).getD i dC).2.2
  rw [gD_app]
  simp only [up]
  split <;> rfl
theorem gD_set {M : List CelM} {c : CelM} {j : Nat} (hj : j < M.length) (i : Nat) : (M.set j c).getD i dC = if i = j then c else M.getD i dC := by
  show ((M.set j c)[i]?).getD dC = if i = j then c else (M[i]?).getD dC
  rw [List.getElem?_set]
  by_cases h : i = j
  · subst h
    simp [hj]
  · rw [if_neg h, if_neg (fun e => h e.symm)]
def setR (M : List CelM) (j : Nat) (k : Int) (r : Option Nat) : List CelM := M.set j ((M.getD j dC).1, uq (M.getD j dC).2.1 k r, (M.getD j dC).2.2)
def setV (M : List CelM) (j : Nat) (k e : Int) : List CelM := M.set j ((M.getD j dC).1, (M.getD j dC).2.1, ua (M.getD j dC).2.2 k e)
theorem sq_l {M : List CelM} {j : Nat} (hj : j < M.length) (k : Int) (r : Option Nat) : sq2 (sO M) j k r = sO (setR M j k r) ∧ vO M = vO (setR M j k r) := by
  refine ⟨Prod.ext ?_ (Prod.ext ?_ ?_), ?_⟩
  · funext i
    show (M.getD i dC).1 = ((setR M j k r).getD i dC).1
    simp only [setR]
    rw [gD_set hj]
    split
    · rename_i h; rw [h]
    · rfl
  · funext i
    show up (fun i => (M.getD i dC).2.1) j (uq (M.getD j dC).2.1 k r) i = ((setR M j k r).getD i dC).2.1
    simp only [setR]
    rw [gD_set hj]
    simp only [up]
    split <;> rfl
  · show M.length = (setR M j k r).length
    simp [setR]
  · funext i
    show (M.getD i dC).2.2 = ((setR M j k r).getD i dC).2.2
    simp only [setR]
    rw [gD_set hj]
    split
    · rename_i h; rw [h]
    · rfl
theorem st_l {M : List CelM} {j : Nat} (hj : j < M.length) (k e : Int) : st2 (vO M) j k e = vO (setV M j k e) ∧ sO M = sO (setV M j k e) := by
  refine ⟨?_, Prod.ext ?_ (Prod.ext ?_ ?_)⟩
  · funext i
    show up (fun i => (M.getD i dC).2.2) j (ua (M.getD j dC).2.2 k e) i = ((setV M j k e).getD i dC).2.2
    simp only [setV]
    rw [gD_set hj]
    simp only [up]
    split <;> rfl
  · funext i
    show (M.getD i dC).1 = ((setV M j k e).getD i dC).1
    simp only [setV]
    rw [gD_set hj]
    split
    · rename_i h; rw [h]
    · rfl
  · funext i
    show (M.getD i dC).2.1 = ((setV M j k e).getD i dC).2.1
    simp only [setV]
    rw [gD_set hj]
    split
    · rename_i h; rw [h]
    · rfl
  · show M.length = (setV M j k e).length
    simp [setV]
section XLs
variable {Γ : Ctx} {B : Bs} {own nm : String} {cc : ByteArray} {nL : Nat} {ret : Option FieldType} {lev mc ms pc : Nat} {L : List (Option Value)} {st : List Value} {kc ks : Nat}
theorem l_newi {n : Int} {N m : Nat} {M M' : List CelM} (hl : M.length = m) (hM : M ++ [nC (0, N)] = M') (d : decode cc pc = .ok (.newarray .int, 2)) (k : X Γ B own nm cc nL ret lev mc ms (pc + 2) L (vR B m :: st) (kc + 1) (ks + N) (sO M') (vO M')) (hf : kc + 1 ≤ mc ∧ ks + N ≤ ms := by decide) (hn : n = N := by decide) (hN : N ≤ 1000000 := by decide) : X Γ B own nm cc nL ret lev mc ms pc L (vI n :: st) kc ks (sO M) (vO M) := by
  refine x_newi hn hN hf d ?_
  rw [nS_l, nV_l M (0, N), hM]
  subst hl
  exact k
theorem l_newl {n : Int} {N m : Nat} {M M' : List CelM} (hl : M.length = m) (hM : M ++ [nC (1, N)] = M') (d : decode cc pc = .ok (.newarray .long, 2)) (k : X Γ B own nm cc nL ret lev mc ms (pc + 2) L (vR B m :: st) (kc + 1) (ks + N) (sO M') (vO M')) (hf : kc + 1 ≤ mc ∧ ks + N ≤ ms := by decide) (hn : n = N := by decide) (hN : N ≤ 1000000 := by decide) : X Γ B own nm cc nL ret lev mc ms pc L (vI n :: st) kc ks (sO M) (vO M) := by
  refine x_newl hn hN hf d ?_
  rw [nS_l, nV_l M (1, N), hM]
  subst hl
  exact k
theorem l_newz {n : Int} {N m : Nat} {M M' : List CelM} (hl : M.length = m) (hM : M ++ [nC (2, N)] = M') (d : decode cc pc = .ok (.newarray .boolean, 2)) (k : X Γ B own nm cc nL ret lev mc ms (pc + 2) L (vR B m :: st) (kc + 1) (ks + N) (sO M') (vO M')) (hf : kc + 1 ≤ mc ∧ ks + N ≤ ms := by decide) (hn : n = N := by decide) (hN : N ≤ 1000000 := by decide) : X Γ B own nm cc nL ret lev mc ms pc L (vI n :: st) kc ks (sO M) (vO M) := by
  refine x_newz hn hN hf d ?_
  rw [nS_l, nV_l M (2, N), hM]
  subst hl
  exact k
theorem l_newq {n : Int} {N m index kd : Nat} {E : String} {M M' : List CelM} (hkd : (kd = 3 ∧ E = RX8) ∨ (kd = 4 ∧ E = RX0)) (hlk : Cond.classLink own index E ∈ TB) (hl : M.length = m) (hM : M ++ [nC (kd, N)] = M') (d : decode cc pc = .ok (.anewarray index, 3)) (k : X Γ B own nm cc nL ret lev mc ms (pc + 3) L (vR B m :: st) (kc + 1) (ks + N) (sO M') (vO M')) (hf : kc + 1 ≤ mc ∧ ks + N ≤ ms := by decide) (hn : n = N := by decide) (hN : N ≤ 1000000 := by decide) : X Γ B own nm cc nL ret lev mc ms pc L (vI n :: st) kc ks (sO M) (vO M) := by
  refine x_newq hkd hn hN hf hlk d ?_
  rw [nS_l, nV_l M (kd, N), hM]
  subst hl
  exact k
theorem l_newo {index ci m : Nat} {M M' : List CelM} (hci : ci < 12) (hlk : Cond.classLink own index (Rc ci) ∈ TB) (hi : Cond.instantiable (Rc ci) (Nc ci) ∈ TB ∧ Cond.initialized (Rc ci) ∈ TB) (hl : M.length = m) (hM : M ++ [nC (ci + 5, 0)] = M') (d : decode cc pc = .ok (.new index, 3)) (k : X Γ B own nm cc nL ret lev mc ms (pc + 3) L (vR B m :: st) (kc + 1) (ks + Nc ci) (sO M') (vO M')) (hf : kc + 1 ≤ mc ∧ ks + Nc ci ≤ ms := by decide) : X Γ B own nm cc nL ret lev mc ms pc L st kc ks (sO M) (vO M) := by
  refine x_newo hci hlk hi.1 hi.2 hf d ?_
  rw [nS_l, nV_l M (ci + 5, 0), hM]
  subst hl
  exact k
theorem l_putQ {index ci k i z : Nat} {r : Nat} {M M' : List CelM} (f : FL own index ci k) (hs : (M.getD i dC).1 = (ci + 5, z)) (hi : i < M.length) (hM : setR M i k (some r) = M') (d : decode cc pc = .ok (.putfield index, 3)) (kk : X Γ B own nm cc nL ret lev mc ms (pc + 3) L st kc ks (sO M') (vO M')) (hini : nm = "<init>" := by rfl) (hdecl : (Tc ci k).1 = own := by rfl) (hty : isRefTy (tyc ci k) = true := by rfl) (hfin : (Tc ci k).2.2.2 = true := by rfl) : X Γ B own nm cc nL ret lev mc ms pc L (vR B r :: vR B i :: st) kc ks (sO M) (vO M) := by
  refine x_putQ (r := some r) f hs hi d ?_ hini hdecl hty hfin
  rw [(sq_l hi k (some r)).1, (sq_l hi k (some r)).2, hM]
  exact kk
theorem l_putI {index ci k i z : Nat} {e : Int} {M M' : List CelM} (f : FL own index ci k) (hs : (M.getD i dC).1 = (ci + 5, z)) (hi : i < M.length) (hM : setV M i k e = M') (d : decode cc pc = .ok (.putfield index, 3)) (kk : X Γ B own nm cc nL ret lev mc ms (pc + 3) L st kc ks (sO M') (vO M')) (hty : tyc ci k = .int := by rfl) (hfin : (Tc ci k).2.2.2 = false := by rfl) : X Γ B own nm cc nL ret lev mc ms pc L (vI e :: vR B i :: st) kc ks (sO M) (vO M) := by
  refine x_putI f hs hi d ?_ (hty := hty) (hfin := hfin)
  rw [(st_l hi k e).1, (st_l hi k e).2, hM]
  exact kk
theorem l_getR {index ci k i z j : Nat} {M : List CelM} (f : FL own index ci k) (hs : (M.getD i dC).1 = (ci + 5, z)) (hi : i < M.length) (hr : (M.getD i dC).2.1 k = some j) (d : decode cc pc = .ok (.getfield index, 3)) (kk : X Γ B own nm cc nL ret lev mc ms (pc + 3) L (vR B j :: st) kc ks (sO M) (vO M)) (hty : isRefTy (tyc ci k) = true := by rfl) : X Γ B own nm cc nL ret lev mc ms pc L (vR B i :: st) kc ks (sO M) (vO M) := x_getR f hs hi hr d kk (hty := hty)
theorem l_bast {i j n z : Nat} {k : Int} {M M' : List CelM} (hs : (M.getD i dC).1 = (4, n)) (hi : i < M.length) (h0 : 0 ≤ k) (hk : k < n) (hsj : (M.getD j dC).1 = (5, z)) (hj : j < M.length) (hM : setR M i k (some j) = M') (d : decode cc pc = .ok (.aastore, 1)) (kk : X Γ B own nm cc nL ret lev mc ms (pc + 1) L st kc ks (sO M') (vO M')) (hn : n < 2147483648 := by decide) : X Γ B own nm cc nL ret lev mc ms pc L (vR B j :: vI k :: vR B i :: st) kc ks (sO M) (vO M) := by
  refine x_bast hs hi h0 hk hsj hj d ?_ hn
  rw [(sq_l hi k (some j)).1, (sq_l hi k (some j)).2, hM]
  exact kk
theorem l_iast {i n : Nat} {k e : Int} {M M' : List CelM} (hs : (M.getD i dC).1 = (0, n)) (hi : i < M.length) (h0 : 0 ≤ k) (hk : k < n) (hM : setV M i k e = M') (d : decode cc pc = .ok (.iastore, 1)) (kk : X Γ B own nm cc nL ret lev mc ms (pc + 1) L st kc ks (sO M') (vO M')) (hn : n < 2147483648 := by decide) : X Γ B own nm cc nL ret lev mc ms pc L (vI e :: vI k :: vR B i :: st) kc ks (sO M) (vO M) := by
  refine x_iast hs hi h0 hk d ?_ hn
  rw [(st_l hi k e).1, (st_l hi k e).2, hM]
  exact kk
/-- a constructor's call: what it makes stands behind what was there -/
theorem l_callI {y : MethodName} {cc' : ByteArray} {nL' n index i lev' mc' ms' : Nat} {As rest : List Value} {M M1 : List CelM} (hm : MI y cc' nL' n) (hl : Cond.methodLink own index y ∈ TB) (d : decode cc pc = .ok (.invokespecial index, 3)) (hC : C B y cc' nL' none lev' mc' ms' (vR B i :: As) (sO M) (vO M) (rV (sO M1) (vO M1))) (k : X Γ B own nm cc nL ret lev mc ms (pc + 3) L rest (kc + mc') (ks + ms') (sO M1) (vO M1)) (hst : st = As.reverse ++ vR B i :: rest := by rfl) (hlev : lev' < lev := by decide) (hn : As.length = n := by rfl) (hrm : nL' ≤ 45 := by decide) (hsum : (rest.map fun v => v.category).sum ≤ 8 := by exact Nat.le_of_ble_eq_true rfl) (hf : kc + mc' ≤ mc ∧ ks + ms' ≤ ms := by exact ⟨Nat.le_of_ble_eq_true rfl, Nat.le_of_ble_eq_true rfl⟩) : X Γ B own nm cc nL ret lev mc ms pc L st kc ks (sO M) (vO M) := x_cIv hm hl d hC k hst hlev hn hrm hsum hf
theorem l_callIN {y : MethodName} {cc' : ByteArray} {host : String} {nL' n index i lev' mc' ms' : Nat} {As rest : List Value} {M M1 : List CelM} (hm : MI y cc' nL' n) (hl : Cond.methodLinkNest own index y host ∈ nestW) (d : decode cc pc = .ok (.invokespecial index, 3)) (hC : C B y cc' nL' none lev' mc' ms' (vR B i :: As) (sO M) (vO M) (rV (sO M1) (vO M1))) (k : X Γ B own nm cc nL ret lev mc ms (pc + 3) L rest (kc + mc') (ks + ms') (sO M1) (vO M1)) (hst : st = As.reverse ++ vR B i :: rest := by rfl) (hlev : lev' < lev := by decide) (hn : As.length = n := by rfl) (hrm : nL' ≤ 45 := by decide) (hsum : (rest.map fun v => v.category).sum ≤ 8 := by exact Nat.le_of_ble_eq_true rfl) (hf : kc + mc' ≤ mc ∧ ks + ms' ≤ ms := by exact ⟨Nat.le_of_ble_eq_true rfl, Nat.le_of_ble_eq_true rfl⟩) : X Γ B own nm cc nL ret lev mc ms pc L st kc ks (sO M) (vO M) := x_callIN hm hl d hC (fun v S' V' h => by obtain ⟨rfl, rfl, rfl⟩ := h; exact k) hst hlev hn hrm hsum hf
end XLs
