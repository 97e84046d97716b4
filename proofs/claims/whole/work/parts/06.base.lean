section XM
variable {Γ : Ctx} {B : Bs} {own nm : String} {cc : ByteArray} {nL : Nat} {ret : Option FieldType} {lev mc ms pc : Nat} {L : List (Option Value)} {st : List Value} {kc ks : Nat} {S : Stt} {V : Va}
/-! the rows of the memory -/
theorem len_fsL {B : Bs} {S : Stt} {V : Va} {i ci : Nat} : (fsL B S V i ci).length = Nc ci := by simp [fsL]
theorem fsL_get {B : Bs} {S : Stt} {V : Va} {i ci k : Nat} (hk : k < Nc ci) : (fsL B S V i ci)[k]? = some (fV B (tyc ci k) (V i k) (S.2.1 i k)) := by simp [fsL, hk]
/-- one slot of one object written -/
theorem fsL_set {B : Bs} {S S' : Stt} {V V' : Va} {i ci k : Nat} {v : Value} (hk : k < Nc ci) (hv : fV B (tyc ci k) (V' i k) (S'.2.1 i k) = v) (ho : ∀ j : Nat, j ≠ k → V' i j = V i j ∧ S'.2.1 i j = S.2.1 i j) : (fsL B S V i ci).set k v = fsL B S' V' i ci := by
  apply List.ext_getElem?
  intro j
  by_cases hj : j < Nc ci
  · rw [fsL_get hj]
    by_cases e : j = k
    · subst e
      rw [List.getElem?_set]
      simp [len_fsL, hj, hv]
    · rw [List.getElem?_set_ne (fun z => e z.symm), fsL_get hj, (ho j e).1, (ho j e).2]
  · rw [List.getElem?_eq_none (by simp [len_fsL]; omega), List.getElem?_eq_none (by simp [len_fsL]; omega)]
theorem x_get {index ci k i z : Nat} {v : Value} (f : FL own index ci k) (hs : S.1 i = (ci + 5, z)) (hi : i < S.2.2) (hv : fV B (tyc ci k) (V i k) (S.2.1 i k) = v) (d : decode cc pc = .ok (.getfield index, 3)) (kk : X Γ B own nm cc nL ret lev mc ms (pc + 3) L (v :: st) kc ks S V) : X Γ B own nm cc nL ret lev mc ms pc L (vR B i :: st) kc ks S V := by
  obtain ⟨p, l, e, R, s, m, args, below, meth, c, Q, D, ca⟩ := Γ
  intro o H locs ls h1 h2 h3
  obtain ⟨hx, hb, hml, hr, hlk, hown, hnm, hts, hK, hBg, hle, hR⟩ := id o
  obtain ⟨f1, f2, f3⟩ := f
  have hc := cls_at ci f2
  refine va_get hx hb hts (in_all ci f2) hown hK h1.2 i (by rw [wl_get hi, cE_o hs]) hc k f3 (hts _ f1) (fun _ h => h) (v := v) (by rw [fsL_get f3, hv]) d ?_
  exact kk o H locs ls h1 h2 h3
theorem x_putG {index ci k i z : Nat} {ty : FieldType} {v : Value} {S' : Stt} {V' : Va} (f : FL own index ci k) (hs : S.1 i = (ci + 5, z)) (hi : i < S.2.2) (hfin : (Tc ci k).2.2.2 = false) (hty : tyc ci k = ty) (hn : narrow ty v = v) (hfit : fits ty v = true) (hn' : S'.2.2 = S.2.2) (hs' : S'.1 = S.1) (hv : fV B ty (V' i k) (S'.2.1 i k) = v) (ho : ∀ j : Nat, j ≠ k → V' i j = V i j ∧ S'.2.1 i j = S.2.1 i j) (hr : ∀ q, q ≠ i → V' q = V q ∧ S'.2.1 q = S.2.1 q) (d : decode cc pc = .ok (.putfield index, 3)) (kk : X Γ B own nm cc nL ret lev mc ms (pc + 3) L st kc ks S' V') : X Γ B own nm cc nL ret lev mc ms pc L (v :: vR B i :: st) kc ks S V := by
  obtain ⟨p, l, e, R, s, m, args, below, meth, c, Q, D, ca⟩ := Γ
  intro o H locs ls h1 h2 h3
  obtain ⟨hx, hb, hml, hr', hlk, hown, hnm, hts, hK, hBg, hle, hR⟩ := id o
  obtain ⟨f1, f2, f3⟩ := f
  have hc := cls_at ci f2
  have hset : (wl B ca S V).set i (B.1 + i, .inr (ci, (fsL B S V i ci).set k v)) = wl B ca S' V' := wl_set hi hn' (by rw [cE_o (S := S') (ci := ci) (z := z) (by rw [hs']; exact hs), fsL_set f3 (by rw [hty]; exact hv) ho]) (fun j _ hj => cE_congr (by rw [hs']) (hr j hj).2 (hr j hj).1)
  have he : (wl B ca S V)[i]? = some (B.1 + i, .inr (ci, fsL B S V i ci)) := by rw [wl_get hi, cE_o hs]
  have hap := va_apart (own := own) hts (in_all ci f2) (tyc ci) (ty_all ci f2) (nm_all ci f2) hK hc
  obtain ⟨r, g1, cell, q1, q2, q3, q4⟩ := h1.2 i _ he
  have hrr : r = (Rc ci, Tc ci, Nc ci) := Option.some.inj (g1.symm.trans hc)
  subst hrr
  obtain ⟨hS, hfc, kC, hkC, hkind⟩ := hK.1 ci _ hc
  obtain ⟨cf, kf, fi, fd, hfi, hsl⟩ := hS k f3
  have hlay := hts _ (in_all ci f2 _ (u_in_lay f3))
  unfold u_lay at hlay
  rw [if_neg (by rw [hfin]; decide)] at hlay
  have hst := (u_facts hfc hkC (u_lays hts (in_all ci f2) f3) hfi).1
  have h6 := u_store hfc hkC hkind hlay hfi (by rw [ty_all ci f2 k f3, hty]) hn hfit
  refine W.putK hx hb (f := fd) ⟨hown, hts _ f1, ⟨_, _, _, hfi⟩, hst⟩ (by rw [q2]; exact h6) q1 q3 (by rw [hsl]; exact k2_hasslot (q4 k f3)) rfl rfl d fun H' e1 e2 e3 => ?_
  rw [hsl] at e1 ⊢
  refine kk o H' _ ls ⟨by rw [e2, hn']; exact h1.1, ?_⟩ (h2.put e2 e3 (Nat.le_add_right _ _)) h3
  rw [← hset]
  exact h1.2.set wl_D he ⟨_, hc, t_OB.to (V := updV (vp_V (fsL B S V i ci)) k v) ⟨_, e1, q2, q3, t_set q4 hap f3 v⟩ (fun j _ => vp_updV_set (by rw [len_fsL]; exact f3) v j)⟩ e3
/-- the same in a constructor, of a final field -/
theorem x_putF {index ci k i z : Nat} {ty : FieldType} {v : Value} {S' : Stt} {V' : Va} (f : FL own index ci k) (hs : S.1 i = (ci + 5, z)) (hi : i < S.2.2) (hfin : (Tc ci k).2.2.2 = true) (hini : nm = "<init>") (hdecl : (Tc ci k).1 = own) (hty : tyc ci k = ty) (hn : narrow ty v = v) (hfit : fits ty v = true) (hn' : S'.2.2 = S.2.2) (hs' : S'.1 = S.1) (hv : fV B ty (V' i k) (S'.2.1 i k) = v) (ho : ∀ j : Nat, j ≠ k → V' i j = V i j ∧ S'.2.1 i j = S.2.1 i j) (hr : ∀ q, q ≠ i → V' q = V q ∧ S'.2.1 q = S.2.1 q) (d : decode cc pc = .ok (.putfield index, 3)) (kk : X Γ B own nm cc nL ret lev mc ms (pc + 3) L st kc ks S' V') : X Γ B own nm cc nL ret lev mc ms pc L (v :: vR B i :: st) kc ks S V := by
  obtain ⟨p, l, e, R, s, m, args, below, meth, c, Q, D, ca⟩ := Γ
  intro o H locs ls h1 h2 h3
  obtain ⟨hx, hb, hml, hr', hlk, hown, hnm, hts, hK, hBg, hle, hR⟩ := id o
  obtain ⟨f1, f2, f3⟩ := f
  have hc := cls_at ci f2
  have hset : (wl B ca S V).set i (B.1 + i, .inr (ci, (fsL B S V i ci).set k v)) = wl B ca S' V' := wl_set hi hn' (by rw [cE_o (S := S') (ci := ci) (z := z) (by rw [hs']; exact hs), fsL_set f3 (by rw [hty]; exact hv) ho]) (fun j _ hj => cE_congr (by rw [hs']) (hr j hj).2 (hr j hj).1)
  have he : (wl B ca S V)[i]? = some (B.1 + i, .inr (ci, fsL B S V i ci)) := by rw [wl_get hi, cE_o hs]
  have hap := va_apart (own := own) hts (in_all ci f2) (tyc ci) (ty_all ci f2) (nm_all ci f2) hK hc
  obtain ⟨r, g1, cell, q1, q2, q3, q4⟩ := h1.2 i _ he
  have hrr : r = (Rc ci, Tc ci, Nc ci) := Option.some.inj (g1.symm.trans hc)
  subst hrr
  obtain ⟨hS, hfc, kC, hkC, hkind⟩ := hK.1 ci _ hc
  obtain ⟨cf, kf, fi, fd, hfi, hsl⟩ := hS k f3
  have hlay := hts _ (in_all ci f2 _ (u_in_lay f3))
  unfold u_lay at hlay
  rw [if_pos hfin] at hlay
  have hst := (u_facts hfc hkC (u_lays hts (in_all ci f2) f3) hfi).1
  have hcf : m.cls = cf := by
    obtain ⟨_, _, c', _, _, _, -, -, hf', -, -, -, hown2, -⟩ := Cond.laysFinal_spec hlay
    have e1 : c' = cf := by have := hfi.symm.trans hf'; simp at this; exact this.1.symm
    rw [hdecl] at hown2
    rw [← e1]; exact Option.some.inj (hown.symm.trans hown2)
  have h6 := u_fits hfc hkC hkind (Or.inr hlay) hfi (by rw [ty_all ci f2 k f3, hty]) hn hfit
  refine W.putFinK hx hb hown (hts _ f1) hfi hst hcf (hnm.trans hini) (by rw [q2]; exact h6) q1 q3 (by rw [hsl]; exact k2_hasslot (q4 k f3)) rfl rfl d fun H' e1 e2 e3 => ?_
  rw [hsl] at e1 ⊢
  refine kk o H' _ ls ⟨by rw [e2, hn']; exact h1.1, ?_⟩ (h2.put e2 e3 (Nat.le_add_right _ _)) h3
  rw [← hset]
  exact h1.2.set wl_D he ⟨_, hc, t_OB.to (V := updV (vp_V (fsL B S V i ci)) k v) ⟨_, e1, q2, q3, t_set q4 hap f3 v⟩ (fun j _ => vp_updV_set (by rw [len_fsL]; exact f3) v j)⟩ e3
/-! int, long, boolean, reference fields of known kinds -/
theorem x_getI {index ci k i z : Nat} (f : FL own index ci k) (hs : S.1 i = (ci + 5, z)) (hi : i < S.2.2) (d : decode cc pc = .ok (.getfield index, 3)) (kk : X Γ B own nm cc nL ret lev mc ms (pc + 3) L (vI (V i k) :: st) kc ks S V) (hty : tyc ci k = .int := by rfl) : X Γ B own nm cc nL ret lev mc ms pc L (vR B i :: st) kc ks S V := x_get f hs hi (by rw [hty]; rfl) d kk
theorem x_getZ {index ci k i z : Nat} (f : FL own index ci k) (hs : S.1 i = (ci + 5, z)) (hi : i < S.2.2) (d : decode cc pc = .ok (.getfield index, 3)) (kk : X Γ B own nm cc nL ret lev mc ms (pc + 3) L (vI (V i k) :: st) kc ks S V) (hty : tyc ci k = .boolean := by rfl) : X Γ B own nm cc nL ret lev mc ms pc L (vR B i :: st) kc ks S V := x_get f hs hi (by rw [hty]; rfl) d kk
theorem x_getL {index ci k i z : Nat} (f : FL own index ci k) (hs : S.1 i = (ci + 5, z)) (hi : i < S.2.2) (d : decode cc pc = .ok (.getfield index, 3)) (kk : X Γ B own nm cc nL ret lev mc ms (pc + 3) L (vL (V i k) :: st) kc ks S V) (hty : tyc ci k = .long := by rfl) : X Γ B own nm cc nL ret lev mc ms pc L (vR B i :: st) kc ks S V := x_get f hs hi (by rw [hty]; rfl) d kk
def isRefTy : FieldType → Bool
  | .object _ => true
  | .array _ => true
  | _ => false
theorem fV_ref {B : Bs} {ty : FieldType} {v : Int} {r : Option Nat} (h : isRefTy ty = true) : fV B ty v r = vQ B r := by cases ty <;> simp_all [fV, isRefTy]
theorem x_getQ {index ci k i z : Nat} (f : FL own index ci k) (hs : S.1 i = (ci + 5, z)) (hi : i < S.2.2) (d : decode cc pc = .ok (.getfield index, 3)) (kk : X Γ B own nm cc nL ret lev mc ms (pc + 3) L (vQ B (S.2.1 i k) :: st) kc ks S V) (hty : isRefTy (tyc ci k) = true := by rfl) : X Γ B own nm cc nL ret lev mc ms pc L (vR B i :: st) kc ks S V := x_get f hs hi (fV_ref hty) d kk
theorem x_getR {index ci k i z j : Nat} (f : FL own index ci k) (hs : S.1 i = (ci + 5, z)) (hi : i < S.2.2) (hj : S.2.1 i k = some j) (d : decode cc pc = .ok (.getfield index, 3)) (kk : X Γ B own nm cc nL ret lev mc ms (pc + 3) L (vR B j :: st) kc ks S V) (hty : isRefTy (tyc ci k) = true := by rfl) : X Γ B own nm cc nL ret lev mc ms pc L (vR B i :: st) kc ks S V := x_get f hs hi (by rw [fV_ref hty, hj]; rfl) d kk
theorem st2_o {V : Va} {i : Nat} {k : Nat} {e : Int} : ∀ j : Nat, j ≠ k → st2 V i k e i j = V i j := fun j h => st2_ne (by omega)
theorem x_putI {index ci k i z : Nat} {e : Int} (f : FL own index ci k) (hs : S.1 i = (ci + 5, z)) (hi : i < S.2.2) (d : decode cc pc = .ok (.putfield index, 3)) (kk : X Γ B own nm cc nL ret lev mc ms (pc + 3) L st kc ks S (st2 V i k e)) (hty : tyc ci k = .int := by rfl) (hfin : (Tc ci k).2.2.2 = false := by rfl) : X Γ B own nm cc nL ret lev mc ms pc L (vI e :: vR B i :: st) kc ks S V :=
  x_putG f hs hi hfin hty (vp_nar_int _) rfl rfl rfl (by rw [st2_same]; rfl) (fun j h => ⟨st2_o j h, rfl⟩) (fun q h => ⟨st2_row h, rfl⟩) d kk
theorem x_putL {index ci k i z : Nat} {e : Int} (f : FL own index ci k) (hs : S.1 i = (ci + 5, z)) (hi : i < S.2.2) (d : decode cc pc = .ok (.putfield index, 3)) (kk : X Γ B own nm cc nL ret lev mc ms (pc + 3) L st kc ks S (st2 V i k e)) (hty : tyc ci k = .long := by rfl) (hfin : (Tc ci k).2.2.2 = false := by rfl) : X Γ B own nm cc nL ret lev mc ms pc L (vL e :: vR B i :: st) kc ks S V :=
  x_putG f hs hi hfin hty rfl rfl rfl rfl (by rw [st2_same]; rfl) (fun j h => ⟨st2_o j h, rfl⟩) (fun q h => ⟨st2_row h, rfl⟩) d kk
theorem narZ {e : Int} (h : e = 0 ∨ e = 1) : narrow .boolean (vI e) = vI e ∧ fits .boolean (vI e) = true := by rcases h with rfl | rfl <;> exact ⟨by decide, by decide⟩
theorem x_putZ {index ci k i z : Nat} {e : Int} (f : FL own index ci k) (hs : S.1 i = (ci + 5, z)) (hi : i < S.2.2) (he : e = 0 ∨ e = 1) (d : decode cc pc = .ok (.putfield index, 3)) (kk : X Γ B own nm cc nL ret lev mc ms (pc + 3) L st kc ks S (st2 V i k e)) (hty : tyc ci k = .boolean := by rfl) (hfin : (Tc ci k).2.2.2 = false := by rfl) : X Γ B own nm cc nL ret lev mc ms pc L (vI e :: vR B i :: st) kc ks S V :=
  x_putG f hs hi hfin hty (narZ he).1 (narZ he).2 rfl rfl (by rw [st2_same]; rfl) (fun j h => ⟨st2_o j h, rfl⟩) (fun q h => ⟨st2_row h, rfl⟩) d kk
/-- a reference written -/
def sq2 (S : Stt) (i : Nat) (k : Int) (r : Option Nat) : Stt := (S.1, up S.2.1 i (uq (S.2.1 i) k r), S.2.2)
theorem sq2_same (S : Stt) (i : Nat) (k : Int) (r : Option Nat) : (sq2 S i k r).2.1 i k = r := by simp [sq2, up, uq]
theorem sq2_o {S : Stt} {i : Nat} {k : Nat} {r : Option Nat} : ∀ j : Nat, j ≠ k → (sq2 S i k r).2.1 i j = S.2.1 i j := fun j h => by
  have h2 : ¬ (j : Int) = k := by omega
  simp [sq2, up, uq, h2]
theorem sq2_row {S : Stt} {i q : Nat} {k : Int} {r : Option Nat} (h : q ≠ i) : (sq2 S i k r).2.1 q = S.2.1 q := by simp [sq2, up, h]
theorem vQ_nf (B : Bs) (r : Option Nat) {ty : FieldType} (h : isRefTy ty = true) : narrow ty (vQ B r) = vQ B r ∧ fits ty (vQ B r) = true := by
  cases r <;> cases ty <;> simp_all [isRefTy, vQ, va_rf, narrow, fits]
theorem x_putQ {index ci k i z : Nat} {r : Option Nat} (f : FL own index ci k) (hs : S.1 i = (ci + 5, z)) (hi : i < S.2.2) (d : decode cc pc = .ok (.putfield index, 3)) (kk : X Γ B own nm cc nL ret lev mc ms (pc + 3) L st kc ks (sq2 S i k r) V) (hini : nm = "<init>" := by rfl) (hdecl : (Tc ci k).1 = own := by rfl) (hty : isRefTy (tyc ci k) = true := by rfl) (hfin : (Tc ci k).2.2.2 = true := by rfl) : X Γ B own nm cc nL ret lev mc ms pc L (vQ B r :: vR B i :: st) kc ks S V :=
  x_putF (S' := sq2 S i k r) (V' := V) f hs hi hfin hini hdecl rfl (vQ_nf B r hty).1 (vQ_nf B r hty).2 rfl rfl (by rw [fV_ref hty, sq2_same]) (fun j h => ⟨rfl, sq2_o j h⟩) (fun q h => ⟨rfl, sq2_row h⟩) d kk
theorem x_putFI {index ci k i z : Nat} {e : Int} (f : FL own index ci k) (hs : S.1 i = (ci + 5, z)) (hi : i < S.2.2) (d : decode cc pc = .ok (.putfield index, 3)) (kk : X Γ B own nm cc nL ret lev mc ms (pc + 3) L st kc ks S (st2 V i k e)) (hini : nm = "<init>" := by rfl) (hdecl : (Tc ci k).1 = own := by rfl) (hty : tyc ci k = .int := by rfl) (hfin : (Tc ci k).2.2.2 = true := by rfl) : X Γ B own nm cc nL ret lev mc ms pc L (vI e :: vR B i :: st) kc ks S V :=
  x_putF f hs hi hfin hini hdecl hty (vp_nar_int _) rfl rfl rfl (by rw [st2_same]; rfl) (fun j h => ⟨st2_o j h, rfl⟩) (fun q h => ⟨st2_row h, rfl⟩) d kk
/-! arrays -/
theorem ofI_ua {f : Int → Int} {k e : Int} (h0 : 0 ≤ k) : (fun j : Nat => Int32.ofInt (ua f k e j)) = upd (fun j : Nat => Int32.ofInt (f j)) k.toNat (Int32.ofInt e) := by
  funext j
  by_cases h : (j : Int) = k
  · have h2 : j = k.toNat := by omega
    simp only [ua, upd, if_pos h, if_pos h2]
  · have h2 : ¬ j = k.toNat := by omega
    simp only [ua, upd, if_neg h, if_neg h2]
theorem ofL_ua {f : Int → Int} {k e : Int} (h0 : 0 ≤ k) : (fun j : Nat => Int64.ofInt (ua f k e j)) = vp_updL (fun j : Nat => Int64.ofInt (f j)) k.toNat (Int64.ofInt e) := by
  funext j
  by_cases h : (j : Int) = k
  · have h2 : j = k.toNat := by omega
    simp only [ua, vp_updL, if_pos h, if_pos h2]
  · have h2 : ¬ j = k.toNat := by omega
    simp only [ua, vp_updL, if_neg h, if_neg h2]
theorem x_iald {i n : Nat} {k : Int} (hs : S.1 i = (0, n)) (hi : i < S.2.2) (h0 : 0 ≤ k) (hk : k < n) (d : decode cc pc = .ok (.iaload, 1)) (kk : X Γ B own nm cc nL ret lev mc ms (pc + 1) L (vI (V i k) :: st) kc ks S V) (hn : n < 2147483648 := by decide) : X Γ B own nm cc nL ret lev mc ms pc L (vI k :: vR B i :: st) kc ks S V := by
  obtain ⟨p, l, e, R, s, m, args, below, meth, c, Q, D, ca⟩ := Γ
  intro o H locs ls h1 h2 h3
  have hr : InR k := ⟨by omega, by omega⟩
  refine va_iald o.1 o.2.1 o.2.2.2.2.2.2.2.2.1 h1.2 i 0 (by rw [wl_get hi, cE_i hs]) rfl (iI_in hn h0 hk) d ?_
  rw [iI_natI h0 hr]
  exact kk o H locs ls h1 h2 h3
theorem x_lald {i n : Nat} {k : Int} (hs : S.1 i = (1, n)) (hi : i < S.2.2) (h0 : 0 ≤ k) (hk : k < n) (d : decode cc pc = .ok (.laload, 1)) (kk : X Γ B own nm cc nL ret lev mc ms (pc + 1) L (vL (V i k) :: st) kc ks S V) (hn : n < 2147483648 := by decide) : X Γ B own nm cc nL ret lev mc ms pc L (vI k :: vR B i :: st) kc ks S V := by
  obtain ⟨p, l, e, R, s, m, args, below, meth, c, Q, D, ca⟩ := Γ
  intro o H locs ls h1 h2 h3
  have hr : InR k := ⟨by omega, by omega⟩
  refine va_lald o.1 o.2.1 o.2.2.2.2.2.2.2.2.1 h1.2 i 1 (by rw [wl_get hi, cE_l hs]) rfl (iI_in hn h0 hk) d ?_
  rw [iI_natI h0 hr]
  exact kk o H locs ls h1 h2 h3
theorem x_zald {i n : Nat} {k : Int} (hs : S.1 i = (2, n)) (hi : i < S.2.2) (h0 : 0 ≤ k) (hk : k < n) (d : decode cc pc = .ok (.baload, 1)) (kk : X Γ B own nm cc nL ret lev mc ms (pc + 1) L (vI (V i k) :: st) kc ks S V) (hn : n < 2147483648 := by decide) : X Γ B own nm cc nL ret lev mc ms pc L (vI k :: vR B i :: st) kc ks S V := by
  obtain ⟨p, l, e, R, s, m, args, below, meth, c, Q, D, ca⟩ := Γ
  intro o H locs ls h1 h2 h3
  have hr : InR k := ⟨by omega, by omega⟩
  refine va_zald o.1 o.2.1 o.2.2.2.2.2.2.2.2.1 h1.2 i 2 (by rw [wl_get hi, cE_z hs]) rfl (iI_in hn h0 hk) d ?_
  rw [iI_natI h0 hr]
  exact kk o H locs ls h1 h2 h3
theorem x_tald {i n : Nat} {k : Int} (hs : S.1 i = (3, n)) (hi : i < S.2.2) (h0 : 0 ≤ k) (hk : k < n) (d : decode cc pc = .ok (.aaload, 1)) (kk : X Γ B own nm cc nL ret lev mc ms (pc + 1) L (vQ B (S.2.1 i k) :: st) kc ks S V) (hn : n < 2147483648 := by decide) : X Γ B own nm cc nL ret lev mc ms pc L (vI k :: vR B i :: st) kc ks S V := by
  obtain ⟨p, l, e, R, s, m, args, below, meth, c, Q, D, ca⟩ := Γ
  intro o H locs ls h1 h2 h3
  have hr : InR k := ⟨by omega, by omega⟩
  refine va_aldq (C := RX8) o.1 o.2.1 o.2.2.2.2.2.2.2.2.1 h1.2 i 3 (by rw [wl_get hi, cE_t hs]) rfl (iI_in hn h0 hk) d ?_
  rw [iI_natI h0 hr]
  exact kk o H locs ls h1 h2 h3
theorem x_bald {i n : Nat} {k : Int} (hs : S.1 i = (4, n)) (hi : i < S.2.2) (h0 : 0 ≤ k) (hk : k < n) (d : decode cc pc = .ok (.aaload, 1)) (kk : X Γ B own nm cc nL ret lev mc ms (pc + 1) L (vQ B (S.2.1 i k) :: st) kc ks S V) (hn : n < 2147483648 := by decide) : X Γ B own nm cc nL ret lev mc ms pc L (vI k :: vR B i :: st) kc ks S V := by
  obtain ⟨p, l, e, R, s, m, args, below, meth, c, Q, D, ca⟩ := Γ
  intro o H locs ls h1 h2 h3
  have hr : InR k := ⟨by omega, by omega⟩
  refine va_aldq (C := RX0) o.1 o.2.1 o.2.2.2.2.2.2.2.2.1 h1.2 i 4 (by rw [wl_get hi, cE_b hs]) rfl (iI_in hn h0 hk) d ?_
  rw [iI_natI h0 hr]
  exact kk o H locs ls h1 h2 h3
theorem x_alen {i n q : Nat} (hq : q ≤ 4) (hs : S.1 i = (q, n)) (hi : i < S.2.2) (d : decode cc pc = .ok (.arraylength, 1)) (kk : X Γ B own nm cc nL ret lev mc ms (pc + 1) L (vI n :: st) kc ks S V) : X Γ B own nm cc nL ret lev mc ms pc L (vR B i :: st) kc ks S V := by
  obtain ⟨p, l, e, R, s, m, args, below, meth, c, Q, D, ca⟩ := Γ
  intro o H locs ls h1 h2 h3
  have kk := kk o H locs ls h1 h2 h3
  have hK := o.2.2.2.2.2.2.2.2.1
  match q, hq with
  | 0, _ => exact va_alen (ty := .int) (x := (n, .inl fun j : Nat => Int32.ofInt (V i j))) o.1 o.2.1 hK h1.2 i 0 (by rw [wl_get hi, cE_i hs]) rfl Int32.ofInt_eq_ofNat.symm d kk
  | 1, _ => exact va_alen (ty := .long) (x := (n, .inr (.inl fun j : Nat => Int64.ofInt (V i j)))) o.1 o.2.1 hK h1.2 i 1 (by rw [wl_get hi, cE_l hs]) rfl Int32.ofInt_eq_ofNat.symm d kk
  | 2, _ => exact va_alen (ty := .boolean) (x := (n, .inl fun j : Nat => Int32.ofInt (V i j))) o.1 o.2.1 hK h1.2 i 2 (by rw [wl_get hi, cE_z hs]) rfl Int32.ofInt_eq_ofNat.symm d kk
  | 3, _ => exact va_alen (ty := .object RX8) (x := (n, .inr (.inr (.inr (.inr fun j : Nat => (S.2.1 i j).map (B.1 + ·)))))) o.1 o.2.1 hK h1.2 i 3 (by rw [wl_get hi, cE_t hs]) rfl Int32.ofInt_eq_ofNat.symm d kk
  | 4, _ => exact va_alen (ty := .object RX0) (x := (n, .inr (.inr (.inr (.inr fun j : Nat => (S.2.1 i j).map (B.1 + ·)))))) o.1 o.2.1 hK h1.2 i 4 (by rw [wl_get hi, cE_b hs]) rfl Int32.ofInt_eq_ofNat.symm d kk
theorem x_iast {i n : Nat} {k e : Int} (hs : S.1 i = (0, n)) (hi : i < S.2.2) (h0 : 0 ≤ k) (hk : k < n) (d : decode cc pc = .ok (.iastore, 1)) (kk : X Γ B own nm cc nL ret lev mc ms (pc + 1) L st kc ks S (st2 V i k e)) (hn : n < 2147483648 := by decide) : X Γ B own nm cc nL ret lev mc ms pc L (vI e :: vI k :: vR B i :: st) kc ks S V := by
  obtain ⟨p, l, e', R, s, m, args, below, meth, c, Q, D, ca⟩ := Γ
  intro o H locs ls h1 h2 h3
  have hr : InR k := ⟨by omega, by omega⟩
  have hin := iI_in hn h0 hk
  have hK := o.2.2.2.2.2.2.2.2.1
  have he : (wl B ca S V)[i]? = some (B.1 + i, .inl (ca 0, n, .inl fun j : Nat => Int32.ofInt (V i j))) := by rw [wl_get hi, cE_i hs]
  refine W.iast o.1 o.2.1 (h1.2 i _ he) ((hK.2 0 _ rfl).1 n (fun j => .int (Int32.ofInt (V i j)))) (fun q => by cases q) (by show ¬ (_ ∨ (arrV _ _ _).slots.size ≤ _); rw [arrV_size]; exact hin) rfl rfl d fun H1 ee z oq => ?_
  have hset : (wl B ca S V).set i (B.1 + i, .inl (ca 0, n, .inl (upd (fun j : Nat => Int32.ofInt (V i j)) k.toNat (Int32.ofInt e)))) = wl B ca S (st2 V i k e) := wl_set hi rfl (by rw [cE_i hs, show st2 V i k e i = ua (V i) k e from up_same _ _ _, ofI_ua h0]) (fun j _ hj => cE_congr rfl rfl (st2_row hj))
  refine kk o H1 _ ls ⟨by rw [z]; exact h1.1, ?_⟩ (h2.put z oq (Nat.le_add_right _ _)) h3
  rw [← hset]
  refine h1.2.set wl_D he ?_ oq
  rw [iI_nat h0 hr] at ee
  show H1[B.1 + i]? = some (vp_cell _ _)
  rw [ee, vp_cell_i, vp_cell_i, arrV_store]
  congr 2
  funext q
  by_cases hq : q = k.toNat
  · subst hq; simp [updV, upd]
  · simp [updV, upd, hq]
theorem x_last {i n : Nat} {k e : Int} (hs : S.1 i = (1, n)) (hi : i < S.2.2) (h0 : 0 ≤ k) (hk : k < n) (d : decode cc pc = .ok (.lastore, 1)) (kk : X Γ B own nm cc nL ret lev mc ms (pc + 1) L st kc ks S (st2 V i k e)) (hn : n < 2147483648 := by decide) : X Γ B own nm cc nL ret lev mc ms pc L (vL e :: vI k :: vR B i :: st) kc ks S V := by
  obtain ⟨p, l, e', R, s, m, args, below, meth, c, Q, D, ca⟩ := Γ
  intro o H locs ls h1 h2 h3
  have hr : InR k := ⟨by omega, by omega⟩
  have hin := iI_in hn h0 hk
  have hK := o.2.2.2.2.2.2.2.2.1
  have he : (wl B ca S V)[i]? = some (B.1 + i, .inl (ca 1, n, .inr (.inl fun j : Nat => Int64.ofInt (V i j)))) := by rw [wl_get hi, cE_l hs]
  refine W.last o.1 o.2.1 (h1.2 i _ he) ((hK.2 1 _ rfl).1 n (fun j => .long (Int64.ofInt (V i j)))) (fun q => by cases q) (by show ¬ (_ ∨ (arrV _ _ _).slots.size ≤ _); rw [arrV_size]; exact hin) rfl rfl d fun H1 ee z oq => ?_
  have hset : (wl B ca S V).set i (B.1 + i, .inl (ca 1, n, .inr (.inl (vp_updL (fun j : Nat => Int64.ofInt (V i j)) k.toNat (Int64.ofInt e))))) = wl B ca S (st2 V i k e) := wl_set hi rfl (by rw [cE_l hs, show st2 V i k e i = ua (V i) k e from up_same _ _ _, ofL_ua h0]) (fun j _ hj => cE_congr rfl rfl (st2_row hj))
  refine kk o H1 _ ls ⟨by rw [z]; exact h1.1, ?_⟩ (h2.put z oq (Nat.le_add_right _ _)) h3
  rw [← hset]
  refine h1.2.set wl_D he ?_ oq
  rw [iI_nat h0 hr] at ee
  show H1[B.1 + i]? = some (vp_cell _ _)
  rw [ee, vp_cell_l, vp_cell_l, arrV_store]
  congr 2
  funext q
  by_cases hq : q = k.toNat
  · subst hq; simp [updV, vp_updL]
  · simp [updV, vp_updL, hq]
theorem x_zast {i n : Nat} {k e : Int} (hs : S.1 i = (2, n)) (hi : i < S.2.2) (h0 : 0 ≤ k) (hk : k < n) (hv : e = 0 ∨ e = 1) (d : decode cc pc = .ok (.bastore, 1)) (kk : X Γ B own nm cc nL ret lev mc ms (pc + 1) L st kc ks S (st2 V i k e)) (hn : n < 2147483648 := by decide) : X Γ B own nm cc nL ret lev mc ms pc L (vI e :: vI k :: vR B i :: st) kc ks S V := by
  obtain ⟨p, l, e', R, s, m, args, below, meth, c, Q, D, ca⟩ := Γ
  intro o H locs ls h1 h2 h3
  have hr : InR k := ⟨by omega, by omega⟩
  have hin := iI_in hn h0 hk
  have hK := o.2.2.2.2.2.2.2.2.1
  have he : (wl B ca S V)[i]? = some (B.1 + i, .inl (ca 2, n, .inl fun j : Nat => Int32.ofInt (V i j))) := by rw [wl_get hi, cE_z hs]
  refine W.zast o.1 o.2.1 (h1.2 i _ he) ((hK.2 2 _ rfl).1 n (fun j => .int (Int32.ofInt (V i j)))) (fun q => by cases q) (by show ¬ (_ ∨ (arrV _ _ _).slots.size ≤ _); rw [arrV_size]; exact hin) rfl rfl d fun H1 ee z oq => ?_
  have hset : (wl B ca S V).set i (B.1 + i, .inl (ca 2, n, .inl (upd (fun j : Nat => Int32.ofInt (V i j)) k.toNat (Int32.ofInt e)))) = wl B ca S (st2 V i k e) := wl_set hi rfl (by rw [cE_z hs, show st2 V i k e i = ua (V i) k e from up_same _ _ _, ofI_ua h0]) (fun j _ hj => cE_congr rfl rfl (st2_row hj))
  refine kk o H1 _ ls ⟨by rw [z]; exact h1.1, ?_⟩ (h2.put z oq (Nat.le_add_right _ _)) h3
  rw [← hset]
  refine h1.2.set wl_D he ?_ oq
  rw [iI_nat h0 hr, show narrow .boolean (.int (Int32.ofInt e)) = .int (Int32.ofInt e) from (narZ hv).1] at ee
  show H1[B.1 + i]? = some (vp_cell _ _)
  rw [ee, vp_cell_i, vp_cell_i, arrV_store]
  congr 2
  funext q
  by_cases hq : q = k.toNat
  · subst hq; simp [updV, upd]
  · simp [updV, upd, hq]
/-! bits -/
def p2 (t : Int) : Int := (2 ^ t.toNat : Nat)
def band (a b : Int) : Int := ((a.toNat &&& b.toNat : Nat) : Int)
def bor (a b : Int) : Int := ((a.toNat ||| b.toNat : Nat) : Int)
def bxor (a b : Int) : Int := ((a.toNat ^^^ b.toNat : Nat) : Int)
end XM
