/-- what the answers kept by the class rest on -/
def Ca (a tx : Int → Int) (V : Va) : Prop := (ShC a tx V ∧ ShK V) ∧ PsI a V ∧ RdB V ∧ RdC a V
theorem Sh_f {a tx : Int → Int} {V V' : Va} (e1 : V' 1 = V 1) (e : ∀ q : Nat, 289 ≤ q → q ≤ 296 → V' q = V q) (h : ShC a tx V ∧ ShK V) : ShC a tx V' ∧ ShK V' := by
  have r1 := e 289 (by omega) (by omega)
  have r2 := e 290 (by omega) (by omega)
  have r3 := e 296 (by omega) (by omega)
  simp only [ShC, ShE, ShK, e1, r1, r2, r3]
  exact h
theorem Ps_f {a : Int → Int} {V V' : Va} (e1 : V' 1 = V 1) (e : ∀ q : Nat, 297 ≤ q → q ≤ 302 → V' q = V q) (h : PsI a V) : PsI a V' := by
  have r1 := e 297 (by omega) (by omega)
  have r2 := e 301 (by omega) (by omega)
  have r3 := e 302 (by omega) (by omega)
  simp only [PsI, PsC, e1, r1, r2, r3]
  exact h
theorem Rd_f {a : Int → Int} {V V' : Va} (e1 : V' 1 = V 1) (e : ∀ q : Nat, 303 ≤ q → q ≤ 307 → V' q = V q) (h : RdB V ∧ RdC a V) : RdB V' ∧ RdC a V' := by
  have r1 := e 303 (by omega) (by omega)
  have r2 := e 305 (by omega) (by omega)
  have r3 := e 306 (by omega) (by omega)
  have r4 := e 307 (by omega) (by omega)
  simp only [RdB, RdC, RdOK, e1, r1, r2, r3, r4]
  exact h
theorem Ca_f {a tx : Int → Int} {V V' : Va} (e : ∀ q : Nat, q = 1 ∨ (289 ≤ q ∧ q ≤ 307) → V' q = V q) (h : Ca a tx V) : Ca a tx V' :=
  ⟨Sh_f (e 1 (by omega)) (fun q a b => e q (by omega)) h.1, Ps_f (e 1 (by omega)) (fun q a b => e q (by omega)) h.2.1, Rd_f (e 1 (by omega)) (fun q a b => e q (by omega)) h.2.2⟩
theorem INV.ca {n : Int} {S : Stt} {V : Va} (h : INV n S V) : Ca (V 309) (V 311) V := ⟨h.sh, h.ps, h.ro⟩
/-- what the reference may leave otherwise, when it is asked -/
def AskM (V1 V2 : Va) : Prop := (∀ q : Nat, q < 308 ∨ (308 < q ∧ q < 314) ∨ 325 < q → V2 q = V1 q) ∧ (∀ k : Int, k < 29 → V2 308 k = V1 308 k) ∧ (AB (V2 314)) ∧ (TRb (V2 316)) ∧ (TRb (V2 323))
theorem AskM.fr {V1 V2 : Va} (h : AskM V1 V2) : ∀ q : Nat, q < 308 ∨ (308 < q ∧ q < 314) ∨ 325 < q → V2 q = V1 q := h.1
theorem AskM.fi {V1 V2 : Va} (h : AskM V1 V2) : ∀ k : Int, k < 29 → V2 308 k = V1 308 k := h.2.1
theorem AskM.n4 {V1 V2 : Va} (h : AskM V1 V2) : AB (V2 314) := h.2.2.1
theorem AskM.n6 {V1 V2 : Va} (h : AskM V1 V2) : TRb (V2 316) := h.2.2.2.1
theorem AskM.n3 {V1 V2 : Va} (h : AskM V1 V2) : TRb (V2 323) := h.2.2.2.2
/-- a call that asks -/
theorem INV_q {n : Int} {S : Stt} {V V1 V2 : Va} (h : INV n S V) (f1 : ∀ q : Nat, q < 287 ∨ 307 < q → V1 q = V q) (hc : Ca (V 309) (V 311) V1) (k : AskM V1 V2) : INV (n + 1) S V2 := by
  have f : ∀ q : Nat, q < 287 ∨ (308 < q ∧ q < 314) ∨ 325 < q → V2 q = V q := fun q hq => (k.fr q (by omega)).trans (f1 q (by omega))
  have hc2 : Ca (V 309) (V 311) V2 := Ca_f (fun q hq => k.fr q (by omega)) hc
  have r9 := f 309 (by omega)
  have r10 := f 310 (by omega)
  have r11 := f 311 (by omega)
  have r12 := f 312 (by omega)
  have r13 := f 313 (by omega)
  have r7 := f 277 (by omega)
  have r8 := f 278 (by omega)
  have g : ∀ q : Int, q < 29 → V2 308 q = V 308 q := fun q hq => by rw [k.fi q hq, f1 308 (by omega)]
  have hch := h.ch
  refine ⟨h.st, ?_, ?_, ?_, ?_, ?_, h.tr, h.tri, ?_, ?_, ?_, ?_, ?_, ?_, ?_, ?_⟩
  · rw [r9]
    exact ⟨WSim_c (fun q q0 q1 => f q (by omega)) h.now.1, WB_c (fun q q0 q1 => f q (by omega)) h.now.2.1, h.now.2.2⟩
  · rw [r10]
    exact ⟨WSim_c (fun q q0 q1 => f q (by omega)) h.img.1, WB_c (fun q q0 q1 => f q (by omega)) h.img.2.1, h.img.2.2⟩
  · rw [r10, r9]; exact h.le3
  · rw [r9, r11]
    exact LSim_c h.tx (fun q q0 q1 => f q (by omega)) rfl
  · rw [r10, r11]
    exact LSim_c h.txi (fun q q0 q1 => f q (by omega)) rfl
  · rw [r11, r13]
    exact ⟨h.ab.1, h.ab.2.1, k.n4, k.n6, k.n3⟩
  · rw [r7, r8, r12, g 4 (by decide), g 5 (by decide), g 6 (by decide)]; exact h.rd
  · rw [g 5 (by decide), g 6 (by decide)]; exact h.fa
  · rw [g 10 (by decide), g 11 (by decide)]; exact h.nu
  · rw [f 1 (by omega), f 139 (by omega)]; omega
  · rw [r9, r11]; exact hc2.1
  · rw [r9]; exact hc2.2.1
  · rw [r9]; exact hc2.2.2
theorem AskM_0 {n : Int} {S : Stt} {V V1 : Va} (h : INV n S V) (f1 : ∀ q : Nat, q < 287 ∨ 307 < q → V1 q = V q) : AskM V1 V1 :=
  ⟨fun _ _ => rfl, fun _ _ => rfl, by rw [f1 314 (by omega)]; exact h.ab.2.2.1, by rw [f1 316 (by omega)]; exact h.ab.2.2.2.1, by rw [f1 323 (by omega)]; exact h.ab.2.2.2.2⟩
theorem AskM_G {V1 V2 : Va} (h : Scr V1 V2) : AskM V1 V2 := ⟨h.1, h.2.1, h.2.2.1, h.2.2.2.1, h.2.2.2.2⟩
/-- the law's script -/
def Scp (Γ : Ctx) (B : Bs) (b L : Nat) (xs : Nat → Int32) : Prop := match Γ with
  | (_, _, _, _, s, _, _, _, _, _, _, _, _) => va_X b L xs s s.heap ∧ b < s.heap.size ∧ ¬ B.1 ≤ b ∧ L ≤ 3072
def xv (xs : Nat → Int32) (i : Int) : Int := (xs i.toNat).toInt
theorem xv_r (xs : Nat → Int32) (i : Int) : InR (xv xs i) := ⟨Int32.le_toInt _, Int32.toInt_lt _⟩
section XSc
variable {Γ : Ctx} {B : Bs} {own nm : String} {cc : ByteArray} {nL : Nat} {ret : Option FieldType} {lev mc ms pc : Nat} {L : List (Option Value)} {st : List Value} {kc ks : Nat} {S : Stt} {V : Va} {b n : Nat} {xs : Nat → Int32}
theorem x_slen (h : Scp Γ B b n xs) (d : decode cc pc = .ok (.arraylength, 1)) (k : X Γ B own nm cc nL ret lev mc ms (pc + 1) L (vI n :: st) kc ks S V) : X Γ B own nm cc nL ret lev mc ms pc L (.ref b :: st) kc ks S V := by
  obtain ⟨p, l, e, R, s, m, args, below, meth, c, Q, D, ca⟩ := Γ
  intro o H locs ls h1 h2 h3
  obtain ⟨g1, g2, g3, g4⟩ := h
  refine va_slen o.1 o.2.1 g1 g2 g3 h2 d ?_
  exact k o H locs ls h1 h2 h3
theorem x_sld {i : Int} (h : Scp Γ B b n xs) (h0 : 0 ≤ i) (hi : i < n) (d : decode cc pc = .ok (.iaload, 1)) (k : X Γ B own nm cc nL ret lev mc ms (pc + 1) L (vI (xv xs i) :: st) kc ks S V) : X Γ B own nm cc nL ret lev mc ms pc L (vI i :: .ref b :: st) kc ks S V := by
  obtain ⟨p, l, e, R, s, m, args, below, meth, c, Q, D, ca⟩ := Γ
  intro o H locs ls h1 h2 h3
  obtain ⟨g1, g2, g3, g4⟩ := h
  have hr : InR i := ⟨by omega, by omega⟩
  refine va_sld o.1 o.2.1 g1 g2 g3 h2 (iI_in (by omega) h0 hi) d ?_
  rw [iI_nat h0 hr]
  have e : (Value.int (xs i.toNat)) = vI (xv xs i) := by simp only [vI, xv, Int32.ofInt_toInt]
  rw [e]
  exact k o H locs ls h1 h2 h3
end XSc
