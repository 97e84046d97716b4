section XC
variable {Γ : Ctx} {B : Bs} {own nm : String} {cc : ByteArray} {nL : Nat} {ret : Option FieldType} {lev mc ms pc : Nat} {L : List (Option Value)} {st : List Value} {kc ks : Nat} {S : Stt} {V : Va}
theorem x_ishl {a t : Int} (h0 : 0 ≤ t) (h1 : t < 32) (d : decode cc pc = .ok (.ishl, 1)) (k : X Γ B own nm cc nL ret lev mc ms (pc + 1) L (vI (a * p2 t) :: st) kc ks S V) : X Γ B own nm cc nL ret lev mc ms pc L (vI t :: vI a :: st) kc ks S V := x_pure (fun hx hb k => lv_ishl hx hb d (by rw [vI, ← iI_shl a h0 h1] at k; exact k)) k
theorem x_shl1 {t : Int} (h0 : 0 ≤ t) (h1 : t < 32) (d : decode cc pc = .ok (.ishl, 1)) (k : X Γ B own nm cc nL ret lev mc ms (pc + 1) L (vI (p2 t) :: st) kc ks S V) : X Γ B own nm cc nL ret lev mc ms pc L (vI t :: vI 1 :: st) kc ks S V := x_ishl h0 h1 d (by rw [Int.one_mul]; exact k)
theorem x_ishr {a t : Int} (ha : InR a) (h0 : 0 ≤ t) (h1 : t < 32) (d : decode cc pc = .ok (.ishr, 1)) (k : X Γ B own nm cc nL ret lev mc ms (pc + 1) L (vI (a / p2 t) :: st) kc ks S V) : X Γ B own nm cc nL ret lev mc ms pc L (vI t :: vI a :: st) kc ks S V := x_pure (fun hx hb k => lv_ishr hx hb d (by rw [vI, ← iI_shr ha h0 h1] at k; exact k)) k
theorem x_iand {a b : Int} (ha : 0 ≤ a) (hb : 0 ≤ b) (d : decode cc pc = .ok (.iand, 1)) (k : X Γ B own nm cc nL ret lev mc ms (pc + 1) L (vI (band a b) :: st) kc ks S V) : X Γ B own nm cc nL ret lev mc ms pc L (vI b :: vI a :: st) kc ks S V := x_pure (fun hx hb' k => lv_iand hx hb' d (by rw [vI, ← iI_and ha hb] at k; exact k)) k
theorem x_ior {a b : Int} (ha : 0 ≤ a) (hb : 0 ≤ b) (d : decode cc pc = .ok (.ior, 1)) (k : X Γ B own nm cc nL ret lev mc ms (pc + 1) L (vI (bor a b) :: st) kc ks S V) : X Γ B own nm cc nL ret lev mc ms pc L (vI b :: vI a :: st) kc ks S V := x_pure (fun hx hb' k => lv_ior hx hb' d (by rw [vI, ← iI_or ha hb] at k; exact k)) k
theorem x_ixor {a b : Int} (ha : 0 ≤ a) (hb : 0 ≤ b) (d : decode cc pc = .ok (.ixor, 1)) (k : X Γ B own nm cc nL ret lev mc ms (pc + 1) L (vI (bxor a b) :: st) kc ks S V) : X Γ B own nm cc nL ret lev mc ms pc L (vI b :: vI a :: st) kc ks S V := x_pure (fun hx hb' k => lv_ixor hx hb' d (by rw [vI, ← iI_xor ha hb] at k; exact k)) k
theorem x_not {a : Int} (d : decode cc pc = .ok (.ixor, 1)) (k : X Γ B own nm cc nL ret lev mc ms (pc + 1) L (vI (-a - 1) :: st) kc ks S V) : X Γ B own nm cc nL ret lev mc ms pc L (vI (-1) :: vI a :: st) kc ks S V := x_pure (fun hx hb' k => lv_ixor hx hb' d (by rw [vI, ← iI_not a] at k; exact k)) k
/-- 'and' with the complement of e -/
theorem x_andn {a e : Int} (ha : 0 ≤ a) (he : 0 ≤ e) (d : decode cc pc = .ok (.iand, 1)) (k : X Γ B own nm cc nL ret lev mc ms (pc + 1) L (vI (a - band a e) :: st) kc ks S V) : X Γ B own nm cc nL ret lev mc ms pc L (vI (-e - 1) :: vI a :: st) kc ks S V := x_pure (fun hx hb' k => lv_iand hx hb' d (by
  have key : Int32.ofInt a &&& Int32.ofInt (-e - 1) = Int32.ofInt (a - band a e) := by
    rw [← iI_not e, Int32.ofInt_sub, ← iI_and ha he]
    generalize Int32.ofInt a = x
    generalize Int32.ofInt e = y
    rw [show Int32.ofInt (-1) = -1 by decide]
    apply Int32.toBitVec_inj.mp
    show x.toBitVec &&& (y.toBitVec ^^^ BitVec.allOnes 32) = x.toBitVec - (x.toBitVec &&& y.toBitVec)
    rw [BitVec.xor_allOnes]
    generalize x.toBitVec = u
    generalize y.toBitVec = w
    have h1 : (u &&& ~~~w) + (u &&& w) = u := by
      rw [BitVec.add_eq_or_of_and_eq_zero]
      · apply BitVec.eq_of_getLsbD_eq
        intro i hi
        simp only [BitVec.getLsbD_or, BitVec.getLsbD_and, BitVec.getLsbD_not, hi, decide_true, Bool.true_and]
        cases u.getLsbD i <;> cases w.getLsbD i <;> rfl
      · apply BitVec.eq_of_getLsbD_eq
        intro i hi
        simp only [BitVec.getLsbD_and, BitVec.getLsbD_not, hi, decide_true, Bool.true_and, BitVec.getLsbD_zero]
        cases u.getLsbD i <;> cases w.getLsbD i <;> rfl
    have h2 : u - (u &&& w) = (u &&& ~~~w) + (u &&& w) - (u &&& w) := by rw [h1]
    rw [h2, BitVec.add_sub_cancel]
  rw [vI, ← key] at k; exact k)) k
/-- a mask of low bits -/
theorem x_mask (kb : Nat) {a m : Int} (hk : kb ≤ 32) (hm : m = (2 ^ kb : Nat) - 1) (d : decode cc pc = .ok (.iand, 1)) (k : X Γ B own nm cc nL ret lev mc ms (pc + 1) L (vI (a % (2 ^ kb : Nat)) :: st) kc ks S V) : X Γ B own nm cc nL ret lev mc ms pc L (vI m :: vI a :: st) kc ks S V := x_pure (fun hx hb' k => lv_iand hx hb' d (by rw [vI, ← iI_mask a hk hm] at k; exact k)) k
theorem x_and1 {a : Int} (d : decode cc pc = .ok (.iand, 1)) (k : X Γ B own nm cc nL ret lev mc ms (pc + 1) L (vI (a % 2) :: st) kc ks S V) : X Γ B own nm cc nL ret lev mc ms pc L (vI 1 :: vI a :: st) kc ks S V := x_mask 1 (by decide) (by decide) d k
theorem x_and255 {a : Int} (d : decode cc pc = .ok (.iand, 1)) (k : X Γ B own nm cc nL ret lev mc ms (pc + 1) L (vI (a % 256) :: st) kc ks S V) : X Γ B own nm cc nL ret lev mc ms pc L (vI 255 :: vI a :: st) kc ks S V := x_mask 8 (by decide) (by decide) d k
theorem x_land {a b : Int} (ha : 0 ≤ a) (hb : 0 ≤ b) (d : decode cc pc = .ok (.land, 1)) (k : X Γ B own nm cc nL ret lev mc ms (pc + 1) L (vL (band a b) :: st) kc ks S V) : X Γ B own nm cc nL ret lev mc ms pc L (vL b :: vL a :: st) kc ks S V := x_pure (fun hx hb' k => lv_land hx hb' d (by rw [vL, ← iL_and ha hb] at k; exact k)) k
theorem x_lor {a b : Int} (ha : 0 ≤ a) (hb : 0 ≤ b) (d : decode cc pc = .ok (.lor, 1)) (k : X Γ B own nm cc nL ret lev mc ms (pc + 1) L (vL (bor a b) :: st) kc ks S V) : X Γ B own nm cc nL ret lev mc ms pc L (vL b :: vL a :: st) kc ks S V := x_pure (fun hx hb' k => lv_lor hx hb' d (by rw [vL, ← iL_or ha hb] at k; exact k)) k
theorem x_lshl {a t : Int} (h0 : 0 ≤ t) (h1 : t < 64) (d : decode cc pc = .ok (.lshl, 1)) (k : X Γ B own nm cc nL ret lev mc ms (pc + 1) L (vL (a * p2 t) :: st) kc ks S V) : X Γ B own nm cc nL ret lev mc ms pc L (vI t :: vL a :: st) kc ks S V := x_pure (fun hx hb k => lv_lshl hx hb d (iL_shl a h0 h1) k) k
theorem x_lshr {a t : Int} (ha : InL a) (hr : InL (a / p2 t)) (h0 : 0 ≤ t) (h1 : t < 64) (d : decode cc pc = .ok (.lshr, 1)) (k : X Γ B own nm cc nL ret lev mc ms (pc + 1) L (vL (a / p2 t) :: st) kc ks S V) : X Γ B own nm cc nL ret lev mc ms pc L (vI t :: vL a :: st) kc ks S V := x_pure (fun hx hb k => lv_lshr hx hb d (iL_shr ha hr h0 h1) k) k
-- null tests
theorem x_nonnull {i : Nat} {off : Int} {tgt : Nat} (d : decode cc pc = .ok (.ifnonnull off, 3)) (k : X Γ B own nm cc nL ret lev mc ms tgt L st kc ks S V) (ht : (pc : Int) + off = (tgt : Int) := by decide) : X Γ B own nm cc nL ret lev mc ms pc L (vR B i :: st) kc ks S V := x_pure (fun hx hb k => lv_ifnonnull hx hb d ht k) k
theorem x_isnull {i : Nat} {off : Int} (d : decode cc pc = .ok (.ifnull off, 3)) (k : X Γ B own nm cc nL ret lev mc ms (pc + 3) L st kc ks S V) : X Γ B own nm cc nL ret lev mc ms pc L (vR B i :: st) kc ks S V := x_pure (fun hx hb k => lv_ifnull hx hb d k) k
theorem x_nonnullN {off : Int} (d : decode cc pc = .ok (.ifnonnull off, 3)) (k : X Γ B own nm cc nL ret lev mc ms (pc + 3) L st kc ks S V) : X Γ B own nm cc nL ret lev mc ms pc L (.null :: st) kc ks S V := x_pure (fun hx hb k => lv_ifnonnullN hx hb d k) k
theorem x_isnullN {off : Int} {tgt : Nat} (d : decode cc pc = .ok (.ifnull off, 3)) (k : X Γ B own nm cc nL ret lev mc ms tgt L st kc ks S V) (ht : (pc : Int) + off = (tgt : Int) := by decide) : X Γ B own nm cc nL ret lev mc ms pc L (.null :: st) kc ks S V := x_pure (fun hx hb k => lv_ifnullN hx hb d ht k) k
-- switches
theorem x_tswOut {a dflt lo hi : Int} {offs : Array Int} {len tgt : Nat} (d : decode cc pc = .ok (.tableswitch dflt lo hi offs, len)) (ha : InR a) (h : a < lo ∨ hi < a) (k : X Γ B own nm cc nL ret lev mc ms tgt L st kc ks S V) (ht : (pc : Int) + dflt = (tgt : Int) := by decide) : X Γ B own nm cc nL ret lev mc ms pc L (vI a :: st) kc ks S V := x_pure (fun hx hb k => lv_tableOut hx hb d (by rw [iI_toInt ha]; exact h) ht k) k
theorem x_tswIn {a dflt lo hi : Int} {offs : Array Int} {len tgt : Nat} {off : Int} (d : decode cc pc = .ok (.tableswitch dflt lo hi offs, len)) (v : Int) (ha : a = v) (k : X Γ B own nm cc nL ret lev mc ms tgt L st kc ks S V) (hv : InR v := by exact ⟨by decide, by decide⟩) (h1 : ¬ v < lo := by decide) (h2 : ¬ hi < v := by decide) (ho : offs[(v - lo).toNat]? = some off := by rfl) (ht : (pc : Int) + off = (tgt : Int) := by decide) : X Γ B own nm cc nL ret lev mc ms pc L (vI a :: st) kc ks S V := by
  subst ha
  exact x_pure (fun hx hb k => lv_tableIn hx hb d (by rw [iI_toInt hv]; exact h1) (by rw [iI_toInt hv]; exact h2) (by rw [iI_toInt hv]; exact ho) ht k) k
theorem x_lsw {a dflt : Int} {ps : Array (Int × Int)} {len tgt : Nat} {off : Int} (d : decode cc pc = .ok (.lookupswitch dflt ps, len)) (ha : InR a) (ho : Op.lookupswitch.offset ps.toList dflt a = off) (k : X Γ B own nm cc nL ret lev mc ms tgt L st kc ks S V) (hp : (ps.toList.zip (ps.toList.drop 1)).all (fun (a, next) => a.1 < next.1) = true := by decide) (ht : (pc : Int) + off = (tgt : Int) := by decide) : X Γ B own nm cc nL ret lev mc ms pc L (vI a :: st) kc ks S V := x_pure (fun hx hb k => lv_lookup hx hb d hp (by rw [iI_toInt ha]; exact ho) ht k) k
/-! CONTRACTS -/
def rmL (lev mc ms : Nat) : Room := { frames := lev, cells := mc, slots := ms, locals := 64 * lev }
def QcP (B : Bs) (D : va_G) (ca : Nat → ClassId) (P : Option Value → Stt → Va → Prop) : Array Value → State → Outcome → State → Prop := fun _ st o t => (∃ v S V, o = .returned v ∧ P v S V ∧ MR B D ca S V t.heap) ∧ va_F (fun q => B.1 ≤ q) st t
def PcP (B : Bs) (D : va_G) (ca : Nat → ClassId) (args : List Value) (S : Stt) (V : Va) : Array Value → State → Prop := va_Pc args (fun U => va_K D cls (tyL ca) U ∧ Bg B U ∧ MR B D ca S V U.heap)
/-- y, called with args in the memory S V, returns, and P holds of its answer and the memory behind it -/
def C (B : Bs) (y : MethodName) (cc : ByteArray) (nL : Nat) (ret : Option FieldType) (lev mc ms : Nat) (args : List Value) (S : Stt) (V : Va) (P : Option Value → Stt → Va → Prop) : Prop :=
  ∀ (l : Launch) (D : va_G) (ca : Nat → ClassId), Met l y (Cond.code y cc nL ret :: TB) (rmL lev mc ms) (PcP B D ca args S V) (QcP B D ca P) mc ms (fun q => B.1 ≤ q)
/-- the method's end is its contract's -/
def Rt (Γ : Ctx) (B : Bs) (P : Option Value → Stt → Va → Prop) (mc ms : Nat) : Prop := match Γ with
  | (_, _, _, _, s, _, args, below, _, _, Q, D, ca) => Q = MQ below (QcP B D ca P) args s mc ms (fun q => B.1 ≤ q)
theorem C.of {y : MethodName} {args : List Value} {P : Option Value → Stt → Va → Prop} (L : List (Option Value)) (h : ∀ Γ, Rt Γ B P mc ms → X Γ B y.cls y.name cc nL ret lev mc ms 0 L [] 0 0 S V) (hL : lvp 0 L = lv_args 0 args := by rfl) (hlen : (lg_sl args).length ≤ nL := by exact Nat.le_of_ble_eq_true rfl) (hp : plainName y.cls = true := by decide +kernel) : C B y cc nL ret lev mc ms args S V P := by
  intro l D ca
  refine Met.ofW (cc := cc) (maxL := nL) (ret := ret) hp rfl ?_
  intro p e s m args' below meth c s₁ Bd hml hv
  obtain ⟨rfl, hK, hBg, hMR⟩ := hv
  have hts := atoms_spec (ws := Cond.code y cc nL ret :: TB) Bd.pre
  have hX := h (p, l, e, rmL lev mc ms, s, m, args.toArray, below, meth, c, MQ below (QcP B D ca P) args.toArray s mc ms (fun q => B.1 ≤ q), D, ca) rfl
  rw [lg_entry_eq]
  exact hX ⟨Bd.exec, Bd.bytes, hml, Bd.returns, Bd.notSynchronized, findClass_of_methodNamed Bd.named, (name_of_methodNamed Bd.named Bd.method).1, fun w hw => hts w (List.mem_cons_of_mem _ hw), hK, hBg, by rw [hMR.1]; omega, Nat.le_refl _, Nat.le_refl _, Nat.le_refl _, Nat.le_refl _⟩ s.heap [] _ hMR va_S.rf (by unfold LH; rw [hL]; exact lv_entry args hlen)
theorem x_iret {r : Int} {P : Option Value → Stt → Va → Prop} (hQ : Rt Γ B P mc ms) (h : P (some (vI r)) S V) (d : decode cc pc = .ok (.ireturn, 1)) : X Γ B own nm cc nL (some .int) lev mc ms pc L [vI r] mc ms S V := by
  obtain ⟨p, l, e, R, s, m, args, below, meth, c, Q, D, ca⟩ := Γ
  intro o H locs ls h1 h2 h3
  have hQ : Q = MQ below (QcP B D ca P) args s mc ms (fun q => B.1 ≤ q) := hQ
  subst hQ
  exact W.iret o.1 o.2.1 o.2.2.2.1 (fun t ht _ => ⟨⟨_, S, V, rfl, h, by rw [ht]; exact h1⟩, h2.F ht⟩) h2.2.2 d o.2.2.2.2.1
theorem x_zret {r : Int} {P : Option Value → Stt → Va → Prop} (hQ : Rt Γ B P mc ms) (h : P (some (vI r)) S V) (hr : r = 0 ∨ r = 1) (d : decode cc pc = .ok (.ireturn, 1)) : X Γ B own nm cc nL (some .boolean) lev mc ms pc L [vI r] mc ms S V := by
  obtain ⟨p, l, e, R, s, m, args, below, meth, c, Q, D, ca⟩ := Γ
  intro o H locs ls h1 h2 h3
  have hQ : Q = MQ below (QcP B D ca P) args s mc ms (fun q => B.1 ≤ q) := hQ
  subst hQ
  exact W.zret o.1 o.2.1 o.2.2.2.1 (narZ hr).1 (fun t ht _ => ⟨⟨_, S, V, rfl, h, by rw [ht]; exact h1⟩, h2.F ht⟩) h2.2.2 d o.2.2.2.2.1
theorem x_lret {r : Int} {P : Option Value → Stt → Va → Prop} (hQ : Rt Γ B P mc ms) (h : P (some (vL r)) S V) (d : decode cc pc = .ok (.lreturn, 1)) : X Γ B own nm cc nL (some .long) lev mc ms pc L [vL r] mc ms S V := by
  obtain ⟨p, l, e, R, s, m, args, below, meth, c, Q, D, ca⟩ := Γ
  intro o H locs ls h1 h2 h3
  have hQ : Q = MQ below (QcP B D ca P) args s mc ms (fun q => B.1 ≤ q) := hQ
  subst hQ
  exact W.lret o.1 o.2.1 o.2.2.2.1 (fun t ht _ => ⟨⟨_, S, V, rfl, h, by rw [ht]; exact h1⟩, h2.F ht⟩) h2.2.2 d o.2.2.2.2.1
theorem x_vret {P : Option Value → Stt → Va → Prop} (hQ : Rt Γ B P mc ms) (h : P none S V) (d : decode cc pc = .ok (.return_, 1)) : X Γ B own nm cc nL none lev mc ms pc L [] mc ms S V := by
  obtain ⟨p, l, e, R, s, m, args, below, meth, c, Q, D, ca⟩ := Γ
  intro o H locs ls h1 h2 h3
  have hQ : Q = MQ below (QcP B D ca P) args s mc ms (fun q => B.1 ≤ q) := hQ
  subst hQ
  exact W.vret o.1 o.2.1 o.2.2.2.1 (fun t ht _ => ⟨⟨_, S, V, rfl, h, by rw [ht]; exact h1⟩, h2.F ht⟩) h2.2.2 d o.2.2.2.2.1
theorem x_aret {r : Option Nat} {rt : FieldType} {P : Option Value → Stt → Va → Prop} (hQ : Rt Γ B P mc ms) (h : P (some (vQ B r)) S V) (d : decode cc pc = .ok (.areturn, 1)) (hrt : isRefTy rt = true := by rfl) : X Γ B own nm cc nL (some rt) lev mc ms pc L [vQ B r] mc ms S V := by
  obtain ⟨p, l, e, R, s, m, args, below, meth, c, Q, D, ca⟩ := Γ
  intro o H locs ls h1 h2 h3
  have hQ : Q = MQ below (QcP B D ca P) args s mc ms (fun q => B.1 ≤ q) := hQ
  subst hQ
  exact W.aret o.1 o.2.1 o.2.2.2.1 (by cases rt <;> simp_all [isRefTy]) (by cases r <;> simp [vQ, va_rf]) (fun t ht _ => ⟨⟨_, S, V, rfl, h, by rw [ht]; exact h1⟩, h2.F ht⟩) h2.2.2 d o.2.2.2.2.1
/-! calls -/
theorem PcP_blind {D : va_G} {ca : Nat → ClassId} {args : List Value} : FrameBlind (PcP B D ca args S V) := fun a U g mk q => by
  obtain ⟨q0, qK, qB, qM⟩ := q
  exact ⟨q0, va_K.moved (u := U) (U := U.calling g mk a) (Vm.Alike.refl U.vm) qK, Bg.same (u := U) (U := U.calling g mk a) rfl rfl qB, qM⟩
theorem PcP_at {D : va_G} {ca : Nat → ClassId} {args : List Value} {s : State} {H : Heap} {locs : List Loc} (hK : va_K D cls (tyL ca) s) (hBg : Bg B s) (hM : MR B D ca S V H) (hS : va_S (fun q => B.1 ≤ q) s.heap H locs) : ∀ U : State, U.heap = H → s.WarmedH U.vm → PcP B D ca args S V args.toArray U := fun U hU hW => ⟨rfl, va_K.moved hW.alike hK, hBg.moved hW (fun a h1 h2 => by rw [hU]; exact hS.2.1 a h1 h2), by rw [hU]; exact hM⟩
theorem x_ran {p : Program} {l : Launch} {e : Env} {R : Room} {s : State} {m : MethodId} {args a : Array Value} {below : List Frame} {meth : Method} {c : Code} {H : Heap} {locs : List Loc} {Q : State → Prop} {ls : Array Slot} {D : va_G} {ca : Nat → ClassId} {st0 rest : List Value} {mc' ms' : Nat} {P : Option Value → Stt → Va → Prop} (hr : va_Run p l e R s m args below meth c H locs kc ks mc' ms' (F0 m pc ls st0) rest (QcP B D ca P a) (fun q => B.1 ≤ q)) (hS : va_S (fun q => B.1 ≤ q) s.heap H locs)
    (kk : ∀ (v : Option Value) (S' : Stt) (V' : Va) (H1 : Heap) (locs1 : List Loc), P v S' V' → MR B D ca S' V' H1 → va_S (fun q => B.1 ≤ q) s.heap H1 locs1 → W p l e R s m args below meth c H1 locs1 (kc + mc') (ks + ms') Q (F0 m (pc + 3) ls (v.toList ++ rest))) : W p l e R s m args below meth c H locs kc ks Q (F0 m pc ls st0) := by
  intro T hT Xs
  obtain ⟨v, st₀, t, T', L', h0, X', hL, e1, e2, ⟨⟨v', S', V', hv, hp, hb⟩, hz, hk⟩, st⟩ := hr T hT Xs
  cases hv
  rw [h0] at hz hk
  obtain ⟨t2, a1, b1⟩ := kk v S' V' T'.heap (locs ++ L') hp (by rw [e1]; exact hb)
    ⟨Nat.le_trans hS.1 (by rw [e1]; exact hz), fun q h1 h2 => by rw [e1, hk q (Nat.lt_of_lt_of_le h1 hS.1) h2]; exact hS.2.1 q h1 h2, fun q hq => by
      rcases List.mem_append.mp hq with h | h
      · exact hS.2.2 q h
      · exact hL q h⟩ T' rfl X'
  exact ⟨t2, st t2 a1, b1⟩
theorem good_code {y : MethodName} {cc' : ByteArray} {nL' : Nat} {ret' : Option FieldType} (h : Cond.code y cc' nL' ret' ∈ TB) : GoodIn TB (Cond.code y cc' nL' ret' :: TB) := fun w hw => by
  rcases List.mem_cons.mp hw with rfl | h2
  · exact TB_good _ h
  · exact TB_good _ h2
theorem x_callV {y : MethodName} {cc' : ByteArray} {nL' n index ci i z lev' mc' ms' : Nat} {ret' : Option FieldType} {As rest : List Value} {P : Option Value → Stt → Va → Prop} (hm : MV y cc' nL' ret' n) (hl : Cond.methodLink own index y ∈ TB) (d : decode cc pc = .ok (.invokevirtual index, 3)) (hC : C B y cc' nL' ret' lev' mc' ms' (vR B i :: As) S V P) (hs : S.1 i = (ci + 5, z)) (hi : i < S.2.2)
    (k : ∀ (v : Option Value) (S' : Stt) (V' : Va), P v S' V' → X Γ B own nm cc nL ret lev mc ms (pc + 3) L (v.toList ++ rest) (kc + mc') (ks + ms') S' V') (hst : st = As.reverse ++ vR B i :: rest := by rfl) (hlev : lev' < lev := by decide) (hci : ci < 12 := by decide) (hy : Rc ci = y.cls := by rfl) (hn : As.length = n := by rfl) (hrm : nL' ≤ 45 := by decide) (hsum : (rest.map fun v => v.category).sum ≤ 8 := by exact Nat.le_of_ble_eq_true rfl) (hf : kc + mc' ≤ mc ∧ ks + ms' ≤ ms := by exact ⟨Nat.le_of_ble_eq_true rfl, Nat.le_of_ble_eq_true rfl⟩) : X Γ B own nm cc nL ret lev mc ms pc L st kc ks S V := by
  obtain ⟨p, l, e, R, s, m, args, below, meth, c, Q, D, ca⟩ := Γ
  intro o H locs ls h1 h2 h3
  obtain ⟨hx, hb, hml, hr, hlk, hown, hnm, hts, hK, hBg, hle, hR1, hR2, hR3, hR4⟩ := id o
  obtain ⟨m1, m2, m3, m4, m5⟩ := hm
  subst hst
  have he : (wl B ca S V)[i]? = some (B.1 + i, .inr (ci, fsL B S V i ci)) := by rw [wl_get hi, cE_o hs]
  have hrecv := va_recv hK h1.2 (cls_at ci hci) he
  have cw : CallW R s args own y.cls index y cc' nL' ret' (Cond.code y cc' nL' ret' :: TB) (rmL lev' mc' ms') mc' ms' n :=
    ⟨callB_of n hts (good_code m1) rfl rfl rfl (hts _ m4) (hts _ hl) m5 ⟨by show lev' + 1 ≤ _; omega, by show 8 + (nL' + 11) + 64 * lev' ≤ _; omega⟩, hts _ m2, hts _ m3⟩
  exact x_ran (va_runV (As := As) (rest := rest) ⟨hx, hb, hml, hown, hts⟩ (hC l D ca) cw ⟨PcP_blind, by rw [← hy]; exact hrecv, PcP_at hK hBg h1 h2⟩ rfl hn h3.1 rfl (lv_room hsum) d ⟨by omega, by omega⟩) h2 (fun v S' V' H1 locs1 a1 a2 a3 => k v S' V' a1 o H1 locs1 ls a2 a3 h3)
theorem x_callS {y : MethodName} {cc' : ByteArray} {nL' n index lev' mc' ms' : Nat} {ret' : Option FieldType} {As rest : List Value} {P : Option Value → Stt → Va → Prop} (hm : MS y cc' nL' ret' n) (hl : Cond.methodLink own index y ∈ TB) (d : decode cc pc = .ok (.invokestatic index, 3)) (hC : C B y cc' nL' ret' lev' mc' ms' As S V P)
    (k : ∀ (v : Option Value) (S' : Stt) (V' : Va), P v S' V' → X Γ B own nm cc nL ret lev mc ms (pc + 3) L (v.toList ++ rest) (kc + mc') (ks + ms') S' V') (hst : st = As.reverse ++ rest := by rfl) (hlev : lev' < lev := by decide) (hn : As.length = n := by rfl) (hrm : nL' ≤ 45 := by decide) (hsum : (rest.map fun v => v.category).sum ≤ 8 := by exact Nat.le_of_ble_eq_true rfl) (hf : kc + mc' ≤ mc ∧ ks + ms' ≤ ms := by exact ⟨Nat.le_of_ble_eq_true rfl, Nat.le_of_ble_eq_true rfl⟩) : X Γ B own nm cc nL ret lev mc ms pc L st kc ks S V := by
  obtain ⟨p, l, e, R, s, m, args, below, meth, c, Q, D, ca⟩ := Γ
  intro o H locs ls h1 h2 h3
  obtain ⟨hx, hb, hml, hr, hlk, hown, hnm, hts, hK, hBg, hle, hR1, hR2, hR3, hR4⟩ := id o
  obtain ⟨m1, m2, m4, m5⟩ := hm
  subst hst
  have cw : CallB R s args own index y cc' nL' ret' (Cond.code y cc' nL' ret' :: TB) (rmL lev' mc' ms') mc' ms' n ∧ (Cond.static y).before args s = true :=
    ⟨callB_of n hts (good_code m1) rfl rfl rfl (hts _ m4) (hts _ hl) m5 ⟨by show lev' + 1 ≤ _; omega, by show 8 + (nL' + 11) + 64 * lev' ≤ _; omega⟩, hts _ m2⟩
  exact x_ran (va_runS (As := As) (rest := rest) ⟨hx, hb, hml, hown, hts⟩ (hC l D ca) cw ⟨PcP_blind, PcP_at hK hBg h1 h2⟩ rfl hn h3.1 rfl (lv_room hsum) d ⟨by omega, by omega⟩) h2 (fun v S' V' H1 locs1 a1 a2 a3 => k v S' V' a1 o H1 locs1 ls a2 a3 h3)
theorem x_callI {y : MethodName} {cc' : ByteArray} {nL' n index i lev' mc' ms' : Nat} {As rest : List Value} {P : Option Value → Stt → Va → Prop} (hm : MI y cc' nL' n) (hl : Cond.methodLink own index y ∈ TB) (d : decode cc pc = .ok (.invokespecial index, 3)) (hC : C B y cc' nL' none lev' mc' ms' (vR B i :: As) S V P)
    (k : ∀ (v : Option Value) (S' : Stt) (V' : Va), P v S' V' → X Γ B own nm cc nL ret lev mc ms (pc + 3) L (v.toList ++ rest) (kc + mc') (ks + ms') S' V') (hst : st = As.reverse ++ vR B i :: rest := by rfl) (hlev : lev' < lev := by decide) (hn : As.length = n := by rfl) (hrm : nL' ≤ 45 := by decide) (hsum : (rest.map fun v => v.category).sum ≤ 8 := by exact Nat.le_of_ble_eq_true rfl) (hf : kc + mc' ≤ mc ∧ ks + ms' ≤ ms := by exact ⟨Nat.le_of_ble_eq_true rfl, Nat.le_of_ble_eq_true rfl⟩) : X Γ B own nm cc nL ret lev mc ms pc L st kc ks S V := by
  obtain ⟨p, l, e, R, s, m, args, below, meth, c, Q, D, ca⟩ := Γ
  intro o H locs ls h1 h2 h3
  obtain ⟨hx, hb, hml, hr, hlk, hown, hnm, hts, hK, hBg, hle, hR1, hR2, hR3, hR4⟩ := id o
  obtain ⟨m1, m2, m4, m6, m5⟩ := hm
  subst hst
  have cw : CallB R s args own index y cc' nL' none (Cond.code y cc' nL' none :: TB) (rmL lev' mc' ms') mc' ms' n ∧ y.name = "<init>" ∧ (Cond.instanceMethod y).before args s = true :=
    ⟨callB_of n hts (good_code m1) rfl rfl rfl (hts _ m4) (hts _ hl) m5 ⟨by show lev' + 1 ≤ _; omega, by show 8 + (nL' + 11) + 64 * lev' ≤ _; omega⟩, m6, hts _ m2⟩
  exact x_ran (va_runI (As := As) (rest := rest) ⟨hx, hb, hml, hown, hts⟩ (hC l D ca) cw ⟨PcP_blind, PcP_at hK hBg h1 h2⟩ rfl hn h3.1 rfl (lv_room hsum) d ⟨by omega, by omega⟩) h2 (fun v S' V' H1 locs1 a1 a2 a3 => k v S' V' a1 o H1 locs1 ls a2 a3 h3)
theorem x_objInit {idx i : Nat} (hl : Cond.methodLink own idx Lib.objectInit ∈ TB) (h2' : Cond.instanceMethod Lib.objectInit ∈ TB) (h3' : Cond.code Lib.objectInit ⟨#[0xb1]⟩ 1 none ∈ TB) (d : decode cc pc = .ok (.invokespecial idx, 3)) (k : X Γ B own nm cc nL ret lev mc ms (pc + 3) L st kc ks S V) (hlev : 1 ≤ lev := by decide) (hsum : (st.map fun v => v.category).sum ≤ 8 := by exact Nat.le_of_ble_eq_true rfl) : X Γ B own nm cc nL ret lev mc ms pc L (vR B i :: st) kc ks S V := by
  obtain ⟨p, l, e, R, s, m, args, below, meth, c, Q, D, ca⟩ := Γ
  intro o H locs ls h1 h2 h3
  obtain ⟨hx, hb, hml, hr, hlk, hown, hnm, hts, hK, hBg, hle, hR1, hR2, hR3, hR4⟩ := id o
  have hw := lv_room (m := m) (pc := pc) (ls := ls) (rest := vR B i :: st) hsum
  exact W.objInit hx hb hown (hts _ hl) (hts _ h2') (hts _ h3') rfl (h3.1.trans hml.symm) rfl d (by omega) (by omega) (k o H locs ls h1 h2 h3)
end XC
