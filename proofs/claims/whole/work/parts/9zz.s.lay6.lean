/-! new cells -/
def nS (S : Stt) (sh : Nat × Nat) : Stt := (up S.1 S.2.2 sh, up S.2.1 S.2.2 (fun _ => none), S.2.2 + 1)
def nV (S : Stt) (V : Va) (f : Int → Int) : Va := up V S.2.2 f
theorem arr_int : Cond.arrayClass .int ∈ TB := tb_1 84 rfl rfl
theorem arr_long : Cond.arrayClass .long ∈ TB := tb_2 128 rfl rfl
theorem arr_bool : Cond.arrayClass .boolean ∈ TB := tb_6 20 rfl rfl
theorem cln_same : Cond.sameMethod "[I" "java/lang/Object" "clone" "()Ljava/lang/Object;" ∈ TB := tb_3 211 rfl rfl
theorem cln_nat : Cond.native ⟨"java/lang/Object", "clone", "()Ljava/lang/Object;"⟩ ∈ TB := tb_3 212 rfl rfl
theorem cln_inst : Cond.instanceMethod ⟨"java/lang/Object", "clone", "()Ljava/lang/Object;"⟩ ∈ TB := tb_3 213 rfl rfl
theorem cln_sel : Cond.selects "[I" ⟨"[I", "clone", "()Ljava/lang/Object;"⟩ ⟨"java/lang/Object", "clone", "()Ljava/lang/Object;"⟩ ∈ TB := tb_3 214 rfl rfl
/-- the kinds of fields that there are -/
def okTy : FieldType → Bool
  | .int => true
  | .boolean => true
  | .long => true
  | .object _ => true
  | .array _ => true
  | _ => false
theorem ty_ok : ∀ ci, ci < 12 → ∀ k, k < Nc ci → okTy (tyc ci k) = true := by decide +kernel
theorem fV_def (B : Bs) {ty : FieldType} (h : okTy ty = true) : defaultValue ty = fV B ty 0 none := by
  cases ty <;> first | rfl | (exact absurd h (by simp [okTy]))
theorem wl_new {B : Bs} {ca : Nat → ClassId} {S : Stt} {V : Va} (sh : Nat × Nat) (f : Int → Int) : wl B ca (nS S sh) (nV S V f) = wl B ca S V ++ [(B.1 + S.2.2, cE B ca (nS S sh) (nV S V f) S.2.2)] := by
  have e : ∀ i, i < S.2.2 → cE B ca (nS S sh) (nV S V f) i = cE B ca S V i := fun i hi => cE_congr (up_ne (by omega)) (up_ne (by omega)) (up_ne (by omega))
  simp only [wl]
  rw [show (nS S sh).2.2 = S.2.2 + 1 from rfl, List.range_succ, List.map_append]
  congr 1
  apply List.map_congr_left
  intro i hi
  rw [e i (List.mem_range.mp hi)]
theorem MR_new {B : Bs} {D : va_G} {ca : Nat → ClassId} {S : Stt} {V : Va} {H H1 : Heap} (sh : Nat × Nat) (f : Int → Int) (h : MR B D ca S V H) (z1 : H1.size = B.1 + S.2.2 + 1) (o1 : ∀ q, q < B.1 + S.2.2 → H1[q]? = H[q]?) (hc : va_at D cls (B.1 + S.2.2, cE B ca (nS S sh) (nV S V f) S.2.2) H1) : MR B D ca (nS S sh) (nV S V f) H1 := by
  refine ⟨by rw [z1]; rfl, ?_⟩
  rw [wl_new]
  refine va_P.app (h.2.kept (fun k q hk => o1 q.1 ?_)) (fun k q hk => ?_)
  · have := (h.2 k q hk).lt
    rw [h.1] at this
    exact this
  · have hz : k < 1 := (List.getElem?_eq_some_iff.mp hk).1
    rw [show k = 0 by omega] at hk
    cases hk
    exact hc
theorem S_new {B : Bs} {s0 H H1 : Heap} {locs : List Loc} {h : Nat} (h2 : va_S (fun q => B.1 ≤ q) s0 H locs) (hh : H.size = h) (z1 : H1.size = h + 1) (o1 : ∀ q, q < h → H1[q]? = H[q]?) : va_S (fun q => B.1 ≤ q) s0 H1 locs := by
  subst hh
  exact ⟨Nat.le_trans h2.1 (by omega), fun x a b => (o1 x (Nat.lt_of_lt_of_le a h2.1)).trans (h2.2.1 x a b), h2.2.2⟩
section XNw
variable {Γ : Ctx} {B : Bs} {own nm : String} {cc : ByteArray} {nL : Nat} {ret : Option FieldType} {lev mc ms pc : Nat} {L : List (Option Value)} {st : List Value} {kc ks : Nat} {S : Stt} {V : Va}
theorem iI_neg0 {n : Int} {N : Nat} (hn : n = N) (hN : N ≤ 1000000) : ¬ Int32.ofInt n < 0 ∧ (Int32.ofInt n).toNatClampNeg = N := by
  have hr : InR n := ⟨by omega, by omega⟩
  refine ⟨fun z => ?_, ?_⟩
  · have := (iI_lt0 hr).mp z
    omega
  · rw [iI_nat (by omega) hr]; omega
theorem x_newi {n : Int} {N : Nat} (hn : n = N) (hN : N ≤ 1000000) (hf : kc + 1 ≤ mc ∧ ks + N ≤ ms) (d : decode cc pc = .ok (.newarray .int, 2)) (k : X Γ B own nm cc nL ret lev mc ms (pc + 2) L (vR B S.2.2 :: st) (kc + 1) (ks + N) (nS S (0, N)) (nV S V (fun _ => 0))) : X Γ B own nm cc nL ret lev mc ms pc L (vI n :: st) kc ks S V := by
  obtain ⟨p, l, e, R, s, m, args, below, meth, c, Q, D, ca⟩ := Γ
  intro o H locs ls h1 h2 h3
  obtain ⟨hx, hb, hml, hr, hlk, hown, hnm, hts, hK, hBg, hle, hR1, hR2, hR3, hR4⟩ := id o
  obtain ⟨n1, n2⟩ := iI_neg0 hn hN
  refine va_newaK (atype := .int) hx hb (hts _ arr_int) rfl d rfl n1 n2 (by show N * 4 ≤ _; omega) (by omega) (by omega) h1.1 fun H1 cA e1 z1 o1 hAr hNm => ?_
  have hca : cA = ca 0 := by
    have z : s.vm.findClass "[I" = some (ca 0) := (hK.2 0 (ca 0, .int) rfl).2
    exact Option.some.inj (hNm.symm.trans z)
  refine k o H1 locs ls (MR_new _ _ h1 z1 o1 ?_) (S_new h2 h1.1 z1 o1) h3
  rw [cE_i (n := N) (up_same _ _ _)]
  show H1[_]? = some (vp_cell _ _)
  rw [vp_cell_i, e1, hca]
  have e0 : (nV S V (fun _ => 0)) S.2.2 = fun _ => 0 := up_same _ _ _
  rw [e0]
  rfl
theorem x_newl {n : Int} {N : Nat} (hn : n = N) (hN : N ≤ 1000000) (hf : kc + 1 ≤ mc ∧ ks + N ≤ ms) (d : decode cc pc = .ok (.newarray .long, 2)) (k : X Γ B own nm cc nL ret lev mc ms (pc + 2) L (vR B S.2.2 :: st) (kc + 1) (ks + N) (nS S (1, N)) (nV S V (fun _ => 0))) : X Γ B own nm cc nL ret lev mc ms pc L (vI n :: st) kc ks S V := by
  obtain ⟨p, l, e, R, s, m, args, below, meth, c, Q, D, ca⟩ := Γ
  intro o H locs ls h1 h2 h3
  obtain ⟨hx, hb, hml, hr, hlk, hown, hnm, hts, hK, hBg, hle, hR1, hR2, hR3, hR4⟩ := id o
  obtain ⟨n1, n2⟩ := iI_neg0 hn hN
  refine va_newaK (atype := .long) hx hb (hts _ arr_long) rfl d rfl n1 n2 (by show N * 8 ≤ _; omega) (by omega) (by omega) h1.1 fun H1 cA e1 z1 o1 hAr hNm => ?_
  have hca : cA = ca 1 := by
    have z : s.vm.findClass "[J" = some (ca 1) := (hK.2 1 (ca 1, .long) rfl).2
    exact Option.some.inj (hNm.symm.trans z)
  refine k o H1 locs ls (MR_new _ _ h1 z1 o1 ?_) (S_new h2 h1.1 z1 o1) h3
  rw [cE_l (n := N) (up_same _ _ _)]
  show H1[_]? = some (vp_cell _ _)
  rw [vp_cell_l, e1, hca]
  have e0 : (nV S V (fun _ => 0)) S.2.2 = fun _ => 0 := up_same _ _ _
  rw [e0]
  rfl
theorem x_newz {n : Int} {N : Nat} (hn : n = N) (hN : N ≤ 1000000) (hf : kc + 1 ≤ mc ∧ ks + N ≤ ms) (d : decode cc pc = .ok (.newarray .boolean, 2)) (k : X Γ B own nm cc nL ret lev mc ms (pc + 2) L (vR B S.2.2 :: st) (kc + 1) (ks + N) (nS S (2, N)) (nV S V (fun _ => 0))) : X Γ B own nm cc nL ret lev mc ms pc L (vI n :: st) kc ks S V := by
  obtain ⟨p, l, e, R, s, m, args, below, meth, c, Q, D, ca⟩ := Γ
  intro o H locs ls h1 h2 h3
  obtain ⟨hx, hb, hml, hr, hlk, hown, hnm, hts, hK, hBg, hle, hR1, hR2, hR3, hR4⟩ := id o
  obtain ⟨n1, n2⟩ := iI_neg0 hn hN
  refine va_newaK (atype := .boolean) hx hb (hts _ arr_bool) rfl d rfl n1 n2 (by show N * 1 ≤ _; omega) (by omega) (by omega) h1.1 fun H1 cA e1 z1 o1 hAr hNm => ?_
  have hca : cA = ca 2 := by
    have z : s.vm.findClass "[Z" = some (ca 2) := (hK.2 2 (ca 2, .boolean) rfl).2
    exact Option.some.inj (hNm.symm.trans z)
  refine k o H1 locs ls (MR_new _ _ h1 z1 o1 ?_) (S_new h2 h1.1 z1 o1) h3
  rw [cE_z (n := N) (up_same _ _ _)]
  show H1[_]? = some (vp_cell _ _)
  rw [vp_cell_i, e1, hca]
  have e0 : (nV S V (fun _ => 0)) S.2.2 = fun _ => 0 := up_same _ _ _
  rw [e0]
  rfl
/-- a row of references (of TEXTS: kind 3, of BONES: kind 4) -/
theorem x_newq {n : Int} {N index kd : Nat} {E : String} (hkd : (kd = 3 ∧ E = RX8) ∨ (kd = 4 ∧ E = RX0)) (hn : n = N) (hN : N ≤ 1000000) (hf : kc + 1 ≤ mc ∧ ks + N ≤ ms) (hl : Cond.classLink own index E ∈ TB) (d : decode cc pc = .ok (.anewarray index, 3)) (k : X Γ B own nm cc nL ret lev mc ms (pc + 3) L (vR B S.2.2 :: st) (kc + 1) (ks + N) (nS S (kd, N)) (nV S V (fun _ => 0))) : X Γ B own nm cc nL ret lev mc ms pc L (vI n :: st) kc ks S V := by
  obtain ⟨p, l, e, R, s, m, args, below, meth, c, Q, D, ca⟩ := Γ
  intro o H locs ls h1 h2 h3
  obtain ⟨hx, hb, hml, hr, hlk, hown, hnm, hts, hK, hBg, hle, hR1, hR2, hR3, hR4⟩ := id o
  obtain ⟨n1, n2⟩ := iI_neg0 hn hN
  have hover : va_AO E s := by
    rcases hkd with z | z
    · rw [z.2]; exact hBg.2.2.1
    · rw [z.2]; exact hBg.2.1
  refine W.anew hx hb hown (hts _ hl) (va_AO.use hover) rfl d rfl n1 (by rw [n2]; omega) (by omega) (by rw [n2]; omega) fun cA kA comp f1 f2 f3 f4 => ?_
  rw [n2]
  generalize hH1 : H.push ({ cls := cA, slots := Array.replicate N .null, vm := .none } : Cell) = H1
  have z1 : H1.size = B.1 + S.2.2 + 1 := by rw [← hH1, Array.size_push, h1.1]
  have e1 : H1[B.1 + S.2.2]? = some (arrV cA N (fun _ => .null)) := by rw [← hH1, ← h1.1, Array.getElem?_push_size, ← arrV_new]
  have o1 : ∀ q : Nat, q < B.1 + S.2.2 → H1[q]? = H[q]? := fun q hq => by rw [← hH1, Array.getElem?_push, if_neg (by rw [h1.1]; exact Nat.ne_of_lt hq)]
  have hca : cA = ca kd := by
    rcases hkd with ⟨z, z2⟩ | ⟨z, z2⟩
    · subst z; subst z2
      obtain ⟨_, _, _, _, _, w⟩ := (hK.2 3 (ca 3, .object RX8) rfl).2
      exact Option.some.inj (f1.symm.trans w)
    · subst z; subst z2
      obtain ⟨_, _, _, _, _, w⟩ := (hK.2 4 (ca 4, .object RX0) rfl).2
      exact Option.some.inj (f1.symm.trans w)
  rw [h1.1]
  refine k o H1 locs ls (MR_new _ _ h1 z1 o1 ?_) (S_new h2 h1.1 z1 o1) h3
  have e0 : (nS S (kd, N)).2.1 S.2.2 = fun _ => none := up_same _ _ _
  rcases hkd with ⟨z, z2⟩ | ⟨z, z2⟩
  · subst z
    rw [cE_t (n := N) (up_same _ _ _)]
    show H1[_]? = some (vp_cell _ _)
    rw [vp_cell_q, e1, hca, e0]
    rfl
  · subst z
    rw [cE_b (n := N) (up_same _ _ _)]
    show H1[_]? = some (vp_cell _ _)
    rw [vp_cell_q, e1, hca, e0]
    rfl
/-- an object -/
theorem x_newo {index ci : Nat} (hci : ci < 12) (hl : Cond.classLink own index (Rc ci) ∈ TB) (hi : Cond.instantiable (Rc ci) (Nc ci) ∈ TB) (hini : Cond.initialized (Rc ci) ∈ TB) (hf : kc + 1 ≤ mc ∧ ks + Nc ci ≤ ms) (d : decode cc pc = .ok (.new index, 3)) (k : X Γ B own nm cc nL ret lev mc ms (pc + 3) L (vR B S.2.2 :: st) (kc + 1) (ks + Nc ci) (nS S (ci + 5, 0)) (nV S V (fun _ => 0))) : X Γ B own nm cc nL ret lev mc ms pc L st kc ks S V := by
  obtain ⟨p, l, e, R, s, m, args, below, meth, c, Q, D, ca⟩ := Γ
  intro o H locs ls h1 h2 h3
  obtain ⟨hx, hb, hml, hr, hlk, hown, hnm, hts, hK, hBg, hle, hR1, hR2, hR3, hR4⟩ := id o
  have hc := cls_at ci hci
  have hKn := hK.1 ci _ hc
  refine W.newcK hx hb hown (hts _ hl) (hts _ hi) (hts _ hini) rfl d (by omega) (by omega) hKn.2.1 h1.1 fun H1 kC hkC e1 z1 o1 => ?_
  refine k o H1 locs ls (MR_new _ _ h1 z1 o1 ?_) (S_new h2 h1.1 z1 o1) h3
  rw [cE_o (ci := ci) (z := 0) (up_same _ _ _)]
  refine ⟨_, hc, (u_born (tyc ci) hts (in_all ci hci) hKn hkC e1 (ty_all ci hci)).to (fun j hj => ?_)⟩
  have e2 : (nV S V (fun _ => 0)) S.2.2 = fun _ => 0 := up_same _ _ _
  have e3 : (nS S (ci + 5, 0)).2.1 S.2.2 = fun _ => none := up_same _ _ _
  have e4 : vp_V (fsL B (nS S (ci + 5, 0)) (nV S V (fun _ => 0)) S.2.2 ci) j = fV B (tyc ci j) 0 none := by
    show ((fsL B (nS S (ci + 5, 0)) (nV S V (fun _ => 0)) S.2.2 ci)[j]?).getD .null = _
    rw [fsL_get hj, e2, e3]
    rfl
  rw [e4]
  exact fV_def B (ty_ok ci hci j hj)
/-- a row of ints, cloned -/
theorem x_clonei {index i n : Nat} (hl : Cond.methodLink own index ⟨"[I", "clone", "()Ljava/lang/Object;"⟩ ∈ TB) (d : decode cc pc = .ok (.invokevirtual index, 3)) (hs : S.1 i = (0, n)) (hi : i < S.2.2) (hf : kc + 1 ≤ mc ∧ ks + n ≤ ms) (k : X Γ B own nm cc nL ret lev mc ms (pc + 3) L (vR B S.2.2 :: st) (kc + 1) (ks + n) (nS S (0, n)) (nV S V (V i))) (hlev : 1 ≤ lev := by decide) (hsum : (st.map fun v => v.category).sum ≤ 8 := by exact Nat.le_of_ble_eq_true rfl) : X Γ B own nm cc nL ret lev mc ms pc L (vR B i :: st) kc ks S V := by
  obtain ⟨p, l, e, R, s, m, args, below, meth, c, Q, D, ca⟩ := Γ
  intro o H locs ls h1 h2 h3
  obtain ⟨hx, hb, hml, hr, hlk, hown, hnm, hts, hK, hBg, hle, hR1, hR2, hR3, hR4⟩ := id o
  have he : (wl B ca S V)[i]? = some (B.1 + i, .inl (ca 0, n, .inl fun j : Nat => Int32.ofInt (V i j))) := by rw [wl_get hi, cE_i hs]
  have hcell : H[B.1 + i]? = some (vp_cell (ca 0) (n, .inl fun j : Nat => Int32.ofInt (V i j))) := h1.2 i _ he
  have hnmA : s.vm.findClass "[I" = some (ca 0) := (hK.2 0 (ca 0, .int) rfl).2
  have hsz : (vp_cell (ca 0) (n, .inl fun j : Nat => Int32.ofInt (V i j))).slots.size = n := arrV_size _ _ _
  have hcellE : ({ cls := (vp_cell (ca 0) (n, .inl fun j : Nat => Int32.ofInt (V i j))).cls, slots := (vp_cell (ca 0) (n, .inl fun j : Nat => Int32.ofInt (V i j))).slots } : Cell) = vp_cell (ca 0) (n, .inl fun j : Nat => Int32.ofInt (V i j)) := rfl
  obtain ⟨c0, t0', f1, f2, f3⟩ := Cond.castable_spec (va_Nw.use (A := args) rfl hBg.2.2.2.1)
  cases hnmA.symm.trans f1
  intro T hT X
  have hcellT : T.heap[B.1 + i]? = some (vp_cell (ca 0) (n, .inl fun j : Nat => Int32.ofInt (V i j))) := by rw [hT]; exact hcell
  obtain ⟨-, kA, hkA, comp, hkind⟩ := State.isArrayOf_alike X.warmed.alike ((hK.2 0 (ca 0, .int) rfl).1 0 (fun _ => .null))
  obtain ⟨-, kS, hkS, compS, hkindS⟩ := (hK.2 0 (ca 0, .int) rfl).1 0 (fun _ => .null)
  obtain ⟨vm', X', stp⟩ := X.cloneArray hx hown (hts _ hl) (hts _ cln_same) (hts _ cln_nat) (hts _ cln_inst) (hts _ cln_sel) (a := B.1 + i) (cell := vp_cell (ca 0) (n, .inl fun j : Nat => Int32.ofInt (V i j))) hcellT (fun k h => by cases h) (fun h => by cases h) hnmA f2 f3
    (fun q v hv => by
      have hk' : T.vm.classes[ca 0]? = some kA := hkA
      have hv2 : ∃ z, v = .int z := by
        have hq : q < n := by
          have := (Array.getElem?_eq_some_iff.mp hv).1
          rw [hsz] at this
          exact this
        have w := arrV_read (ca 0) (fun j : Nat => Value.int (Int32.ofInt (V i j))) hq
        rw [show (vp_cell (ca 0) (n, .inl fun j : Nat => Int32.ofInt (V i j))).slots[q]? = _ from w] at hv
        exact ⟨_, (Option.some.inj hv).symm⟩
      obtain ⟨z, rfl⟩ := hv2
      rw [show (vp_cell (ca 0) (n, .inl fun j : Nat => Int32.ofInt (V i j))).cls = ca 0 from rfl]
      simp [State.fitsSlot, State.slotType?, hk', hkind, fits])
    (g := F0 m pc ls (vR B i :: st)) rfl (by rw [hml]; exact h3.1) rfl (by rw [hb]; exact d) (by omega) (by show 2 * 0 + _ + 14 ≤ _; omega) (by omega) (by rw [hsz]; omega) (hloader := Vm.clonesLoader_of_array hkS hkindS)
  rw [hcellE, hsz] at X'
  generalize hH1 : H.push (vp_cell (ca 0) (n, .inl fun j : Nat => Int32.ofInt (V i j))) = H1
  have z1 : H1.size = B.1 + S.2.2 + 1 := by rw [← hH1, Array.size_push, h1.1]
  have e1 : H1[B.1 + S.2.2]? = some (vp_cell (ca 0) (n, .inl fun j : Nat => Int32.ofInt (V i j))) := by rw [← hH1, ← h1.1, Array.getElem?_push_size]
  have o1 : ∀ q : Nat, q < B.1 + S.2.2 → H1[q]? = H[q]? := fun q hq => by rw [← hH1, Array.getElem?_push, if_neg (by rw [h1.1]; exact Nat.ne_of_lt hq)]
  have hcE : va_at D cls (B.1 + S.2.2, cE B ca (nS S (0, n)) (nV S V (V i)) S.2.2) H1 := by
    rw [cE_i (n := n) (up_same _ _ _)]
    show H1[_]? = some (vp_cell _ _)
    have e0 : (nV S V (V i)) S.2.2 = V i := up_same _ _ _
    rw [e1, e0]
  obtain ⟨t, b1, b2⟩ := k o H1 locs ls (MR_new _ _ h1 z1 o1 hcE) (S_new h2 h1.1 z1 o1) h3 ((T.setVm vm').pushCell (vp_cell (ca 0) (n, .inl fun j : Nat => Int32.ofInt (V i j)))) (by rw [← hH1, ← hT]; rfl) X'
  refine ⟨t, stp t ?_, b2⟩
  rw [hcellE, hT, h1.1]
  exact b1
theorem x_casti {index i n : Nat} (hl : Cond.classLink own index "[I" ∈ TB) (d : decode cc pc = .ok (.checkcast index, 3)) (hs : S.1 i = (0, n)) (hi : i < S.2.2) (k : X Γ B own nm cc nL ret lev mc ms (pc + 3) L (vR B i :: st) kc ks S V) : X Γ B own nm cc nL ret lev mc ms pc L (vR B i :: st) kc ks S V := by
  obtain ⟨p, l, e, R, s, m, args, below, meth, c, Q, D, ca⟩ := Γ
  intro o H locs ls h1 h2 h3
  obtain ⟨hx, hb, hml, hr, hlk, hown, hnm, hts, hK, hBg, hle, hR1, hR2, hR3, hR4⟩ := id o
  have he : (wl B ca S V)[i]? = some (B.1 + i, .inl (ca 0, n, .inl fun j : Nat => Int32.ofInt (V i j))) := by rw [wl_get hi, cE_i hs]
  have hnmA : s.vm.findClass "[I" = some (ca 0) := (hK.2 0 (ca 0, .int) rfl).2
  exact va_castA hx hb hown (hts _ hl) h1.2 i he hnmA d (k o H locs ls h1 h2 h3)
end XNw
