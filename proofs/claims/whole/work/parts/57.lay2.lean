/-! calls of nest mates, arraycopy, and rows of references written -/
section XN
variable {Γ : Ctx} {B : Bs} {own nm : String} {cc : ByteArray} {nL : Nat} {ret : Option FieldType} {lev mc ms pc : Nat} {L : List (Option Value)} {st : List Value} {kc ks : Nat} {S : Stt} {V : Va}
theorem x_callSN {y : MethodName} {cc' : ByteArray} {host : String} {nL' n index lev' mc' ms' : Nat} {ret' : Option FieldType} {As rest : List Value} {P : Option Value → Stt → Va → Prop} (hm : MS y cc' nL' ret' n) (hl : Cond.methodLinkNest own index y host ∈ nestW) (d : decode cc pc = .ok (.invokestatic index, 3)) (hC : C B y cc' nL' ret' lev' mc' ms' As S V P)
    (k : ∀ (v : Option Value) (S' : Stt) (V' : Va), P v S' V' → X Γ B own nm cc nL ret lev mc ms (pc + 3) L (v.toList ++ rest) (kc + mc') (ks + ms') S' V') (hst : st = As.reverse ++ rest := by rfl) (hlev : lev' < lev := by decide) (hn : As.length = n := by rfl) (hrm : nL' ≤ 45 := by decide) (hsum : (rest.map fun v => v.category).sum ≤ 8 := by exact Nat.le_of_ble_eq_true rfl) (hf : kc + mc' ≤ mc ∧ ks + ms' ≤ ms := by exact ⟨Nat.le_of_ble_eq_true rfl, Nat.le_of_ble_eq_true rfl⟩) : X Γ B own nm cc nL ret lev mc ms pc L st kc ks S V := by
  obtain ⟨p, l, e, R, s, m, args, below, meth, c, Q, D, ca⟩ := Γ
  intro o H locs ls h1 h2 h3
  obtain ⟨hx, hb, hml, hr, hlk, hown, hnm, hts, hK, hBg, hle, hR1, hR2, hR3, hR4⟩ := id o
  obtain ⟨m1, m2, m4, m5⟩ := hm
  subst hst
  have cw : va_CN R s args own index y host cc' nL' ret' (Cond.code y cc' nL' ret' :: TB) (rmL lev' mc' ms') mc' ms' n ∧ (Cond.static y).before args s = true ∧ True :=
    ⟨va_cnB n hts (good_code m1) rfl rfl rfl (hBg.1 _ hl) (hts _ m4) m5 ⟨by show lev' + 1 ≤ _; omega, by show 8 + (nL' + 11) + 64 * lev' ≤ _; omega⟩, hts _ m2, trivial⟩
  exact x_ran (va_runSN (As := As) (rest := rest) ⟨hx, hb, hml, hown, hts⟩ (hC l D ca) cw ⟨PcP_blind, PcP_at hK hBg h1 h2⟩ rfl hn h3.1 rfl (lv_room hsum) d ⟨by omega, by omega⟩) h2 (fun v S' V' H1 locs1 a1 a2 a3 => k v S' V' a1 o H1 locs1 ls a2 a3 h3)
theorem x_callIN {y : MethodName} {cc' : ByteArray} {host : String} {nL' n index i lev' mc' ms' : Nat} {As rest : List Value} {P : Option Value → Stt → Va → Prop} (hm : MI y cc' nL' n) (hl : Cond.methodLinkNest own index y host ∈ nestW) (d : decode cc pc = .ok (.invokespecial index, 3)) (hC : C B y cc' nL' none lev' mc' ms' (vR B i :: As) S V P)
    (k : ∀ (v : Option Value) (S' : Stt) (V' : Va), P v S' V' → X Γ B own nm cc nL ret lev mc ms (pc + 3) L (v.toList ++ rest) (kc + mc') (ks + ms') S' V') (hst : st = As.reverse ++ vR B i :: rest := by rfl) (hlev : lev' < lev := by decide) (hn : As.length = n := by rfl) (hrm : nL' ≤ 45 := by decide) (hsum : (rest.map fun v => v.category).sum ≤ 8 := by exact Nat.le_of_ble_eq_true rfl) (hf : kc + mc' ≤ mc ∧ ks + ms' ≤ ms := by exact ⟨Nat.le_of_ble_eq_true rfl, Nat.le_of_ble_eq_true rfl⟩) : X Γ B own nm cc nL ret lev mc ms pc L st kc ks S V := by
  obtain ⟨p, l, e, R, s, m, args, below, meth, c, Q, D, ca⟩ := Γ
  intro o H locs ls h1 h2 h3
  obtain ⟨hx, hb, hml, hr, hlk, hown, hnm, hts, hK, hBg, hle, hR1, hR2, hR3, hR4⟩ := id o
  obtain ⟨m1, m2, m4, m6, m5⟩ := hm
  subst hst
  have cw : va_CN R s args own index y host cc' nL' none (Cond.code y cc' nL' none :: TB) (rmL lev' mc' ms') mc' ms' n ∧ y.name = "<init>" ∧ (Cond.instanceMethod y).before args s = true :=
    ⟨va_cnB n hts (good_code m1) rfl rfl rfl (hBg.1 _ hl) (hts _ m4) m5 ⟨by show lev' + 1 ≤ _; omega, by show 8 + (nL' + 11) + 64 * lev' ≤ _; omega⟩, m6, hts _ m2⟩
  exact x_ran (va_runIN (As := As) (rest := rest) ⟨hx, hb, hml, hown, hts⟩ (hC l D ca) cw ⟨PcP_blind, PcP_at hK hBg h1 h2⟩ rfl hn h3.1 rfl (lv_room hsum) d ⟨by omega, by omega⟩) h2 (fun v S' V' H1 locs1 a1 a2 a3 => k v S' V' a1 o H1 locs1 ls a2 a3 h3)
theorem x_cSNi {y : MethodName} {cc' : ByteArray} {host : String} {nL' n index lev' : Nat} {ret' : Option FieldType} {As rest : List Value} {S1 : Stt} {V1 : Va} {r : Int} (hm : MS y cc' nL' ret' n) (hl : Cond.methodLinkNest own index y host ∈ nestW) (d : decode cc pc = .ok (.invokestatic index, 3)) (hC : C B y cc' nL' ret' lev' 0 0 As S V (rI S1 V1 r)) (k : X Γ B own nm cc nL ret lev mc ms (pc + 3) L (vI r :: rest) kc ks S1 V1) (hst : st = As.reverse ++ rest := by rfl) (hlev : lev' < lev := by decide) (hn : As.length = n := by rfl) (hrm : nL' ≤ 45 := by decide) (hsum : (rest.map fun v => v.category).sum ≤ 8 := by exact Nat.le_of_ble_eq_true rfl) (hf : kc + 0 ≤ mc ∧ ks + 0 ≤ ms := by exact ⟨Nat.le_of_ble_eq_true rfl, Nat.le_of_ble_eq_true rfl⟩) : X Γ B own nm cc nL ret lev mc ms pc L st kc ks S V :=
  x_callSN hm hl d hC (fun v S' V' h => by obtain ⟨rfl, rfl, rfl⟩ := h; exact k) hst hlev hn hrm hsum hf
theorem nfw : nativeFrameWords "java/lang/System" "arraycopy" 5 + 11 ≤ 50 := by decide
theorem sta_cpy : Cond.static arraycopyName ∈ TB := tb_2 234 rfl rfl
theorem nat_cpy : Cond.native arraycopyName ∈ TB := tb_2 235 rfl rfl
theorem ini_sys : Cond.initialized "java/lang/System" ∈ TB := tb_1 12 rfl rfl
theorem x_copyi {index i j ni nj : Nat} {k : Int} (hl : Cond.methodLink own index arraycopyName ∈ TB) (d : decode cc pc = .ok (.invokestatic index, 3)) (hsi : S.1 i = (0, ni)) (hi : i < S.2.2) (hsj : S.1 j = (0, nj)) (hj : j < S.2.2) (h0 : 0 ≤ k) (hk1 : k ≤ ni) (hk2 : k ≤ nj) (kk : X Γ B own nm cc nL ret lev mc ms (pc + 3) L st kc ks S (up V i (cpK (V j) (V i) k))) (hn : ni < 2147483648 := by decide) (hlev : 1 ≤ lev := by decide) (hsum : (st.map fun v => v.category).sum ≤ 8 := by exact Nat.le_of_ble_eq_true rfl) : X Γ B own nm cc nL ret lev mc ms pc L (vI k :: vI 0 :: vR B i :: vI 0 :: vR B j :: st) kc ks S V := by
  obtain ⟨p, l, e, R, s, m, args, below, meth, c, Q, D, ca⟩ := Γ
  intro o H locs ls h1 h2 h3
  obtain ⟨hx, hb, hml, hr, hlk, hown, hnm, hts, hK, hBg, hle, hR1, hR2, hR3, hR4⟩ := id o
  have hr : InR k := ⟨by omega, by omega⟩
  have e0 : (Int32.ofInt 0).toNatClampNeg = 0 := by decide
  have ek : (Int32.ofInt k).toNatClampNeg = k.toNat := iI_nat h0 hr
  have t0 : (Int32.ofInt 0).toInt = 0 := by decide
  have tk : (Int32.ofInt k).toInt = k := iI_toInt hr
  have hw := nfw
  have hej : (wl B ca S V)[j]? = some (B.1 + j, .inl (ca 0, nj, .inl fun q : Nat => Int32.ofInt (V j q))) := by rw [wl_get hj, cE_i hsj]
  have hei : (wl B ca S V)[i]? = some (B.1 + i, .inl (ca 0, ni, .inl fun q : Nat => Int32.ofInt (V i q))) := by rw [wl_get hi, cE_i hsi]
  have hcj : H[B.1 + j]? = some (vp_cell (ca 0) (nj, .inl fun q : Nat => Int32.ofInt (V j q))) := h1.2 j _ hej
  have hci : H[B.1 + i]? = some (vp_cell (ca 0) (ni, .inl fun q : Nat => Int32.ofInt (V i q))) := h1.2 i _ hei
  obtain ⟨-, k0, hk0, cm0, hkk0⟩ := (hK.2 0 _ rfl).1 nj (fun q => .int (Int32.ofInt (V j q)))
  obtain ⟨-, k1, hk1', cm1, hkk1⟩ := (hK.2 0 _ rfl).1 ni (fun q => .int (Int32.ofInt (V i q)))
  intro T hT Xs
  obtain ⟨vm', X', step⟩ := Xs.arraycopy hx hown (hts _ hl) (hts _ nat_cpy) (hts _ sta_cpy) (hts _ ini_sys) (src := B.1 + j) (dst := B.1 + i) (cs := vp_cell (ca 0) (nj, .inl fun q : Nat => Int32.ofInt (V j q))) (cd := vp_cell (ca 0) (ni, .inl fun q : Nat => Int32.ofInt (V i q))) (srcPos := Int32.ofInt 0) (destPos := Int32.ofInt 0) (n := Int32.ofInt k) (by rw [hT]; exact hcj) (by rw [hT]; exact hci)
    (fun _ h => by cases h) (fun _ h => by cases h) (fun h => by cases h) (fun h => by cases h) hk0 hk1' hkk0 hkk1 (by simp [refKind]) (by decide) (by decide) (fun z => by have := (iI_lt0 hr).mp z; omega)
    (by rw [t0, tk]; show ¬ _ > ((arrV (ca 0) nj (fun q => .int (Int32.ofInt (V j q)))).slots.size : Int); rw [arrV_size]; omega)
    (by rw [t0, tk]; show ¬ _ > ((arrV (ca 0) ni (fun q => .int (Int32.ofInt (V i q)))).slots.size : Int); rw [arrV_size]; omega)
    (fun vm₁ _ q hq => by
      have ee : (vp_cell (ca 0) (nj, .inl fun q : Nat => Int32.ofInt (V j q))).slots.getD ((Int32.ofInt 0).toNatClampNeg + q) .null = .int (Int32.ofInt (V j ((Int32.ofInt 0).toNatClampNeg + q : Nat))) := by
        show (arrV (ca 0) nj (fun q => .int (Int32.ofInt (V j q)))).slots.getD _ _ = _
        rw [Array.getD_eq_getD_getElem?, arrV_read _ _ (by omega)]
        rfl
      refine ⟨?_, ?_⟩
      · rw [ee]; rfl
      · rw [ee]; exact trivial)
    (g := F0 m pc ls (vI k :: vI 0 :: vR B i :: vI 0 :: vR B j :: st)) rfl (by rw [hml]; exact h3.1) (rest := st) rfl (by rw [hb]; exact d) (by omega) (by show 2 * 0 + _ + _ ≤ _; omega)
  have e1 : copied (vp_cell (ca 0) (nj, .inl fun q : Nat => Int32.ofInt (V j q))) (vp_cell (ca 0) (ni, .inl fun q : Nat => Int32.ofInt (V i q))) (Int32.ofInt 0) (Int32.ofInt 0) (Int32.ofInt k) = vp_cell (ca 0) (ni, .inl fun q : Nat => Int32.ofInt (cpK (V j) (V i) k q)) := by
    have z := va_copied (sp := (Int32.ofInt 0).toNatClampNeg) (dp := (Int32.ofInt 0).toNatClampNeg) (n := (Int32.ofInt k).toNatClampNeg) (fun z => Value.int z) (ca 0) (ca 0) (n0 := nj) (n1 := ni) (fun q : Nat => Int32.ofInt (V j q)) (fun q : Nat => Int32.ofInt (V i q)) (by rw [e0, ek]; omega)
    refine Eq.trans z ?_
    rw [vp_cell_i]
    congr 1
    funext q
    rw [e0, ek]
    simp only [va_cpy, cpK]
    by_cases c : (q : Int) < k
    · rw [if_pos (by omega), if_pos (by omega), show 0 + (q - 0) = q by omega]
    · rw [if_neg (by omega), if_neg (by omega)]
  rw [e1] at X' step
  have hlt : B.1 + i < H.size := (Array.getElem?_eq_some_iff.mp hci).1
  have hset : (wl B ca S V).set i (B.1 + i, .inl (ca 0, ni, .inl fun q : Nat => Int32.ofInt (cpK (V j) (V i) k q))) = wl B ca S (up V i (cpK (V j) (V i) k)) := wl_set hi rfl (by rw [cE_i hsi, up_same]) (fun q _ hq => cE_congr rfl rfl (up_ne hq))
  have hheap : ((T.setVm vm').setCell (B.1 + i) (vp_cell (ca 0) (ni, .inl fun q : Nat => Int32.ofInt (cpK (V j) (V i) k q)))).heap = H.setIfInBounds (B.1 + i) (vp_cell (ca 0) (ni, .inl fun q : Nat => Int32.ofInt (cpK (V j) (V i) k q))) := by rw [← hT]; rfl
  have oq : ∀ q : Nat, q ≠ B.1 + i → (H.setIfInBounds (B.1 + i) (vp_cell (ca 0) (ni, .inl fun q : Nat => Int32.ofInt (cpK (V j) (V i) k q))))[q]? = H[q]? := fun q hq => by simp [Array.getElem?_setIfInBounds, Ne.symm hq]
  have hP := h1.2.set (e := .inl (ca 0, ni, .inl fun q : Nat => Int32.ofInt (cpK (V j) (V i) k q))) (H1 := H.setIfInBounds (B.1 + i) (vp_cell (ca 0) (ni, .inl fun q : Nat => Int32.ofInt (cpK (V j) (V i) k q)))) wl_D hei (show (H.setIfInBounds (B.1 + i) (vp_cell (ca 0) (ni, .inl fun q : Nat => Int32.ofInt (cpK (V j) (V i) k q))))[B.1 + i]? = some (vp_cell (ca 0) (ni, .inl fun q : Nat => Int32.ofInt (cpK (V j) (V i) k q))) by simp [Array.getElem?_setIfInBounds, hlt]) oq
  rw [hset] at hP
  obtain ⟨t, a1, b1⟩ := kk o _ _ ls ⟨by simp; exact h1.1, hP⟩ ⟨by simp; exact h2.1, fun q g1 g2 => by
      rw [oq q (fun e => g2 (by rw [e]; exact Nat.le_add_right _ _))]
      exact h2.2.1 q g1 g2, fun q hq => by
      rcases List.mem_append.mp hq with h | h
      · exact h2.2.2 q h
      · obtain ⟨z, -, hz⟩ := List.mem_map.mp h
        rw [← hz]
        exact Nat.le_add_right _ _⟩ h3 _ hheap X'
  exact ⟨t, step t a1, b1⟩
end XN
theorem nw_X10_11 : Cond.methodLinkNest RX10 11 yX9_init "NineGraves" ∈ nestW := List.mem_of_getElem? (i := 0) rfl
theorem nw_X9_23 : Cond.methodLinkNest RX9 23 yX0_init "NineGraves" ∈ nestW := List.mem_of_getElem? (i := 1) rfl
theorem nw_X7_17 : Cond.methodLinkNest RX7 17 yX0_init "NineGraves" ∈ nestW := List.mem_of_getElem? (i := 2) rfl
theorem nw_X9_43 : Cond.methodLinkNest RX9 43 yX5_init "NineGraves" ∈ nestW := List.mem_of_getElem? (i := 3) rfl
theorem nw_X10_21 : Cond.methodLinkNest RX10 21 yX3_init "NineGraves" ∈ nestW := List.mem_of_getElem? (i := 4) rfl
theorem nw_X9_101 : Cond.methodLinkNest RX9 101 yX10_within "NineGraves" ∈ nestW := List.mem_of_getElem? (i := 5) rfl
theorem nw_X3_150 : Cond.methodLinkNest RX3 150 yX10_within "NineGraves" ∈ nestW := List.mem_of_getElem? (i := 6) rfl
theorem mc_X0_31 : Cond.methodLink RX0 31 arraycopyName ∈ TB := tb_2 233 rfl rfl
theorem mc_J7_150 : Cond.methodLink RJ7 150 arraycopyName ∈ TB := tb_3 218 rfl rfl
theorem mc_X9_52 : Cond.methodLink RX9 52 arraycopyName ∈ TB := tb_5 120 rfl rfl
theorem mc_X5_31 : Cond.methodLink RX5 31 arraycopyName ∈ TB := tb_5 130 rfl rfl
theorem cpE {f f' g g' : Int → Int} {k : Int} (h1 : f = f') (h2 : g = g') : cpK f g k = cpK f' g' k := by rw [h1, h2]
section XO
variable {Γ : Ctx} {B : Bs} {own nm : String} {cc : ByteArray} {nL : Nat} {ret : Option FieldType} {lev mc ms pc : Nat} {L : List (Option Value)} {st : List Value} {kc ks : Nat} {S : Stt} {V : Va}
theorem x_taldR {i j n : Nat} {k : Int} (hs : S.1 i = (3, n)) (hi : i < S.2.2) (h0 : 0 ≤ k) (hk : k < n) (hj : S.2.1 i k = some j) (d : decode cc pc = .ok (.aaload, 1)) (kk : X Γ B own nm cc nL ret lev mc ms (pc + 1) L (vR B j :: st) kc ks S V) (hn : n < 2147483648 := by decide) : X Γ B own nm cc nL ret lev mc ms pc L (vI k :: vR B i :: st) kc ks S V := x_tald hs hi h0 hk d (by rw [hj]; exact kk) hn
theorem x_baldR {i j n : Nat} {k : Int} (hs : S.1 i = (4, n)) (hi : i < S.2.2) (h0 : 0 ≤ k) (hk : k < n) (hj : S.2.1 i k = some j) (d : decode cc pc = .ok (.aaload, 1)) (kk : X Γ B own nm cc nL ret lev mc ms (pc + 1) L (vR B j :: st) kc ks S V) (hn : n < 2147483648 := by decide) : X Γ B own nm cc nL ret lev mc ms pc L (vI k :: vR B i :: st) kc ks S V := x_bald hs hi h0 hk d (by rw [hj]; exact kk) hn
theorem iI_ushr {a t : Int} (h : 0 ≤ a) (ha : InR a) (h0 : 0 ≤ t) (h1 : t < 32) : ((Int32.ofInt a).toUInt32 >>> ((Int32.ofInt t).toUInt32 &&& Int32.toUInt32 31)).toInt32 = Int32.ofInt (a / p2 t) := by
  apply Int32.toBitVec_inj.mp
  apply BitVec.eq_of_toNat_eq
  have ea : (Int32.ofInt a).toBitVec.toNat = a.toNat := by
    rw [iI_n h]
    show (BitVec.ofNat 32 a.toNat).toNat = _
    rw [BitVec.toNat_ofNat, Nat.mod_eq_of_lt (by omega)]
  have hd := div_p2_R (t := t) ha
  have hd0 : 0 ≤ a / p2 t := Int.ediv_nonneg h (Int.le_of_lt (p2_pos t))
  have ed : (Int32.ofInt (a / p2 t)).toBitVec.toNat = (a / p2 t).toNat := by
    rw [iI_n hd0]
    show (BitVec.ofNat 32 (a / p2 t).toNat).toNat = _
    rw [BitVec.toNat_ofNat, Nat.mod_eq_of_lt (by omega)]
  have et : ((Int32.ofInt t).toUInt32 &&& Int32.toUInt32 31).toNat = t.toNat := by
    have key : ∀ n : Nat, n < 32 → ((Int32.ofInt (n : Int)).toUInt32 &&& Int32.toUInt32 31).toNat = n := by decide +kernel
    have := key t.toNat (by omega)
    rwa [show ((t.toNat : Nat) : Int) = t by omega] at this
  rw [ed]
  show ((Int32.ofInt a).toUInt32 >>> ((Int32.ofInt t).toUInt32 &&& Int32.toUInt32 31)).toNat = _
  rw [UInt32.toNat_shiftRight, et, Nat.mod_eq_of_lt (by omega : t.toNat < 32)]
  show (Int32.ofInt a).toBitVec.toNat >>> t.toNat = _
  rw [ea, Nat.shiftRight_eq_div_pow]
  simp only [p2]
  have e2 : ((a.toNat / 2 ^ t.toNat : Nat) : Int) = a / ((2 ^ t.toNat : Nat) : Int) := by rw [Int.natCast_ediv, Int.toNat_of_nonneg h]
  rw [← e2, Int.toNat_natCast]
theorem x_iushr {a t : Int} (h : 0 ≤ a) (ha : InR a) (h0 : 0 ≤ t) (h1 : t < 32) (d : decode cc pc = .ok (.iushr, 1)) (k : X Γ B own nm cc nL ret lev mc ms (pc + 1) L (vI (a / p2 t) :: st) kc ks S V) : X Γ B own nm cc nL ret lev mc ms pc L (vI t :: vI a :: st) kc ks S V := x_pure (fun hx hb k => lv_iushr hx hb d (iI_ushr h ha h0 h1) k) k
end XO
