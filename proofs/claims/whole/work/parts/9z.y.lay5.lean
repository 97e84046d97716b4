/-! constant texts: SIGNS (0) and WORDS (1) -/
def sB (i : Nat) (k : Int) : Int := ((sByt.getD i []).getD k.toNat 0).toInt
theorem fS_value : Cond.fieldLink RJ0 9 "java/lang/String" "value" "[B" ∈ TB := tb_7 189 rfl rfl
theorem fS_coder : Cond.fieldLink RJ0 15 "java/lang/String" "coder" "B" ∈ TB := tb_7 190 rfl rfl
theorem fS_comp : Cond.fieldLink RJ0 38 "java/lang/String" "COMPACT_STRINGS" "Z" ∈ TB := tb_3 43 rfl rfl
theorem fS_sio : Cond.fieldLink RJ0 1053 "jdk/internal/util/Preconditions" "SIOOBE_FORMATTER" "Ljava/util/function/BiFunction;" ∈ TB := tb_3 59 rfl rfl
section XSt
variable {Γ : Ctx} {B : Bs} {own nm : String} {cc : ByteArray} {nL : Nat} {ret : Option FieldType} {lev mc ms pc : Nat} {L : List (Option Value)} {st : List Value} {kc ks : Nat} {S : Stt} {V : Va}
theorem x_ldcS0 (d : decode cc pc = .ok (.ldc 108, 2)) (k : X Γ B RX3 nm cc nL ret lev mc ms (pc + 2) L (.ref (B.2.1 0) :: st) kc ks S V) : X Γ B RX3 nm cc nL ret lev mc ms pc L st kc ks S V := by
  obtain ⟨p, l, e, R, s, m, args, below, meth, c, Q, D, ca⟩ := Γ
  intro o H locs ls h1 h2 h3
  obtain ⟨hx, hb', hml, hr, hlk, hown, hnm, hts, hK, hBg, hle, hR1, hR2, hR3, hR4⟩ := id o
  exact va_ldcS hx hb' hown hBg.2.2.2.2.2.2.2.1 d (k o H locs ls h1 h2 h3)
theorem x_ldcS1 (d : decode cc pc = .ok (.ldc 115, 2)) (k : X Γ B RX3 nm cc nL ret lev mc ms (pc + 2) L (.ref (B.2.1 1) :: st) kc ks S V) : X Γ B RX3 nm cc nL ret lev mc ms pc L st kc ks S V := by
  obtain ⟨p, l, e, R, s, m, args, below, meth, c, Q, D, ca⟩ := Γ
  intro o H locs ls h1 h2 h3
  obtain ⟨hx, hb', hml, hr, hlk, hown, hnm, hts, hK, hBg, hle, hR1, hR2, hR3, hR4⟩ := id o
  exact va_ldcS hx hb' hown hBg.2.2.2.2.2.2.2.2 d (k o H locs ls h1 h2 h3)
theorem x_getCS (d : decode cc pc = .ok (.getstatic 38, 3)) (k : X Γ B RJ0 nm cc nL ret lev mc ms (pc + 3) L (vI 1 :: st) kc ks S V) : X Γ B RJ0 nm cc nL ret lev mc ms pc L st kc ks S V := by
  obtain ⟨p, l, e, R, s, m, args, below, meth, c, Q, D, ca⟩ := Γ
  intro o H locs ls h1 h2 h3
  obtain ⟨hx, hb', hml, hr, hlk, hown, hnm, hts, hK, hBg, hle, hR1, hR2, hR3, hR4⟩ := id o
  exact va_gets hx hb' hBg.2.2.2.2.1 h2 hown (hts _ fS_comp) (fun x h => h) d (k o H locs ls h1 h2 h3)
theorem x_getSF (d : decode cc pc = .ok (.getstatic 1053, 3)) (k : ∀ v : Value, v.category = 1 → (v = .null ∨ ∃ t, v = .ref t) → X Γ B RJ0 nm cc nL ret lev mc ms (pc + 3) L (v :: st) kc ks S V) : X Γ B RJ0 nm cc nL ret lev mc ms pc L st kc ks S V := by
  obtain ⟨p, l, e, R, s, m, args, below, meth, c, Q, D, ca⟩ := Γ
  intro o H locs ls h1 h2 h3
  obtain ⟨hx, hb', hml, hr, hlk, hown, hnm, hts, hK, hBg, hle, hR1, hR2, hR3, hR4⟩ := id o
  rcases hBg.2.2.2.2.2.1 with z | ⟨t, z⟩
  · exact va_gets hx hb' z h2 hown (hts _ fS_sio) (fun x h => h) d (k .null rfl (Or.inl rfl) o H locs ls h1 h2 h3)
  · exact va_gets hx hb' z h2 hown (hts _ fS_sio) (fun x h => h) d (k (.ref t) rfl (Or.inr ⟨t, rfl⟩) o H locs ls h1 h2 h3)
theorem x_getSF2 (d : decode cc pc = .ok (.getstatic 1053, 3)) (k1 : X Γ B RJ0 nm cc nL ret lev mc ms (pc + 3) L (.null :: st) kc ks S V) (k2 : ∀ t : Nat, X Γ B RJ0 nm cc nL ret lev mc ms (pc + 3) L (.ref t :: st) kc ks S V) : X Γ B RJ0 nm cc nL ret lev mc ms pc L st kc ks S V :=
  x_getSF d (fun v _ h => by
    rcases h with e | ⟨t, e⟩
    · rw [e]; exact k1
    · rw [e]; exact k2 t)
theorem x_getSV {i : Nat} (hi : i < 2) (d : decode cc pc = .ok (.getfield 9, 3)) (k : X Γ B RJ0 nm cc nL ret lev mc ms (pc + 3) L (.ref (B.2.2 i) :: st) kc ks S V) : X Γ B RJ0 nm cc nL ret lev mc ms pc L (.ref (B.2.1 i) :: st) kc ks S V := by
  obtain ⟨p, l, e, R, s, m, args, below, meth, c, Q, D, ca⟩ := Γ
  intro o H locs ls h1 h2 h3
  obtain ⟨hx, hb', hml, hr, hlk, hown, hnm, hts, hK, hBg, hle, hR1, hR2, hR3, hR4⟩ := id o
  exact vk_getf hx hb' (hBg.2.2.2.2.2.2.1.1 i hi).2.2.1 h2 hown (hts _ fS_value) (fun x h => h) d (k o H locs ls h1 h2 h3)
theorem x_getSC {i : Nat} (hi : i < 2) (d : decode cc pc = .ok (.getfield 15, 3)) (k : X Γ B RJ0 nm cc nL ret lev mc ms (pc + 3) L (vI 0 :: st) kc ks S V) : X Γ B RJ0 nm cc nL ret lev mc ms pc L (.ref (B.2.1 i) :: st) kc ks S V := by
  obtain ⟨p, l, e, R, s, m, args, below, meth, c, Q, D, ca⟩ := Γ
  intro o H locs ls h1 h2 h3
  obtain ⟨hx, hb', hml, hr, hlk, hown, hnm, hts, hK, hBg, hle, hR1, hR2, hR3, hR4⟩ := id o
  exact vk_getf hx hb' (hBg.2.2.2.2.2.2.1.1 i hi).2.1 h2 hown (hts _ fS_coder) (fun x h => h) d (k o H locs ls h1 h2 h3)
theorem x_alenS {i n : Nat} (hi : i < 2) (hn : sLen.getD i 0 = n) (d : decode cc pc = .ok (.arraylength, 1)) (k : X Γ B own nm cc nL ret lev mc ms (pc + 1) L (vI (n : Int) :: st) kc ks S V) : X Γ B own nm cc nL ret lev mc ms pc L (.ref (B.2.2 i) :: st) kc ks S V := by
  obtain ⟨p, l, e, R, s, m, args, below, meth, c, Q, D, ca⟩ := Γ
  intro o H locs ls h1 h2 h3
  obtain ⟨hx, hb', hml, hr, hlk, hown, hnm, hts, hK, hBg, hle, hR1, hR2, hR3, hR4⟩ := id o
  exact va_tlen hx hb' (hBg.2.2.2.2.2.2.1.1 i hi).2.2.2 h2 (by rw [hn]; rfl) d (k o H locs ls h1 h2 h3)
theorem x_baldS {i n : Nat} {q : Int} (hi : i < 2) (hn : sLen.getD i 0 = n) (h0 : 0 ≤ q) (hq : q < n) (d : decode cc pc = .ok (.baload, 1)) (k : X Γ B own nm cc nL ret lev mc ms (pc + 1) L (vI (sB i q) :: st) kc ks S V) (hn2 : n < 2147483648 := by decide) : X Γ B own nm cc nL ret lev mc ms pc L (vI q :: .ref (B.2.2 i) :: st) kc ks S V := by
  obtain ⟨p, l, e, R, s, m, args, below, meth, c, Q, D, ca⟩ := Γ
  intro o H locs ls h1 h2 h3
  obtain ⟨hx, hb', hml, hr, hlk, hown, hnm, hts, hK, hBg, hle, hR1, hR2, hR3, hR4⟩ := id o
  refine va_tb hx hb' (hBg.2.2.2.2.2.2.1.1 i hi).2.2.2 h2 (by rw [hn]; exact iI_in hn2 h0 hq) ?_ d (k o H locs ls h1 h2 h3)
  show Value.int _ = Value.int _
  rw [iI_nat h0 ⟨by omega, by omega⟩, sB, Int32.ofInt_toInt]
theorem x_i2c {a : Int} (h0 : 0 ≤ a) (h1 : a < 65536) (d : decode cc pc = .ok (.i2c, 1)) (k : X Γ B own nm cc nL ret lev mc ms (pc + 1) L (vI a :: st) kc ks S V) : X Γ B own nm cc nL ret lev mc ms pc L (vI a :: st) kc ks S V := x_pure (fun hx hb k => lv_i2c hx hb d (by
  obtain ⟨n, rfl⟩ := Int.eq_ofNat_of_zero_le h0
  rw [show Int32.ofInt (n : Int) = Int32.ofNat n from rfl]
  apply Int32.toBitVec_inj.mp
  show BitVec.umod (BitVec.ofNat 32 n) (BitVec.ofNat 32 65536) = BitVec.ofNat 32 n
  apply BitVec.eq_of_toNat_eq
  rw [BitVec.umod_eq, BitVec.toNat_umod, BitVec.toNat_ofNat, BitVec.toNat_ofNat, Nat.mod_eq_of_lt (show n < 2 ^ 32 by omega), Nat.mod_eq_of_lt (show 65536 < 2 ^ 32 by decide)]
  omega) k) k
/-- a signed byte of a number below 256 -/
def sg8 (a : Int) : Int := if a < 128 then a else a - 256
theorem i2b_all : ∀ n : Nat, n < 256 → (Int32.ofInt (n : Int)).toInt8.toInt32 = Int32.ofInt (sg8 n) := by decide +kernel
theorem x_i2b {a : Int} (h0 : 0 ≤ a) (h1 : a < 256) (d : decode cc pc = .ok (.i2b, 1)) (k : X Γ B own nm cc nL ret lev mc ms (pc + 1) L (vI (sg8 a) :: st) kc ks S V) : X Γ B own nm cc nL ret lev mc ms pc L (vI a :: st) kc ks S V := x_pure (fun hx hb k => lv_i2b hx hb d (by
  obtain ⟨n, rfl⟩ := Int.eq_ofNat_of_zero_le h0
  exact i2b_all n (by omega)) k) k
theorem x_nret {r : Int} {ty : FieldType} {P : Option Value → Stt → Va → Prop} (hQ : Rt Γ B P mc ms) (h : P (some (vI r)) S V) (hr : narrow ty (vI r) = vI r) (d : decode cc pc = .ok (.ireturn, 1)) : X Γ B own nm cc nL (some ty) lev mc ms pc L [vI r] mc ms S V := by
  obtain ⟨p, l, e, R, s, m, args, below, meth, c, Q, D, ca⟩ := Γ
  intro o H locs ls h1 h2 h3
  have hQ : Q = MQ below (QcP B D ca P) args s mc ms (fun q => B.1 ≤ q) := hQ
  subst hQ
  exact W.zret o.1 o.2.1 o.2.2.2.1 hr (fun t ht _ => ⟨⟨_, S, V, rfl, h, by rw [ht]; exact h1⟩, h2.F ht⟩) h2.2.2 d o.2.2.2.2.1
theorem nar_c {r : Int} (h0 : 0 ≤ r) (h1 : r < 256) : narrow .char (vI r) = vI r := by
  have key : ∀ n : Nat, n < 256 → narrow .char (vI (n : Int)) = vI (n : Int) := by decide +kernel
  obtain ⟨n, rfl⟩ := Int.eq_ofNat_of_zero_le h0
  exact key n (by omega)
theorem x_callK {y : MethodName} {cc' : ByteArray} {nL' n index i lev' mc' ms' : Nat} {ret' : Option FieldType} {As rest : List Value} {P : Option Value → Stt → Va → Prop} (hm : MV y cc' nL' ret' n) (hl : Cond.methodLink own index y ∈ TB) (d : decode cc pc = .ok (.invokevirtual index, 3)) (hC : C B y cc' nL' ret' lev' mc' ms' (.ref (B.2.1 i) :: As) S V P) (hi : i < 2)
    (k : ∀ (v : Option Value) (S' : Stt) (V' : Va), P v S' V' → X Γ B own nm cc nL ret lev mc ms (pc + 3) L (v.toList ++ rest) (kc + mc') (ks + ms') S' V') (hst : st = As.reverse ++ .ref (B.2.1 i) :: rest := by rfl) (hlev : lev' < lev := by decide) (hy : y.cls = "java/lang/String" := by rfl) (hn : As.length = n := by rfl) (hrm : nL' ≤ 45 := by decide) (hsum : (rest.map fun v => v.category).sum ≤ 8 := by exact Nat.le_of_ble_eq_true rfl) (hf : kc + mc' ≤ mc ∧ ks + ms' ≤ ms := by exact ⟨Nat.le_of_ble_eq_true rfl, Nat.le_of_ble_eq_true rfl⟩) : X Γ B own nm cc nL ret lev mc ms pc L st kc ks S V := by
  obtain ⟨p, l, e, R, s, m, args, below, meth, c, Q, D, ca⟩ := Γ
  intro o H locs ls h1 h2 h3
  obtain ⟨hx, hb, hml, hr, hlk, hown, hnm, hts, hK, hBg, hle, hR1, hR2, hR3, hR4⟩ := id o
  obtain ⟨m1, m2, m3, m4, m5⟩ := hm
  subst hst
  have hrecv := vk_recv hBg.2.2.2.2.2.2.1 hi h2
  have cw : CallW R s args own y.cls index y cc' nL' ret' (Cond.code y cc' nL' ret' :: TB) (rmL lev' mc' ms') mc' ms' n :=
    ⟨callB_of n hts (good_code m1) rfl rfl rfl (hts _ m4) (hts _ hl) m5 ⟨by show lev' + 1 ≤ _; omega, by show 8 + (nL' + 11) + 64 * lev' ≤ _; omega⟩, hts _ m2, hts _ m3⟩
  exact x_ran (va_runV (As := As) (rest := rest) ⟨hx, hb, hml, hown, hts⟩ (hC l D ca) cw ⟨PcP_blind, by rw [hy]; exact hrecv, PcP_at hK hBg h1 h2⟩ rfl hn h3.1 rfl (lv_room hsum) d ⟨by omega, by omega⟩) h2 (fun v S' V' H1 locs1 a1 a2 a3 => k v S' V' a1 o H1 locs1 ls a2 a3 h3)
theorem x_cKi {y : MethodName} {cc' : ByteArray} {nL' n index i lev' : Nat} {ret' : Option FieldType} {As rest : List Value} {S1 : Stt} {V1 : Va} {r : Int} (hm : MV y cc' nL' ret' n) (hl : Cond.methodLink own index y ∈ TB) (d : decode cc pc = .ok (.invokevirtual index, 3)) (hC : C B y cc' nL' ret' lev' 0 0 (.ref (B.2.1 i) :: As) S V (rI S1 V1 r)) (hi : i < 2)
    (k : X Γ B own nm cc nL ret lev mc ms (pc + 3) L (vI r :: rest) kc ks S1 V1) (hst : st = As.reverse ++ .ref (B.2.1 i) :: rest := by rfl) (hlev : lev' < lev := by decide) (hy : y.cls = "java/lang/String" := by rfl) (hn : As.length = n := by rfl) (hrm : nL' ≤ 45 := by decide) (hsum : (rest.map fun v => v.category).sum ≤ 8 := by exact Nat.le_of_ble_eq_true rfl) (hf : kc + 0 ≤ mc ∧ ks + 0 ≤ ms := by exact ⟨Nat.le_of_ble_eq_true rfl, Nat.le_of_ble_eq_true rfl⟩) : X Γ B own nm cc nL ret lev mc ms pc L st kc ks S V :=
  x_callK hm hl d hC hi (fun v S' V' h => by obtain ⟨rfl, rfl, rfl⟩ := h; exact k) hst hlev hy hn hrm hsum hf
end XSt
theorem sB0_r : ∀ n : Nat, n < 11 → 0 ≤ sB 0 n ∧ sB 0 n < 128 := by decide +kernel
theorem sB1_r : ∀ n : Nat, n < 125 → 0 ≤ sB 1 n ∧ sB 1 n < 128 := by decide +kernel
theorem sB0_i {k : Int} (h0 : 0 ≤ k) (h1 : k < 11) : 0 ≤ sB 0 k ∧ sB 0 k < 128 := by
  obtain ⟨n, rfl⟩ := Int.eq_ofNat_of_zero_le h0
  exact sB0_r n (by omega)
theorem sB1_i {k : Int} (h0 : 0 ≤ k) (h1 : k < 125) : 0 ≤ sB 1 k ∧ sB 1 k < 128 := by
  obtain ⟨n, rfl⟩ := Int.eq_ofNat_of_zero_le h0
  exact sB1_r n (by omega)
