/-! a TEXT is made -/
theorem rfl0_lt : ∀ q ∈ rfl0, q.1 < 326 := by decide +kernel
theorem Stat_nS {S : Stt} (h : Stat S) (sh : Nat × Nat) : Stat (nS S sh) := by
  obtain ⟨h1, h2, h3⟩ := h
  refine ⟨fun i hi => ?_, fun q hq => ?_, ?_⟩
  · show up S.1 S.2.2 sh i = sh0 i
    rw [up_ne (by omega)]
    exact h1 i hi
  · have hlt : q.1 < 326 := rfl0_lt q hq
    show up S.2.1 S.2.2 (fun _ => none) q.1 q.2.1 = some q.2.2
    rw [up_ne (by omega)]
    exact h2 q hq
  · show 326 ≤ S.2.2 + 1
    omega
theorem Stat_sqm {S : Stt} (h : Stat S) {m : Nat} (hm : 326 ≤ m) (k : Int) (r : Option Nat) : Stat (sq2 S m k r) := by
  obtain ⟨h1, h2, h3⟩ := h
  refine ⟨h1, fun q hq => ?_, h3⟩
  have hlt : q.1 < 326 := rfl0_lt q hq
  rw [sq2_row (by omega)]
  exact h2 q hq
def rCo (B : Bs) (S : Stt) (V : Va) (i n : Nat) : Option Value → Stt → Va → Prop := fun v S' V' => ∃ g : Int → Int, (∀ k : Int, 0 ≤ k → k < n → g k = V i k) ∧ v = some (vR B S.2.2) ∧ S' = nS S (0, n) ∧ V' = nV S V g
theorem cln_J7 : Cond.methodLink RJ7 316 ⟨"[I", "clone", "()Ljava/lang/Object;"⟩ ∈ TB := tb_3 210 rfl rfl
theorem cst_J7 : Cond.classLink RJ7 317 "[I" ∈ TB := tb_3 216 rfl rfl
theorem cpy_J7 : Cond.methodLink RJ7 150 arraycopyName ∈ TB := tb_3 218 rfl rfl
theorem cln_X8 : Cond.methodLink RX8 39 ⟨"[I", "clone", "()Ljava/lang/Object;"⟩ ∈ TB := tb_3 219 rfl rfl
theorem cst_X8 : Cond.classLink RX8 40 "[I" ∈ TB := tb_3 220 rfl rfl
theorem obj_X8 : Cond.methodLink RX8 1 Lib.objectInit ∈ TB := tb_3 206 rfl rfl
theorem obj_i : Cond.instanceMethod Lib.objectInit ∈ TB := tb_1 28 rfl rfl
theorem obj_c : Cond.code Lib.objectInit ⟨#[0xb1]⟩ 1 none ∈ TB := tb_1 29 rfl rfl
set_option maxRecDepth 100000 in
set_option maxHeartbeats 4000000 in
theorem c_J7_copyOf {B : Bs} {S : Stt} {V : Va} (i N n : Nat) (hs : S.1 i = (0, N)) (hi : i < S.2.2) (hN : N ≤ 1000) (hn : n ≤ N) : C B yJ7_copyOf_59c91 cJ7_copyOf_59c91 3 (some (.array .int)) 2 1 N [vR B i, vI n] S V (rCo B S V i n) := by
  refine C.of [some (vR B i), some (vI n), none] ?_
  intro Γ hQ
  refine x_il1 dJ7_copyOf_59c91_0 ?_
  refine x_al0 dJ7_copyOf_59c91_1 ?_
  refine x_alen (by decide) hs hi dJ7_copyOf_59c91_2 ?_
  refine x_icmp_ne (tgt := 14) dJ7_copyOf_59c91_3 (inr (by omega)) (inr (by omega)) (fun c => ?_) (fun c => ?_)
  · refine x_il1 dJ7_copyOf_59c91_14 ?_
    refine x_newi (N := n) rfl (by omega) ⟨by omega, by omega⟩ dJ7_copyOf_59c91_15 ?_
    obtain ⟨S1, hS1⟩ : ∃ z, z = nS S (0, n) := ⟨_, rfl⟩
    obtain ⟨V1, hV1⟩ : ∃ z, z = nV S V (fun _ => 0) := ⟨_, rfl⟩
    rw [← hS1, ← hV1]
    have a1 : S1.1 i = (0, N) := by rw [hS1]; show up S.1 S.2.2 (0, n) i = _; rw [up_ne (by omega)]; exact hs
    have a2 : i < S1.2.2 := by rw [hS1]; show i < S.2.2 + 1; omega
    have a3 : S1.1 S.2.2 = (0, n) := by rw [hS1]; exact up_same _ _ _
    have a4 : S.2.2 < S1.2.2 := by rw [hS1]; show S.2.2 < S.2.2 + 1; omega
    refine x_as2 dJ7_copyOf_59c91_17 ?_
    refine x_al0 dJ7_copyOf_59c91_18 ?_
    refine x_iconst dJ7_copyOf_59c91_19 ?_
    refine x_al2 dJ7_copyOf_59c91_20 ?_
    refine x_iconst dJ7_copyOf_59c91_21 ?_
    refine x_al0 dJ7_copyOf_59c91_22 ?_
    refine x_alen (by decide) a1 a2 dJ7_copyOf_59c91_23 ?_
    refine x_il1 dJ7_copyOf_59c91_24 ?_
    refine x_mmin ml_J7_304 dJ7_copyOf_59c91_25 (inr (by omega)) (inr (by omega)) ?_ (hf := ⟨by omega, by omega⟩)
    refine x_topI (a' := (n : Int)) (by split <;> omega) ?_
    refine x_copyi cpy_J7 dJ7_copyOf_59c91_28 a3 a4 a1 a2 (by omega) (by omega) (by omega) ?_ (hn := by omega)
    refine x_al2 dJ7_copyOf_59c91_31 ?_
    refine x_widen (kc' := 1) (ks' := N) (by omega) (by omega) ?_
    refine x_aret (r := some S.2.2) hQ ⟨cpK (V i) (fun _ => 0) n, fun k k0 k1 => cpK_in k0 k1, rfl, hS1, ?_⟩ dJ7_copyOf_59c91_32
    rw [hV1]
    have e1 : nV S V (fun _ => 0) i = V i := up_ne (by omega)
    have e2 : nV S V (fun _ => 0) S.2.2 = fun _ => 0 := up_same _ _ _
    rw [e1, e2]
    exact up_up _ _ _ _
  · have e : N = n := by omega
    subst e
    refine x_al0 dJ7_copyOf_59c91_6 ?_
    refine x_clonei cln_J7 dJ7_copyOf_59c91_7 hs hi ⟨by omega, by omega⟩ ?_
    obtain ⟨S1, hS1⟩ : ∃ z, z = nS S (0, N) := ⟨_, rfl⟩
    rw [← hS1]
    have a3 : S1.1 S.2.2 = (0, N) := by rw [hS1]; exact up_same _ _ _
    have a4 : S.2.2 < S1.2.2 := by rw [hS1]; show S.2.2 < S.2.2 + 1; omega
    refine x_casti cst_J7 dJ7_copyOf_59c91_10 a3 a4 ?_
    refine x_widen (kc' := 1) (ks' := N) (by omega) (by omega) ?_
    exact x_aret (r := some S.2.2) hQ ⟨V i, fun k k0 k1 => rfl, rfl, hS1, rfl⟩ dJ7_copyOf_59c91_13
section XCo
variable {Γ : Ctx} {B : Bs} {own nm : String} {cc : ByteArray} {nL : Nat} {ret : Option FieldType} {lev mc ms pc : Nat} {L : List (Option Value)} {st : List Value} {kc ks : Nat} {S : Stt} {V : Va}
theorem x_cSco {y : MethodName} {cc' : ByteArray} {nL' n index lev' mc' ms' i N : Nat} {ret' : Option FieldType} {As rest : List Value} (hm : MS y cc' nL' ret' n) (hl : Cond.methodLink own index y ∈ TB) (d : decode cc pc = .ok (.invokestatic index, 3)) (hC : C B y cc' nL' ret' lev' mc' ms' As S V (rCo B S V i N))
    (k : ∀ g : Int → Int, (∀ k : Int, 0 ≤ k → k < N → g k = V i k) → X Γ B own nm cc nL ret lev mc ms (pc + 3) L (vR B S.2.2 :: rest) (kc + mc') (ks + ms') (nS S (0, N)) (nV S V g)) (hst : st = As.reverse ++ rest := by rfl) (hlev : lev' < lev := by decide) (hn : As.length = n := by rfl) (hrm : nL' ≤ 45 := by decide) (hsum : (rest.map fun v => v.category).sum ≤ 8 := by exact Nat.le_of_ble_eq_true rfl) (hf : kc + mc' ≤ mc ∧ ks + ms' ≤ ms := by exact ⟨Nat.le_of_ble_eq_true rfl, Nat.le_of_ble_eq_true rfl⟩) : X Γ B own nm cc nL ret lev mc ms pc L st kc ks S V :=
  x_callS hm hl d hC (fun v S' V' h => by obtain ⟨g, h1, rfl, rfl, rfl⟩ := h; exact k g h1) hst hlev hn hrm hsum hf
end XCo
/-- one more row of a TEXT -/
theorem TxtStp {S : Stt} {V : Va} {m j : Nat} {k : Int} {sh : Nat × Nat} {f : Int → Int} (hS : Stat S) (h2 : S.2.2 = m + 1 + j) (hm : S.1 m = (13, 0)) (h326 : 326 ≤ m) : (Stat (sq2 (nS S sh) m k (some S.2.2)) ∧ (sq2 (nS S sh) m k (some S.2.2)).2.2 = m + 1 + (j + 1) ∧ (sq2 (nS S sh) m k (some S.2.2)).1 m = (13, 0)) ∧ ((sq2 (nS S sh) m k (some S.2.2)).1 (m + 1 + j) = sh ∧ (∀ q, q < m + 1 + j → (sq2 (nS S sh) m k (some S.2.2)).1 q = S.1 q)) ∧ ((sq2 (nS S sh) m k (some S.2.2)).2.1 m k = some (m + 1 + j) ∧ (∀ x, x ≠ k → (sq2 (nS S sh) m k (some S.2.2)).2.1 m x = S.2.1 m x) ∧ (∀ q, q ≠ m → q < m + 1 + j → (sq2 (nS S sh) m k (some S.2.2)).2.1 q = S.2.1 q)) ∧ (nV S V f (m + 1 + j) = f ∧ ∀ q, q < m + 1 + j → nV S V f q = V q) ∧ (nS S sh).1 m = (13, 0) ∧ m < (nS S sh).2.2 := by
  refine ⟨⟨Stat_sqm (Stat_nS hS sh) h326 _ _, by show S.2.2 + 1 = _; omega, by show up S.1 S.2.2 sh m = _; rw [up_ne (by omega)]; exact hm⟩, ⟨by show up S.1 S.2.2 sh _ = _; rw [h2]; exact up_same _ _ _, fun q hq => by show up S.1 S.2.2 sh q = _; rw [up_ne (by omega)]⟩, ⟨by rw [sq2_same, h2], fun x hx => ?_, fun q hq hq2 => ?_⟩, ⟨by show up V S.2.2 f _ = f; rw [h2]; exact up_same _ _ _, fun q hq => by show up V S.2.2 f q = V q; rw [up_ne (by omega)]⟩, by show up S.1 S.2.2 sh m = _; rw [up_ne (by omega)]; exact hm, by show m < S.2.2 + 1; omega⟩
  · show up (up S.2.1 S.2.2 (fun _ => none)) m (uq ((up S.2.1 S.2.2 (fun _ => none)) m) k (some S.2.2)) m x = _
    rw [up_same, uq_ne hx, up_ne (by omega)]
  · rw [sq2_row hq]
    show up S.2.1 S.2.2 (fun _ => none) q = _
    rw [up_ne (by omega)]
def rTx (S : Stt) (V : Va) (m cc cz : Nat) : Option Value → Stt → Va → Prop := fun v S' V' => none = v ∧ S'.2.2 = m + 6 ∧ Stat S' ∧ TxS S' m (4 * cc) cz ∧ (V' m 1 = cc ∧ (∀ k : Int, 0 ≤ k → k < (4 * cc : Nat) → V' (m + 1) k = V 282 k) ∧ (∀ k : Int, 0 ≤ k → k < cz → V' (m + 2) k = V 283 k) ∧ V' (m + 3) = V 284 ∧ V' (m + 4) = V 285 ∧ V' (m + 5) = V 286) ∧ ∀ q, q < m → S'.1 q = S.1 q ∧ S'.2.1 q = S.2.1 q ∧ V' q = V q
set_option maxRecDepth 100000 in
set_option maxHeartbeats 4000000 in
theorem c_X8_init {B : Bs} {S : Stt} {V : Va} (m cc cz : Nat) (hS : Stat S) (hm : S.2.2 = m + 1) (h326 : 326 ≤ m) (hs : S.1 m = (13, 0)) (hcc : V 277 11 = cc) (hcl : cc ≤ 24) (hcz : V 277 13 = cz) (hcz2 : cz ≤ 300) : C B yX8_init cX8_init 2 none 3 5 422 [vR B m, vR B 277] S V (rTx S V m cc cz) := by
  refine C.of [some (vR B m), some (vR B 277)] ?_
  intro Γ hQ
  refine x_al0 dX8_init_0 ?_
  refine x_objInit obj_X8 obj_i obj_c dX8_init_1 ?_
  refine x_al0 dX8_init_4 ?_
  refine x_al1 dX8_init_5 ?_
  refine x_getI fl_X8_7 (sh_277 hS) (lq_277 hS) dX8_init_6 ?_
  refine x_putFI fl_X8_13 hs (by omega) dX8_init_9 ?_
  obtain ⟨V1, hV1⟩ : ∃ z, z = st2 V m 1 (V 277 11) := ⟨_, rfl⟩
  have hV1' : st2 V m ((1 : Nat) : Int) (V 277 ((11 : Nat) : Int)) = V1 := by rw [hV1]; rfl
  rw [hV1']
  have v1m : V1 m 1 = cc := by rw [hV1, st2_same, hcc]
  have v1q : ∀ q, q ≠ m → V1 q = V q := fun q hq => by rw [hV1]; exact st2_row hq
  refine x_al0 dX8_init_12 ?_
  refine x_al1 dX8_init_13 ?_
  refine x_getR fl_X8_18 (sh_277 hS) (lq_277 hS) (rf_277_10 hS) dX8_init_14 ?_
  refine x_al0 dX8_init_17 ?_
  refine x_getI fl_X8_13 hs (by omega) dX8_init_18 ?_
  refine x_iconst dX8_init_21 ?_
  refine x_imul dX8_init_22 ?_
  refine x_topI (a' := ((4 * cc : Nat) : Int)) (by rw [show V1 m ((1 : Nat) : Int) = cc from v1m]; omega) ?_
  refine x_cSco mm_J7_copyOf_59c91 ml_X8_22 dX8_init_23 (c_J7_copyOf 282 96 (4 * cc) (sh_282 hS) (lq_282 hS) (by decide) (by omega)) (fun g1 hg1 => ?_)
  obtain ⟨⟨t1, t2, t3⟩, ⟨t4, t5⟩, ⟨t6, t7, t8⟩, ⟨t9, t10⟩, t11, t12⟩ := TxtStp (V := V1) (f := g1) (sh := (0, 4 * cc)) (k := 0) (j := 0) hS hm hs h326
  refine x_putQ (r := some S.2.2) fl_X8_28 t11 t12 dX8_init_26 ?_
  obtain ⟨S2, hS2⟩ : ∃ z, z = sq2 (nS S (0, 4 * cc)) m 0 (some S.2.2) := ⟨_, rfl⟩
  have hS2' : sq2 (nS S (0, 4 * cc)) m ((0 : Nat) : Int) (some S.2.2) = S2 := by rw [hS2]; rfl
  rw [hS2']
  rw [← hS2] at t1 t2 t3 t4 t5 t6 t7 t8
  obtain ⟨V2, hV2⟩ : ∃ z, z = nV S V1 g1 := ⟨_, rfl⟩
  rw [← hV2] at t9 t10 ⊢
  refine x_al0 dX8_init_29 ?_
  refine x_al1 dX8_init_30 ?_
  refine x_getR fl_X8_29 (sh_277 t1) (lq_277 t1) (rf_277_12 t1) dX8_init_31 ?_
  refine x_al1 dX8_init_34 ?_
  refine x_getI fl_X8_32 (sh_277 t1) (lq_277 t1) dX8_init_35 ?_
  refine x_topI (a' := (cz : Int)) (by rw [t10 277 (by omega), v1q 277 (by omega)]; exact hcz) ?_
  refine x_cSco mm_J7_copyOf_59c91 ml_X8_22 dX8_init_38 (c_J7_copyOf 283 300 cz (sh_283 t1) (lq_283 t1) (by decide) (by omega)) (fun g2 hg2 => ?_)
  obtain ⟨⟨u1, u2, u3⟩, ⟨u4, u5⟩, ⟨u6, u7, u8⟩, ⟨u9, u10⟩, u11, u12⟩ := TxtStp (V := V2) (f := g2) (sh := (0, cz)) (k := 2) (j := 1) t1 t2 t3 h326
  refine x_putQ (r := some S2.2.2) fl_X8_35 u11 u12 dX8_init_41 ?_
  obtain ⟨S3, hS3⟩ : ∃ z, z = sq2 (nS S2 (0, cz)) m 2 (some S2.2.2) := ⟨_, rfl⟩
  have hS3' : sq2 (nS S2 (0, cz)) m ((2 : Nat) : Int) (some S2.2.2) = S3 := by rw [hS3]; rfl
  rw [hS3']
  rw [← hS3] at u1 u2 u3 u4 u5 u6 u7 u8
  obtain ⟨V3, hV3⟩ : ∃ z, z = nV S2 V2 g2 := ⟨_, rfl⟩
  rw [← hV3] at u9 u10 ⊢
  refine x_al0 dX8_init_44 ?_
  refine x_al1 dX8_init_45 ?_
  refine x_getR fl_X8_36 (sh_277 u1) (lq_277 u1) (rf_277_14 u1) dX8_init_46 ?_
  refine x_clonei cln_X8 dX8_init_49 (sh_284 u1) (lq_284 u1) ⟨by decide, by decide⟩ ?_
  obtain ⟨⟨w1, w2, w3⟩, ⟨w4, w5⟩, ⟨w6, w7, w8⟩, ⟨w9, w10⟩, w11, w12⟩ := TxtStp (V := V3) (f := V3 284) (sh := (0, 3)) (k := 3) (j := 2) u1 u2 u3 h326
  refine x_casti cst_X8 dX8_init_52 (n := 3) (up_same _ _ _) (Nat.lt_succ_self _) ?_
  refine x_putQ (r := some S3.2.2) fl_X8_44 w11 w12 dX8_init_55 ?_
  obtain ⟨S4, hS4⟩ : ∃ z, z = sq2 (nS S3 (0, 3)) m 3 (some S3.2.2) := ⟨_, rfl⟩
  have hS4' : sq2 (nS S3 (0, 3)) m ((3 : Nat) : Int) (some S3.2.2) = S4 := by rw [hS4]; rfl
  rw [hS4']
  rw [← hS4] at w1 w2 w3 w4 w5 w6 w7 w8
  obtain ⟨V4, hV4⟩ : ∃ z, z = nV S3 V3 (V3 284) := ⟨_, rfl⟩
  rw [← hV4] at w9 w10 ⊢
  refine x_al0 dX8_init_58 ?_
  refine x_al1 dX8_init_59 ?_
  refine x_getR fl_X8_45 (sh_277 w1) (lq_277 w1) (rf_277_15 w1) dX8_init_60 ?_
  refine x_clonei cln_X8 dX8_init_63 (sh_285 w1) (lq_285 w1) ⟨by decide, by decide⟩ ?_
  obtain ⟨⟨x1, x2, x3⟩, ⟨x4, x5⟩, ⟨x6, x7, x8⟩, ⟨x9, x10⟩, x11, x12⟩ := TxtStp (V := V4) (f := V4 285) (sh := (0, 3)) (k := 4) (j := 3) w1 w2 w3 h326
  refine x_casti cst_X8 dX8_init_66 (n := 3) (up_same _ _ _) (Nat.lt_succ_self _) ?_
  refine x_putQ (r := some S4.2.2) fl_X8_48 x11 x12 dX8_init_69 ?_
  obtain ⟨S5, hS5⟩ : ∃ z, z = sq2 (nS S4 (0, 3)) m 4 (some S4.2.2) := ⟨_, rfl⟩
  have hS5' : sq2 (nS S4 (0, 3)) m ((4 : Nat) : Int) (some S4.2.2) = S5 := by rw [hS5]; rfl
  rw [hS5']
  rw [← hS5] at x1 x2 x3 x4 x5 x6 x7 x8
  obtain ⟨V5, hV5⟩ : ∃ z, z = nV S4 V4 (V4 285) := ⟨_, rfl⟩
  rw [← hV5] at x9 x10 ⊢
  refine x_al0 dX8_init_72 ?_
  refine x_al1 dX8_init_73 ?_
  refine x_getR fl_X8_49 (sh_277 x1) (lq_277 x1) (rf_277_16 x1) dX8_init_74 ?_
  refine x_clonei cln_X8 dX8_init_77 (sh_286 x1) (lq_286 x1) ⟨by decide, by decide⟩ ?_
  obtain ⟨⟨y1, y2, y3⟩, ⟨y4, y5⟩, ⟨y6, y7, y8⟩, ⟨y9, y10⟩, y11, y12⟩ := TxtStp (V := V5) (f := V5 286) (sh := (0, 20)) (k := 5) (j := 4) x1 x2 x3 h326
  refine x_casti cst_X8 dX8_init_80 (n := 20) (up_same _ _ _) (Nat.lt_succ_self _) ?_
  refine x_putQ (r := some S5.2.2) fl_X8_52 y11 y12 dX8_init_83 ?_
  obtain ⟨S6, hS6⟩ : ∃ z, z = sq2 (nS S5 (0, 20)) m 5 (some S5.2.2) := ⟨_, rfl⟩
  have hS6' : sq2 (nS S5 (0, 20)) m ((5 : Nat) : Int) (some S5.2.2) = S6 := by rw [hS6]; rfl
  rw [hS6']
  rw [← hS6] at y1 y2 y3 y4 y5 y6 y7 y8
  obtain ⟨V6, hV6⟩ : ∃ z, z = nV S5 V5 (V5 286) := ⟨_, rfl⟩
  rw [← hV6] at y9 y10 ⊢
  have vq : ∀ q, q < m → V6 q = V q := fun q hq => by rw [y10 q (by omega), x10 q (by omega), w10 q (by omega), u10 q (by omega), t10 q (by omega), v1q q (by omega)]
  refine x_vret hQ ⟨rfl, by rw [y2], y1, ⟨⟨by omega, by rw [y2]; omega, by omega, by omega⟩, y3, ⟨?_, ?_, ?_, ?_, ?_⟩, ?_, ?_, ?_, ?_, ?_⟩, ⟨?_, fun k k0 k1 => ?_, fun k k0 k1 => ?_, ?_, ?_, ?_⟩, fun q hq => ⟨?_, ?_, vq q hq⟩⟩ dX8_init_86
  · rw [y7 0 (by decide), x7 0 (by decide), w7 0 (by decide), u7 0 (by decide)]; exact t6
  · rw [y7 2 (by decide), x7 2 (by decide), w7 2 (by decide)]; exact u6
  · rw [y7 3 (by decide), x7 3 (by decide)]; exact w6
  · rw [y7 4 (by decide)]; exact x6
  · exact y6
  · rw [y5 _ (by omega), x5 _ (by omega), w5 _ (by omega), u5 _ (by omega)]; exact t4
  · rw [y5 _ (by omega), x5 _ (by omega), w5 _ (by omega)]; exact u4
  · rw [y5 _ (by omega), x5 _ (by omega)]; exact w4
  · rw [y5 _ (by omega)]; exact x4
  · exact y4
  · rw [y10 m (by omega), x10 m (by omega), w10 m (by omega), u10 m (by omega), t10 m (by omega)]; exact v1m
  · rw [y10 _ (by omega), x10 _ (by omega), w10 _ (by omega), u10 _ (by omega), show m + 1 = m + 1 + 0 from rfl, t9, hg1 k k0 k1, v1q 282 (by omega)]
  · rw [y10 _ (by omega), x10 _ (by omega), w10 _ (by omega), show m + 2 = m + 1 + 1 from rfl, u9, hg2 k k0 k1, t10 283 (by omega), v1q 283 (by omega)]
  · rw [y10 _ (by omega), x10 _ (by omega), show m + 3 = m + 1 + 2 from rfl, w9, u10 284 (by omega), t10 284 (by omega), v1q 284 (by omega)]
  · rw [y10 _ (by omega), show m + 4 = m + 1 + 3 from rfl, x9, w10 285 (by omega), u10 285 (by omega), t10 285 (by omega), v1q 285 (by omega)]
  · rw [show m + 5 = m + 1 + 4 from rfl, y9, x10 286 (by omega), w10 286 (by omega), u10 286 (by omega), t10 286 (by omega), v1q 286 (by omega)]
  · rw [y5 q (by omega), x5 q (by omega), w5 q (by omega), u5 q (by omega), t5 q (by omega)]
  · rw [y8 q (by omega) (by omega), x8 q (by omega) (by omega), w8 q (by omega) (by omega), u8 q (by omega) (by omega), t8 q (by omega) (by omega)]
