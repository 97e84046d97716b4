theorem TxS_g {S S' : Stt} {id cl cd : Nat} (h : TxS S id cl cd) (e1 : ∀ q : Nat, id ≤ q → q ≤ id + 5 → S'.1 q = S.1 q) (e2 : S'.2.1 id = S.2.1 id) (e3 : S.2.2 ≤ S'.2.2) : TxS S' id cl cd := by
  obtain ⟨⟨a1, a2, a3, a4⟩, h2, h3, h4, h5, h6, h7, h8⟩ := h
  refine ⟨⟨a1, by omega, a3, a4⟩, ?_, ?_, ?_, ?_, ?_, ?_, ?_⟩
  · rw [e1 id (by omega) (by omega)]; exact h2
  · rw [e2]; exact h3
  · rw [e1 (id + 1) (by omega) (by omega)]; exact h4
  · rw [e1 (id + 2) (by omega) (by omega)]; exact h5
  · rw [e1 (id + 3) (by omega) (by omega)]; exact h6
  · rw [e1 (id + 4) (by omega) (by omega)]; exact h7
  · rw [e1 (id + 5) (by omega) (by omega)]; exact h8
/-- the TEXTS told before stay, where the memory grows -/
theorem LS1_g {S S' : Stt} {V V' : Va} {tx : Int → Int} {T : Int} {id : Nat} {cs : List Cls} (h : LS1 S V tx T id cs) (e1 : ∀ q : Nat, q < S.2.2 → S'.1 q = S.1 q) (e2 : S'.2.1 id = S.2.1 id) (e3 : S.2.2 ≤ S'.2.2) (e4 : ∀ q : Nat, 326 ≤ q → q < S.2.2 → V' q = V q) : LS1 S' V' tx T id cs := by
  obtain ⟨h1, h2, h3, h4, h5⟩ := h
  have i0 := h1.1.1
  have i1 := h1.1.2.1
  refine ⟨TxS_g h1 (fun q a b => e1 q (by omega)) e2 e3, ?_, ?_, ?_, h5⟩
  · rw [e4 id (by omega) (by omega)]; exact h2
  · rw [e4 (id + 1) (by omega) (by omega), e4 (id + 2) (by omega) (by omega), e4 (id + 3) (by omega) (by omega), e4 (id + 4) (by omega) (by omega), e4 (id + 5) (by omega) (by omega)]; exact h3
  · rw [e4 (id + 1) (by omega) (by omega)]; exact h4
theorem INV_ts {n : Int} {S S1 : Stt} {V V1 : Va} {f tx pl : Int → Int} {cs : List Cls} (h : INV n S V) (fr : ∀ q : Nat, q < S.2.2 → (q < 277 ∨ 286 < q ∨ q = 278) → V1 q = V q) (c1 : V1 277 1 = 0) (c2 : V1 277 2 = 0) (c3 : V1 277 3 = -1) (hlt : V 309 3 < 4)
    (s1 : Stat S1) (s2 : S1.2.2 = S.2.2 + 6) (s3 : TxS S1 S.2.2 (4 * cs.length) (codeL cs).length) (s4 : V1 S.2.2 1 = cs.length) (s5 : TxD cs (V1 (S.2.2 + 1)) (V1 (S.2.2 + 2)) (V1 (S.2.2 + 3)) (V1 (S.2.2 + 4)) (V1 (S.2.2 + 5))) (s6 : ∀ q : Nat, q < S.2.2 → S1.1 q = S.1 q ∧ S1.2.1 q = S.2.1 q)
    (hT : TxF (700 * V 309 3) (V 308) (V 311) f tx pl) (hMt : MTx tx (700 * V 309 3) cs) (h10 : (0 ≤ f 10 ∧ f 10 < 1000000) ∧ 0 ≤ f 11 ∧ f 11 < 72057594037927936) {V2 : Va}
    (e8 : V2 308 = ua (ua (ua f 5 0) 6 (-1)) 4 0) (e9 : V2 309 = ua (V 309) 3 (V 309 3 + 1)) (e11 : V2 311 = tx) (e13 : V2 313 = pl) (e1 : V2 1 = ua (ua (V 1) 10 (V 1 10 + 1)) 8 (V 1 8 + 1)) (en : V2 (S.2.2 + 1) = fun k => nrm (V1 (S.2.2 + 1) k)) (er : ∀ q : Nat, q ≠ 1 → q ≠ 308 → q ≠ 309 → q ≠ 311 → q ≠ 313 → q ≠ S.2.2 + 1 → V2 q = V1 q) : INV (n + 1) (sq2 S1 133 (V 1 8) (some S.2.2)) V2 := by
  obtain ⟨t1, t2, t3, t4⟩ := hT
  obtain ⟨hW, hB, hM⟩ := h.now
  have hS2 := h.st.2.2
  have F : ∀ q : Nat, q < S.2.2 → (q < 277 ∨ 286 < q ∨ q = 278) → q ≠ 1 → q ≠ 308 → q ≠ 309 → q ≠ 311 → q ≠ 313 → V2 q = V q := fun q a b d0 d1 d2 d3 d4 => (er q d0 d1 d2 d3 d4 (by omega)).trans (fr q a b)
  have g : ∀ q : Nat, q < 277 → q ≠ 1 → V2 q = V q := fun q hq d => F q (by omega) (by omega) d (by omega) (by omega) (by omega) (by omega)
  have g2 : ∀ q : Nat, 286 < q → q < 308 → V2 q = V q := fun q a b => F q (by omega) (by omega) (by omega) (by omega) (by omega) (by omega) (by omega)
  have g3 : ∀ q : Nat, 326 ≤ q → q < S.2.2 → V2 q = V q := fun q a b => F q (by omega) (by omega) (by omega) (by omega) (by omega) (by omega) (by omega)
  have e10 : V2 310 = V 310 := F 310 (by omega) (by omega) (by decide) (by decide) (by decide) (by decide) (by decide)
  have e12 : V2 312 = V 312 := F 312 (by omega) (by omega) (by decide) (by decide) (by decide) (by decide) (by decide)
  have e14 : V2 314 = V 314 := F 314 (by omega) (by omega) (by decide) (by decide) (by decide) (by decide) (by decide)
  have e16 : V2 316 = V 316 := F 316 (by omega) (by omega) (by decide) (by decide) (by decide) (by decide) (by decide)
  have e23 : V2 323 = V 323 := F 323 (by omega) (by omega) (by decide) (by decide) (by decide) (by decide) (by decide)
  have e78 : V2 278 = V 278 := F 278 (by omega) (by omega) (by decide) (by decide) (by decide) (by decide) (by decide)
  have e77 : V2 277 = V1 277 := er 277 (by decide) (by decide) (by decide) (by decide) (by decide) (by omega)
  have w8 : V 1 8 = V 309 3 := hW.1.2.1
  have i3 := hM.2.1
  have hch := h.ch
  have u : ∀ q, q ≠ 3 → ua (V 309) 3 (V 309 3 + 1) q = V 309 q := fun q hq => ua_ne hq
  have u3 : ua (V 309) 3 (V 309 3 + 1) 3 = V 309 3 + 1 := ua_same _ _ _
  have v10 : V2 1 10 = V 1 10 + 1 := by rw [e1, ua_ne (by decide), ua_same]
  obtain ⟨k1, k2, k3, k4⟩ := h.sh.2
  have q1 : ∀ q : Nat, q < S.2.2 → (sq2 S1 133 (V 1 8) (some S.2.2)).1 q = S.1 q := fun q hq => (s6 q hq).1
  have q2 : ∀ q : Nat, q < S.2.2 → q ≠ 133 → (sq2 S1 133 (V 1 8) (some S.2.2)).2.1 q = S.2.1 q := fun q hq hd => by
    show up S1.2.1 133 _ q = _
    rw [up_ne hd]
    exact (s6 q hq).2
  have q3 : ∀ k, (sq2 S1 133 (V 1 8) (some S.2.2)).2.1 133 k = if k = V 1 8 then some S.2.2 else S.2.1 133 k := fun k => by
    show up S1.2.1 133 (uq (S1.2.1 133) (V 1 8) (some S.2.2)) 133 k = _
    rw [up_same, (s6 133 (by omega)).2]
    rfl
  have q4 : (sq2 S1 133 (V 1 8) (some S.2.2)).2.2 = S.2.2 + 6 := s2
  refine ⟨Stat_sq s1 (Or.inl rfl) _ _, ?_, ?_, ?_, ?_, ?_, ?_, ?_, ?_, ?_, ?_, ?_, ?_, ?_, ?_, ?_⟩
  · rw [e9]
    refine ⟨WSim_3 hW u u3 (fun q q0 q1 => g q (by omega) (by omega)) ?_ ?_ ?_, WB_3 hB (fun q q0 q1 => g q (by omega) (by omega)), MIv_3 hM u u3 hlt⟩
    · rw [e1, ua_ne (by decide), ua_ne (by decide)]
    · rw [e1, ua_same]
    · rw [e1, ua_ne (by decide), ua_ne (by decide)]
  · rw [e10]
    exact ⟨WSim_c (fun q q0 q1 => g q (by omega) (by omega)) h.img.1, WB_c (fun q q0 q1 => g q (by omega) (by omega)) h.img.2.1, h.img.2.2⟩
  · rw [e10, e9, u3]
    have := h.le3
    omega
  · rw [e9, e11]
    intro T T0 T1
    rw [u3] at T1
    by_cases c : T = V 309 3
    · refine ⟨S.2.2, cs, ?_, ?_, ?_, ?_, ?_, ?_⟩
      · rw [q3, if_pos (by omega)]
      · refine TxS_g s3 (fun q a b => rfl) ?_ (Nat.le_of_eq (s2.trans q4.symm))
        show up S1.2.1 133 _ S.2.2 = _
        rw [up_ne (by omega)]
      · rw [er S.2.2 (by omega) (by omega) (by omega) (by omega) (by omega) (by omega)]; exact s4
      · rw [en, er (S.2.2 + 2) (by omega) (by omega) (by omega) (by omega) (by omega) (by omega), er (S.2.2 + 3) (by omega) (by omega) (by omega) (by omega) (by omega) (by omega), er (S.2.2 + 4) (by omega) (by omega) (by omega) (by omega) (by omega) (by omega), er (S.2.2 + 5) (by omega) (by omega) (by omega) (by omega) (by omega) (by omega)]
        exact TxD_nrm s5
      · rw [en]
        exact fun k => nrm_r _
      · rw [c]; exact hMt
    · obtain ⟨id, cs', z1, z2⟩ := (LSim_t h.tx (Int.le_refl _) (fun k hk => t2 k (Or.inl hk))) T T0 (by omega)
      have y0 := z2.1.1.1
      have y1 := z2.1.1.2.1
      refine ⟨id, cs', ?_, LS1_g z2 q1 (q2 id (by omega) (by omega)) (by omega) g3⟩
      rw [q3, if_neg (by omega)]
      exact z1
  · rw [e10, e11]
    intro T T0 T1
    obtain ⟨id, cs', z1, z2⟩ := (LSim_t h.txi h.le3 (fun k hk => t2 k (Or.inl hk))) T T0 T1
    have y0 := z2.1.1.1
    have y1 := z2.1.1.2.1
    refine ⟨id, cs', ?_, LS1_g z2 q1 (q2 id (by omega) (by omega)) (by omega) g3⟩
    rw [q2 271 (by omega) (by decide)]
    exact z1
  · intro k j e
    rw [q3] at e
    split at e
    · have e : S.2.2 = j := Option.some.inj e
      subst e
      exact ⟨s3.2.1, by omega⟩
    · have z := h.tr k j e
      exact ⟨(q1 j z.2).trans z.1, by omega⟩
  · intro k j e
    rw [q2 271 (by omega) (by decide)] at e
    have z := h.tri k j e
    exact ⟨(q1 j z.2).trans z.1, by omega⟩
  · rw [e11, e13, e14, e16, e23]
    exact ⟨t3, t4, h.ab.2.2⟩
  · rw [e77, e78, e8, e12, c1, c2, c3]
    refine ⟨h.rd.1, (ua_same _ _ _).symm, by rw [ua_same]; omega, h.rd.2.2.2.1, ?_, ?_⟩
    · rw [ua_ne (by decide), ua_ne (by decide), ua_same]
    · rw [ua_ne (by decide), ua_same]
  · rw [e8, ua_ne (by decide), ua_ne (by decide), ua_same, ua_ne (by decide), ua_same]
    exact ⟨inr (by omega), inr (by omega)⟩
  · rw [e8, ua_ne (by decide), ua_ne (by decide), ua_ne (by decide), ua_ne (by decide), ua_ne (by decide), ua_ne (by decide)]
    exact h10
  · rw [v10, g 139 (by decide) (by decide)]; omega
  · exact ⟨ShC_v (by rw [g2 289 (by decide) (by decide), v10]; omega), ShK_v h.sh.2 (g2 289 (by decide) (by decide)) (by rw [v10]; omega)⟩
  · exact PsI_v h.ps (g2 301 (by decide) (by decide)) (g2 297 (by decide) (by decide)) (by rw [v10]; omega)
  · exact ⟨RdB_v h.ro.1 (g2 306 (by decide) (by decide)) (g2 307 (by decide) (by decide)), RdC_v h.ro.2 (g2 303 (by decide) (by decide)) (by rw [v10]; omega)⟩
theorem vQ_no {B : Bs} {j : Nat} (h : some (vQ B none) = some (vQ B (some j))) : False := by
  simp [vQ, va_rf] at h
/-- a TEXT, told to both -/
theorem text_step {B : Bs} {n : Int} {S : Stt} {V : Va} (h : INV n S V) {v : Option Value} {S1 : Stt} {V1 : Va} (q : rXt B S V v S1 V1) : ∃ r, some (vI r) = v ∧ Stat S1 ∧ (∀ q : Nat, 308 ≤ q → q < 326 → V1 q = V q) ∧ ∀ r2 V2, TexM V1 r2 V2 → r = r2 ∧ INV (n + 1) S1 V2 := by
  obtain ⟨hW, hB, hM⟩ := h.now
  have w8 : V 1 8 = V 309 3 := hW.1.2.1
  have i3 := hM.2.1
  have hS2 := h.st.2.2
  obtain ⟨d1, d2, d3, d4, d5, d6⟩ := h.rd
  rcases q with ⟨z1, z2, z3, z4⟩ | ⟨z1, Sx, Vx, w, zr, zz⟩
  · subst z3
    subst z4
    refine ⟨-1, z2, h.st, fun _ _ _ => rfl, fun r2 V2 t => ?_⟩
    rcases t with ⟨t1, t2, t3⟩ | ⟨t1, _⟩
    · subst t3
      exact ⟨t2.symm, INV_q h (fun _ _ => rfl) h.ca (AskM_0 h (fun _ _ => rfl))⟩
    · omega
  · obtain ⟨a1, a2, a3⟩ := zr
    have y8 : Vx 308 = V 308 := a2 308 (by omega) (by omega)
    have y9 : Vx 309 = V 309 := a2 309 (by omega) (by omega)
    have y11 : Vx 311 = V 311 := a2 311 (by omega) (by omega)
    have y12 : Vx 312 = V 312 := a2 312 (by omega) (by omega)
    have y1 : Vx 1 = V 1 := a2 1 (by omega) (by omega)
    rcases a3 with ⟨q, cs, b1, b2, b3, b4, b5, b6⟩ | ⟨q, cs, b1, b2, b3, b5, b6, b7, b8, b9, b10⟩
    · rcases zz with ⟨x1, x2, x3, x4⟩ | ⟨x1, _⟩
      · subst x3
        subst x4
        subst b6
        refine ⟨-1, x2, h.st, fun p a b => a2 p (by omega) (by omega), fun r2 V2 t => ?_⟩
        rcases t with ⟨t1, _⟩ | ⟨t1, r, p, cs', f, tx, pl, u1, u2, u3, u4, u5, u6, u7⟩
        · rw [y9] at t1
          omega
        · rw [y12, y8, ← d1, ← d2] at u1
          obtain ⟨v1, v2, v3⟩ := TxR_det b1 u1
          rw [← v1, if_neg b2] at u6
          rw [← v1, if_neg b2, if_neg b2] at u7
          rw [y9, y8, y11] at u3
          rw [y12, y8] at u2
          have tk := tok_r d4 (n := V 308 4) (p := p) u2.1.2
          rw [y9, y12, y8, ← v2] at u7
          rw [u7]
          refine ⟨u6.symm, INV_tf h a2 a1 rfl ?_ b3 ?_ u3 u2.2.2.2.2.2.2.2⟩
          · rw [b4, d1, d2]
          · rw [v2]
            have := u2.1.1
            omega
      · exact (vQ_no (b5.trans x1)).elim
    · rcases zz with ⟨x1, _⟩ | ⟨x1, x2, x3, x4⟩
      · exact (vQ_no (x1.symm.trans b5.symm)).elim
      · rw [y1] at x2 x3
        subst x3
        refine ⟨V 1 8, x2, Stat_sq b6 (Or.inl rfl) _ _, fun p a b => ?_, fun r2 V2 t => ?_⟩
        · rw [x4, up_ne (by omega), up_ne (by omega)]
          exact a2 p (by omega) (by omega)
        · have m8 : V1 308 = V 308 := by rw [x4, up_ne (by omega), up_ne (by omega)]; exact y8
          have m9 : V1 309 = V 309 := by rw [x4, up_ne (by omega), up_ne (by omega)]; exact y9
          have m11 : V1 311 = V 311 := by rw [x4, up_ne (by omega), up_ne (by omega)]; exact y11
          have m12 : V1 312 = V 312 := by rw [x4, up_ne (by omega), up_ne (by omega)]; exact y12
          rcases t with ⟨t1, _⟩ | ⟨t1, r, p, cs', f, tx, pl, u1, u2, u3, u4, u5, u6, u7⟩
          · rw [m9] at t1
            omega
          · rw [m12, m8, ← d1, ← d2] at u1
            obtain ⟨v1, v2, v3⟩ := TxR_det b1 u1
            rw [← v1, if_pos rfl] at u6
            rw [← v1, if_pos rfl, if_pos rfl] at u7
            rw [m9, m8, m11] at u3
            rw [m12, m8] at u2
            have u5 := u5 v1.symm
            rw [m9] at u5 u6 u7
            rw [← v3] at u5
            refine ⟨by rw [u6]; exact w8, INV_ts (V1 := Vx) (cs := cs) h a2 a1 b2 b3 (by omega) b6 b7 b8 b9.1 b9.2 b10 u3 u5.2.2.2.2.2.2.1 u2.2.2.2.2.2.2.2 ?_ ?_ ?_ ?_ ?_ ?_ ?_⟩
            · rw [u7, up_ne (by decide), up_ne (by decide), up_ne (by decide), up_same]
            · rw [u7, up_ne (by decide), up_ne (by decide), up_same]
            · rw [u7, up_ne (by decide), up_same]
            · rw [u7, up_same]
            · rw [u7, up_ne (by decide), up_ne (by decide), up_ne (by decide), up_ne (by decide), x4, up_ne (by omega), up_same, y1]
            · rw [u7, up_ne (by omega), up_ne (by omega), up_ne (by omega), up_ne (by omega), x4, up_same]
            · intro p d0 d1 d2 d3 d4 d5
              rw [u7, up_ne d4, up_ne d3, up_ne d2, up_ne d1, x4, up_ne d5, up_ne d0]
