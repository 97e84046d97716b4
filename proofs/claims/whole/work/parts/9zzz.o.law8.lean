/-! FEED, END, TEXT -/
theorem tape4_b {t : Int → Int} (h : ∀ k, 0 ≤ t k ∧ t k < 256) (n v : Int) : ∀ k, 0 ≤ tape4 t n v k ∧ tape4 t n v k < 256 := fun k => by
  have := h k
  simp only [tape4, ua]
  (repeat' split) <;> omega
theorem feedT_b {t : Int → Int} (h : ∀ k, 0 ≤ t k ∧ t k < 256) (n a b c d e : Int) : ∀ k, 0 ≤ feedT t n a b c d e k ∧ feedT t n a b c d e k < 256 :=
  tape4_b (tape4_b (tape4_b (tape4_b (tape4_b h _ _) _ _) _ _) _ _) _ _
theorem INV_fd {n : Int} {S : Stt} {V : Va} (h : INV n S V) (a b c d e : Int) : INV (n + 1) S (up (up (up (up V 277 (if V 277 1 + 20 ≤ 300 then ua (V 277) 1 (V 277 1 + 20) else V 277)) 278 (if V 277 1 + 20 ≤ 300 then feedT (V 278) (V 277 1) a b c d e else V 278)) 308 (if V 308 4 + 20 ≤ 300 then ua (V 308) 4 (V 308 4 + 20) else V 308)) 312 (if V 308 4 + 20 ≤ 300 then feedT (V 312) (V 308 4) a b c d e else V 312)) := by
  obtain ⟨r1, r2, r3, r4, r5, r6⟩ := h.rd
  rw [r1, r2]
  refine INV_r h (fun q a b c d => by rw [up_ne d, up_ne c, up_ne b, up_ne a]) (fun k hk => ?_) ⟨?_, ?_⟩ ?_ ?_ ?_ ?_
  · rw [up_ne (by decide), up_same]
    split
    · exact ua_ne hk
    · rfl
  · rw [up_ne (by decide), up_ne (by decide), up_ne (by decide), up_same]
    split
    · exact ua_ne (by decide)
    · rfl
  · rw [up_ne (by decide), up_ne (by decide), up_ne (by decide), up_same]
    split
    · exact ua_ne (by decide)
    · rfl
  · rw [up_ne (by decide), up_ne (by decide), up_same, up_same]
  · rw [up_ne (by decide), up_ne (by decide), up_ne (by decide), up_same, up_ne (by decide), up_same]
    split
    · rw [ua_same, ua_same]
    · exact r2
  · rw [up_ne (by decide), up_same]
    split
    · rw [ua_same]; omega
    · exact r3
  · rw [up_same]
    split
    · exact feedT_b r4 _ _ _ _ _ _
    · exact r4
theorem INV_en {n : Int} {S : Stt} {V : Va} (h : INV n S V) (a : Int) : INV (n + 1) S (up (up V 277 (if 0 ≤ a ∧ a ≤ V 277 1 then ua (V 277) 1 a else V 277)) 308 (if 0 ≤ a ∧ a ≤ V 308 4 then ua (V 308) 4 a else V 308)) := by
  obtain ⟨r1, r2, r3, r4, r5, r6⟩ := h.rd
  rw [r2]
  refine INV_r h (fun q a b c d => by rw [up_ne c, up_ne a]) (fun k hk => ?_) ⟨?_, ?_⟩ ?_ ?_ ?_ ?_
  · rw [up_same]
    split
    · exact ua_ne hk
    · rfl
  · rw [up_ne (by decide), up_same]
    split
    · exact ua_ne (by decide)
    · rfl
  · rw [up_ne (by decide), up_same]
    split
    · exact ua_ne (by decide)
    · rfl
  · rw [up_ne (by decide), up_ne (by decide), up_ne (by decide), up_ne (by decide)]; exact r1
  · rw [up_ne (by decide), up_same, up_same]
    split
    · rw [ua_same, ua_same]
    · exact r2
  · rw [up_same]
    split
    · rw [ua_same]; omega
    · exact r3
  · rw [up_ne (by decide), up_ne (by decide)]; exact r4
theorem WSim_3 {V V2 : Va} {b : Nat} {a a' : Int → Int} (h : WSim V b a) (hq : ∀ q, q ≠ 3 → a' q = a q) (z3 : a' 3 = a 3 + 1) (g : ∀ q : Nat, b < q → q ≤ b + 137 → V2 q = V q) (h7 : V2 b 7 = V b 7) (h8 : V2 b 8 = V b 8 + 1) (h9 : V2 b 9 = V b 9) : WSim V2 b a' := by
  obtain ⟨e1, e2, e3, e4, e5, e6⟩ := h
  have z0 := hq 0 (by decide)
  have z1 := hq 1 (by decide)
  have z2 := hq 2 (by decide)
  have z4 := hq 4 (by decide)
  have z5 := hq 5 (by decide)
  have z6 := hq 6 (by decide)
  have z7 := hq 7 (by decide)
  have z8 := hq 8 (by decide)
  simp only [WSim, z0, z1, z2, z3, z4, z5, z6, z7, z8]
  refine ⟨⟨h7.trans e1.1, by rw [h8, e1.2.1], h9.trans e1.2.2⟩, fun t t0 t1 => ?_, fun x x0 x1 => ?_, BoSim_ge (fun x e x0 x1 f0 f1 => hq (30 + 6 * x + 1 + e) (by omega)) (BoSim_c (fun q q0 q1 => g q (by omega) (by omega)) e4), ⟨?_, ?_, ?_, fun j j0 j1 => ?_⟩, ?_, ?_, ?_, fun s s0 s1 => ?_⟩
  · rw [hq (10 + 2 * t) (by omega), hq (10 + 2 * t + 1) (by omega), g (b + 1) (by omega) (by omega), g (b + 2) (by omega) (by omega)]
    exact e2 t t0 t1
  · rw [hq (30 + 6 * x) (by omega), g (b + 3) (by omega) (by omega)]
    exact e3 x x0 x1
  · rw [g (b + 10) (by omega) (by omega)]; exact e5.1
  · rw [g (b + 10) (by omega) (by omega)]; exact e5.2.1
  · rw [g (b + 10) (by omega) (by omega)]; exact e5.2.2.1
  · rw [hq (174 + 82 * j) (by omega), hq (174 + 82 * j + 1) (by omega), g (b + 10) (by omega) (by omega)]
    exact BoSim_ge (fun x e x0 x1 f0 f1 => hq (174 + 82 * j + 2 + 5 * x + e) (by omega)) (BoSim_c (fun q q0 q1 => g q (by simp only [ringId] at q0; omega) (by simp only [ringId] at q1; omega)) (e5.2.2.2 j j0 j1))
  · rw [g (b + 133) (by omega) (by omega)]; exact e6.1
  · rw [g (b + 133) (by omega) (by omega)]; exact e6.2.1
  · rw [g (b + 133) (by omega) (by omega)]; exact e6.2.2.1
  · rw [hq (126 + 4 * s) (by omega), hq (126 + 4 * s + 1) (by omega), hq (126 + 4 * s + 2) (by omega), hq (126 + 4 * s + 3) (by omega), g (b + 134) (by omega) (by omega), g (b + 135) (by omega) (by omega), g (b + 136) (by omega) (by omega), g (b + 137) (by omega) (by omega)]
    exact e6.2.2.2 s s0 s1
theorem MIv_3 {a a' : Int → Int} (hM : MIv a) (hq : ∀ q, q ≠ 3 → a' q = a q) (z3 : a' 3 = a 3 + 1) (h3 : a 3 < 4) : MIv a' := by
  obtain ⟨m1, m2, m3, m4, m5, m6, m7, m8, m9, m10⟩ := hM
  obtain ⟨n1, n2, n3, n4, n5, n6, n7⟩ := m1
  have z0 := hq 0 (by decide)
  have z1 := hq 1 (by decide)
  have z2 := hq 2 (by decide)
  have z4 := hq 4 (by decide)
  have z5 := hq 5 (by decide)
  have z6 := hq 6 (by decide)
  have z7 := hq 7 (by decide)
  have z8 := hq 8 (by decide)
  have hA : AB a' := fun k => by
    by_cases c : k = 3
    · rw [c, z3]; omega
    · rw [hq k c]; exact n1 k
  have eN : ∀ x e, 0 ≤ x → 0 ≤ e → gNow a' x e = gNow a x e := fun x e x0 e0 => hq (30 + 6 * x + 1 + e) (by omega)
  have eR : ∀ j x e, 0 ≤ j → 0 ≤ x → 0 ≤ e → gRec a' j x e = gRec a j x e := fun j x e j0 x0 e0 => hq (174 + 82 * j + 2 + 5 * x + e) (by omega)
  simp only [MIv, AI, z0, z1, z2, z3, z4, z5, z6, z7, z8]
  refine ⟨⟨hA, n2, n3, n4, n5, n6, fun b b0 b1 => ?_⟩, by omega, m3, m4, fun t t0 t1 => ?_, fun x x0 x1 => ?_, BoOK_ge (fun x e x0 x1 f0 f1 => eN x e x0 f0) m7, fun x x0 x1 => ?_, fun j j0 j1 => ?_, fun s s0 s1 => ?_⟩
  · rw [hq (30 + 6 * b + 5) (by omega)]; exact n7 b b0 b1
  · rw [hq (10 + 2 * t) (by omega), hq (10 + 2 * t + 1) (by omega)]
    exact m5 t t0 t1
  · rw [hq (30 + 6 * x) (by omega)]
    exact m6 x x0 x1
  · rw [eN x 4 (by omega) (by decide)]; exact m8 x x0 x1
  · rw [hq (174 + 82 * j) (by omega), hq (174 + 82 * j + 1) (by omega)]
    obtain ⟨k1, k2, k3, k4⟩ := m9 j j0 j1
    refine ⟨k1, k2, BoOK_ge (fun x e x0 x1 f0 f1 => eR j x e j0 x0 f0) k3, fun x x0 x1 => ?_⟩
    rw [eR j x 4 j0 (by omega) (by decide), eN x 4 (by omega) (by decide), eR (j + 1) x 4 (by omega) (by omega) (by decide)]
    exact k4 x x0 x1
  · rw [hq (126 + 4 * s) (by omega), hq (126 + 4 * s + 1) (by omega), hq (126 + 4 * s + 2) (by omega), hq (126 + 4 * s + 3) (by omega)]
    exact m10 s s0 s1
theorem WB_3 {V V2 : Va} {b : Nat} (h : WB V b) (g : ∀ q : Nat, b < q → q ≤ b + 137 → V2 q = V q) : WB V2 b := by
  obtain ⟨b1, b2, b3, b4, b5, b6, b7, b8, b9, b10, b11, b12⟩ := h
  refine ⟨?_, ?_, ?_, ?_, ?_, ?_, ?_, ?_, ?_, ?_, ?_, fun k hk => ?_⟩
  · rw [g (b + 1) (by omega) (by omega)]; exact b1
  · rw [g (b + 2) (by omega) (by omega)]; exact b2
  · rw [g (b + 3) (by omega) (by omega)]; exact b3
  · rw [g (b + 9) (by omega) (by omega)]; exact b4
  · rw [g (b + 5) (by omega) (by omega)]; exact b5
  · rw [g (b + 6) (by omega) (by omega)]; exact b6
  · rw [g (b + 7) (by omega) (by omega)]; exact b7
  · rw [g (b + 8) (by omega) (by omega)]; exact b8
  · rw [g (b + 135) (by omega) (by omega)]; exact b9
  · rw [g (b + 136) (by omega) (by omega)]; exact b10
  · rw [g (b + 137) (by omega) (by omega)]; exact b11
  · rw [g (b + 12 + 6 * k) (by omega) (by omega), g (b + 12 + 6 * k + 5) (by omega) (by omega), g (b + 12 + 6 * k + 1) (by omega) (by omega), g (b + 12 + 6 * k + 2) (by omega) (by omega), g (b + 12 + 6 * k + 3) (by omega) (by omega), g (b + 12 + 6 * k + 4) (by omega) (by omega)]
    exact b12 k hk
theorem LSim_t {S : Stt} {V : Va} {b : Nat} {a tx tx' : Int → Int} {m : Int} (h : LSim S V b a tx) (hm : a 3 ≤ m) (e : ∀ k, k < 700 * m → tx' k = tx k) : LSim S V b a tx' := fun T t0 t1 => by
  obtain ⟨id, cs, e0, h1, h2, h3, h4, h5⟩ := h T t0 t1
  have l1 := h3.2.2.2.2.2.1
  have l2 := h3.2.2.2.2.2.2
  exact ⟨id, cs, e0, h1, h2, h3, h4, MTx_c l1 h5 (fun q hq => e q (by omega))⟩
