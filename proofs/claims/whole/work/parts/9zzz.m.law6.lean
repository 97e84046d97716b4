/-! calls that ask, feed, and go back -/
theorem AskM_3 {V1 : Va} {f g t : Int → Int} (hf : AB f) (ht : TRb t) (h3 : TRb (V1 323)) : AskM V1 (up (up (up V1 314 f) 315 g) 316 t) :=
  ⟨fun q hq => by rw [up_ne (by omega), up_ne (by omega), up_ne (by omega)], fun k _ => by rw [up_ne (by decide), up_ne (by decide), up_ne (by decide)], by rw [up_ne (by decide), up_ne (by decide), up_same]; exact hf, by rw [up_same]; exact ht, by rw [up_ne (by decide), up_ne (by decide), up_ne (by decide)]; exact h3⟩
theorem AskM_4 {V1 : Va} {x f g t : Int → Int} (hx : ∀ k : Int, k < 29 → x k = V1 308 k) (hf : AB f) (ht : TRb t) (h3 : TRb (V1 323)) : AskM V1 (up (up (up (up V1 308 x) 314 f) 315 g) 316 t) :=
  ⟨fun q hq => by rw [up_ne (by omega), up_ne (by omega), up_ne (by omega), up_ne (by omega)], fun k hk => by rw [up_ne (by decide), up_ne (by decide), up_ne (by decide), up_same]; exact hx k hk, by rw [up_ne (by decide), up_ne (by decide), up_same]; exact hf, by rw [up_same]; exact ht, by rw [up_ne (by decide), up_ne (by decide), up_ne (by decide), up_ne (by decide)]; exact h3⟩
theorem AskM_5 {V1 : Va} {x y t : Int → Int} (h4 : AB (V1 314)) (h6 : TRb (V1 316)) (ht : TRb t) : AskM V1 (up (up (up V1 321 x) 322 y) 323 t) :=
  ⟨fun q hq => by rw [up_ne (by omega), up_ne (by omega), up_ne (by omega)], fun k _ => by rw [up_ne (by decide), up_ne (by decide), up_ne (by decide)], by rw [up_ne (by decide), up_ne (by decide), up_ne (by decide)]; exact h4, by rw [up_ne (by decide), up_ne (by decide), up_ne (by decide)]; exact h6, by rw [up_same]; exact ht⟩
theorem mMany_1 {S : Stt} {V : Va} {b : Nat} {a tx : Int → Int} (h : LSim S V b a tx) (h4 : a 4 < a 3) (k : Int) : 1 ≤ mMany a tx k := by
  simp only [mMany]
  by_cases c : mManyK a tx k < 0
  · rw [if_pos c]
    exact Int.le_refl _
  · rw [if_neg c]
    have e : mManyK a tx k = if a 4 < 0 then -1 else findT (fun j => decide (tx (700 * a 4 + 1 + 4 * j) = 3 ∧ tx (700 * a 4 + 1 + 4 * j + 1) = k)) (tx (700 * a 4)) := rfl
    by_cases c4 : a 4 < 0
    · rw [if_pos c4] at e
      omega
    · rw [if_neg c4] at e
      obtain ⟨id, cs, _, h1, h2, h3, h5, hM⟩ := h (a 4) (by omega) h4
      have e0 : tx (700 * a 4) = cs.length := hM.1
      rcases findT_r (fun j => decide (tx (700 * a 4 + 1 + 4 * j) = 3 ∧ tx (700 * a 4 + 1 + 4 * j + 1) = k)) (n := tx (700 * a 4)) (by omega) with z | z
      · rw [← e] at z
        omega
      · rw [← e] at z
        have t := of_decide_eq_true z.2.2.1
        generalize mManyK a tx k = j at z t c
        have z1 := z.1
        have z2 := z.2.1
        have hk : j.toNat < cs.length := by omega
        have hc : cs[j.toNat]? = some cs[j.toNat] := by simp [hk]
        have mk := hM.2.1 _ _ hc
        have ok := h3.2.2.2.2.1 _ (List.getElem_mem hk)
        rw [show ((j.toNat : Nat) : Int) = j by omega] at mk
        have c3 : (cs[j.toNat]).1 = 3 := by rw [← mk.2.1]; exact t.1
        obtain ⟨x, y, e3, hr⟩ := okN_3 (by have w := (ok.2.2 (by omega)).2; rw [c3] at w; exact w)
        have m := mk.2.2.2 1 y (by rw [e3]; rfl)
        rw [show 700 * a 4 + 1 + 4 * j + 1 + ((1 : Nat) : Int) = 700 * a 4 + 1 + 4 * j + 2 by omega] at m
        rw [m]
        omega
/-- a call to the reader -/
theorem INV_r {n : Int} {S : Stt} {V V2 : Va} (h : INV n S V) (f : ∀ q : Nat, q ≠ 277 → q ≠ 278 → q ≠ 308 → q ≠ 312 → V2 q = V q) (g : ∀ k : Int, k ≠ 4 → V2 308 k = V 308 k) (g2 : V2 277 2 = V 277 2 ∧ V2 277 3 = V 277 3) (h1 : V2 278 = V2 312) (h2 : V2 277 1 = V2 308 4) (h3 : 0 ≤ V2 308 4 ∧ V2 308 4 ≤ 300) (h4 : ∀ k, 0 ≤ V2 312 k ∧ V2 312 k < 256) : INV (n + 1) S V2 := by
  have r9 := f 309 (by decide) (by decide) (by decide) (by decide)
  have r10 := f 310 (by decide) (by decide) (by decide) (by decide)
  have r11 := f 311 (by decide) (by decide) (by decide) (by decide)
  have r13 := f 313 (by decide) (by decide) (by decide) (by decide)
  have r14 := f 314 (by decide) (by decide) (by decide) (by decide)
  have r16 := f 316 (by decide) (by decide) (by decide) (by decide)
  have r23 := f 323 (by decide) (by decide) (by decide) (by decide)
  have hc2 : Ca (V 309) (V 311) V2 := Ca_f (fun q hq => f q (by omega) (by omega) (by omega) (by omega)) h.ca
  have hch := h.ch
  refine ⟨h.st, ?_, ?_, ?_, ?_, ?_, h.tr, h.tri, ?_, ?_, ?_, ?_, ?_, ?_, ?_, ?_⟩
  · rw [r9]
    exact ⟨WSim_c (fun q q0 q1 => f q (by omega) (by omega) (by omega) (by omega)) h.now.1, WB_c (fun q q0 q1 => f q (by omega) (by omega) (by omega) (by omega)) h.now.2.1, h.now.2.2⟩
  · rw [r10]
    exact ⟨WSim_c (fun q q0 q1 => f q (by omega) (by omega) (by omega) (by omega)) h.img.1, WB_c (fun q q0 q1 => f q (by omega) (by omega) (by omega) (by omega)) h.img.2.1, h.img.2.2⟩
  · rw [r10, r9]; exact h.le3
  · rw [r9, r11]
    exact LSim_c h.tx (fun q q0 q1 => f q (by omega) (by omega) (by omega) (by omega)) rfl
  · rw [r10, r11]
    exact LSim_c h.txi (fun q q0 q1 => f q (by omega) (by omega) (by omega) (by omega)) rfl
  · rw [r11, r13, r14, r16, r23]; exact h.ab
  · refine ⟨h1, h2, h3, h4, ?_, ?_⟩
    · rw [g2.1, g 5 (by decide)]; exact h.rd.2.2.2.2.1
    · rw [g2.2, g 6 (by decide)]; exact h.rd.2.2.2.2.2
  · rw [g 5 (by decide), g 6 (by decide)]; exact h.fa
  · rw [g 10 (by decide), g 11 (by decide)]; exact h.nu
  · rw [f 1 (by decide) (by decide) (by decide) (by decide), f 139 (by decide) (by decide) (by decide) (by decide)]; omega
  · rw [r9, r11]; exact hc2.1
  · rw [r9]; exact hc2.2.1
  · rw [r9]; exact hc2.2.2
theorem LSim_tcp {S : Stt} {V : Va} {b c : Nat} {a tx : Int → Int} (h : LSim S V c a tx) (hb : b < 326) (h3 : a 3 ≤ 4) : LSim (tcpS S b c) V b a tx := fun T h0 h1 => by
  obtain ⟨id, cs, e1, e2, e3⟩ := h T h0 h1
  refine ⟨id, cs, ?_, ?_, e3⟩
  · simp only [tcpS]; rw [up_same, if_pos (by omega)]; exact e1
  · have y := e2.1.1
    simp only [TxS, tcpS] at e2 ⊢
    rw [up_ne (show id ≠ b by omega)]
    exact e2
theorem LSim_tcq {S : Stt} {V : Va} {b c d : Nat} {a tx : Int → Int} (h : LSim S V d a tx) (hb : b < 326) (hd : d ≠ b) : LSim (tcpS S b c) V d a tx := fun T h0 h1 => by
  obtain ⟨id, cs, e1, e2, e3⟩ := h T h0 h1
  refine ⟨id, cs, ?_, ?_, e3⟩
  · simp only [tcpS]; rw [up_ne hd]; exact e1
  · have y := e2.1.1
    simp only [TxS, tcpS] at e2 ⊢
    rw [up_ne (show id ≠ b by omega)]
    exact e2
theorem tr_tcp {S : Stt} {b c : Nat} (hb : ∀ k j, S.2.1 b k = some j → S.1 j = (13, 0) ∧ j < S.2.2) (hc : ∀ k j, S.2.1 c k = some j → S.1 j = (13, 0) ∧ j < S.2.2) : ∀ k j, (tcpS S b c).2.1 b k = some j → (tcpS S b c).1 j = (13, 0) ∧ j < (tcpS S b c).2.2 := fun k j e => by
  simp only [tcpS] at e ⊢
  rw [up_same] at e
  split at e
  · exact hc k j e
  · exact hb k j e
theorem tr_tcq {S : Stt} {b c d : Nat} (hd : d ≠ b) (h : ∀ k j, S.2.1 d k = some j → S.1 j = (13, 0) ∧ j < S.2.2) : ∀ k j, (tcpS S b c).2.1 d k = some j → (tcpS S b c).1 j = (13, 0) ∧ j < (tcpS S b c).2.2 := fun k j e => by
  simp only [tcpS] at e ⊢
  rw [up_ne hd] at e
  exact h k j e
theorem INV_im {n : Int} {S : Stt} {V V1 : Va} (h : INV n S V) (w : WSim V1 139 (V 309)) (wb : WB V1 139) (f1 : ∀ q : Nat, q < 139 ∨ 276 < q → V1 q = V q) (hc : V1 139 10 = V 139 10 + 1) : INV (n + 1) (tcpS S 271 133) (up V1 310 (cpK (V 309) (V 310) 1814)) := by
  have f : ∀ q : Nat, q < 139 ∨ 276 < q → q ≠ 310 → up V1 310 (cpK (V 309) (V 310) 1814) q = V q := fun q a b => (up_ne b).trans (f1 q a)
  have g : ∀ q : Nat, q ≠ 310 → up V1 310 (cpK (V 309) (V 310) 1814) q = V1 q := fun q b => up_ne b
  have s10 : up V1 310 (cpK (V 309) (V 310) 1814) 310 = cpK (V 309) (V 310) 1814 := up_same _ _ _
  generalize up V1 310 (cpK (V 309) (V 310) 1814) = V2 at f g s10 ⊢
  have hq : ∀ q, 0 ≤ q → q < 1814 → cpK (V 309) (V 310) 1814 q = V 309 q := fun q a b => cpK_in a b
  have c3 : cpK (V 309) (V 310) 1814 3 = V 309 3 := hq 3 (by decide) (by decide)
  have r9 := f 309 (by omega) (by decide)
  have r11 := f 311 (by omega) (by decide)
  have r12 := f 312 (by omega) (by decide)
  have r13 := f 313 (by omega) (by decide)
  have r14 := f 314 (by omega) (by decide)
  have r16 := f 316 (by omega) (by decide)
  have r23 := f 323 (by omega) (by decide)
  have r77 := f 277 (by omega) (by decide)
  have r78 := f 278 (by omega) (by decide)
  have r8 := f 308 (by omega) (by decide)
  have hc2 : Ca (V 309) (V 311) V2 := Ca_f (fun q hq => f q (by omega) (by omega)) h.ca
  have hch := h.ch
  refine ⟨Stat_tcp h.st (Or.inr rfl) (by decide), ?_, ?_, ?_, ?_, ?_, tr_tcq (by decide) h.tr, tr_tcp h.tri h.tr, ?_, ?_, ?_, ?_, ?_, ?_, ?_, ?_⟩
  · rw [r9]
    exact ⟨WSim_c (fun q q0 q1 => f q (by omega) (by omega)) h.now.1, WB_c (fun q q0 q1 => f q (by omega) (by omega)) h.now.2.1, h.now.2.2⟩
  · rw [s10]
    exact ⟨WSim_e hq h.now.2.2 (WSim_c (fun q q0 q1 => g q (by omega)) w), WB_c (fun q q0 q1 => g q (by omega)) wb, MIv_e hq (AB_cp h.now.2.2.1.1 h.img.2.2.1.1 _) h.now.2.2⟩
  · rw [s10, r9, c3]; exact Int.le_refl _
  · rw [r9, r11]
    exact LSim_tcq (LSim_c h.tx (fun q q0 q1 => f q (by omega) (by omega)) rfl) (by decide) (by decide)
  · rw [s10, r11]
    exact LSim_tcp (LSim_c h.tx (fun q q0 q1 => f q (by omega) (by omega)) c3) (by decide) (by rw [c3]; exact h.now.2.2.2.1.2.1)
  · rw [r11, r13, r14, r16, r23]; exact h.ab
  · rw [r77, r78, r8, r12]; exact h.rd
  · rw [r8]; exact h.fa
  · rw [r8]; exact h.nu
  · rw [f 1 (by omega) (by decide), g 139 (by decide), hc]; omega
  · rw [r9, r11]; exact hc2.1
  · rw [r9]; exact hc2.2.1
  · rw [r9]; exact hc2.2.2
theorem INV_bk {n : Int} {S : Stt} {V V1 : Va} (h : INV n S V) (w : WSim V1 1 (V 310)) (wb : WB V1 1) (f1 : ∀ q : Nat, q < 1 ∨ 138 < q → V1 q = V q) (hc : V1 1 10 = V 1 10 + 1) : INV (n + 1) (tcpS S 133 271) (up V1 309 (cpK (V 310) (V 309) 1814)) := by
  have f : ∀ q : Nat, q < 1 ∨ 138 < q → q ≠ 309 → up V1 309 (cpK (V 310) (V 309) 1814) q = V q := fun q a b => (up_ne b).trans (f1 q a)
  have g : ∀ q : Nat, q ≠ 309 → up V1 309 (cpK (V 310) (V 309) 1814) q = V1 q := fun q b => up_ne b
  have s9 : up V1 309 (cpK (V 310) (V 309) 1814) 309 = cpK (V 310) (V 309) 1814 := up_same _ _ _
  generalize up V1 309 (cpK (V 310) (V 309) 1814) = V2 at f g s9 ⊢
  have hq : ∀ q, 0 ≤ q → q < 1814 → cpK (V 310) (V 309) 1814 q = V 310 q := fun q a b => cpK_in a b
  have c3 : cpK (V 310) (V 309) 1814 3 = V 310 3 := hq 3 (by decide) (by decide)
  have r10 := f 310 (by omega) (by decide)
  have r11 := f 311 (by omega) (by decide)
  have r12 := f 312 (by omega) (by decide)
  have r13 := f 313 (by omega) (by decide)
  have r14 := f 314 (by omega) (by decide)
  have r16 := f 316 (by omega) (by decide)
  have r23 := f 323 (by omega) (by decide)
  have r77 := f 277 (by omega) (by decide)
  have r78 := f 278 (by omega) (by decide)
  have r8 := f 308 (by omega) (by decide)
  have r1 := g 1 (by decide)
  have r289 := f 289 (by omega) (by decide)
  have hch := h.ch
  obtain ⟨k1, k2, k3, k4⟩ := h.sh.2
  refine ⟨Stat_tcp h.st (Or.inl rfl) (by decide), ?_, ?_, ?_, ?_, ?_, tr_tcp h.tr h.tri, tr_tcq (by decide) h.tri, ?_, ?_, ?_, ?_, ?_, ?_, ?_, ?_⟩
  · rw [s9]
    exact ⟨WSim_e hq h.img.2.2 (WSim_c (fun q q0 q1 => g q (by omega)) w), WB_c (fun q q0 q1 => g q (by omega)) wb, MIv_e hq (AB_cp h.img.2.2.1.1 h.now.2.2.1.1 _) h.img.2.2⟩
  · rw [r10]
    exact ⟨WSim_c (fun q q0 q1 => f q (by omega) (by omega)) h.img.1, WB_c (fun q q0 q1 => f q (by omega) (by omega)) h.img.2.1, h.img.2.2⟩
  · rw [r10, s9, c3]; exact Int.le_refl _
  · rw [s9, r11]
    exact LSim_tcp (LSim_c h.txi (fun q q0 q1 => f q (by omega) (by omega)) c3) (by decide) (by rw [c3]; exact h.img.2.2.2.1.2.1)
  · rw [r10, r11]
    exact LSim_tcq (LSim_c h.txi (fun q q0 q1 => f q (by omega) (by omega)) rfl) (by decide) (by decide)
  · rw [r11, r13, r14, r16, r23]; exact h.ab
  · rw [r77, r78, r8, r12]; exact h.rd
  · rw [r8]; exact h.fa
  · rw [r8]; exact h.nu
  · rw [r1, hc, f 139 (by omega) (by decide)]; omega
  · exact ⟨ShC_v (by rw [r289, r1]; omega), ShK_v h.sh.2 r289 (by rw [r1]; omega)⟩
  · exact PsI_v h.ps (f 301 (by omega) (by decide)) (f 297 (by omega) (by decide)) (by rw [r1]; omega)
  · exact ⟨RdB_v h.ro.1 (f 306 (by omega) (by decide)) (f 307 (by omega) (by decide)), RdC_v h.ro.2 (f 303 (by omega) (by decide)) (by rw [r1]; omega)⟩
