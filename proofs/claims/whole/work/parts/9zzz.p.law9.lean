theorem okN_in : ∀ (L : List (Int × Int × Int)) (vs : List Int), (∀ x, x ∈ L → x.1 ≠ 0 → 0 ≤ x.2.1 ∧ x.2.2 ≤ 999) → okN L vs → ∀ v, v ∈ vs → 0 ≤ v ∧ v ≤ 999
  | [], vs, _, h, v, hv => by
    have h : vs = [] := h
    rw [h] at hv
    simp at hv
  | x :: L, vs, hx, h, v, hv => by
    simp only [okN] at h
    by_cases c : x.1 = 0
    · rw [if_pos c] at h
      exact okN_in L vs (fun y hy => hx y (by simp [hy])) h v hv
    · rw [if_neg c] at h
      obtain ⟨w, vs', e, h1, h2⟩ := h
      rw [e] at hv
      have b := hx x (by simp) c
      rcases List.mem_cons.mp hv with z | z
      · rw [z]; omega
      · exact okN_in L vs' (fun y hy => hx y (by simp [hy])) h2 v z
theorem okC_in {c : Cls} (h : okC c) (h3 : 3 ≤ c.1) : ∀ v, v ∈ c.2.1 → 0 ≤ v ∧ v ≤ 999 := by
  have r := h.1
  have z := (h.2.2 h3).2
  rcases (show c.1 = 3 ∨ c.1 = 4 ∨ c.1 = 5 ∨ c.1 = 6 ∨ c.1 = 7 ∨ c.1 = 8 by omega) with e | e | e | e | e | e <;> rw [e] at z <;> exact okN_in _ _ (by decide) z
theorem TxD_nrm {cs : List Cls} {cl cd fr tw my : Int → Int} (h : TxD cs cl cd fr tw my) : TxD cs (fun k => nrm (cl k)) cd fr tw my := by
  obtain ⟨d1, d2, d3, d4, d5, d6, d7⟩ := h
  refine ⟨fun k c hc => ⟨?_, fun j v hj h4 => ?_⟩, d2, d3, d4, d5, d6, d7⟩
  · have ok := (d5 c (List.mem_of_getElem? hc)).1
    show nrm (cl (4 * k)) = _
    rw [(d1 k c hc).1]
    exact nrm_in (inr (by omega))
  · have ok := okC_in (d5 c (List.mem_of_getElem? hc)) (by omega) v (List.mem_of_getElem? hj)
    show nrm (cl (4 * k + 1 + j)) = v
    rw [(d1 k c hc).2 j v hj h4]
    exact nrm_in (inr (by omega))
theorem INV_tf {n : Int} {S : Stt} {V V1 : Va} {f tx pl : Int → Int} {r p : Int} (h : INV n S V) (fr : ∀ q : Nat, q < S.2.2 → (q < 277 ∨ 286 < q ∨ q = 278) → V1 q = V q) (c1 : V1 277 1 = 0) (c2 : V1 277 2 = r) (c3 : V1 277 3 = p) (hr : 0 ≤ r ∧ r < 10) (hp : 0 ≤ p ∧ p ≤ 300) (hT : TxF (700 * V 309 3) (V 308) (V 311) f tx pl) (h10 : (0 ≤ f 10 ∧ f 10 < 1000000) ∧ 0 ≤ f 11 ∧ f 11 < 72057594037927936) : INV (n + 1) S (up (up (up (up V1 308 (ua (ua (ua f 5 r) 6 p) 4 0)) 309 (V 309)) 311 tx) 313 pl) := by
  obtain ⟨t1, t2, t3, t4⟩ := hT
  have hS2 := h.st.2.2
  have F : ∀ q : Nat, q < S.2.2 → (q < 277 ∨ 286 < q ∨ q = 278) → q ≠ 308 → q ≠ 309 → q ≠ 311 → q ≠ 313 → up (up (up (up V1 308 (ua (ua (ua f 5 r) 6 p) 4 0)) 309 (V 309)) 311 tx) 313 pl q = V q := fun q a b d1 d2 d3 d4 => by rw [up_ne d4, up_ne d3, up_ne d2, up_ne d1]; exact fr q a b
  have e9 : up (up (up (up V1 308 (ua (ua (ua f 5 r) 6 p) 4 0)) 309 (V 309)) 311 tx) 313 pl 309 = V 309 := by rw [up_ne (by decide), up_ne (by decide), up_same]
  have e11 : up (up (up (up V1 308 (ua (ua (ua f 5 r) 6 p) 4 0)) 309 (V 309)) 311 tx) 313 pl 311 = tx := by rw [up_ne (by decide), up_same]
  have e13 : up (up (up (up V1 308 (ua (ua (ua f 5 r) 6 p) 4 0)) 309 (V 309)) 311 tx) 313 pl 313 = pl := up_same _ _ _
  have e8 : up (up (up (up V1 308 (ua (ua (ua f 5 r) 6 p) 4 0)) 309 (V 309)) 311 tx) 313 pl 308 = ua (ua (ua f 5 r) 6 p) 4 0 := by rw [up_ne (by decide), up_ne (by decide), up_ne (by decide), up_same]
  have e77 : up (up (up (up V1 308 (ua (ua (ua f 5 r) 6 p) 4 0)) 309 (V 309)) 311 tx) 313 pl 277 = V1 277 := by rw [up_ne (by decide), up_ne (by decide), up_ne (by decide), up_ne (by decide)]
  generalize up (up (up (up V1 308 (ua (ua (ua f 5 r) 6 p) 4 0)) 309 (V 309)) 311 tx) 313 pl = V2 at F e9 e11 e13 e8 e77 ⊢
  have g : ∀ q : Nat, q < 277 → V2 q = V q := fun q hq => F q (by omega) (by omega) (by omega) (by omega) (by omega) (by omega)
  have g2 : ∀ q : Nat, 286 < q → q < 308 → V2 q = V q := fun q a b => F q (by omega) (by omega) (by omega) (by omega) (by omega) (by omega)
  have g3 : ∀ q : Nat, 326 ≤ q → q < S.2.2 → V2 q = V q := fun q a b => F q (by omega) (by omega) (by omega) (by omega) (by omega) (by omega)
  have e10 : V2 310 = V 310 := F 310 (by omega) (by omega) (by decide) (by decide) (by decide) (by decide)
  have e12 : V2 312 = V 312 := F 312 (by omega) (by omega) (by decide) (by decide) (by decide) (by decide)
  have e14 : V2 314 = V 314 := F 314 (by omega) (by omega) (by decide) (by decide) (by decide) (by decide)
  have e16 : V2 316 = V 316 := F 316 (by omega) (by omega) (by decide) (by decide) (by decide) (by decide)
  have e23 : V2 323 = V 323 := F 323 (by omega) (by omega) (by decide) (by decide) (by decide) (by decide)
  have e78 : V2 278 = V 278 := F 278 (by omega) (by omega) (by decide) (by decide) (by decide) (by decide)
  have i3 := h.now.2.2.2.1
  have hch := h.ch
  have hc2 : Ca (V 309) (V 311) V2 := Ca_f (fun q hq => by rcases hq with z | z; (exact g q (by omega)); exact g2 q (by omega) (by omega)) h.ca
  refine ⟨h.st, ?_, ?_, ?_, ?_, ?_, h.tr, h.tri, ?_, ?_, ?_, ?_, ?_, ?_, ?_, ?_⟩
  · rw [e9]
    exact ⟨WSim_c (fun q q0 q1 => g q (by omega)) h.now.1, WB_c (fun q q0 q1 => g q (by omega)) h.now.2.1, h.now.2.2⟩
  · rw [e10]
    exact ⟨WSim_c (fun q q0 q1 => g q (by omega)) h.img.1, WB_c (fun q q0 q1 => g q (by omega)) h.img.2.1, h.img.2.2⟩
  · rw [e10, e9]; exact h.le3
  · rw [e9, e11]
    exact LSim_t (LSim_c h.tx g3 rfl) (Int.le_refl _) (fun k hk => t2 k (Or.inl hk))
  · rw [e10, e11]
    exact LSim_t (LSim_c h.txi g3 rfl) h.le3 (fun k hk => t2 k (Or.inl hk))
  · rw [e11, e13, e14, e16, e23]
    exact ⟨t3, t4, h.ab.2.2⟩
  · rw [e77, e78, e8, e12, c1, c2, c3]
    refine ⟨h.rd.1, (ua_same _ _ _).symm, by rw [ua_same]; omega, h.rd.2.2.2.1, ?_, ?_⟩
    · rw [ua_ne (by decide), ua_ne (by decide), ua_same]
    · rw [ua_ne (by decide), ua_same]
  · rw [e8, ua_ne (by decide), ua_ne (by decide), ua_same, ua_ne (by decide), ua_same]
    exact ⟨inr (by omega), inr (by omega)⟩
  · rw [e8, ua_ne (by decide), ua_ne (by decide), ua_ne (by decide), ua_ne (by decide), ua_ne (by decide), ua_ne (by decide)]
    exact h10
  · rw [g 1 (by decide), g 139 (by decide)]; omega
  · rw [e9, e11]
    exact ⟨ShC_t (fun z k k0 k1 => t2 k (Or.inl (by omega))) h.W hc2.1.1, hc2.1.2⟩
  · rw [e9]; exact hc2.2.1
  · rw [e9]; exact hc2.2.2
