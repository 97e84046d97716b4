/-! the table, stage by stage -/
def TbL (a o : Int → Int) (n r : Nat) (m : Int) (cs ws : Int → Int) : Prop := ∀ A, 0 ≤ A → A < m → LM (hN (smf a) a n (plL o n r) (hUp o n A)) (bdL (plL o n r)) (cs A) (ws A)
def TbI (a o : Int → Int) (n r : Nat) (q x : Int) (cs ws : Int → Int) : Prop := TbL a o n (r + 1) x cs ws ∧ ∀ A, x ≤ A → A < p2 q → LM (hN (smf a) a n (plL o n r) (hUp o n A)) (bdL (plL o n r)) (cs A) (ws A)
theorem TbL_0 {a o cs ws : Int → Int} {n : Nat} (hn : n ≤ 12) {m : Int} (h : ∀ A, 0 ≤ A → A < m → cs A = 0 ∧ ws A = 1) : TbL a o n 0 m cs ws := fun A h0 h1 => by
  rw [(h A h0 h1).1, (h A h0 h1).2]
  exact LM_0 (smf a) a hn _
theorem TbI_0 {a o cs ws : Int → Int} {n r : Nat} {m q : Int} (h : TbL a o n r m cs ws) (hq : p2 q ≤ m) : TbI a o n r q 0 cs ws := ⟨fun A h0 h1 => by omega, fun A h0 h1 => h A h0 (by omega)⟩
theorem TbI_e {a o cs ws : Int → Int} {n r : Nat} {q x : Int} (h : TbI a o n r q x cs ws) (hx : x = p2 q) : TbL a o n (r + 1) (p2 q) cs ws := by rw [← hx]; exact h.1
theorem TbI_s {V : Va} {a : Int → Int} {n r : Nat} (hW : WSim V 1 a) (hM : MIv a) (h6 : a 6 = n) (hn : n ≤ 12) (hP : PmS (V 298) n) (hS : Srt (V 138) (V 298) n) {q x c : Int} (hq : q = (n : Int) - ((r : Int) + 1)) (q0 : 0 ≤ q) (x0 : 0 ≤ x) (x1 : x < p2 q) {sel bt pc cs ws : Int → Int} (hL : LkI V (V 298 q) q c sel bt pc) (h : TbI a (V 298) n r q x cs ws) : TbI a (V 298) n r q (x + 1) (ua cs x (chF cs ws bt pc x c.toNat).1) (ua ws x (chF cs ws bt pc x c.toNat).2) := by
  refine ⟨fun A h0 h1 => ?_, fun A h0 h1 => ?_⟩
  · by_cases e : A = x
    · rw [e, ua_same, ua_same]
      have ep : plL (V 298) n (r + 1) = V 298 q :: plL (V 298) n r := by rw [hq]; rfl
      rw [ep]
      refine ch_LM hW hM h6 hn hP hS q0 (by omega) x0 x1 hL _ ?_ h.2
      rw [← ep]
      exact bdL_lt hn hP (by omega)
    · rw [ua_ne e, ua_ne e]; exact h.1 A h0 (by omega)
  · rw [ua_ne (by omega), ua_ne (by omega)]; exact h.2 A (by omega) h1
theorem plL_len (o : Int → Int) (n : Int) : ∀ r : Nat, (plL o n r).length = r
  | 0 => rfl
  | r + 1 => by simp only [plL, List.length_cons]; rw [plL_len o n r]
theorem LM_ub {sm a : Int → Int} {n : Nat} (hn : n ≤ 12) {l : List Int} {U : Int → Bool} {D c w : Int} (h : LM (hN sm a n l U) D c w) (hl : l.length ≤ 12) (hb : bdL l < 281474976710656) : 0 ≤ c ∧ c ≤ 1000000000000000000 := by
  obtain ⟨b, t, d, o, p⟩ := hN_ex hn h.2.2.2.1
  have o := of_decide_eq_true o
  have p := of_decide_eq_true p
  simp only [pk] at p
  exact ⟨h.2.2.2.2.2.1, by omega⟩
theorem TbL_ub {a o cs ws : Int → Int} {n r : Nat} (hn : n ≤ 12) (hr : r ≤ n) (hP : PmS o n) {m : Int} (h : TbL a o n r m cs ws) {A : Int} (h0 : 0 ≤ A) (h1 : A < m) : 0 ≤ cs A ∧ cs A ≤ 1000000000000000000 := LM_ub hn (h A h0 h1) (by rw [plL_len]; omega) (bdL_lt hn hP hr)
theorem mem_plL {o : Int → Int} {n x : Int} : ∀ r : Nat, x ∈ plL o n r ↔ ∃ y, n - r ≤ y ∧ y < n ∧ o y = x
  | 0 => by
    simp only [plL]
    exact ⟨fun h => absurd h List.not_mem_nil, fun ⟨y, h1, h2, _⟩ => by omega⟩
  | r + 1 => by
    simp only [plL]
    rw [List.mem_cons, mem_plL r]
    constructor
    · rintro (h | ⟨y, h1, h2, h3⟩)
      · exact ⟨n - ((r : Int) + 1), by omega, by omega, h.symm⟩
      · exact ⟨y, by omega, h2, h3⟩
    · rintro ⟨y, h1, h2, h3⟩
      by_cases e : y = n - ((r : Int) + 1)
      · exact Or.inl (by rw [← h3, e])
      · exact Or.inr ⟨y, by omega, h2, h3⟩
theorem nd_plL {o : Int → Int} {n : Int} (h : ∀ x y, 0 ≤ x → x < y → y < n → o x ≠ o y) : ∀ r : Nat, (r : Int) ≤ n → (plL o n r).Nodup
  | 0, _ => List.nodup_nil
  | r + 1, hr => by
    simp only [plL]
    refine List.nodup_cons.mpr ⟨fun z => ?_, nd_plL h r (by omega)⟩
    obtain ⟨y, h1, h2, h3⟩ := (mem_plL r).mp z
    exact h _ _ (by omega) (by omega) h2 h3.symm
theorem perm_nd : ∀ l l' : List Int, l.Nodup → l'.Nodup → (∀ x, x ∈ l ↔ x ∈ l') → List.Perm l l'
  | [], l', _, _, h => by
    cases l' with
    | nil => exact List.Perm.nil
    | cons y t => exact absurd ((h y).mpr List.mem_cons_self) List.not_mem_nil
  | x :: l, l', h1, h2, h => by
    have hx : x ∈ l' := (h x).mp List.mem_cons_self
    have p := List.perm_cons_erase hx
    have hc := List.nodup_cons.mp h1
    have ih := perm_nd l (l'.erase x) hc.2 (h2.erase x) (fun y => by
      rw [h2.mem_erase_iff, ← h y, List.mem_cons]
      constructor
      · intro z; exact ⟨fun e => hc.1 (e ▸ z), Or.inr z⟩
      · rintro ⟨z1, z2 | z2⟩
        · exact absurd z2 z1
        · exact z2)
    exact (List.Perm.cons x ih).trans p.symm
theorem hL_pl (n : Int) : ∀ r : Nat, hL n r = plL (fun y => y) n r
  | 0 => rfl
  | r + 1 => by simp only [hL, plL]; rw [hL_pl n r]
theorem pl_perm {o : Int → Int} {n : Nat} (hP : PmS o n) (hR : ∀ x, 0 ≤ x → x < (n : Int) → 0 ≤ o x ∧ o x < n) : List.Perm (plL o n n) (hL n n) := by
  rw [hL_pl]
  refine perm_nd _ _ (nd_plL (fun x y x0 xy y1 => PmS_inj hP x0 xy y1) n (by omega)) (nd_plL (fun x y x0 xy y1 => by omega) n (by omega)) (fun x => ?_)
  rw [mem_plL, mem_plL]
  constructor
  · rintro ⟨y, h1, h2, h3⟩
    have := hR y (by omega) h2
    exact ⟨x, by omega, by omega, rfl⟩
  · rintro ⟨y, h1, h2, h3⟩
    obtain ⟨z, z0, z1, z2⟩ := PmS_sur hP (x := x) (by omega) (by omega)
    exact ⟨z, by omega, z1, z2⟩
/-- what stands at the end -/
def PsE (a : Int → Int) (C W : Int) : Prop := C = pk ((mDP (smf a) a (a 6) (a 6).toNat 0).1 / 100) ((mDP (smf a) a (a 6) (a 6).toNat 0).1 % 100) (hDl (smf a) a (a 6) (a 6).toNat 0) ∧ W = (mDP (smf a) a (a 6) (a 6).toNat 0).2 ∧ (mDP (smf a) a (a 6) (a 6).toNat 0).1 % 100 ≤ 12 ∧ (mDP (smf a) a (a 6) (a 6).toNat 0).1 / 100 ≤ 12 ∧ 0 ≤ (mDP (smf a) a (a 6) (a 6).toNat 0).1 ∧ 0 ≤ hDl (smf a) a (a 6) (a 6).toNat 0 ∧ hDl (smf a) a (a 6) (a 6).toNat 0 < 281474976710656
theorem TbL_fin {a o cs ws : Int → Int} {n : Nat} (hn : n ≤ 12) (h6 : a 6 = n) (hP : PmS o n) (hR : ∀ x, 0 ≤ x → x < (n : Int) → 0 ≤ o x ∧ o x < n) {m : Int} (hm : 0 < m) (h : TbL a o n n m cs ws) : PsE a (cs 0) (ws 0) := by
  simp only [PsE]
  rw [h6, show ((n : Int)).toNat = n by omega]
  exact LM_fin hn (pl_perm hP hR) (U := hUp o n 0) (fun x x0 x1 => by simp only [hUp]; rw [Int.zero_ediv]; rfl) (h 0 (by omega) hm)
