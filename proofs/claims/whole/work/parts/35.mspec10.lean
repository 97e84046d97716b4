/-! saints -/
theorem iI_m31 (t : Int) : Int32.ofInt t &&& 31 = Int32.ofInt (t % 32) &&& 31 := by
  have h : ∀ u : Int, Int32.ofInt u &&& 31 = Int32.ofInt (u % 32) := fun u => iI_mask u (k := 5) (m := 31) (by decide) (by decide)
  rw [h, h, Int.emod_emod_of_dvd _ (Int.dvd_refl _)]
section XM
variable {Γ : Ctx} {B : Bs} {own nm : String} {cc : ByteArray} {nL : Nat} {ret : Option FieldType} {lev mc ms pc : Nat} {L : List (Option Value)} {st : List Value} {kc ks : Nat} {S : Stt} {V : Va}
theorem x_ishrM {a t : Int} (ha : InR a) (d : decode cc pc = .ok (.ishr, 1)) (k : X Γ B own nm cc nL ret lev mc ms (pc + 1) L (vI (a / p2 (t % 32)) :: st) kc ks S V) : X Γ B own nm cc nL ret lev mc ms pc L (vI t :: vI a :: st) kc ks S V := x_pure (fun hx hb k => lv_ishr hx hb d (by rw [vI, ← iI_shr ha (by omega) (by omega), ← iI_m31 t] at k; exact k)) k
/-- an answer and one row, of which something is known -/
def rIh (S : Stt) (V : Va) (id : Nat) (P : Int → (Int → Int) → Prop) : Option Value → Stt → Va → Prop := fun v S' V' => ∃ r h, P r h ∧ some (vI r) = v ∧ S = S' ∧ up V id h = V'
theorem x_cVih {y : MethodName} {cc' : ByteArray} {nL' n index ci i z lev' : Nat} {ret' : Option FieldType} {As rest : List Value} {S1 : Stt} {V1 : Va} {id : Nat} {P : Int → (Int → Int) → Prop} (hm : MV y cc' nL' ret' n) (hl : Cond.methodLink own index y ∈ TB) (d : decode cc pc = .ok (.invokevirtual index, 3)) (hC : C B y cc' nL' ret' lev' 0 0 (vR B i :: As) S V (rIh S1 V1 id P)) (hs : S.1 i = (ci + 5, z)) (hi : i < S.2.2)
    (k : ∀ r h, P r h → X Γ B own nm cc nL ret lev mc ms (pc + 3) L (vI r :: rest) kc ks S1 (up V1 id h)) (hst : st = As.reverse ++ vR B i :: rest := by rfl) (hci : ci < 12 := by decide) (hy : Rc ci = y.cls := by rfl) (hlev : lev' < lev := by decide) (hn : As.length = n := by rfl) (hrm : nL' ≤ 45 := by decide) (hsum : (rest.map fun v => v.category).sum ≤ 8 := by exact Nat.le_of_ble_eq_true rfl) (hf : kc + 0 ≤ mc ∧ ks + 0 ≤ ms := by exact ⟨Nat.le_of_ble_eq_true rfl, Nat.le_of_ble_eq_true rfl⟩) : X Γ B own nm cc nL ret lev mc ms pc L st kc ks S V :=
  x_callV hm hl d hC hs hi (fun v S' V' h => by obtain ⟨r, h, h1, rfl, rfl, rfl⟩ := h; exact k r h h1) hst hlev hci hy hn hrm hsum hf
end XM
abbrev mAp (a tx : Int → Int) (set b : Int) : Prop := set / p2 (a (30 + 6 * b + 3) % 32) % 2 ≠ 0 ∧ mHoly a tx b
def mAc (a tx : Int → Int) (set : Int) : Nat → Int
  | 0 => 0
  | b + 1 => if mAp a tx set b then mAc a tx set b + 1 else mAc a tx set b
def mAr (a tx : Int → Int) (set : Int) (r : Int → Int) : Nat → Int → Int
  | 0 => r
  | b + 1 => if mAp a tx set b then ua (mAr a tx set r b) (mAc a tx set b) b else mAr a tx set r b
theorem mAc_r (a tx : Int → Int) (set : Int) : ∀ b : Nat, 0 ≤ mAc a tx set b ∧ mAc a tx set b ≤ b
  | 0 => by simp only [mAc]; omega
  | b + 1 => by
    have := mAc_r a tx set b
    simp only [mAc]
    split <;> omega
theorem mAr_r (a tx : Int → Int) (set : Int) (r : Int → Int) : ∀ (b : Nat) (i : Int), 0 ≤ i → i < mAc a tx set b → 0 ≤ mAr a tx set r b i ∧ mAr a tx set r b i < b
  | 0, i, h0, h1 => by simp only [mAc] at h1; omega
  | b + 1, i, h0, h1 => by
    simp only [mAc] at h1
    simp only [mAr]
    split at h1
    · rename_i c
      rw [if_pos c]
      by_cases e : i = mAc a tx set b
      · rw [e, ua_same]; omega
      · rw [ua_ne e]
        have := mAr_r a tx set r b i h0 (by omega)
        omega
    · rename_i c
      rw [if_neg c]
      have := mAr_r a tx set r b i h0 h1
      omega
/-- a row filled up to i -/
def filK (r f : Int → Int) (i : Int) : Int → Int := fun q => if 0 ≤ q ∧ q < i then f q else r q
theorem filK_0 (r f : Int → Int) : r = filK r f 0 := by
  funext q
  simp only [filK]
  rw [if_neg (by omega)]
theorem filK_s {r f : Int → Int} {i e : Int} (h : 0 ≤ i) (he : e = f i) : ua (filK r f i) i e = filK r f (i + 1) := by
  funext q
  simp only [ua, filK]
  by_cases c : q = i
  · rw [if_pos c, c, if_pos (show 0 ≤ i ∧ i < i + 1 by omega), he]
  · rw [if_neg c]
    by_cases g : 0 ≤ q ∧ q < i
    · rw [if_pos g, if_pos (by omega)]
    · rw [if_neg g, if_neg (by omega)]
theorem filK_rd {r f : Int → Int} {n i : Int} (h0 : 0 ≤ i) (h1 : i < n) : filK r f n i = f i := by
  simp only [filK]
  rw [if_pos ⟨h0, h1⟩]
def mBr (a tx s : Int → Int) (i : Int) : Nat → Int
  | 0 => 0
  | k + 1 => if i ≠ k ∧ mUnl a tx (s i) (s k) then bor (mBr a tx s i k) (p2 k) else mBr a tx s i k
theorem mBr_r (a tx s : Int → Int) (i : Int) : ∀ k : Nat, 0 ≤ mBr a tx s i k ∧ mBr a tx s i k < p2 k
  | 0 => by simp only [mBr]; exact ⟨by omega, by decide⟩
  | k + 1 => by
    have ih := mBr_r a tx s i k
    have h1 := p2_lt (t := (k : Int)) (u := ((k + 1 : Nat) : Int)) (by omega) (by omega)
    simp only [mBr]
    split
    · exact bor_lt ⟨ih.1, by omega⟩ ⟨Int.le_of_lt (p2_pos _), h1⟩
    · omega
/-! sharing, as such: kinds kd, bars br, how many my -/
def canC (kd h : Int → Int) (i s n : Int) : Int := sumT (fun k => if h k = s ∧ kd k = kd i then 1 else 0) n
abbrev canP (kd br my h : Int → Int) (i s : Int) : Prop := findT (fun k => decide (h k = s ∧ br i / p2 k % 2 = 1)) i < 0 ∧ 1 + canC kd h i s i ≤ my i
def usedN (h : Int → Int) : Nat → Int
  | 0 => 0
  | k + 1 => if usedN h k ≤ h k then h k + 1 else usedN h k
theorem usedN_c {h g : Int → Int} : ∀ (n : Nat), (∀ j : Int, 0 ≤ j → j < n → h j = g j) → usedN h n = usedN g n
  | 0, _ => rfl
  | n + 1, e => by
    simp only [usedN]
    rw [usedN_c n (fun j h0 h1 => e j h0 (by omega)), e n (by omega) (by omega)]
theorem usedN_r {h : Int → Int} : ∀ (n : Nat), (∀ j : Int, 0 ≤ j → j < n → h j ≤ j) → 0 ≤ usedN h n ∧ usedN h n ≤ n
  | 0, _ => by simp only [usedN]; omega
  | n + 1, e => by
    have ih := usedN_r n (fun j h0 h1 => e j h0 (by omega))
    have := e n (by omega) (by omega)
    simp only [usedN]
    split <;> omega
theorem usedN_n (h : Int → Int) : ∀ n : Nat, 0 ≤ usedN h n
  | 0 => by simp only [usedN]; omega
  | n + 1 => by
    have := usedN_n h n
    simp only [usedN]
    split <;> omega
theorem findT_c {f g : Int → Bool} {n : Int} (e : ∀ j, 0 ≤ j → j < n → f j = g j) : findT f n = findT g n := by
  by_cases hn : 0 ≤ n
  · rcases findT_r g hn with h | h
    · rw [h.1]; exact findT_no (fun j h0 h1 => (e j h0 h1).trans (h.2 j h0 h1))
    · exact findT_at h.1 h.2.1 ((e _ h.1 h.2.1).trans h.2.2.1) (fun j h0 h1 => (e j h0 (by omega)).trans (h.2.2.2 j h0 h1))
  · rw [findT_no (f := f) (fun j h0 h1 => by omega), findT_no (f := g) (fun j h0 h1 => by omega)]
theorem canP_c {kd br my h g : Int → Int} {i s : Int} (e : ∀ j, 0 ≤ j → j < i → h j = g j) : canP kd br my h i s ↔ canP kd br my g i s := by
  have e1 : findT (fun k => decide (h k = s ∧ br i / p2 k % 2 = 1)) i = findT (fun k => decide (g k = s ∧ br i / p2 k % 2 = 1)) i := findT_c (fun j h0 h1 => by rw [e j h0 h1])
  have e2 : canC kd h i s i = canC kd g i s i := sumT_c (fun j h0 h1 => by rw [e j h0 h1])
  simp only [canP]
  rw [e1, e2]
abbrev okS (kd br my : Int → Int) (most : Int) (h : Int → Int) (i : Int) : Prop := 0 ≤ h i ∧ h i ≤ usedN h i.toNat ∧ h i < most ∧ canP kd br my h i (h i)
theorem okS_c {kd br my h g : Int → Int} {most i : Int} (e : ∀ j, 0 ≤ j → j ≤ i → h j = g j) (hi : 0 ≤ i) : okS kd br my most h i ↔ okS kd br my most g i := by
  have e1 : usedN h i.toNat = usedN g i.toNat := usedN_c _ (fun j h0 h1 => e j h0 (by omega))
  have e2 := canP_c (kd := kd) (br := br) (my := my) (h := h) (g := g) (i := i) (s := g i) (fun j h0 h1 => e j h0 (by omega))
  simp only [okS]
  rw [e1, e i hi (by omega), e2]
def Full (kd br my : Int → Int) (n most : Int) (g : Int → Int) : Prop := ∀ i, 0 ≤ i → i < n → okS kd br my most g i
theorem okS_le {kd br my h : Int → Int} {most : Int} : ∀ (n : Nat), (∀ j : Int, 0 ≤ j → j < n → okS kd br my most h j) → ∀ j : Int, 0 ≤ j → j < n → h j ≤ j
  | 0, _, j, h0, h1 => by omega
  | n + 1, e, j, h0, h1 => by
    have ih := okS_le n (fun j h0 h1 => e j h0 (by omega))
    by_cases c : j < n
    · exact ih j h0 c
    · have := e j h0 h1
      have q := usedN_r (h := h) j.toNat (fun k k0 k1 => ih k k0 (by omega))
      omega
/-- the state of the search: places below i are given, all that comes before is excluded -/
def InvS (kd br my : Int → Int) (n most i : Int) (h : Int → Int) : Prop := (∀ k, 0 ≤ k → k < i → okS kd br my most h k) ∧ (0 ≤ i → -1 ≤ h i ∧ h i ≤ usedN h i.toNat) ∧ (∀ g, Full kd br my n most g → 0 ≤ i ∧ ∀ k, 0 ≤ k → k ≤ i → k < n → (∀ j, 0 ≤ j → j < k → g j = h j) → (k < i → h k ≤ g k) ∧ (k = i → h k < g k))
theorem InvS_0 {kd br my h : Int → Int} {n most : Int} : InvS kd br my n most 0 (ua h 0 (-1)) :=
  ⟨fun k h0 h1 => by omega, fun _ => by rw [ua_same]; have := usedN_n (ua h 0 (-1)) (0 : Int).toNat; omega, fun g hg => ⟨by omega, fun k h0 h1 h2 _ => ⟨fun z => by omega, fun z => by rw [z, ua_same]; have := (hg k h0 h2).1; rw [z] at this; omega⟩⟩⟩
theorem InvS_no {kd br my h : Int → Int} {n most i v : Int} (hi : 0 ≤ i ∧ i < n) (I : InvS kd br my n most i h) (hx : ∀ s, h i < s → s < v → ¬ canP kd br my h i s) (hv : usedN h i.toNat < v ∨ most ≤ v) {g : Int → Int} (hg : Full kd br my n most g) (e : ∀ j, 0 ≤ j → j < i → g j = h j) : False := by
  have h1 := ((I.2.2 g hg).2 i hi.1 (by omega) hi.2 e).2 rfl
  obtain ⟨g1, g2, g3, g4⟩ := hg i hi.1 hi.2
  rw [usedN_c (h := g) (g := h) i.toNat (fun j j0 j1 => e j j0 (by omega))] at g2
  exact hx _ h1 (by omega) ((canP_c e).mp g4)
theorem InvS_back {kd br my h : Int → Int} {n most i v : Int} (hi : 0 ≤ i ∧ i < n) (I : InvS kd br my n most i h) (hx : ∀ s, h i < s → s < v → ¬ canP kd br my h i s) (hv : usedN h i.toNat < v ∨ most ≤ v) : InvS kd br my n most (i - 1) (ua h i v) := by
  have eb : ∀ j, j < i → ua h i v j = h j := fun j hj => ua_ne (by omega)
  refine ⟨fun k h0 h1 => (okS_c (fun j j0 j1 => eb j (by omega)) h0).mpr (I.1 k h0 (by omega)), fun h0 => ?_, fun g hg => ⟨?_, fun k h0 h1 h2 e => ?_⟩⟩
  · rw [eb _ (by omega), usedN_c (g := h) (i - 1).toNat (fun j j0 j1 => eb j (by omega))]
    have := (I.1 (i - 1) h0 (by omega)).1
    have := (I.1 (i - 1) h0 (by omega)).2.1
    omega
  · by_cases z : i = 0
    · exact (InvS_no hi I hx hv hg (fun j j0 j1 => by omega)).elim
    · omega
  · have e' : ∀ j, 0 ≤ j → j < k → g j = h j := fun j j0 j1 => (e j j0 j1).trans (eb j (by omega))
    have a1 := ((I.2.2 g hg).2 k h0 (by omega) h2 e').1 (by omega)
    rw [eb k (by omega)]
    refine ⟨fun _ => a1, fun z => ?_⟩
    by_cases q : g k = h k
    · exact (InvS_no hi I hx hv hg (fun j j0 j1 => by
        by_cases w : j < k
        · exact e' j j0 w
        · rw [show j = k by omega]; exact q)).elim
    · omega
theorem InvS_on {kd br my h : Int → Int} {n most i v : Int} (hi : 0 ≤ i ∧ i < n) (I : InvS kd br my n most i h) (hx : ∀ s, h i < s → s < v → ¬ canP kd br my h i s) (h0 : 0 ≤ v) (h1 : v ≤ usedN h i.toNat) (h2 : v < most) (h3 : canP kd br my h i v) : InvS kd br my n most (i + 1) (ua (ua h i v) (i + 1) (-1)) := by
  have eb : ∀ j, j < i → ua (ua h i v) (i + 1) (-1) j = h j := fun j hj => by rw [ua_ne (by omega), ua_ne (by omega)]
  have ei : ua (ua h i v) (i + 1) (-1) i = v := by rw [ua_ne (by omega), ua_same]
  refine ⟨fun k k0 k1 => ?_, fun _ => by rw [ua_same]; have := usedN_n (ua (ua h i v) (i + 1) (-1)) (i + 1).toNat; omega, fun g hg => ⟨by omega, fun k k0 k1 k2 e => ⟨fun z => ?_, fun z => ?_⟩⟩⟩
  · by_cases q : k < i
    · exact (okS_c (fun j j0 j1 => eb j (by omega)) k0).mpr (I.1 k k0 q)
    · rw [show k = i by omega]
      simp only [okS]
      rw [ei, usedN_c (g := h) i.toNat (fun j j0 j1 => eb j (by omega)), canP_c (g := h) (fun j j0 j1 => eb j (by omega))]
      exact ⟨h0, h1, h2, h3⟩
  · by_cases q : k < i
    · have := ((I.2.2 g hg).2 k k0 (by omega) k2 (fun j j0 j1 => (e j j0 j1).trans (eb j (by omega)))).1 q
      rw [eb k q]; exact this
    · have w : k = i := by omega
      subst w
      have e' : ∀ j, 0 ≤ j → j < k → g j = h j := fun j j0 j1 => (e j j0 j1).trans (eb j (by omega))
      have a1 := ((I.2.2 g hg).2 k k0 (by omega) k2 e').2 rfl
      rw [ei]
      by_cases u : v ≤ g k
      · exact u
      · exact absurd ((canP_c e').mp (hg k k0 k2).2.2.2) (hx _ a1 (by omega))
  · rw [z, ua_same]
    have := (hg k k0 k2).1
    rw [z] at this
    omega
def muS (h : Int → Int) : Nat → Nat
  | 0 => 0
  | k + 1 => muS h k + (14 - h k).toNat * 16 ^ (13 - k)
theorem muS_c {h g : Int → Int} : ∀ (n : Nat), (∀ j : Int, 0 ≤ j → j < n → h j = g j) → muS h n = muS g n
  | 0, _ => rfl
  | n + 1, e => by
    simp only [muS]
    rw [muS_c n (fun j h0 h1 => e j h0 (by omega)), e n (by omega) (by omega)]
theorem muS_back {h : Int → Int} {i v : Int} (hi : 0 ≤ i) (hh : h i ≤ 13) : muS (ua h i v) (i - 1 + 1).toNat < muS h (i + 1).toNat := by
  rw [show (i - 1 + 1).toNat = i.toNat by omega, show (i + 1).toNat = i.toNat + 1 by omega, muS_c (g := h) i.toNat (fun j j0 j1 => ua_ne (by omega))]
  simp only [muS]
  rw [show ((i.toNat : Nat) : Int) = i by omega]
  have : 0 < (14 - h i).toNat * 16 ^ (13 - i.toNat) := Nat.mul_pos (by omega) (Nat.pow_pos (by omega))
  omega
theorem muS_on {h : Int → Int} {i v : Int} (hi : 0 ≤ i ∧ i < 12) (hh : h i < v) (hv : v ≤ 13) : muS (ua (ua h i v) (i + 1) (-1)) (i + 1 + 1).toNat < muS h (i + 1).toNat := by
  rw [show (i + 1 + 1).toNat = i.toNat + 1 + 1 by omega, show (i + 1).toNat = i.toNat + 1 by omega]
  simp only [muS]
  rw [muS_c (g := h) i.toNat (fun j j0 j1 => by rw [ua_ne (by omega), ua_ne (by omega)]), show ((i.toNat : Nat) : Int) = i by omega, show ((i.toNat + 1 : Nat) : Int) = i + 1 by omega, ua_same, ua_ne (show i ≠ i + 1 by omega), ua_same]
  rw [show 13 - i.toNat = (13 - (i.toNat + 1)) + 1 by omega, Nat.pow_succ]
  have p : 0 < 16 ^ (13 - (i.toNat + 1)) := Nat.pow_pos (by omega)
  generalize 16 ^ (13 - (i.toNat + 1)) = P at *
  have q := Nat.mul_le_mul_right (P * 16) (show (14 - v).toNat + 1 ≤ (14 - h i).toNat by omega)
  rw [Nat.add_mul] at q
  rw [show (14 - (-1 : Int)).toNat = 15 by decide]
  omega
/-- what share answers -/
def ShP (kd br my : Int → Int) (n most : Int) (r : Int) (h : Int → Int) : Prop := (r = 0 ∧ ∀ g, ¬ Full kd br my n most g) ∨ (r = 1 ∧ Full kd br my n most h ∧ ∀ g, Full kd br my n most g → ∀ k, 0 ≤ k → k < n → (∀ j, 0 ≤ j → j < k → g j = h j) → h k ≤ g k)
/-- each bone its own saint -/
theorem Full_id {kd br my : Int → Int} {n : Int} (hm : ∀ i, 0 ≤ i → i < n → 1 ≤ my i) : Full kd br my n n (fun i => i) := by
  intro i h0 h1
  have hu : ∀ m : Nat, usedN (fun i : Int => i) m = m := by
    intro m
    induction m with
    | zero => rfl
    | succ m ih => simp only [usedN]; rw [ih, if_pos (by omega)]; omega
  refine ⟨h0, by rw [hu]; show i ≤ _; omega, h1, ?_, ?_⟩
  · rw [findT_no (fun j j0 j1 => decide_eq_false (fun q => by have : j = i := q.1; omega))]; omega
  · have e : canC kd (fun i => i) i i i = sumT (fun _ => 0) i := sumT_c (fun j j0 j1 => if_neg (fun q => by have : j = i := q.1; omega))
    have z : ∀ m : Nat, sumT (fun _ => 0) (m : Int) = 0 := by
      intro m
      induction m with
      | zero => rfl
      | succ m ih => rw [show ((m + 1 : Nat) : Int) = (m : Int) + 1 by omega, sumT_s _ (by omega), ih]; rfl
    have := z i.toNat
    rw [show ((i.toNat : Nat) : Int) = i by omega] at this
    have := hm i h0 h1
    show 1 + canC kd (fun i => i) i i i ≤ my i
    rw [e]
    omega
