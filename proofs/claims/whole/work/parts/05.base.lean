/-! THE LAYER: ints and longs are whole numbers, the heap from an address on is a memory of rows; a judgement X that hides the machine -/
abbrev InR (a : Int) : Prop := -2147483648 ≤ a ∧ a < 2147483648
abbrev InL (a : Int) : Prop := -9223372036854775808 ≤ a ∧ a < 9223372036854775808
def vI (a : Int) : Value := .int (Int32.ofInt a)
def vL (a : Int) : Value := .long (Int64.ofInt a)
abbrev Bs : Type := Nat × (Nat → Nat) × (Nat → Nat)
def vR (B : Bs) (i : Nat) : Value := .ref (B.1 + i)
def vQ (B : Bs) (r : Option Nat) : Value := va_rf (r.map (B.1 + ·))
theorem iI_toInt {a : Int} (h : InR a) : (Int32.ofInt a).toInt = a := Int32.toInt_ofInt_of_le h.1 h.2
theorem iL_toInt {a : Int} (h : InL a) : (Int64.ofInt a).toInt = a := Int64.toInt_ofInt_of_le h.1 h.2
theorem iI_lt {a b : Int} (ha : InR a) (hb : InR b) : Int32.ofInt a < Int32.ofInt b ↔ a < b := by rw [Int32.lt_iff_toInt_lt, iI_toInt ha, iI_toInt hb]
theorem iI_le {a b : Int} (ha : InR a) (hb : InR b) : Int32.ofInt a ≤ Int32.ofInt b ↔ a ≤ b := by rw [Int32.le_iff_toInt_le, iI_toInt ha, iI_toInt hb]
theorem iI_eq {a b : Int} (ha : InR a) (hb : InR b) : Int32.ofInt a = Int32.ofInt b ↔ a = b := by rw [← Int32.toInt_inj, iI_toInt ha, iI_toInt hb]
theorem iL_lt {a b : Int} (ha : InL a) (hb : InL b) : Int64.ofInt a < Int64.ofInt b ↔ a < b := by rw [Int64.lt_iff_toInt_lt, iL_toInt ha, iL_toInt hb]
theorem iL_le {a b : Int} (ha : InL a) (hb : InL b) : Int64.ofInt a ≤ Int64.ofInt b ↔ a ≤ b := by rw [Int64.le_iff_toInt_le, iL_toInt ha, iL_toInt hb]
theorem iL_eq {a b : Int} (ha : InL a) (hb : InL b) : Int64.ofInt a = Int64.ofInt b ↔ a = b := by rw [← Int64.toInt_inj, iL_toInt ha, iL_toInt hb]
theorem InR_0 : InR 0 := by omega
theorem InL_0 : InL 0 := by omega
theorem inr {a : Int} (h : -2147483648 ≤ a ∧ a < 2147483648) : InR a := h
theorem inl_ {a : Int} (h : -9223372036854775808 ≤ a ∧ a < 9223372036854775808) : InL a := h
theorem iI_lt0 {a : Int} (ha : InR a) : Int32.ofInt a < 0 ↔ a < 0 := iI_lt ha InR_0
theorem iI_0le {a : Int} (ha : InR a) : 0 ≤ Int32.ofInt a ↔ 0 ≤ a := iI_le InR_0 ha
theorem iI_le0 {a : Int} (ha : InR a) : Int32.ofInt a ≤ 0 ↔ a ≤ 0 := iI_le ha InR_0
theorem iI_0lt {a : Int} (ha : InR a) : 0 < Int32.ofInt a ↔ 0 < a := iI_lt InR_0 ha
theorem iI_eq0 {a : Int} (ha : InR a) : Int32.ofInt a = 0 ↔ a = 0 := iI_eq ha InR_0
theorem iI_nat {a : Int} (h0 : 0 ≤ a) (h : InR a) : (Int32.ofInt a).toNatClampNeg = a.toNat := Int32.toNatClampNeg_ofInt_of_le h.1 h.2
theorem iI_natI {a : Int} (h0 : 0 ≤ a) (h : InR a) : (((Int32.ofInt a).toNatClampNeg : Nat) : Int) = a := by rw [iI_nat h0 h]; omega
theorem iI_in {a : Int} {n : Nat} (hn : n < 2147483648) (h0 : 0 ≤ a) (h1 : a < n) : vp_in (Int32.ofInt a) n := by
  have hr : InR a := ⟨by omega, by omega⟩
  rw [vp_in_iff, iI_toInt hr]
  exact ⟨h0, h1⟩
theorem iI_surj (x : Int32) : ∃ a : Int, InR a ∧ x = Int32.ofInt a := ⟨x.toInt, ⟨by have := x.le_toInt; simpa using this, by have := x.toInt_lt; simpa using this⟩, (Int32.ofInt_toInt x).symm⟩
/-! locals: a place holds a value or nothing is known of it -/
def lvp : Nat → List (Option Value) → List (Nat × Value)
  | _, [] => []
  | k, none :: t => lvp (k + 1) t
  | k, some v :: t => (k, v) :: lvp (k + 1) t
theorem lvp_mem (L : List (Option Value)) : ∀ (k j : Nat) (v : Value), (j, v) ∈ lvp k L ↔ k ≤ j ∧ L[j - k]? = some (some v) := by
  induction L with
  | nil => intro k j v; simp [lvp]
  | cons a t ih =>
    intro k j v
    have key : k < j → (a :: t)[j - k]? = t[j - (k + 1)]? := fun h => by
      rw [show j - k = (j - (k + 1)) + 1 by omega, List.getElem?_cons_succ]
    cases a with
    | none =>
      rw [lvp, ih]
      constructor
      · intro h
        exact ⟨by omega, by rw [key (by omega)]; exact h.2⟩
      · intro h
        rcases Nat.eq_or_lt_of_le h.1 with e | e
        · have h2 := h.2
          rw [← e, Nat.sub_self] at h2
          simp at h2
        · exact ⟨e, by rw [← key e]; exact h.2⟩
    | some w =>
      rw [lvp, List.mem_cons, ih]
      constructor
      · intro h
        rcases h with h | h
        · cases h
          exact ⟨Nat.le_refl _, by rw [Nat.sub_self]; rfl⟩
        · exact ⟨by omega, by rw [key (by omega)]; exact h.2⟩
      · intro h
        rcases Nat.eq_or_lt_of_le h.1 with e | e
        · have h2 := h.2
          rw [← e, Nat.sub_self] at h2
          left
          simp at h2
          rw [← e, h2]
        · exact Or.inr ⟨e, by rw [← key e]; exact h.2⟩
def LH (ls : Array Slot) (nL : Nat) (L : List (Option Value)) : Prop := lv_has ls nL (lvp 0 L)
theorem LH.at_ {ls : Array Slot} {nL : Nat} {L : List (Option Value)} (h : LH ls nL L) {i : Nat} {v : Value} (hi : L[i]? = some (some v)) : ls[i]? = some (.val v) :=
  h.2.2 (i, v) ((lvp_mem L 0 i v).mpr ⟨Nat.zero_le _, by rw [Nat.sub_zero]; exact hi⟩)
/-- fewer known locals -/
def leL : List (Option Value) → List (Option Value) → Prop
  | [], _ => True
  | none :: t, _ :: u => leL t u
  | some v :: t, w :: u => w = some v ∧ leL t u
  | _ :: _, [] => False
theorem leL_at : ∀ {L' L : List (Option Value)}, leL L' L → ∀ {i : Nat} {v : Value}, L'[i]? = some (some v) → L[i]? = some (some v)
  | [], _, _, i, v, h => by simp at h
  | none :: t, [], h, _, _, _ => h.elim
  | some _ :: t, [], h, _, _, _ => h.elim
  | none :: t, w :: u, h, 0, v, h2 => by simp at h2
  | none :: t, w :: u, h, i + 1, v, h2 => by
    rw [List.getElem?_cons_succ] at h2 ⊢
    exact leL_at (L' := t) (L := u) h h2
  | some x :: t, w :: u, h, 0, v, h2 => by
    have h3 : w = some x := h.1
    simp at h2 ⊢
    rw [h3, h2]
  | some x :: t, w :: u, h, i + 1, v, h2 => by
    rw [List.getElem?_cons_succ] at h2 ⊢
    exact leL_at (L' := t) (L := u) h.2 h2
theorem LH.forget {ls : Array Slot} {nL : Nat} {L L' : List (Option Value)} (h : LH ls nL L) (hl : leL L' L) : LH ls nL L' := by
  refine ⟨h.1, h.2.1, fun q hq => ?_⟩
  obtain ⟨j, v⟩ := q
  have h1 := ((lvp_mem L' 0 j v).mp hq).2
  rw [Nat.sub_zero] at h1
  exact h.at_ (leL_at hl h1)
/-- not the first half of a long -/
def c1 : Option Value → Bool
  | none => true
  | some v => !(v.category == 2)
theorem LH_st1 {ls' : Array Slot} {nL i : Nat} {v : Value} {L : List (Option Value)} (h : lv_has ls' nL ((i, v) :: (lvp 0 L).filter (fun q => !(q.1 == i) && !(q.1 + 1 == i && q.2.category == 2)))) (hp : ∀ w, 0 < i → L[i - 1]? = some w → c1 w = true) : LH ls' nL (L.set i (some v)) := by
  refine ⟨h.1, h.2.1, fun q hq => ?_⟩
  obtain ⟨j, w⟩ := q
  have h1 := ((lvp_mem _ 0 j w).mp hq).2
  rw [Nat.sub_zero] at h1
  by_cases e : j = i
  · subst e
    rw [List.getElem?_set] at h1
    simp at h1
    obtain ⟨-, rfl⟩ := h1
    exact h.2.2 (j, v) List.mem_cons_self
  · rw [List.getElem?_set_ne (fun z => e z.symm)] at h1
    refine h.2.2 (j, w) (List.mem_cons_of_mem _ (List.mem_filter.mpr ⟨(lvp_mem L 0 j w).mpr ⟨Nat.zero_le _, by rw [Nat.sub_zero]; exact h1⟩, ?_⟩))
    have hc : ¬ (j + 1 = i ∧ w.category = 2) := by
      intro z
      have := hp (some w) (by omega) (by rw [show i - 1 = j by omega]; exact h1)
      simp [c1, z.2] at this
    simp only [Bool.and_eq_true, Bool.not_eq_true', beq_eq_false_iff_ne, ne_eq, Bool.and_eq_false_iff]
    refine ⟨e, ?_⟩
    by_cases e2 : j + 1 = i
    · exact Or.inr (fun z => hc ⟨e2, z⟩)
    · exact Or.inl e2
theorem LH_st2 {ls' : Array Slot} {nL i : Nat} {v : Value} {L : List (Option Value)} (h : lv_has ls' nL ((i, v) :: (lvp 0 L).filter (fun q => !(q.1 == i) && (!(q.1 == i + 1) && !(q.1 + 1 == i && q.2.category == 2))))) (hp : ∀ w, 0 < i → L[i - 1]? = some w → c1 w = true) : LH ls' nL ((L.set i (some v)).set (i + 1) none) := by
  refine ⟨h.1, h.2.1, fun q hq => ?_⟩
  obtain ⟨j, w⟩ := q
  have h1 := ((lvp_mem _ 0 j w).mp hq).2
  rw [Nat.sub_zero] at h1
  have e0 : j ≠ i + 1 := by
    intro z
    subst z
    rw [List.getElem?_set] at h1
    simp at h1
  rw [List.getElem?_set_ne (fun z => e0 z.symm)] at h1
  by_cases e : j = i
  · subst e
    rw [List.getElem?_set] at h1
    simp at h1
    obtain ⟨-, rfl⟩ := h1
    exact h.2.2 (j, v) List.mem_cons_self
  · rw [List.getElem?_set_ne (fun z => e z.symm)] at h1
    refine h.2.2 (j, w) (List.mem_cons_of_mem _ (List.mem_filter.mpr ⟨(lvp_mem L 0 j w).mpr ⟨Nat.zero_le _, by rw [Nat.sub_zero]; exact h1⟩, ?_⟩))
    have hc : ¬ (j + 1 = i ∧ w.category = 2) := by
      intro z
      have := hp (some w) (by omega) (by rw [show i - 1 = j by omega]; exact h1)
      simp [c1, z.2] at this
    simp only [Bool.and_eq_true, Bool.not_eq_true', beq_eq_false_iff_ne, ne_eq, Bool.and_eq_false_iff]
    refine ⟨e, e0, ?_⟩
    by_cases e2 : j + 1 = i
    · exact Or.inr (fun z => hc ⟨e2, z⟩)
    · exact Or.inl e2
/-! the memory: shapes (0 int row, 1 long row, 2 boolean row, 3 row of Texts, 4 row of Bones, 5 + ci an object of class ci), values, references, how many cells -/
abbrev Va : Type := Nat → Int → Int
abbrev Rfs : Type := Nat → Int → Option Nat
abbrev Stt : Type := (Nat → Nat × Nat) × Rfs × Nat
def ua (f : Int → Int) (k e : Int) : Int → Int := fun j => if j = k then e else f j
def uq (f : Int → Option Nat) (k : Int) (e : Option Nat) : Int → Option Nat := fun j => if j = k then e else f j
def up {α : Type} (f : Nat → α) (k : Nat) (v : α) : Nat → α := fun j => if j = k then v else f j
/-- one place written -/
def st2 (V : Va) (i : Nat) (k e : Int) : Va := up V i (ua (V i) k e)
def fV (B : Bs) (ty : FieldType) (v : Int) (r : Option Nat) : Value := match ty with
  | .int => vI v
  | .boolean => vI v
  | .long => vL v
  | _ => vQ B r
def fsL (B : Bs) (S : Stt) (V : Va) (i ci : Nat) : List Value := (List.range (Nc ci)).map fun j => fV B (tyc ci j) (V i j) (S.2.1 i j)
def cE (B : Bs) (ca : Nat → ClassId) (S : Stt) (V : Va) (i : Nat) : va_E :=
  if (S.1 i).1 = 0 then .inl (ca 0, (S.1 i).2, .inl fun j => Int32.ofInt (V i j))
  else if (S.1 i).1 = 1 then .inl (ca 1, (S.1 i).2, .inr (.inl fun j => Int64.ofInt (V i j)))
  else if (S.1 i).1 = 2 then .inl (ca 2, (S.1 i).2, .inl fun j => Int32.ofInt (V i j))
  else if (S.1 i).1 = 3 then .inl (ca 3, (S.1 i).2, .inr (.inr (.inr (.inr fun j => (S.2.1 i j).map (B.1 + ·)))))
  else if (S.1 i).1 = 4 then .inl (ca 4, (S.1 i).2, .inr (.inr (.inr (.inr fun j => (S.2.1 i j).map (B.1 + ·)))))
  else .inr ((S.1 i).1 - 5, fsL B S V i ((S.1 i).1 - 5))
def wl (B : Bs) (ca : Nat → ClassId) (S : Stt) (V : Va) : va_W := (List.range S.2.2).map fun i => (B.1 + i, cE B ca S V i)
theorem wl_get {B : Bs} {ca : Nat → ClassId} {S : Stt} {V : Va} {i : Nat} (h : i < S.2.2) : (wl B ca S V)[i]? = some (B.1 + i, cE B ca S V i) := by
  simp [wl, h]
theorem wl_D {B : Bs} {ca : Nat → ClassId} {S : Stt} {V : Va} : va_D (fun q => B.1 ≤ q) (wl B ca S V) := by
  have key : ∀ (i : Nat) (p : Nat × va_E), (wl B ca S V)[i]? = some p → p.1 = B.1 + i := by
    intro i p h
    by_cases hi : i < S.2.2
    · rw [wl_get hi] at h
      cases h
      rfl
    · rw [List.getElem?_eq_none (by simp [wl]; omega)] at h
      cases h
  refine ⟨fun i j p q h1 h2 h3 => ?_, fun k q h => ?_⟩
  · have e1 := key i p h1
    have e2 := key j q h2
    omega
  · have e1 := key k q h
    show B.1 ≤ q.1
    omega
theorem wl_set {B : Bs} {ca : Nat → ClassId} {S S' : Stt} {V V' : Va} {i : Nat} {e : va_E} (hi : i < S.2.2) (hn : S'.2.2 = S.2.2) (he : cE B ca S' V' i = e) (ho : ∀ j, j < S.2.2 → j ≠ i → cE B ca S' V' j = cE B ca S V j) : (wl B ca S V).set i (B.1 + i, e) = wl B ca S' V' := by
  apply List.ext_getElem?
  intro j
  by_cases hj : j < S.2.2
  · rw [wl_get (S := S') (by rw [hn]; exact hj)]
    by_cases e1 : j = i
    · subst e1
      rw [List.getElem?_set]
      simp [wl, hj, he]
    · rw [List.getElem?_set_ne (fun z => e1 z.symm), wl_get hj, ho j hj e1]
  · rw [List.getElem?_eq_none (by simp [wl]; omega), List.getElem?_eq_none (by simp [wl, hn]; omega)]
def MR (B : Bs) (D : va_G) (ca : Nat → ClassId) (S : Stt) (V : Va) (H : Heap) : Prop := H.size = B.1 + S.2.2 ∧ va_P D cls (wl B ca S V) H
theorem cE_i {B : Bs} {ca : Nat → ClassId} {S : Stt} {V : Va} {i n : Nat} (h : S.1 i = (0, n)) : cE B ca S V i = .inl (ca 0, n, .inl fun j => Int32.ofInt (V i j)) := by simp [cE, h]
theorem cE_l {B : Bs} {ca : Nat → ClassId} {S : Stt} {V : Va} {i n : Nat} (h : S.1 i = (1, n)) : cE B ca S V i = .inl (ca 1, n, .inr (.inl fun j => Int64.ofInt (V i j))) := by simp [cE, h]
theorem cE_z {B : Bs} {ca : Nat → ClassId} {S : Stt} {V : Va} {i n : Nat} (h : S.1 i = (2, n)) : cE B ca S V i = .inl (ca 2, n, .inl fun j => Int32.ofInt (V i j)) := by simp [cE, h]
theorem cE_t {B : Bs} {ca : Nat → ClassId} {S : Stt} {V : Va} {i n : Nat} (h : S.1 i = (3, n)) : cE B ca S V i = .inl (ca 3, n, .inr (.inr (.inr (.inr fun j => (S.2.1 i j).map (B.1 + ·))))) := by simp [cE, h]
theorem cE_b {B : Bs} {ca : Nat → ClassId} {S : Stt} {V : Va} {i n : Nat} (h : S.1 i = (4, n)) : cE B ca S V i = .inl (ca 4, n, .inr (.inr (.inr (.inr fun j => (S.2.1 i j).map (B.1 + ·))))) := by simp [cE, h]
theorem cE_o {B : Bs} {ca : Nat → ClassId} {S : Stt} {V : Va} {i ci z : Nat} (h : S.1 i = (ci + 5, z)) : cE B ca S V i = .inr (ci, fsL B S V i ci) := by simp [cE, h]
/-- cells that have the same rows are the same -/
theorem cE_congr {B : Bs} {ca : Nat → ClassId} {S S' : Stt} {V V' : Va} {j : Nat} (h1 : S'.1 j = S.1 j) (h2 : S'.2.1 j = S.2.1 j) (h3 : V' j = V j) : cE B ca S' V' j = cE B ca S V j := by simp only [cE, fsL, h1, h2, h3]
theorem up_same {α : Type} (f : Nat → α) (k : Nat) (v : α) : up f k v k = v := by simp [up]
theorem up_ne {α : Type} {f : Nat → α} {k j : Nat} {v : α} (h : j ≠ k) : up f k v j = f j := by simp [up, h]
theorem up_self {α : Type} (f : Nat → α) (k : Nat) : up f k (f k) = f := by
  funext j
  by_cases h : j = k
  · subst h; simp [up]
  · simp [up, h]
theorem ua_same (f : Int → Int) (k e : Int) : ua f k e k = e := by simp [ua]
theorem ua_ne {f : Int → Int} {k e j : Int} (h : j ≠ k) : ua f k e j = f j := by simp [ua, h]
theorem uq_same (f : Int → Option Nat) (k : Int) (e : Option Nat) : uq f k e k = e := by simp [uq]
theorem uq_ne {f : Int → Option Nat} {k j : Int} {e : Option Nat} (h : j ≠ k) : uq f k e j = f j := by simp [uq, h]
theorem st2_same (V : Va) (i : Nat) (k e : Int) : st2 V i k e i k = e := by simp [st2, up, ua]
theorem st2_row {V : Va} {i j : Nat} {k e : Int} (h : j ≠ i) : st2 V i k e j = V j := by simp [st2, up, h]
theorem st2_ne {V : Va} {i j : Nat} {k e q : Int} (h : q ≠ k) : st2 V i k e j q = V j q := by
  by_cases hj : j = i
  · subst hj; simp [st2, up, ua, h]
  · simp [st2, up, hj]
/-! what holds of the cells below the memory, and of the tables, all the time -/
def nestW : List Cond := [Cond.methodLinkNest "NineGraves" 11 ⟨"NineGraves$World", "<init>", "()V"⟩ "NineGraves", Cond.methodLinkNest "NineGraves$World" 23 ⟨"NineGraves$Bones", "<init>", "()V"⟩ "NineGraves", Cond.methodLinkNest "NineGraves$Steps" 17 ⟨"NineGraves$Bones", "<init>", "()V"⟩ "NineGraves", Cond.methodLinkNest "NineGraves$World" 43 ⟨"NineGraves$Seen", "<init>", "()V"⟩ "NineGraves", Cond.methodLinkNest "NineGraves" 21 ⟨"NineGraves$Reader", "<init>", "()V"⟩ "NineGraves", Cond.methodLinkNest "NineGraves$World" 101 ⟨"NineGraves", "within", "(III)Z"⟩ "NineGraves", Cond.methodLinkNest "NineGraves$Reader" 150 ⟨"NineGraves", "within", "(III)Z"⟩ "NineGraves"]
def sLen : List Nat := [11, 125]
def sByt : List (List Int32) := [[59, 40, 41, 43, 45, 42, 47, 60, 62, 61, 35], [119, 111, 114, 110, 32, 104, 111, 108, 121, 32, 117, 110, 108, 105, 107, 101, 32, 107, 105, 110, 100, 32, 108, 101, 110, 100, 32, 115, 119, 97, 112, 32, 115, 116, 101, 97, 108, 32, 98, 117, 114, 110, 32, 112, 97, 115, 115, 32, 109, 97, 110, 121, 32, 116, 111, 32, 102, 111, 114, 32, 119, 105, 116, 104, 32, 110, 111, 116, 32, 97, 110, 100, 32, 111, 114, 32, 115, 111, 114, 116, 32, 119, 101, 105, 103, 104, 116, 32, 116, 111, 119, 110, 32, 112, 114, 111, 111, 102, 115, 32, 121, 101, 97, 114, 32, 111, 115, 111, 114, 116, 32, 111, 119, 101, 105, 103, 104, 116, 32, 111, 116, 111, 119, 110, 32]]
def Bg (B : Bs) (s : State) : Prop :=
  (∀ w ∈ nestW, va_Nw w s) ∧ va_AO RX0 s ∧ va_AO RX8 s ∧ va_Nw (.castable "[I" "java/lang/Cloneable") s ∧
  va_Z "java/lang/String" "COMPACT_STRINGS" "Z" (.int 1) (fun q => B.1 ≤ q) s s.heap ∧ va_Zq "jdk/internal/util/Preconditions" "SIOOBE_FORMATTER" "Ljava/util/function/BiFunction;" (fun q => B.1 ≤ q) s s.heap ∧
  vk_S 2 sLen sByt B.2.1 B.2.2 (fun q => B.1 ≤ q) s s.heap ∧ vk_R RX3 108 ";()+-*/<>=#" (B.2.1 0) s ∧ vk_R RX3 115 "worn holy unlike kind lend swap steal burn pass many to for with not and or sort weight town proofs year osort oweight otown " (B.2.1 1) s
theorem nestW_warm {s U : State} (hW : s.WarmedH U.vm) : ∀ w ∈ nestW, va_Nw w s → va_Nw w U := by
  intro w hw h
  simp only [nestW, List.mem_cons, List.not_mem_nil, or_false] at hw
  rcases hw with rfl | rfl | rfl | rfl | rfl | rfl | rfl <;> exact va_Nw.warmM hW h
theorem Bg.moved {B : Bs} {s U : State} (hW : s.WarmedH U.vm) (hq : ∀ a : Nat, a < s.heap.size → ¬ B.1 ≤ a → U.heap[a]? = s.heap[a]?) (h : Bg B s) : Bg B U := by
  obtain ⟨h1, h2, h3, h4, h5, h6, h7, h8, h9⟩ := h
  exact ⟨fun w hw => nestW_warm hW w hw (h1 w hw), h2.moved hW.alike, h3.moved hW.alike, va_Nw.warmC hW h4, (h5.moved hW.alike).kept hq, (h6.moved hW.alike).kept hq, (h7.moved hW.alike).kept hq, h8.warm hW, h9.warm hW⟩
theorem Bg.same {B : Bs} {u U : State} (hv : U.vm = u.vm) (hh : U.heap = u.heap) (h : Bg B u) : Bg B U := by
  have hal : u.vm.Alike U.vm := by rw [hv]; exact Vm.Alike.refl _
  have hq : ∀ a : Nat, a < u.heap.size → ¬ B.1 ≤ a → U.heap[a]? = u.heap[a]? := fun a _ _ => by rw [hh]
  have hN : ∀ w ∈ nestW, w.onTables = true := by decide +kernel
  obtain ⟨h1, h2, h3, h4, h5, h6, h7, h8, h9⟩ := h
  exact ⟨fun w hw => va_Nw.same (hN w hw) hv.symm (h1 w hw), h2.moved hal, h3.moved hal, va_Nw.same rfl hv.symm h4, (h5.moved hal).kept hq, (h6.moved hal).kept hq, (h7.moved hal).kept hq, h8.same hv, h9.same hv⟩
def tyL (ca : Nat → ClassId) : List (ClassId × FieldType) := [(ca 0, .int), (ca 1, .long), (ca 2, .boolean), (ca 3, .object RX8), (ca 4, .object RX0)]
abbrev Ctx : Type := Program × Launch × Env × Room × State × MethodId × Array Value × List Frame × Method × Code × (State → Prop) × va_G × (Nat → ClassId)
/-- what is fixed while a method runs -/
def XO (B : Bs) (own nm : String) (cc : ByteArray) (nL : Nat) (ret : Option FieldType) (lev mc ms : Nat) (p : Program) (R : Room) (s : State) (m : MethodId) (args : Array Value) (meth : Method) (c : Code) (D : va_G) (ca : Nat → ClassId) : Prop :=
  p.tables.exec = Jvm.exec ∧ c.code = cc ∧ c.maxLocals = nL ∧ meth.sig.returnType = ret ∧ meth.locks = false ∧ s.vm.findClass own = some m.cls ∧ meth.name = nm ∧ (∀ w ∈ TB, w.before args s = true) ∧ va_K D cls (tyL ca) s ∧ Bg B s ∧ B.1 ≤ s.heap.size ∧ (lev ≤ R.frames ∧ 64 * lev ≤ R.locals ∧ mc ≤ R.cells ∧ ms ≤ R.slots)
def X (Γ : Ctx) (B : Bs) (own nm : String) (cc : ByteArray) (nL : Nat) (ret : Option FieldType) (lev mc ms pc : Nat) (L : List (Option Value)) (st : List Value) (kc ks : Nat) (S : Stt) (V : Va) : Prop :=
  match Γ with
  | (p, l, e, R, s, m, args, below, meth, c, Q, D, ca) => XO B own nm cc nL ret lev mc ms p R s m args meth c D ca → ∀ (H : Heap) (locs : List Loc) (ls : Array Slot), MR B D ca S V H → va_S (fun q => B.1 ≤ q) s.heap H locs → LH ls nL L → W p l e R s m args below meth c H locs kc ks Q (F0 m pc ls st)
section XR
variable {Γ : Ctx} {B : Bs} {own nm : String} {cc : ByteArray} {nL : Nat} {ret : Option FieldType} {lev mc ms pc : Nat} {L : List (Option Value)} {st : List Value} {kc ks : Nat} {S : Stt} {V : Va}
/-- an instruction that touches the stack alone -/
theorem x_pure {pc' : Nat} {st' : List Value}
    (h : ∀ {p : Program} {l : Launch} {e : Env} {R : Room} {s : State} {m : MethodId} {args : Array Value} {below : List Frame} {meth : Method} {c : Code} {H : Heap} {locs : List Loc} {Q : State → Prop} {ls : Array Slot}, p.tables.exec = Jvm.exec → c.code = cc → W p l e R s m args below meth c H locs kc ks Q (F0 m pc' ls st') → W p l e R s m args below meth c H locs kc ks Q (F0 m pc ls st))
    (k : X Γ B own nm cc nL ret lev mc ms pc' L st' kc ks S V) : X Γ B own nm cc nL ret lev mc ms pc L st kc ks S V := by
  obtain ⟨p, l, e, R, s, m, args, below, meth, c, Q, D, ca⟩ := Γ
  intro o H locs ls h1 h2 h3
  exact h o.1 o.2.1 (k o H locs ls h1 h2 h3)
/-- a branch -/
theorem x_br {pc1 pc2 : Nat} {st1 : List Value} {P1 P2 : Prop}
    (h : ∀ {p : Program} {l : Launch} {e : Env} {R : Room} {s : State} {m : MethodId} {args : Array Value} {below : List Frame} {meth : Method} {c : Code} {H : Heap} {locs : List Loc} {Q : State → Prop} {ls : Array Slot}, p.tables.exec = Jvm.exec → c.code = cc → (P1 → W p l e R s m args below meth c H locs kc ks Q (F0 m pc1 ls st1)) → (P2 → W p l e R s m args below meth c H locs kc ks Q (F0 m pc2 ls st1)) → W p l e R s m args below meth c H locs kc ks Q (F0 m pc ls st))
    (k1 : P1 → X Γ B own nm cc nL ret lev mc ms pc1 L st1 kc ks S V) (k2 : P2 → X Γ B own nm cc nL ret lev mc ms pc2 L st1 kc ks S V) : X Γ B own nm cc nL ret lev mc ms pc L st kc ks S V := by
  obtain ⟨p, l, e, R, s, m, args, below, meth, c, Q, D, ca⟩ := Γ
  intro o H locs ls h1 h2 h3
  exact h o.1 o.2.1 (fun q => k1 q o H locs ls h1 h2 h3) (fun q => k2 q o H locs ls h1 h2 h3)
theorem x_forget {L' : List (Option Value)} (hl : leL L' L) (k : X Γ B own nm cc nL ret lev mc ms pc L' st kc ks S V) : X Γ B own nm cc nL ret lev mc ms pc L st kc ks S V := by
  obtain ⟨p, l, e, R, s, m, args, below, meth, c, Q, D, ca⟩ := Γ
  intro o H locs ls h1 h2 h3
  exact k o H locs ls h1 h2 (h3.forget hl)
theorem x_widen {kc' ks' : Nat} (h1 : kc ≤ kc') (h2 : ks ≤ ks') (k : X Γ B own nm cc nL ret lev mc ms pc L st kc' ks' S V) : X Γ B own nm cc nL ret lev mc ms pc L st kc ks S V := by
  obtain ⟨p, l, e, R, s, m, args, below, meth, c, Q, D, ca⟩ := Γ
  intro o H locs ls h3 h4 h5
  exact W.widen h1 h2 (k o H locs ls h3 h4 h5)
/-- the value on top, otherwise written -/
theorem x_top {v v' : Value} (h : v = v') (k : X Γ B own nm cc nL ret lev mc ms pc L (v' :: st) kc ks S V) : X Γ B own nm cc nL ret lev mc ms pc L (v :: st) kc ks S V := h ▸ k
theorem x_topI {a a' : Int} (h : a = a') (k : X Γ B own nm cc nL ret lev mc ms pc L (vI a' :: st) kc ks S V) : X Γ B own nm cc nL ret lev mc ms pc L (vI a :: st) kc ks S V := h ▸ k
theorem x_topL {a a' : Int} (h : a = a') (k : X Γ B own nm cc nL ret lev mc ms pc L (vL a' :: st) kc ks S V) : X Γ B own nm cc nL ret lev mc ms pc L (vL a :: st) kc ks S V := h ▸ k
/-- the memory, otherwise written -/
theorem x_mem {V' : Va} (h : V = V') (k : X Γ B own nm cc nL ret lev mc ms pc L st kc ks S V') : X Γ B own nm cc nL ret lev mc ms pc L st kc ks S V := h ▸ k
-- constants
theorem x_iconst {n : Int} (d : decode cc pc = .ok (.iconst n, 1)) (k : X Γ B own nm cc nL ret lev mc ms (pc + 1) L (vI n :: st) kc ks S V) : X Γ B own nm cc nL ret lev mc ms pc L st kc ks S V := x_pure (fun hx hb k => lv_iconst hx hb d rfl k) k
theorem x_bipush {n : Int} (d : decode cc pc = .ok (.bipush n, 2)) (k : X Γ B own nm cc nL ret lev mc ms (pc + 2) L (vI n :: st) kc ks S V) (h : (Int8.ofInt n).toInt32 = Int32.ofInt n := by decide) : X Γ B own nm cc nL ret lev mc ms pc L st kc ks S V := x_pure (fun hx hb k => lv_bipush hx hb d h k) k
theorem x_sipush {n : Int} (d : decode cc pc = .ok (.sipush n, 3)) (k : X Γ B own nm cc nL ret lev mc ms (pc + 3) L (vI n :: st) kc ks S V) (h : (Int16.ofInt n).toInt32 = Int32.ofInt n := by decide) : X Γ B own nm cc nL ret lev mc ms pc L st kc ks S V := x_pure (fun hx hb k => lv_sipush hx hb d h k) k
theorem x_lconst0 (d : decode cc pc = .ok (.lconst 0, 1)) (k : X Γ B own nm cc nL ret lev mc ms (pc + 1) L (vL 0 :: st) kc ks S V) : X Γ B own nm cc nL ret lev mc ms pc L st kc ks S V := x_pure (fun hx hb k => lv_lconst (v := Int64.ofInt 0) hx hb d (by decide) k) k
theorem x_lconst1 (d : decode cc pc = .ok (.lconst 1, 1)) (k : X Γ B own nm cc nL ret lev mc ms (pc + 1) L (vL 1 :: st) kc ks S V) : X Γ B own nm cc nL ret lev mc ms pc L st kc ks S V := x_pure (fun hx hb k => lv_lconst (v := Int64.ofInt 1) hx hb d (by decide) k) k
theorem x_null (d : decode cc pc = .ok (.aconst_null, 1)) (k : X Γ B own nm cc nL ret lev mc ms (pc + 1) L (.null :: st) kc ks S V) : X Γ B own nm cc nL ret lev mc ms pc L st kc ks S V := x_pure (fun hx hb k => lv_null hx hb d k) k
theorem x_ldc {index : Nat} {v : Int32} {a : Int} (hw : Cond.constant own index v ∈ TB) (ha : v = Int32.ofInt a) (d : decode cc pc = .ok (.ldc index, 2)) (k : X Γ B own nm cc nL ret lev mc ms (pc + 2) L (vI a :: st) kc ks S V) : X Γ B own nm cc nL ret lev mc ms pc L st kc ks S V := by
  obtain ⟨p, l, e, R, s, m, args, below, meth, c, Q, D, ca⟩ := Γ
  intro o H locs ls h1 h2 h3
  subst ha
  exact lv_ldc o.1 o.2.1 o.2.2.2.2.2.1 (o.2.2.2.2.2.2.2.1 _ hw) d (k o H locs ls h1 h2 h3)
theorem x_ldcw {index : Nat} {v : Int32} {a : Int} (hw : Cond.constant own index v ∈ TB) (ha : v = Int32.ofInt a) (d : decode cc pc = .ok (.ldc_w index, 3)) (k : X Γ B own nm cc nL ret lev mc ms (pc + 3) L (vI a :: st) kc ks S V) : X Γ B own nm cc nL ret lev mc ms pc L st kc ks S V := by
  obtain ⟨p, l, e, R, s, m, args, below, meth, c, Q, D, ca⟩ := Γ
  intro o H locs ls h1 h2 h3
  subst ha
  exact lv_ldcw o.1 o.2.1 o.2.2.2.2.2.1 (o.2.2.2.2.2.2.2.1 _ hw) d (k o H locs ls h1 h2 h3)
theorem x_ldc2 {index : Nat} {v : Int64} {a : Int} (hw : Cond.constantLong own index v ∈ TB) (ha : v = Int64.ofInt a) (d : decode cc pc = .ok (.ldc2_w index, 3)) (k : X Γ B own nm cc nL ret lev mc ms (pc + 3) L (vL a :: st) kc ks S V) : X Γ B own nm cc nL ret lev mc ms pc L st kc ks S V := by
  obtain ⟨p, l, e, R, s, m, args, below, meth, c, Q, D, ca⟩ := Γ
  intro o H locs ls h1 h2 h3
  subst ha
  exact lv_ldc2 o.1 o.2.1 o.2.2.2.2.2.1 (o.2.2.2.2.2.2.2.1 _ hw) d (k o H locs ls h1 h2 h3)
-- the stack
theorem x_dup {v : Value} (d : decode cc pc = .ok (.dup, 1)) (k : X Γ B own nm cc nL ret lev mc ms (pc + 1) L (v :: v :: st) kc ks S V) (hv : v.category = 1 := by rfl) : X Γ B own nm cc nL ret lev mc ms pc L (v :: st) kc ks S V := x_pure (fun hx hb k => lv_dup hx hb d hv k) k
theorem x_pop {v : Value} (d : decode cc pc = .ok (.pop, 1)) (k : X Γ B own nm cc nL ret lev mc ms (pc + 1) L st kc ks S V) (hv : v.category = 1 := by rfl) : X Γ B own nm cc nL ret lev mc ms pc L (v :: st) kc ks S V := x_pure (fun hx hb k => lv_pop hx hb d hv k) k
theorem x_dup_x1 {v w : Value} (d : decode cc pc = .ok (.dup_x1, 1)) (k : X Γ B own nm cc nL ret lev mc ms (pc + 1) L (v :: w :: v :: st) kc ks S V) (hv : v.category = 1 := by rfl) (hw : w.category = 1 := by rfl) : X Γ B own nm cc nL ret lev mc ms pc L (v :: w :: st) kc ks S V := x_pure (fun hx hb k => lv_dup_x1 hx hb d hv hw k) k
theorem x_dup2 {v w : Value} (d : decode cc pc = .ok (.dup2, 1)) (k : X Γ B own nm cc nL ret lev mc ms (pc + 1) L (v :: w :: v :: w :: st) kc ks S V) (hv : v.category = 1 := by rfl) (hw : w.category = 1 := by rfl) : X Γ B own nm cc nL ret lev mc ms pc L (v :: w :: st) kc ks S V := x_pure (fun hx hb k => lv_dup2_11 hx hb d hv hw k) k
theorem x_dup2L {v : Value} (d : decode cc pc = .ok (.dup2, 1)) (k : X Γ B own nm cc nL ret lev mc ms (pc + 1) L (v :: v :: st) kc ks S V) (hv : v.category = 2 := by rfl) : X Γ B own nm cc nL ret lev mc ms pc L (v :: st) kc ks S V := x_pure (fun hx hb k => lv_dup2_2 hx hb d hv k) k
-- int arithmetic
theorem x_iadd {a b : Int} (d : decode cc pc = .ok (.iadd, 1)) (k : X Γ B own nm cc nL ret lev mc ms (pc + 1) L (vI (a + b) :: st) kc ks S V) : X Γ B own nm cc nL ret lev mc ms pc L (vI b :: vI a :: st) kc ks S V := x_pure (fun hx hb k => lv_iadd hx hb d (by rw [vI, Int32.ofInt_add] at k; exact k)) k
theorem x_isub {a b : Int} (d : decode cc pc = .ok (.isub, 1)) (k : X Γ B own nm cc nL ret lev mc ms (pc + 1) L (vI (a - b) :: st) kc ks S V) : X Γ B own nm cc nL ret lev mc ms pc L (vI b :: vI a :: st) kc ks S V := x_pure (fun hx hb k => lv_isub hx hb d (by rw [vI, Int32.ofInt_sub] at k; exact k)) k
theorem x_imul {a b : Int} (d : decode cc pc = .ok (.imul, 1)) (k : X Γ B own nm cc nL ret lev mc ms (pc + 1) L (vI (a * b) :: st) kc ks S V) : X Γ B own nm cc nL ret lev mc ms pc L (vI b :: vI a :: st) kc ks S V := x_pure (fun hx hb k => lv_imul hx hb d (by rw [vI, Int32.ofInt_mul] at k; exact k)) k
theorem x_ineg {a : Int} (d : decode cc pc = .ok (.ineg, 1)) (k : X Γ B own nm cc nL ret lev mc ms (pc + 1) L (vI (-a) :: st) kc ks S V) : X Γ B own nm cc nL ret lev mc ms pc L (vI a :: st) kc ks S V := x_pure (fun hx hb k => lv_ineg hx hb d (by rw [vI, Int32.ofInt_neg] at k; exact k)) k
theorem x_ladd {a b : Int} (d : decode cc pc = .ok (.ladd, 1)) (k : X Γ B own nm cc nL ret lev mc ms (pc + 1) L (vL (a + b) :: st) kc ks S V) : X Γ B own nm cc nL ret lev mc ms pc L (vL b :: vL a :: st) kc ks S V := x_pure (fun hx hb k => lv_ladd hx hb d (by rw [vL, Int64.ofInt_add] at k; exact k)) k
theorem x_lsub {a b : Int} (d : decode cc pc = .ok (.lsub, 1)) (k : X Γ B own nm cc nL ret lev mc ms (pc + 1) L (vL (a - b) :: st) kc ks S V) : X Γ B own nm cc nL ret lev mc ms pc L (vL b :: vL a :: st) kc ks S V := x_pure (fun hx hb k => lv_lsub hx hb d (by rw [vL, Int64.ofInt_sub] at k; exact k)) k
theorem x_lmul {a b : Int} (d : decode cc pc = .ok (.lmul, 1)) (k : X Γ B own nm cc nL ret lev mc ms (pc + 1) L (vL (a * b) :: st) kc ks S V) : X Γ B own nm cc nL ret lev mc ms pc L (vL b :: vL a :: st) kc ks S V := x_pure (fun hx hb k => lv_lmul hx hb d (by rw [vL, Int64.ofInt_mul] at k; exact k)) k
theorem x_lneg {a : Int} (d : decode cc pc = .ok (.lneg, 1)) (k : X Γ B own nm cc nL ret lev mc ms (pc + 1) L (vL (-a) :: st) kc ks S V) : X Γ B own nm cc nL ret lev mc ms pc L (vL a :: st) kc ks S V := x_pure (fun hx hb k => lv_lneg hx hb d (by rw [vL, Int64.ofInt_neg] at k; exact k)) k
theorem iI_tdiv {a b : Int} (ha : InR a) (hb : InR b) : Int32.ofInt (a.tdiv b) = Int32.ofInt a / Int32.ofInt b := by
  obtain ⟨h1, h2⟩ := ha
  obtain ⟨h3, h4⟩ := hb
  have e1 : Int32.maxValue.toInt = 2147483647 := by decide
  have e2 : Int32.minValue.toInt = -2147483648 := by decide
  exact Int32.ofInt_tdiv (by rw [e2]; omega) (by rw [e1]; omega) (by rw [e2]; omega) (by rw [e1]; omega)
theorem iL_tdiv {a b : Int} (ha : InL a) (hb : InL b) : Int64.ofInt (a.tdiv b) = Int64.ofInt a / Int64.ofInt b := by
  obtain ⟨h1, h2⟩ := ha
  obtain ⟨h3, h4⟩ := hb
  have e1 : Int64.maxValue.toInt = 9223372036854775807 := by decide
  have e2 : Int64.minValue.toInt = -9223372036854775808 := by decide
  exact Int64.ofInt_tdiv (by rw [e2]; omega) (by rw [e1]; omega) (by rw [e2]; omega) (by rw [e1]; omega)
theorem x_idiv {a b : Int} (ha : InR a) (hb : InR b) (h0 : b ≠ 0) (d : decode cc pc = .ok (.idiv, 1)) (k : X Γ B own nm cc nL ret lev mc ms (pc + 1) L (vI (a.tdiv b) :: st) kc ks S V) : X Γ B own nm cc nL ret lev mc ms pc L (vI b :: vI a :: st) kc ks S V := x_pure (fun hx hb' k => lv_idiv hx hb' d (fun z => h0 ((iI_eq0 hb).mp z)) (by rw [vI, iI_tdiv ha hb] at k; exact k)) k
theorem x_irem {a b : Int} (ha : InR a) (hb : InR b) (h0 : b ≠ 0) (d : decode cc pc = .ok (.irem, 1)) (k : X Γ B own nm cc nL ret lev mc ms (pc + 1) L (vI (a.tmod b) :: st) kc ks S V) : X Γ B own nm cc nL ret lev mc ms pc L (vI b :: vI a :: st) kc ks S V := x_pure (fun hx hb' k => lv_irem hx hb' d (fun z => h0 ((iI_eq0 hb).mp z)) (by
  rw [vI, Int.tmod_def, Int32.ofInt_sub, Int.mul_comm, Int32.ofInt_mul, iI_tdiv ha hb] at k; exact k)) k
theorem x_ldiv {a b : Int} (ha : InL a) (hb : InL b) (h0 : b ≠ 0) (d : decode cc pc = .ok (.ldiv, 1)) (k : X Γ B own nm cc nL ret lev mc ms (pc + 1) L (vL (a.tdiv b) :: st) kc ks S V) : X Γ B own nm cc nL ret lev mc ms pc L (vL b :: vL a :: st) kc ks S V := x_pure (fun hx hb' k => lv_ldiv hx hb' d (fun z => h0 ((iL_eq hb InL_0).mp z)) (by rw [vL, iL_tdiv ha hb] at k; exact k)) k
theorem x_lrem {a b : Int} (ha : InL a) (hb : InL b) (h0 : b ≠ 0) (d : decode cc pc = .ok (.lrem, 1)) (k : X Γ B own nm cc nL ret lev mc ms (pc + 1) L (vL (a.tmod b) :: st) kc ks S V) : X Γ B own nm cc nL ret lev mc ms pc L (vL b :: vL a :: st) kc ks S V := x_pure (fun hx hb' k => lv_lrem hx hb' d (fun z => h0 ((iL_eq hb InL_0).mp z)) (by
  rw [vL, Int.tmod_def, Int64.ofInt_sub, Int.mul_comm, Int64.ofInt_mul, iL_tdiv ha hb] at k; exact k)) k
theorem iI_i2l {a : Int} (ha : InR a) : (Int32.ofInt a).toInt64 = Int64.ofInt a := by
  rw [← Int64.toInt_inj, Int32.toInt_toInt64, iI_toInt ha, iL_toInt ⟨by have := ha.1; omega, by have := ha.2; omega⟩]
theorem iL_l2i (a : Int) : (Int64.ofInt a).toInt32 = Int32.ofInt a := by
  rw [← Int32.ofInt_int64ToInt, Int64.toInt_ofInt, ← Int32.toInt_inj, Int32.toInt_ofInt, Int32.toInt_ofInt]
  exact Int.bmod_bmod_of_dvd (by decide)
theorem x_i2l {a : Int} (ha : InR a) (d : decode cc pc = .ok (.i2l, 1)) (k : X Γ B own nm cc nL ret lev mc ms (pc + 1) L (vL a :: st) kc ks S V) : X Γ B own nm cc nL ret lev mc ms pc L (vI a :: st) kc ks S V := x_pure (fun hx hb k => lv_i2l hx hb d (iI_i2l ha) k) k
theorem x_l2i {a : Int} (d : decode cc pc = .ok (.l2i, 1)) (k : X Γ B own nm cc nL ret lev mc ms (pc + 1) L (vI a :: st) kc ks S V) : X Γ B own nm cc nL ret lev mc ms pc L (vL a :: st) kc ks S V := x_pure (fun hx hb k => lv_l2i hx hb d (iL_l2i a) k) k
-- jumps
theorem x_goto {off : Int} {tgt : Nat} (d : decode cc pc = .ok (.goto off, 3)) (k : X Γ B own nm cc nL ret lev mc ms tgt L st kc ks S V) (ht : (pc : Int) + off = (tgt : Int) := by decide) : X Γ B own nm cc nL ret lev mc ms pc L st kc ks S V := x_pure (fun hx hb k => lv_goto hx hb d ht k) k
theorem x_icmp_eq {a b : Int} {off : Int} {tgt : Nat} (d : decode cc pc = .ok (.if_icmp .eq off, 3)) (ha : InR a) (hb : InR b) (k1 : a = b → X Γ B own nm cc nL ret lev mc ms tgt L st kc ks S V) (k2 : a ≠ b → X Γ B own nm cc nL ret lev mc ms (pc + 3) L st kc ks S V) (ht : (pc : Int) + off = (tgt : Int) := by decide) : X Γ B own nm cc nL ret lev mc ms pc L (vI b :: vI a :: st) kc ks S V := x_br (fun hx hb' h1 h2 => lv_icmp_eq hx hb' d ht (fun z => h1 ((iI_eq ha hb).mp z)) (fun z => h2 (fun q => z ((iI_eq ha hb).mpr q)))) k1 k2
theorem x_icmp_ne {a b : Int} {off : Int} {tgt : Nat} (d : decode cc pc = .ok (.if_icmp .ne off, 3)) (ha : InR a) (hb : InR b) (k1 : a ≠ b → X Γ B own nm cc nL ret lev mc ms tgt L st kc ks S V) (k2 : a = b → X Γ B own nm cc nL ret lev mc ms (pc + 3) L st kc ks S V) (ht : (pc : Int) + off = (tgt : Int) := by decide) : X Γ B own nm cc nL ret lev mc ms pc L (vI b :: vI a :: st) kc ks S V := x_br (fun hx hb' h1 h2 => lv_icmp_ne hx hb' d ht (fun z => h1 (fun q => z ((iI_eq ha hb).mpr q))) (fun z => h2 ((iI_eq ha hb).mp z))) k1 k2
theorem x_icmp_lt {a b : Int} {off : Int} {tgt : Nat} (d : decode cc pc = .ok (.if_icmp .lt off, 3)) (ha : InR a) (hb : InR b) (k1 : a < b → X Γ B own nm cc nL ret lev mc ms tgt L st kc ks S V) (k2 : b ≤ a → X Γ B own nm cc nL ret lev mc ms (pc + 3) L st kc ks S V) (ht : (pc : Int) + off = (tgt : Int) := by decide) : X Γ B own nm cc nL ret lev mc ms pc L (vI b :: vI a :: st) kc ks S V := x_br (fun hx hb' h1 h2 => lv_icmp_lt hx hb' d ht (fun z => h1 ((iI_lt ha hb).mp z)) (fun z => h2 (by have := mt (iI_lt ha hb).mpr z; omega))) k1 k2
theorem x_icmp_ge {a b : Int} {off : Int} {tgt : Nat} (d : decode cc pc = .ok (.if_icmp .ge off, 3)) (ha : InR a) (hb : InR b) (k1 : b ≤ a → X Γ B own nm cc nL ret lev mc ms tgt L st kc ks S V) (k2 : a < b → X Γ B own nm cc nL ret lev mc ms (pc + 3) L st kc ks S V) (ht : (pc : Int) + off = (tgt : Int) := by decide) : X Γ B own nm cc nL ret lev mc ms pc L (vI b :: vI a :: st) kc ks S V := x_br (fun hx hb' h1 h2 => lv_icmp_ge hx hb' d ht (fun z => h1 ((iI_le hb ha).mp z)) (fun z => h2 (by have := mt (iI_le hb ha).mpr z; omega))) k1 k2
theorem x_icmp_gt {a b : Int} {off : Int} {tgt : Nat} (d : decode cc pc = .ok (.if_icmp .gt off, 3)) (ha : InR a) (hb : InR b) (k1 : b < a → X Γ B own nm cc nL ret lev mc ms tgt L st kc ks S V) (k2 : a ≤ b → X Γ B own nm cc nL ret lev mc ms (pc + 3) L st kc ks S V) (ht : (pc : Int) + off = (tgt : Int) := by decide) : X Γ B own nm cc nL ret lev mc ms pc L (vI b :: vI a :: st) kc ks S V := x_br (fun hx hb' h1 h2 => lv_icmp_gt hx hb' d ht (fun z => h1 ((iI_lt hb ha).mp z)) (fun z => h2 (by have := mt (iI_lt hb ha).mpr z; omega))) k1 k2
theorem x_icmp_le {a b : Int} {off : Int} {tgt : Nat} (d : decode cc pc = .ok (.if_icmp .le off, 3)) (ha : InR a) (hb : InR b) (k1 : a ≤ b → X Γ B own nm cc nL ret lev mc ms tgt L st kc ks S V) (k2 : b < a → X Γ B own nm cc nL ret lev mc ms (pc + 3) L st kc ks S V) (ht : (pc : Int) + off = (tgt : Int) := by decide) : X Γ B own nm cc nL ret lev mc ms pc L (vI b :: vI a :: st) kc ks S V := x_br (fun hx hb' h1 h2 => lv_icmp_le hx hb' d ht (fun z => h1 ((iI_le ha hb).mp z)) (fun z => h2 (by have := mt (iI_le ha hb).mpr z; omega))) k1 k2
theorem x_if_eq {a : Int} {off : Int} {tgt : Nat} (d : decode cc pc = .ok (.ifCond .eq off, 3)) (ha : InR a) (k1 : a = 0 → X Γ B own nm cc nL ret lev mc ms tgt L st kc ks S V) (k2 : a ≠ 0 → X Γ B own nm cc nL ret lev mc ms (pc + 3) L st kc ks S V) (ht : (pc : Int) + off = (tgt : Int) := by decide) : X Γ B own nm cc nL ret lev mc ms pc L (vI a :: st) kc ks S V := x_br (fun hx hb' h1 h2 => lv_if_eq hx hb' d ht (fun z => h1 ((iI_eq0 ha).mp z)) (fun z => h2 (fun q => z ((iI_eq0 ha).mpr q)))) k1 k2
theorem x_if_ne {a : Int} {off : Int} {tgt : Nat} (d : decode cc pc = .ok (.ifCond .ne off, 3)) (ha : InR a) (k1 : a ≠ 0 → X Γ B own nm cc nL ret lev mc ms tgt L st kc ks S V) (k2 : a = 0 → X Γ B own nm cc nL ret lev mc ms (pc + 3) L st kc ks S V) (ht : (pc : Int) + off = (tgt : Int) := by decide) : X Γ B own nm cc nL ret lev mc ms pc L (vI a :: st) kc ks S V := x_br (fun hx hb' h1 h2 => lv_if_ne hx hb' d ht (fun z => h1 (fun q => z ((iI_eq0 ha).mpr q))) (fun z => h2 ((iI_eq0 ha).mp z))) k1 k2
theorem x_if_lt {a : Int} {off : Int} {tgt : Nat} (d : decode cc pc = .ok (.ifCond .lt off, 3)) (ha : InR a) (k1 : a < 0 → X Γ B own nm cc nL ret lev mc ms tgt L st kc ks S V) (k2 : 0 ≤ a → X Γ B own nm cc nL ret lev mc ms (pc + 3) L st kc ks S V) (ht : (pc : Int) + off = (tgt : Int) := by decide) : X Γ B own nm cc nL ret lev mc ms pc L (vI a :: st) kc ks S V := x_br (fun hx hb' h1 h2 => lv_if_lt hx hb' d ht (fun z => h1 ((iI_lt0 ha).mp z)) (fun z => h2 (by have := mt (iI_lt0 ha).mpr z; omega))) k1 k2
theorem x_if_ge {a : Int} {off : Int} {tgt : Nat} (d : decode cc pc = .ok (.ifCond .ge off, 3)) (ha : InR a) (k1 : 0 ≤ a → X Γ B own nm cc nL ret lev mc ms tgt L st kc ks S V) (k2 : a < 0 → X Γ B own nm cc nL ret lev mc ms (pc + 3) L st kc ks S V) (ht : (pc : Int) + off = (tgt : Int) := by decide) : X Γ B own nm cc nL ret lev mc ms pc L (vI a :: st) kc ks S V := x_br (fun hx hb' h1 h2 => lv_if_ge hx hb' d ht (fun z => h1 ((iI_0le ha).mp z)) (fun z => h2 (by have := mt (iI_0le ha).mpr z; omega))) k1 k2
theorem x_if_gt {a : Int} {off : Int} {tgt : Nat} (d : decode cc pc = .ok (.ifCond .gt off, 3)) (ha : InR a) (k1 : 0 < a → X Γ B own nm cc nL ret lev mc ms tgt L st kc ks S V) (k2 : a ≤ 0 → X Γ B own nm cc nL ret lev mc ms (pc + 3) L st kc ks S V) (ht : (pc : Int) + off = (tgt : Int) := by decide) : X Γ B own nm cc nL ret lev mc ms pc L (vI a :: st) kc ks S V := x_br (fun hx hb' h1 h2 => lv_if_gt hx hb' d ht (fun z => h1 ((iI_0lt ha).mp z)) (fun z => h2 (by have := mt (iI_0lt ha).mpr z; omega))) k1 k2
theorem x_if_le {a : Int} {off : Int} {tgt : Nat} (d : decode cc pc = .ok (.ifCond .le off, 3)) (ha : InR a) (k1 : a ≤ 0 → X Γ B own nm cc nL ret lev mc ms tgt L st kc ks S V) (k2 : 0 < a → X Γ B own nm cc nL ret lev mc ms (pc + 3) L st kc ks S V) (ht : (pc : Int) + off = (tgt : Int) := by decide) : X Γ B own nm cc nL ret lev mc ms pc L (vI a :: st) kc ks S V := x_br (fun hx hb' h1 h2 => lv_if_le hx hb' d ht (fun z => h1 ((iI_le0 ha).mp z)) (fun z => h2 (by have := mt (iI_le0 ha).mpr z; omega))) k1 k2
theorem ite_r (c : Prop) [Decidable c] : InR (if c then 1 else 0) := by split <;> omega
theorem x_ifb_eq {c : Prop} [Decidable c] {off : Int} {tgt : Nat} (d : decode cc pc = .ok (.ifCond .eq off, 3)) (k1 : ¬ c → X Γ B own nm cc nL ret lev mc ms tgt L st kc ks S V) (k2 : c → X Γ B own nm cc nL ret lev mc ms (pc + 3) L st kc ks S V) (ht : (pc : Int) + off = (tgt : Int) := by decide) : X Γ B own nm cc nL ret lev mc ms pc L (vI (if c then 1 else 0) :: st) kc ks S V := x_if_eq d (ite_r c) (fun z => k1 (fun q => by simp [q] at z)) (fun z => k2 (by by_cases q : c; exact q; simp [q] at z)) ht
theorem x_ifb_ne {c : Prop} [Decidable c] {off : Int} {tgt : Nat} (d : decode cc pc = .ok (.ifCond .ne off, 3)) (k1 : c → X Γ B own nm cc nL ret lev mc ms tgt L st kc ks S V) (k2 : ¬ c → X Γ B own nm cc nL ret lev mc ms (pc + 3) L st kc ks S V) (ht : (pc : Int) + off = (tgt : Int) := by decide) : X Γ B own nm cc nL ret lev mc ms pc L (vI (if c then 1 else 0) :: st) kc ks S V := x_if_ne d (ite_r c) (fun z => k1 (by by_cases q : c; exact q; simp [q] at z)) (fun z => k2 (fun q => by simp [q] at z)) ht
theorem x_lcmp_eq {a b : Int} {off : Int} {tgt : Nat} (d0 : decode cc pc = .ok (.lcmp, 1)) (d : decode cc (pc + 1) = .ok (.ifCond .eq off, 3)) (ha : InL a) (hb : InL b) (k1 : a = b → X Γ B own nm cc nL ret lev mc ms tgt L st kc ks S V) (k2 : a ≠ b → X Γ B own nm cc nL ret lev mc ms (pc + 4) L st kc ks S V) (ht : ((pc + 1 : Nat) : Int) + off = (tgt : Int) := by decide) : X Γ B own nm cc nL ret lev mc ms pc L (vL b :: vL a :: st) kc ks S V := x_br (pc2 := pc + 4) (fun hx hb' h1 h2 => W.lcmp hx hb' d0 (lv_if_eq hx hb' d ht (fun z => h1 (((lg_cmp_eq _ _).trans (iL_eq ha hb)).mp z)) (fun z => h2 (fun q => z (((lg_cmp_eq _ _).trans (iL_eq ha hb)).mpr q))))) k1 k2
theorem x_lcmp_ne {a b : Int} {off : Int} {tgt : Nat} (d0 : decode cc pc = .ok (.lcmp, 1)) (d : decode cc (pc + 1) = .ok (.ifCond .ne off, 3)) (ha : InL a) (hb : InL b) (k1 : a ≠ b → X Γ B own nm cc nL ret lev mc ms tgt L st kc ks S V) (k2 : a = b → X Γ B own nm cc nL ret lev mc ms (pc + 4) L st kc ks S V) (ht : ((pc + 1 : Nat) : Int) + off = (tgt : Int) := by decide) : X Γ B own nm cc nL ret lev mc ms pc L (vL b :: vL a :: st) kc ks S V := x_br (pc2 := pc + 4) (fun hx hb' h1 h2 => W.lcmp hx hb' d0 (lv_if_ne hx hb' d ht (fun z => h1 (fun q => z (((lg_cmp_eq _ _).trans (iL_eq ha hb)).mpr q))) (fun z => h2 (((lg_cmp_eq _ _).trans (iL_eq ha hb)).mp z)))) k1 k2
theorem x_lcmp_lt {a b : Int} {off : Int} {tgt : Nat} (d0 : decode cc pc = .ok (.lcmp, 1)) (d : decode cc (pc + 1) = .ok (.ifCond .lt off, 3)) (ha : InL a) (hb : InL b) (k1 : a < b → X Γ B own nm cc nL ret lev mc ms tgt L st kc ks S V) (k2 : b ≤ a → X Γ B own nm cc nL ret lev mc ms (pc + 4) L st kc ks S V) (ht : ((pc + 1 : Nat) : Int) + off = (tgt : Int) := by decide) : X Γ B own nm cc nL ret lev mc ms pc L (vL b :: vL a :: st) kc ks S V := x_br (pc2 := pc + 4) (fun hx hb' h1 h2 => W.lcmp hx hb' d0 (lv_if_lt hx hb' d ht (fun z => h1 (((lg_cmp_lt _ _).trans (iL_lt ha hb)).mp z)) (fun z => h2 (by have := mt ((lg_cmp_lt _ _).trans (iL_lt ha hb)).mpr z; omega)))) k1 k2
theorem x_lcmp_ge {a b : Int} {off : Int} {tgt : Nat} (d0 : decode cc pc = .ok (.lcmp, 1)) (d : decode cc (pc + 1) = .ok (.ifCond .ge off, 3)) (ha : InL a) (hb : InL b) (k1 : b ≤ a → X Γ B own nm cc nL ret lev mc ms tgt L st kc ks S V) (k2 : a < b → X Γ B own nm cc nL ret lev mc ms (pc + 4) L st kc ks S V) (ht : ((pc + 1 : Nat) : Int) + off = (tgt : Int) := by decide) : X Γ B own nm cc nL ret lev mc ms pc L (vL b :: vL a :: st) kc ks S V := x_br (pc2 := pc + 4) (fun hx hb' h1 h2 => W.lcmp hx hb' d0 (lv_if_ge hx hb' d ht (fun z => h1 (((lg_cmp_ge _ _).trans (iL_le hb ha)).mp z)) (fun z => h2 (by have := mt ((lg_cmp_ge _ _).trans (iL_le hb ha)).mpr z; omega)))) k1 k2
theorem x_lcmp_gt {a b : Int} {off : Int} {tgt : Nat} (d0 : decode cc pc = .ok (.lcmp, 1)) (d : decode cc (pc + 1) = .ok (.ifCond .gt off, 3)) (ha : InL a) (hb : InL b) (k1 : b < a → X Γ B own nm cc nL ret lev mc ms tgt L st kc ks S V) (k2 : a ≤ b → X Γ B own nm cc nL ret lev mc ms (pc + 4) L st kc ks S V) (ht : ((pc + 1 : Nat) : Int) + off = (tgt : Int) := by decide) : X Γ B own nm cc nL ret lev mc ms pc L (vL b :: vL a :: st) kc ks S V := x_br (pc2 := pc + 4) (fun hx hb' h1 h2 => W.lcmp hx hb' d0 (lv_if_gt hx hb' d ht (fun z => h1 (((lg_cmp_gt _ _).trans (iL_lt hb ha)).mp z)) (fun z => h2 (by have := mt ((lg_cmp_gt _ _).trans (iL_lt hb ha)).mpr z; omega)))) k1 k2
theorem x_lcmp_le {a b : Int} {off : Int} {tgt : Nat} (d0 : decode cc pc = .ok (.lcmp, 1)) (d : decode cc (pc + 1) = .ok (.ifCond .le off, 3)) (ha : InL a) (hb : InL b) (k1 : a ≤ b → X Γ B own nm cc nL ret lev mc ms tgt L st kc ks S V) (k2 : b < a → X Γ B own nm cc nL ret lev mc ms (pc + 4) L st kc ks S V) (ht : ((pc + 1 : Nat) : Int) + off = (tgt : Int) := by decide) : X Γ B own nm cc nL ret lev mc ms pc L (vL b :: vL a :: st) kc ks S V := x_br (pc2 := pc + 4) (fun hx hb' h1 h2 => W.lcmp hx hb' d0 (lv_if_le hx hb' d ht (fun z => h1 (((lg_cmp_le _ _).trans (iL_le ha hb)).mp z)) (fun z => h2 (by have := mt ((lg_cmp_le _ _).trans (iL_le ha hb)).mpr z; omega)))) k1 k2
theorem x_il0 {T : List (Option Value)} {x : Int} (d : decode cc pc = .ok (.iload_n 0, 1)) (k : X Γ B own nm cc nL ret lev mc ms (pc + 1) (some (vI x) :: T) (vI x :: st) kc ks S V) : X Γ B own nm cc nL ret lev mc ms pc (some (vI x) :: T) st kc ks S V := by
  obtain ⟨p, l, e, R, s, m, args, below, meth, c, Q, D, ca⟩ := Γ
  intro o H locs ls h1 h2 h3
  have hl := h3.at_ (i := 0) rfl
  have hx := o.1
  have hb := o.2.1
  have k := k o H locs ls h1 h2 h3
  exact lv_iload_n hx hb d rfl hl k
theorem x_ll0 {T : List (Option Value)} {x : Int} (d : decode cc pc = .ok (.lload_n 0, 1)) (k : X Γ B own nm cc nL ret lev mc ms (pc + 1) (some (vL x) :: T) (vL x :: st) kc ks S V) : X Γ B own nm cc nL ret lev mc ms pc (some (vL x) :: T) st kc ks S V := by
  obtain ⟨p, l, e, R, s, m, args, below, meth, c, Q, D, ca⟩ := Γ
  intro o H locs ls h1 h2 h3
  have hl := h3.at_ (i := 0) rfl
  have hx := o.1
  have hb := o.2.1
  have k := k o H locs ls h1 h2 h3
  exact lv_lload_n hx hb d rfl hl k
theorem x_al0 {T : List (Option Value)} {x : Nat} (d : decode cc pc = .ok (.aload_n 0, 1)) (k : X Γ B own nm cc nL ret lev mc ms (pc + 1) (some (vR B x) :: T) (vR B x :: st) kc ks S V) : X Γ B own nm cc nL ret lev mc ms pc (some (vR B x) :: T) st kc ks S V := by
  obtain ⟨p, l, e, R, s, m, args, below, meth, c, Q, D, ca⟩ := Γ
  intro o H locs ls h1 h2 h3
  have hl := h3.at_ (i := 0) rfl
  have hx := o.1
  have hb := o.2.1
  have k := k o H locs ls h1 h2 h3
  exact lv_aload_n hx hb d rfl hl k
theorem x_rl0 {T : List (Option Value)} {x : Nat} (d : decode cc pc = .ok (.aload_n 0, 1)) (k : X Γ B own nm cc nL ret lev mc ms (pc + 1) (some ((.ref x : Value)) :: T) ((.ref x : Value) :: st) kc ks S V) : X Γ B own nm cc nL ret lev mc ms pc (some ((.ref x : Value)) :: T) st kc ks S V := by
  obtain ⟨p, l, e, R, s, m, args, below, meth, c, Q, D, ca⟩ := Γ
  intro o H locs ls h1 h2 h3
  have hl := h3.at_ (i := 0) rfl
  have hx := o.1
  have hb := o.2.1
  have k := k o H locs ls h1 h2 h3
  exact lv_aload_n hx hb d rfl hl k
theorem x_is0 {a0 : Option Value} {T : List (Option Value)} {x : Int} (d : decode cc pc = .ok (.istore_n 0, 1)) (k : X Γ B own nm cc nL ret lev mc ms (pc + 1) (some (vI x) :: T) st kc ks S V) (hn : 0 < nL := by decide) : X Γ B own nm cc nL ret lev mc ms pc (a0 :: T) (vI x :: st) kc ks S V := by
  obtain ⟨p, l, e, R, s, m, args, below, meth, c, Q, D, ca⟩ := Γ
  intro o H locs ls h1 h2 h3
  have hp : ∀ w, 0 < 0 → (a0 :: T)[0 - 1]? = some w → c1 w = true := fun w h _ => absurd h (by omega)
  have hx := o.1
  have hb := o.2.1
  exact lv_istore_n hx hb d rfl h3 hn rfl (fun ls' hl => k o H locs ls' h1 h2 (LH_st1 hl hp))
theorem x_as0 {a0 : Option Value} {T : List (Option Value)} {x : Nat} (d : decode cc pc = .ok (.astore_n 0, 1)) (k : X Γ B own nm cc nL ret lev mc ms (pc + 1) (some (vR B x) :: T) st kc ks S V) (hn : 0 < nL := by decide) : X Γ B own nm cc nL ret lev mc ms pc (a0 :: T) (vR B x :: st) kc ks S V := by
  obtain ⟨p, l, e, R, s, m, args, below, meth, c, Q, D, ca⟩ := Γ
  intro o H locs ls h1 h2 h3
  have hp : ∀ w, 0 < 0 → (a0 :: T)[0 - 1]? = some w → c1 w = true := fun w h _ => absurd h (by omega)
  have hx := o.1
  have hb := o.2.1
  exact lv_astore_n hx hb d rfl h3 hn rfl (fun ls' hl => k o H locs ls' h1 h2 (LH_st1 hl hp))
theorem x_rs0 {a0 : Option Value} {T : List (Option Value)} {x : Nat} (d : decode cc pc = .ok (.astore_n 0, 1)) (k : X Γ B own nm cc nL ret lev mc ms (pc + 1) (some ((.ref x : Value)) :: T) st kc ks S V) (hn : 0 < nL := by decide) : X Γ B own nm cc nL ret lev mc ms pc (a0 :: T) ((.ref x : Value) :: st) kc ks S V := by
  obtain ⟨p, l, e, R, s, m, args, below, meth, c, Q, D, ca⟩ := Γ
  intro o H locs ls h1 h2 h3
  have hp : ∀ w, 0 < 0 → (a0 :: T)[0 - 1]? = some w → c1 w = true := fun w h _ => absurd h (by omega)
  have hx := o.1
  have hb := o.2.1
  exact lv_astore_n hx hb d rfl h3 hn rfl (fun ls' hl => k o H locs ls' h1 h2 (LH_st1 hl hp))
theorem x_ls0 {a0 a1 : Option Value} {T : List (Option Value)} {x : Int} (d : decode cc pc = .ok (.lstore_n 0, 1)) (k : X Γ B own nm cc nL ret lev mc ms (pc + 1) (some (vL x) :: none :: T) st kc ks S V) (hn : 0 + 1 < nL := by decide) : X Γ B own nm cc nL ret lev mc ms pc (a0 :: a1 :: T) (vL x :: st) kc ks S V := by
  obtain ⟨p, l, e, R, s, m, args, below, meth, c, Q, D, ca⟩ := Γ
  intro o H locs ls h1 h2 h3
  have hp : ∀ w, 0 < 0 → (a0 :: a1 :: T)[0 - 1]? = some w → c1 w = true := fun w h _ => absurd h (by omega)
  have hx := o.1
  have hb := o.2.1
  exact lv_lstore_n hx hb d rfl h3 hn rfl (fun ls' hl => k o H locs ls' h1 h2 (LH_st2 hl hp))
theorem x_inc0 {T : List (Option Value)} {x n : Int} (d : decode cc pc = .ok (.iinc 0 n, 3)) (k : X Γ B own nm cc nL ret lev mc ms (pc + 3) (some (vI (x + n)) :: T) st kc ks S V) (hn : 0 < nL := by decide) : X Γ B own nm cc nL ret lev mc ms pc (some (vI x) :: T) st kc ks S V := by
  obtain ⟨p, l, e, R, s, m, args, below, meth, c, Q, D, ca⟩ := Γ
  intro o H locs ls h1 h2 h3
  have hp : ∀ w, 0 < 0 → (some (vI x) :: T)[0 - 1]? = some w → c1 w = true := fun w h _ => absurd h (by omega)
  have hm : (0, vI x) ∈ lvp 0 (some (vI x) :: T) := (lvp_mem _ 0 0 _).mpr ⟨Nat.zero_le _, rfl⟩
  obtain ⟨j, hj⟩ := List.getElem?_of_mem hm
  exact lv_iinc (x := Int32.ofInt x) (v := Int32.ofInt (x + n)) (k := j) o.1 o.2.1 d h3 hj (Int32.ofInt_add x n).symm hn rfl (fun ls' hl => k o H locs ls' h1 h2 (LH_st1 hl hp))
theorem x_il1 {a0 : Option Value} {T : List (Option Value)} {x : Int} (d : decode cc pc = .ok (.iload_n 1, 1)) (k : X Γ B own nm cc nL ret lev mc ms (pc + 1) (a0 :: some (vI x) :: T) (vI x :: st) kc ks S V) : X Γ B own nm cc nL ret lev mc ms pc (a0 :: some (vI x) :: T) st kc ks S V := by
  obtain ⟨p, l, e, R, s, m, args, below, meth, c, Q, D, ca⟩ := Γ
  intro o H locs ls h1 h2 h3
  have hl := h3.at_ (i := 1) rfl
  have hx := o.1
  have hb := o.2.1
  have k := k o H locs ls h1 h2 h3
  exact lv_iload_n hx hb d rfl hl k
theorem x_ll1 {a0 : Option Value} {T : List (Option Value)} {x : Int} (d : decode cc pc = .ok (.lload_n 1, 1)) (k : X Γ B own nm cc nL ret lev mc ms (pc + 1) (a0 :: some (vL x) :: T) (vL x :: st) kc ks S V) : X Γ B own nm cc nL ret lev mc ms pc (a0 :: some (vL x) :: T) st kc ks S V := by
  obtain ⟨p, l, e, R, s, m, args, below, meth, c, Q, D, ca⟩ := Γ
  intro o H locs ls h1 h2 h3
  have hl := h3.at_ (i := 1) rfl
  have hx := o.1
  have hb := o.2.1
  have k := k o H locs ls h1 h2 h3
  exact lv_lload_n hx hb d rfl hl k
theorem x_al1 {a0 : Option Value} {T : List (Option Value)} {x : Nat} (d : decode cc pc = .ok (.aload_n 1, 1)) (k : X Γ B own nm cc nL ret lev mc ms (pc + 1) (a0 :: some (vR B x) :: T) (vR B x :: st) kc ks S V) : X Γ B own nm cc nL ret lev mc ms pc (a0 :: some (vR B x) :: T) st kc ks S V := by
  obtain ⟨p, l, e, R, s, m, args, below, meth, c, Q, D, ca⟩ := Γ
  intro o H locs ls h1 h2 h3
  have hl := h3.at_ (i := 1) rfl
  have hx := o.1
  have hb := o.2.1
  have k := k o H locs ls h1 h2 h3
  exact lv_aload_n hx hb d rfl hl k
theorem x_rl1 {a0 : Option Value} {T : List (Option Value)} {x : Nat} (d : decode cc pc = .ok (.aload_n 1, 1)) (k : X Γ B own nm cc nL ret lev mc ms (pc + 1) (a0 :: some ((.ref x : Value)) :: T) ((.ref x : Value) :: st) kc ks S V) : X Γ B own nm cc nL ret lev mc ms pc (a0 :: some ((.ref x : Value)) :: T) st kc ks S V := by
  obtain ⟨p, l, e, R, s, m, args, below, meth, c, Q, D, ca⟩ := Γ
  intro o H locs ls h1 h2 h3
  have hl := h3.at_ (i := 1) rfl
  have hx := o.1
  have hb := o.2.1
  have k := k o H locs ls h1 h2 h3
  exact lv_aload_n hx hb d rfl hl k
theorem x_is1 {a1 : Option Value} {a0 : Option Value} {T : List (Option Value)} {x : Int} (d : decode cc pc = .ok (.istore_n 1, 1)) (k : X Γ B own nm cc nL ret lev mc ms (pc + 1) (a0 :: some (vI x) :: T) st kc ks S V) (hc : c1 a0 = true := by rfl) (hn : 1 < nL := by decide) : X Γ B own nm cc nL ret lev mc ms pc (a0 :: a1 :: T) (vI x :: st) kc ks S V := by
  obtain ⟨p, l, e, R, s, m, args, below, meth, c, Q, D, ca⟩ := Γ
  intro o H locs ls h1 h2 h3
  have hp : ∀ w, 0 < 1 → (a0 :: a1 :: T)[1 - 1]? = some w → c1 w = true := fun w _ h => by
    have h : some a0 = some w := h
    cases h
    exact hc
  have hx := o.1
  have hb := o.2.1
  exact lv_istore_n hx hb d rfl h3 hn rfl (fun ls' hl => k o H locs ls' h1 h2 (LH_st1 hl hp))
theorem x_as1 {a1 : Option Value} {a0 : Option Value} {T : List (Option Value)} {x : Nat} (d : decode cc pc = .ok (.astore_n 1, 1)) (k : X Γ B own nm cc nL ret lev mc ms (pc + 1) (a0 :: some (vR B x) :: T) st kc ks S V) (hc : c1 a0 = true := by rfl) (hn : 1 < nL := by decide) : X Γ B own nm cc nL ret lev mc ms pc (a0 :: a1 :: T) (vR B x :: st) kc ks S V := by
  obtain ⟨p, l, e, R, s, m, args, below, meth, c, Q, D, ca⟩ := Γ
  intro o H locs ls h1 h2 h3
  have hp : ∀ w, 0 < 1 → (a0 :: a1 :: T)[1 - 1]? = some w → c1 w = true := fun w _ h => by
    have h : some a0 = some w := h
    cases h
    exact hc
  have hx := o.1
  have hb := o.2.1
  exact lv_astore_n hx hb d rfl h3 hn rfl (fun ls' hl => k o H locs ls' h1 h2 (LH_st1 hl hp))
theorem x_rs1 {a1 : Option Value} {a0 : Option Value} {T : List (Option Value)} {x : Nat} (d : decode cc pc = .ok (.astore_n 1, 1)) (k : X Γ B own nm cc nL ret lev mc ms (pc + 1) (a0 :: some ((.ref x : Value)) :: T) st kc ks S V) (hc : c1 a0 = true := by rfl) (hn : 1 < nL := by decide) : X Γ B own nm cc nL ret lev mc ms pc (a0 :: a1 :: T) ((.ref x : Value) :: st) kc ks S V := by
  obtain ⟨p, l, e, R, s, m, args, below, meth, c, Q, D, ca⟩ := Γ
  intro o H locs ls h1 h2 h3
  have hp : ∀ w, 0 < 1 → (a0 :: a1 :: T)[1 - 1]? = some w → c1 w = true := fun w _ h => by
    have h : some a0 = some w := h
    cases h
    exact hc
  have hx := o.1
  have hb := o.2.1
  exact lv_astore_n hx hb d rfl h3 hn rfl (fun ls' hl => k o H locs ls' h1 h2 (LH_st1 hl hp))
theorem x_ls1 {a1 a2 : Option Value} {a0 : Option Value} {T : List (Option Value)} {x : Int} (d : decode cc pc = .ok (.lstore_n 1, 1)) (k : X Γ B own nm cc nL ret lev mc ms (pc + 1) (a0 :: some (vL x) :: none :: T) st kc ks S V) (hc : c1 a0 = true := by rfl) (hn : 1 + 1 < nL := by decide) : X Γ B own nm cc nL ret lev mc ms pc (a0 :: a1 :: a2 :: T) (vL x :: st) kc ks S V := by
  obtain ⟨p, l, e, R, s, m, args, below, meth, c, Q, D, ca⟩ := Γ
  intro o H locs ls h1 h2 h3
  have hp : ∀ w, 0 < 1 → (a0 :: a1 :: a2 :: T)[1 - 1]? = some w → c1 w = true := fun w _ h => by
    have h : some a0 = some w := h
    cases h
    exact hc
  have hx := o.1
  have hb := o.2.1
  exact lv_lstore_n hx hb d rfl h3 hn rfl (fun ls' hl => k o H locs ls' h1 h2 (LH_st2 hl hp))
theorem x_inc1 {a0 : Option Value} {T : List (Option Value)} {x n : Int} (d : decode cc pc = .ok (.iinc 1 n, 3)) (k : X Γ B own nm cc nL ret lev mc ms (pc + 3) (a0 :: some (vI (x + n)) :: T) st kc ks S V) (hc : c1 a0 = true := by rfl) (hn : 1 < nL := by decide) : X Γ B own nm cc nL ret lev mc ms pc (a0 :: some (vI x) :: T) st kc ks S V := by
  obtain ⟨p, l, e, R, s, m, args, below, meth, c, Q, D, ca⟩ := Γ
  intro o H locs ls h1 h2 h3
  have hp : ∀ w, 0 < 1 → (a0 :: some (vI x) :: T)[1 - 1]? = some w → c1 w = true := fun w _ h => by
    have h : some a0 = some w := h
    cases h
    exact hc
  have hm : (1, vI x) ∈ lvp 0 (a0 :: some (vI x) :: T) := (lvp_mem _ 0 1 _).mpr ⟨Nat.zero_le _, rfl⟩
  obtain ⟨j, hj⟩ := List.getElem?_of_mem hm
  exact lv_iinc (x := Int32.ofInt x) (v := Int32.ofInt (x + n)) (k := j) o.1 o.2.1 d h3 hj (Int32.ofInt_add x n).symm hn rfl (fun ls' hl => k o H locs ls' h1 h2 (LH_st1 hl hp))
theorem x_il2 {a0 a1 : Option Value} {T : List (Option Value)} {x : Int} (d : decode cc pc = .ok (.iload_n 2, 1)) (k : X Γ B own nm cc nL ret lev mc ms (pc + 1) (a0 :: a1 :: some (vI x) :: T) (vI x :: st) kc ks S V) : X Γ B own nm cc nL ret lev mc ms pc (a0 :: a1 :: some (vI x) :: T) st kc ks S V := by
  obtain ⟨p, l, e, R, s, m, args, below, meth, c, Q, D, ca⟩ := Γ
  intro o H locs ls h1 h2 h3
  have hl := h3.at_ (i := 2) rfl
  have hx := o.1
  have hb := o.2.1
  have k := k o H locs ls h1 h2 h3
  exact lv_iload_n hx hb d rfl hl k
theorem x_ll2 {a0 a1 : Option Value} {T : List (Option Value)} {x : Int} (d : decode cc pc = .ok (.lload_n 2, 1)) (k : X Γ B own nm cc nL ret lev mc ms (pc + 1) (a0 :: a1 :: some (vL x) :: T) (vL x :: st) kc ks S V) : X Γ B own nm cc nL ret lev mc ms pc (a0 :: a1 :: some (vL x) :: T) st kc ks S V := by
  obtain ⟨p, l, e, R, s, m, args, below, meth, c, Q, D, ca⟩ := Γ
  intro o H locs ls h1 h2 h3
  have hl := h3.at_ (i := 2) rfl
  have hx := o.1
  have hb := o.2.1
  have k := k o H locs ls h1 h2 h3
  exact lv_lload_n hx hb d rfl hl k
theorem x_al2 {a0 a1 : Option Value} {T : List (Option Value)} {x : Nat} (d : decode cc pc = .ok (.aload_n 2, 1)) (k : X Γ B own nm cc nL ret lev mc ms (pc + 1) (a0 :: a1 :: some (vR B x) :: T) (vR B x :: st) kc ks S V) : X Γ B own nm cc nL ret lev mc ms pc (a0 :: a1 :: some (vR B x) :: T) st kc ks S V := by
  obtain ⟨p, l, e, R, s, m, args, below, meth, c, Q, D, ca⟩ := Γ
  intro o H locs ls h1 h2 h3
  have hl := h3.at_ (i := 2) rfl
  have hx := o.1
  have hb := o.2.1
  have k := k o H locs ls h1 h2 h3
  exact lv_aload_n hx hb d rfl hl k
theorem x_rl2 {a0 a1 : Option Value} {T : List (Option Value)} {x : Nat} (d : decode cc pc = .ok (.aload_n 2, 1)) (k : X Γ B own nm cc nL ret lev mc ms (pc + 1) (a0 :: a1 :: some ((.ref x : Value)) :: T) ((.ref x : Value) :: st) kc ks S V) : X Γ B own nm cc nL ret lev mc ms pc (a0 :: a1 :: some ((.ref x : Value)) :: T) st kc ks S V := by
  obtain ⟨p, l, e, R, s, m, args, below, meth, c, Q, D, ca⟩ := Γ
  intro o H locs ls h1 h2 h3
  have hl := h3.at_ (i := 2) rfl
  have hx := o.1
  have hb := o.2.1
  have k := k o H locs ls h1 h2 h3
  exact lv_aload_n hx hb d rfl hl k
theorem x_is2 {a2 : Option Value} {a0 a1 : Option Value} {T : List (Option Value)} {x : Int} (d : decode cc pc = .ok (.istore_n 2, 1)) (k : X Γ B own nm cc nL ret lev mc ms (pc + 1) (a0 :: a1 :: some (vI x) :: T) st kc ks S V) (hc : c1 a1 = true := by rfl) (hn : 2 < nL := by decide) : X Γ B own nm cc nL ret lev mc ms pc (a0 :: a1 :: a2 :: T) (vI x :: st) kc ks S V := by
  obtain ⟨p, l, e, R, s, m, args, below, meth, c, Q, D, ca⟩ := Γ
  intro o H locs ls h1 h2 h3
  have hp : ∀ w, 0 < 2 → (a0 :: a1 :: a2 :: T)[2 - 1]? = some w → c1 w = true := fun w _ h => by
    have h : some a1 = some w := h
    cases h
    exact hc
  have hx := o.1
  have hb := o.2.1
  exact lv_istore_n hx hb d rfl h3 hn rfl (fun ls' hl => k o H locs ls' h1 h2 (LH_st1 hl hp))
theorem x_as2 {a2 : Option Value} {a0 a1 : Option Value} {T : List (Option Value)} {x : Nat} (d : decode cc pc = .ok (.astore_n 2, 1)) (k : X Γ B own nm cc nL ret lev mc ms (pc + 1) (a0 :: a1 :: some (vR B x) :: T) st kc ks S V) (hc : c1 a1 = true := by rfl) (hn : 2 < nL := by decide) : X Γ B own nm cc nL ret lev mc ms pc (a0 :: a1 :: a2 :: T) (vR B x :: st) kc ks S V := by
  obtain ⟨p, l, e, R, s, m, args, below, meth, c, Q, D, ca⟩ := Γ
  intro o H locs ls h1 h2 h3
  have hp : ∀ w, 0 < 2 → (a0 :: a1 :: a2 :: T)[2 - 1]? = some w → c1 w = true := fun w _ h => by
    have h : some a1 = some w := h
    cases h
    exact hc
  have hx := o.1
  have hb := o.2.1
  exact lv_astore_n hx hb d rfl h3 hn rfl (fun ls' hl => k o H locs ls' h1 h2 (LH_st1 hl hp))
theorem x_rs2 {a2 : Option Value} {a0 a1 : Option Value} {T : List (Option Value)} {x : Nat} (d : decode cc pc = .ok (.astore_n 2, 1)) (k : X Γ B own nm cc nL ret lev mc ms (pc + 1) (a0 :: a1 :: some ((.ref x : Value)) :: T) st kc ks S V) (hc : c1 a1 = true := by rfl) (hn : 2 < nL := by decide) : X Γ B own nm cc nL ret lev mc ms pc (a0 :: a1 :: a2 :: T) ((.ref x : Value) :: st) kc ks S V := by
  obtain ⟨p, l, e, R, s, m, args, below, meth, c, Q, D, ca⟩ := Γ
  intro o H locs ls h1 h2 h3
  have hp : ∀ w, 0 < 2 → (a0 :: a1 :: a2 :: T)[2 - 1]? = some w → c1 w = true := fun w _ h => by
    have h : some a1 = some w := h
    cases h
    exact hc
  have hx := o.1
  have hb := o.2.1
  exact lv_astore_n hx hb d rfl h3 hn rfl (fun ls' hl => k o H locs ls' h1 h2 (LH_st1 hl hp))
theorem x_ls2 {a2 a3 : Option Value} {a0 a1 : Option Value} {T : List (Option Value)} {x : Int} (d : decode cc pc = .ok (.lstore_n 2, 1)) (k : X Γ B own nm cc nL ret lev mc ms (pc + 1) (a0 :: a1 :: some (vL x) :: none :: T) st kc ks S V) (hc : c1 a1 = true := by rfl) (hn : 2 + 1 < nL := by decide) : X Γ B own nm cc nL ret lev mc ms pc (a0 :: a1 :: a2 :: a3 :: T) (vL x :: st) kc ks S V := by
  obtain ⟨p, l, e, R, s, m, args, below, meth, c, Q, D, ca⟩ := Γ
  intro o H locs ls h1 h2 h3
  have hp : ∀ w, 0 < 2 → (a0 :: a1 :: a2 :: a3 :: T)[2 - 1]? = some w → c1 w = true := fun w _ h => by
    have h : some a1 = some w := h
    cases h
    exact hc
  have hx := o.1
  have hb := o.2.1
  exact lv_lstore_n hx hb d rfl h3 hn rfl (fun ls' hl => k o H locs ls' h1 h2 (LH_st2 hl hp))
theorem x_inc2 {a0 a1 : Option Value} {T : List (Option Value)} {x n : Int} (d : decode cc pc = .ok (.iinc 2 n, 3)) (k : X Γ B own nm cc nL ret lev mc ms (pc + 3) (a0 :: a1 :: some (vI (x + n)) :: T) st kc ks S V) (hc : c1 a1 = true := by rfl) (hn : 2 < nL := by decide) : X Γ B own nm cc nL ret lev mc ms pc (a0 :: a1 :: some (vI x) :: T) st kc ks S V := by
  obtain ⟨p, l, e, R, s, m, args, below, meth, c, Q, D, ca⟩ := Γ
  intro o H locs ls h1 h2 h3
  have hp : ∀ w, 0 < 2 → (a0 :: a1 :: some (vI x) :: T)[2 - 1]? = some w → c1 w = true := fun w _ h => by
    have h : some a1 = some w := h
    cases h
    exact hc
  have hm : (2, vI x) ∈ lvp 0 (a0 :: a1 :: some (vI x) :: T) := (lvp_mem _ 0 2 _).mpr ⟨Nat.zero_le _, rfl⟩
  obtain ⟨j, hj⟩ := List.getElem?_of_mem hm
  exact lv_iinc (x := Int32.ofInt x) (v := Int32.ofInt (x + n)) (k := j) o.1 o.2.1 d h3 hj (Int32.ofInt_add x n).symm hn rfl (fun ls' hl => k o H locs ls' h1 h2 (LH_st1 hl hp))
theorem x_il3 {a0 a1 a2 : Option Value} {T : List (Option Value)} {x : Int} (d : decode cc pc = .ok (.iload_n 3, 1)) (k : X Γ B own nm cc nL ret lev mc ms (pc + 1) (a0 :: a1 :: a2 :: some (vI x) :: T) (vI x :: st) kc ks S V) : X Γ B own nm cc nL ret lev mc ms pc (a0 :: a1 :: a2 :: some (vI x) :: T) st kc ks S V := by
  obtain ⟨p, l, e, R, s, m, args, below, meth, c, Q, D, ca⟩ := Γ
  intro o H locs ls h1 h2 h3
  have hl := h3.at_ (i := 3) rfl
  have hx := o.1
  have hb := o.2.1
  have k := k o H locs ls h1 h2 h3
  exact lv_iload_n hx hb d rfl hl k
theorem x_ll3 {a0 a1 a2 : Option Value} {T : List (Option Value)} {x : Int} (d : decode cc pc = .ok (.lload_n 3, 1)) (k : X Γ B own nm cc nL ret lev mc ms (pc + 1) (a0 :: a1 :: a2 :: some (vL x) :: T) (vL x :: st) kc ks S V) : X Γ B own nm cc nL ret lev mc ms pc (a0 :: a1 :: a2 :: some (vL x) :: T) st kc ks S V := by
  obtain ⟨p, l, e, R, s, m, args, below, meth, c, Q, D, ca⟩ := Γ
  intro o H locs ls h1 h2 h3
  have hl := h3.at_ (i := 3) rfl
  have hx := o.1
  have hb := o.2.1
  have k := k o H locs ls h1 h2 h3
  exact lv_lload_n hx hb d rfl hl k
theorem x_al3 {a0 a1 a2 : Option Value} {T : List (Option Value)} {x : Nat} (d : decode cc pc = .ok (.aload_n 3, 1)) (k : X Γ B own nm cc nL ret lev mc ms (pc + 1) (a0 :: a1 :: a2 :: some (vR B x) :: T) (vR B x :: st) kc ks S V) : X Γ B own nm cc nL ret lev mc ms pc (a0 :: a1 :: a2 :: some (vR B x) :: T) st kc ks S V := by
  obtain ⟨p, l, e, R, s, m, args, below, meth, c, Q, D, ca⟩ := Γ
  intro o H locs ls h1 h2 h3
  have hl := h3.at_ (i := 3) rfl
  have hx := o.1
  have hb := o.2.1
  have k := k o H locs ls h1 h2 h3
  exact lv_aload_n hx hb d rfl hl k
theorem x_rl3 {a0 a1 a2 : Option Value} {T : List (Option Value)} {x : Nat} (d : decode cc pc = .ok (.aload_n 3, 1)) (k : X Γ B own nm cc nL ret lev mc ms (pc + 1) (a0 :: a1 :: a2 :: some ((.ref x : Value)) :: T) ((.ref x : Value) :: st) kc ks S V) : X Γ B own nm cc nL ret lev mc ms pc (a0 :: a1 :: a2 :: some ((.ref x : Value)) :: T) st kc ks S V := by
  obtain ⟨p, l, e, R, s, m, args, below, meth, c, Q, D, ca⟩ := Γ
  intro o H locs ls h1 h2 h3
  have hl := h3.at_ (i := 3) rfl
  have hx := o.1
  have hb := o.2.1
  have k := k o H locs ls h1 h2 h3
  exact lv_aload_n hx hb d rfl hl k
theorem x_is3 {a3 : Option Value} {a0 a1 a2 : Option Value} {T : List (Option Value)} {x : Int} (d : decode cc pc = .ok (.istore_n 3, 1)) (k : X Γ B own nm cc nL ret lev mc ms (pc + 1) (a0 :: a1 :: a2 :: some (vI x) :: T) st kc ks S V) (hc : c1 a2 = true := by rfl) (hn : 3 < nL := by decide) : X Γ B own nm cc nL ret lev mc ms pc (a0 :: a1 :: a2 :: a3 :: T) (vI x :: st) kc ks S V := by
  obtain ⟨p, l, e, R, s, m, args, below, meth, c, Q, D, ca⟩ := Γ
  intro o H locs ls h1 h2 h3
  have hp : ∀ w, 0 < 3 → (a0 :: a1 :: a2 :: a3 :: T)[3 - 1]? = some w → c1 w = true := fun w _ h => by
    have h : some a2 = some w := h
    cases h
    exact hc
  have hx := o.1
  have hb := o.2.1
  exact lv_istore_n hx hb d rfl h3 hn rfl (fun ls' hl => k o H locs ls' h1 h2 (LH_st1 hl hp))
theorem x_as3 {a3 : Option Value} {a0 a1 a2 : Option Value} {T : List (Option Value)} {x : Nat} (d : decode cc pc = .ok (.astore_n 3, 1)) (k : X Γ B own nm cc nL ret lev mc ms (pc + 1) (a0 :: a1 :: a2 :: some (vR B x) :: T) st kc ks S V) (hc : c1 a2 = true := by rfl) (hn : 3 < nL := by decide) : X Γ B own nm cc nL ret lev mc ms pc (a0 :: a1 :: a2 :: a3 :: T) (vR B x :: st) kc ks S V := by
  obtain ⟨p, l, e, R, s, m, args, below, meth, c, Q, D, ca⟩ := Γ
  intro o H locs ls h1 h2 h3
  have hp : ∀ w, 0 < 3 → (a0 :: a1 :: a2 :: a3 :: T)[3 - 1]? = some w → c1 w = true := fun w _ h => by
    have h : some a2 = some w := h
    cases h
    exact hc
  have hx := o.1
  have hb := o.2.1
  exact lv_astore_n hx hb d rfl h3 hn rfl (fun ls' hl => k o H locs ls' h1 h2 (LH_st1 hl hp))
theorem x_rs3 {a3 : Option Value} {a0 a1 a2 : Option Value} {T : List (Option Value)} {x : Nat} (d : decode cc pc = .ok (.astore_n 3, 1)) (k : X Γ B own nm cc nL ret lev mc ms (pc + 1) (a0 :: a1 :: a2 :: some ((.ref x : Value)) :: T) st kc ks S V) (hc : c1 a2 = true := by rfl) (hn : 3 < nL := by decide) : X Γ B own nm cc nL ret lev mc ms pc (a0 :: a1 :: a2 :: a3 :: T) ((.ref x : Value) :: st) kc ks S V := by
  obtain ⟨p, l, e, R, s, m, args, below, meth, c, Q, D, ca⟩ := Γ
  intro o H locs ls h1 h2 h3
  have hp : ∀ w, 0 < 3 → (a0 :: a1 :: a2 :: a3 :: T)[3 - 1]? = some w → c1 w = true := fun w _ h => by
    have h : some a2 = some w := h
    cases h
    exact hc
  have hx := o.1
  have hb := o.2.1
  exact lv_astore_n hx hb d rfl h3 hn rfl (fun ls' hl => k o H locs ls' h1 h2 (LH_st1 hl hp))
theorem x_ls3 {a3 a4 : Option Value} {a0 a1 a2 : Option Value} {T : List (Option Value)} {x : Int} (d : decode cc pc = .ok (.lstore_n 3, 1)) (k : X Γ B own nm cc nL ret lev mc ms (pc + 1) (a0 :: a1 :: a2 :: some (vL x) :: none :: T) st kc ks S V) (hc : c1 a2 = true := by rfl) (hn : 3 + 1 < nL := by decide) : X Γ B own nm cc nL ret lev mc ms pc (a0 :: a1 :: a2 :: a3 :: a4 :: T) (vL x :: st) kc ks S V := by
  obtain ⟨p, l, e, R, s, m, args, below, meth, c, Q, D, ca⟩ := Γ
  intro o H locs ls h1 h2 h3
  have hp : ∀ w, 0 < 3 → (a0 :: a1 :: a2 :: a3 :: a4 :: T)[3 - 1]? = some w → c1 w = true := fun w _ h => by
    have h : some a2 = some w := h
    cases h
    exact hc
  have hx := o.1
  have hb := o.2.1
  exact lv_lstore_n hx hb d rfl h3 hn rfl (fun ls' hl => k o H locs ls' h1 h2 (LH_st2 hl hp))
theorem x_inc3 {a0 a1 a2 : Option Value} {T : List (Option Value)} {x n : Int} (d : decode cc pc = .ok (.iinc 3 n, 3)) (k : X Γ B own nm cc nL ret lev mc ms (pc + 3) (a0 :: a1 :: a2 :: some (vI (x + n)) :: T) st kc ks S V) (hc : c1 a2 = true := by rfl) (hn : 3 < nL := by decide) : X Γ B own nm cc nL ret lev mc ms pc (a0 :: a1 :: a2 :: some (vI x) :: T) st kc ks S V := by
  obtain ⟨p, l, e, R, s, m, args, below, meth, c, Q, D, ca⟩ := Γ
  intro o H locs ls h1 h2 h3
  have hp : ∀ w, 0 < 3 → (a0 :: a1 :: a2 :: some (vI x) :: T)[3 - 1]? = some w → c1 w = true := fun w _ h => by
    have h : some a2 = some w := h
    cases h
    exact hc
  have hm : (3, vI x) ∈ lvp 0 (a0 :: a1 :: a2 :: some (vI x) :: T) := (lvp_mem _ 0 3 _).mpr ⟨Nat.zero_le _, rfl⟩
  obtain ⟨j, hj⟩ := List.getElem?_of_mem hm
  exact lv_iinc (x := Int32.ofInt x) (v := Int32.ofInt (x + n)) (k := j) o.1 o.2.1 d h3 hj (Int32.ofInt_add x n).symm hn rfl (fun ls' hl => k o H locs ls' h1 h2 (LH_st1 hl hp))
theorem x_il4 {a0 a1 a2 a3 : Option Value} {T : List (Option Value)} {x : Int} (d : decode cc pc = .ok (.iload 4, 2)) (k : X Γ B own nm cc nL ret lev mc ms (pc + 2) (a0 :: a1 :: a2 :: a3 :: some (vI x) :: T) (vI x :: st) kc ks S V) : X Γ B own nm cc nL ret lev mc ms pc (a0 :: a1 :: a2 :: a3 :: some (vI x) :: T) st kc ks S V := by
  obtain ⟨p, l, e, R, s, m, args, below, meth, c, Q, D, ca⟩ := Γ
  intro o H locs ls h1 h2 h3
  have hl := h3.at_ (i := 4) rfl
  have hx := o.1
  have hb := o.2.1
  have k := k o H locs ls h1 h2 h3
  exact lv_iload hx hb d hl k
theorem x_ll4 {a0 a1 a2 a3 : Option Value} {T : List (Option Value)} {x : Int} (d : decode cc pc = .ok (.lload 4, 2)) (k : X Γ B own nm cc nL ret lev mc ms (pc + 2) (a0 :: a1 :: a2 :: a3 :: some (vL x) :: T) (vL x :: st) kc ks S V) : X Γ B own nm cc nL ret lev mc ms pc (a0 :: a1 :: a2 :: a3 :: some (vL x) :: T) st kc ks S V := by
  obtain ⟨p, l, e, R, s, m, args, below, meth, c, Q, D, ca⟩ := Γ
  intro o H locs ls h1 h2 h3
  have hl := h3.at_ (i := 4) rfl
  have hx := o.1
  have hb := o.2.1
  have k := k o H locs ls h1 h2 h3
  exact lv_lload hx hb d hl k
theorem x_al4 {a0 a1 a2 a3 : Option Value} {T : List (Option Value)} {x : Nat} (d : decode cc pc = .ok (.aload 4, 2)) (k : X Γ B own nm cc nL ret lev mc ms (pc + 2) (a0 :: a1 :: a2 :: a3 :: some (vR B x) :: T) (vR B x :: st) kc ks S V) : X Γ B own nm cc nL ret lev mc ms pc (a0 :: a1 :: a2 :: a3 :: some (vR B x) :: T) st kc ks S V := by
  obtain ⟨p, l, e, R, s, m, args, below, meth, c, Q, D, ca⟩ := Γ
  intro o H locs ls h1 h2 h3
  have hl := h3.at_ (i := 4) rfl
  have hx := o.1
  have hb := o.2.1
  have k := k o H locs ls h1 h2 h3
  exact lv_aload hx hb d hl k
theorem x_rl4 {a0 a1 a2 a3 : Option Value} {T : List (Option Value)} {x : Nat} (d : decode cc pc = .ok (.aload 4, 2)) (k : X Γ B own nm cc nL ret lev mc ms (pc + 2) (a0 :: a1 :: a2 :: a3 :: some ((.ref x : Value)) :: T) ((.ref x : Value) :: st) kc ks S V) : X Γ B own nm cc nL ret lev mc ms pc (a0 :: a1 :: a2 :: a3 :: some ((.ref x : Value)) :: T) st kc ks S V := by
  obtain ⟨p, l, e, R, s, m, args, below, meth, c, Q, D, ca⟩ := Γ
  intro o H locs ls h1 h2 h3
  have hl := h3.at_ (i := 4) rfl
  have hx := o.1
  have hb := o.2.1
  have k := k o H locs ls h1 h2 h3
  exact lv_aload hx hb d hl k
theorem x_is4 {a4 : Option Value} {a0 a1 a2 a3 : Option Value} {T : List (Option Value)} {x : Int} (d : decode cc pc = .ok (.istore 4, 2)) (k : X Γ B own nm cc nL ret lev mc ms (pc + 2) (a0 :: a1 :: a2 :: a3 :: some (vI x) :: T) st kc ks S V) (hc : c1 a3 = true := by rfl) (hn : 4 < nL := by decide) : X Γ B own nm cc nL ret lev mc ms pc (a0 :: a1 :: a2 :: a3 :: a4 :: T) (vI x :: st) kc ks S V := by
  obtain ⟨p, l, e, R, s, m, args, below, meth, c, Q, D, ca⟩ := Γ
  intro o H locs ls h1 h2 h3
  have hp : ∀ w, 0 < 4 → (a0 :: a1 :: a2 :: a3 :: a4 :: T)[4 - 1]? = some w → c1 w = true := fun w _ h => by
    have h : some a3 = some w := h
    cases h
    exact hc
  have hx := o.1
  have hb := o.2.1
  exact lv_istore hx hb d h3 hn rfl (fun ls' hl => k o H locs ls' h1 h2 (LH_st1 hl hp))
theorem x_as4 {a4 : Option Value} {a0 a1 a2 a3 : Option Value} {T : List (Option Value)} {x : Nat} (d : decode cc pc = .ok (.astore 4, 2)) (k : X Γ B own nm cc nL ret lev mc ms (pc + 2) (a0 :: a1 :: a2 :: a3 :: some (vR B x) :: T) st kc ks S V) (hc : c1 a3 = true := by rfl) (hn : 4 < nL := by decide) : X Γ B own nm cc nL ret lev mc ms pc (a0 :: a1 :: a2 :: a3 :: a4 :: T) (vR B x :: st) kc ks S V := by
  obtain ⟨p, l, e, R, s, m, args, below, meth, c, Q, D, ca⟩ := Γ
  intro o H locs ls h1 h2 h3
  have hp : ∀ w, 0 < 4 → (a0 :: a1 :: a2 :: a3 :: a4 :: T)[4 - 1]? = some w → c1 w = true := fun w _ h => by
    have h : some a3 = some w := h
    cases h
    exact hc
  have hx := o.1
  have hb := o.2.1
  exact lv_astore hx hb d h3 hn rfl (fun ls' hl => k o H locs ls' h1 h2 (LH_st1 hl hp))
theorem x_rs4 {a4 : Option Value} {a0 a1 a2 a3 : Option Value} {T : List (Option Value)} {x : Nat} (d : decode cc pc = .ok (.astore 4, 2)) (k : X Γ B own nm cc nL ret lev mc ms (pc + 2) (a0 :: a1 :: a2 :: a3 :: some ((.ref x : Value)) :: T) st kc ks S V) (hc : c1 a3 = true := by rfl) (hn : 4 < nL := by decide) : X Γ B own nm cc nL ret lev mc ms pc (a0 :: a1 :: a2 :: a3 :: a4 :: T) ((.ref x : Value) :: st) kc ks S V := by
  obtain ⟨p, l, e, R, s, m, args, below, meth, c, Q, D, ca⟩ := Γ
  intro o H locs ls h1 h2 h3
  have hp : ∀ w, 0 < 4 → (a0 :: a1 :: a2 :: a3 :: a4 :: T)[4 - 1]? = some w → c1 w = true := fun w _ h => by
    have h : some a3 = some w := h
    cases h
    exact hc
  have hx := o.1
  have hb := o.2.1
  exact lv_astore hx hb d h3 hn rfl (fun ls' hl => k o H locs ls' h1 h2 (LH_st1 hl hp))
theorem x_ls4 {a4 a5 : Option Value} {a0 a1 a2 a3 : Option Value} {T : List (Option Value)} {x : Int} (d : decode cc pc = .ok (.lstore 4, 2)) (k : X Γ B own nm cc nL ret lev mc ms (pc + 2) (a0 :: a1 :: a2 :: a3 :: some (vL x) :: none :: T) st kc ks S V) (hc : c1 a3 = true := by rfl) (hn : 4 + 1 < nL := by decide) : X Γ B own nm cc nL ret lev mc ms pc (a0 :: a1 :: a2 :: a3 :: a4 :: a5 :: T) (vL x :: st) kc ks S V := by
  obtain ⟨p, l, e, R, s, m, args, below, meth, c, Q, D, ca⟩ := Γ
  intro o H locs ls h1 h2 h3
  have hp : ∀ w, 0 < 4 → (a0 :: a1 :: a2 :: a3 :: a4 :: a5 :: T)[4 - 1]? = some w → c1 w = true := fun w _ h => by
    have h : some a3 = some w := h
    cases h
    exact hc
  have hx := o.1
  have hb := o.2.1
  exact lv_lstore hx hb d h3 hn rfl (fun ls' hl => k o H locs ls' h1 h2 (LH_st2 hl hp))
theorem x_inc4 {a0 a1 a2 a3 : Option Value} {T : List (Option Value)} {x n : Int} (d : decode cc pc = .ok (.iinc 4 n, 3)) (k : X Γ B own nm cc nL ret lev mc ms (pc + 3) (a0 :: a1 :: a2 :: a3 :: some (vI (x + n)) :: T) st kc ks S V) (hc : c1 a3 = true := by rfl) (hn : 4 < nL := by decide) : X Γ B own nm cc nL ret lev mc ms pc (a0 :: a1 :: a2 :: a3 :: some (vI x) :: T) st kc ks S V := by
  obtain ⟨p, l, e, R, s, m, args, below, meth, c, Q, D, ca⟩ := Γ
  intro o H locs ls h1 h2 h3
  have hp : ∀ w, 0 < 4 → (a0 :: a1 :: a2 :: a3 :: some (vI x) :: T)[4 - 1]? = some w → c1 w = true := fun w _ h => by
    have h : some a3 = some w := h
    cases h
    exact hc
  have hm : (4, vI x) ∈ lvp 0 (a0 :: a1 :: a2 :: a3 :: some (vI x) :: T) := (lvp_mem _ 0 4 _).mpr ⟨Nat.zero_le _, rfl⟩
  obtain ⟨j, hj⟩ := List.getElem?_of_mem hm
  exact lv_iinc (x := Int32.ofInt x) (v := Int32.ofInt (x + n)) (k := j) o.1 o.2.1 d h3 hj (Int32.ofInt_add x n).symm hn rfl (fun ls' hl => k o H locs ls' h1 h2 (LH_st1 hl hp))
theorem x_il5 {a0 a1 a2 a3 a4 : Option Value} {T : List (Option Value)} {x : Int} (d : decode cc pc = .ok (.iload 5, 2)) (k : X Γ B own nm cc nL ret lev mc ms (pc + 2) (a0 :: a1 :: a2 :: a3 :: a4 :: some (vI x) :: T) (vI x :: st) kc ks S V) : X Γ B own nm cc nL ret lev mc ms pc (a0 :: a1 :: a2 :: a3 :: a4 :: some (vI x) :: T) st kc ks S V := by
  obtain ⟨p, l, e, R, s, m, args, below, meth, c, Q, D, ca⟩ := Γ
  intro o H locs ls h1 h2 h3
  have hl := h3.at_ (i := 5) rfl
  have hx := o.1
  have hb := o.2.1
  have k := k o H locs ls h1 h2 h3
  exact lv_iload hx hb d hl k
theorem x_ll5 {a0 a1 a2 a3 a4 : Option Value} {T : List (Option Value)} {x : Int} (d : decode cc pc = .ok (.lload 5, 2)) (k : X Γ B own nm cc nL ret lev mc ms (pc + 2) (a0 :: a1 :: a2 :: a3 :: a4 :: some (vL x) :: T) (vL x :: st) kc ks S V) : X Γ B own nm cc nL ret lev mc ms pc (a0 :: a1 :: a2 :: a3 :: a4 :: some (vL x) :: T) st kc ks S V := by
  obtain ⟨p, l, e, R, s, m, args, below, meth, c, Q, D, ca⟩ := Γ
  intro o H locs ls h1 h2 h3
  have hl := h3.at_ (i := 5) rfl
  have hx := o.1
  have hb := o.2.1
  have k := k o H locs ls h1 h2 h3
  exact lv_lload hx hb d hl k
theorem x_al5 {a0 a1 a2 a3 a4 : Option Value} {T : List (Option Value)} {x : Nat} (d : decode cc pc = .ok (.aload 5, 2)) (k : X Γ B own nm cc nL ret lev mc ms (pc + 2) (a0 :: a1 :: a2 :: a3 :: a4 :: some (vR B x) :: T) (vR B x :: st) kc ks S V) : X Γ B own nm cc nL ret lev mc ms pc (a0 :: a1 :: a2 :: a3 :: a4 :: some (vR B x) :: T) st kc ks S V := by
  obtain ⟨p, l, e, R, s, m, args, below, meth, c, Q, D, ca⟩ := Γ
  intro o H locs ls h1 h2 h3
  have hl := h3.at_ (i := 5) rfl
  have hx := o.1
  have hb := o.2.1
  have k := k o H locs ls h1 h2 h3
  exact lv_aload hx hb d hl k
theorem x_rl5 {a0 a1 a2 a3 a4 : Option Value} {T : List (Option Value)} {x : Nat} (d : decode cc pc = .ok (.aload 5, 2)) (k : X Γ B own nm cc nL ret lev mc ms (pc + 2) (a0 :: a1 :: a2 :: a3 :: a4 :: some ((.ref x : Value)) :: T) ((.ref x : Value) :: st) kc ks S V) : X Γ B own nm cc nL ret lev mc ms pc (a0 :: a1 :: a2 :: a3 :: a4 :: some ((.ref x : Value)) :: T) st kc ks S V := by
  obtain ⟨p, l, e, R, s, m, args, below, meth, c, Q, D, ca⟩ := Γ
  intro o H locs ls h1 h2 h3
  have hl := h3.at_ (i := 5) rfl
  have hx := o.1
  have hb := o.2.1
  have k := k o H locs ls h1 h2 h3
  exact lv_aload hx hb d hl k
theorem x_is5 {a5 : Option Value} {a0 a1 a2 a3 a4 : Option Value} {T : List (Option Value)} {x : Int} (d : decode cc pc = .ok (.istore 5, 2)) (k : X Γ B own nm cc nL ret lev mc ms (pc + 2) (a0 :: a1 :: a2 :: a3 :: a4 :: some (vI x) :: T) st kc ks S V) (hc : c1 a4 = true := by rfl) (hn : 5 < nL := by decide) : X Γ B own nm cc nL ret lev mc ms pc (a0 :: a1 :: a2 :: a3 :: a4 :: a5 :: T) (vI x :: st) kc ks S V := by
  obtain ⟨p, l, e, R, s, m, args, below, meth, c, Q, D, ca⟩ := Γ
  intro o H locs ls h1 h2 h3
  have hp : ∀ w, 0 < 5 → (a0 :: a1 :: a2 :: a3 :: a4 :: a5 :: T)[5 - 1]? = some w → c1 w = true := fun w _ h => by
    have h : some a4 = some w := h
    cases h
    exact hc
  have hx := o.1
  have hb := o.2.1
  exact lv_istore hx hb d h3 hn rfl (fun ls' hl => k o H locs ls' h1 h2 (LH_st1 hl hp))
theorem x_as5 {a5 : Option Value} {a0 a1 a2 a3 a4 : Option Value} {T : List (Option Value)} {x : Nat} (d : decode cc pc = .ok (.astore 5, 2)) (k : X Γ B own nm cc nL ret lev mc ms (pc + 2) (a0 :: a1 :: a2 :: a3 :: a4 :: some (vR B x) :: T) st kc ks S V) (hc : c1 a4 = true := by rfl) (hn : 5 < nL := by decide) : X Γ B own nm cc nL ret lev mc ms pc (a0 :: a1 :: a2 :: a3 :: a4 :: a5 :: T) (vR B x :: st) kc ks S V := by
  obtain ⟨p, l, e, R, s, m, args, below, meth, c, Q, D, ca⟩ := Γ
  intro o H locs ls h1 h2 h3
  have hp : ∀ w, 0 < 5 → (a0 :: a1 :: a2 :: a3 :: a4 :: a5 :: T)[5 - 1]? = some w → c1 w = true := fun w _ h => by
    have h : some a4 = some w := h
    cases h
    exact hc
  have hx := o.1
  have hb := o.2.1
  exact lv_astore hx hb d h3 hn rfl (fun ls' hl => k o H locs ls' h1 h2 (LH_st1 hl hp))
theorem x_rs5 {a5 : Option Value} {a0 a1 a2 a3 a4 : Option Value} {T : List (Option Value)} {x : Nat} (d : decode cc pc = .ok (.astore 5, 2)) (k : X Γ B own nm cc nL ret lev mc ms (pc + 2) (a0 :: a1 :: a2 :: a3 :: a4 :: some ((.ref x : Value)) :: T) st kc ks S V) (hc : c1 a4 = true := by rfl) (hn : 5 < nL := by decide) : X Γ B own nm cc nL ret lev mc ms pc (a0 :: a1 :: a2 :: a3 :: a4 :: a5 :: T) ((.ref x : Value) :: st) kc ks S V := by
  obtain ⟨p, l, e, R, s, m, args, below, meth, c, Q, D, ca⟩ := Γ
  intro o H locs ls h1 h2 h3
  have hp : ∀ w, 0 < 5 → (a0 :: a1 :: a2 :: a3 :: a4 :: a5 :: T)[5 - 1]? = some w → c1 w = true := fun w _ h => by
    have h : some a4 = some w := h
    cases h
    exact hc
  have hx := o.1
  have hb := o.2.1
  exact lv_astore hx hb d h3 hn rfl (fun ls' hl => k o H locs ls' h1 h2 (LH_st1 hl hp))
theorem x_ls5 {a5 a6 : Option Value} {a0 a1 a2 a3 a4 : Option Value} {T : List (Option Value)} {x : Int} (d : decode cc pc = .ok (.lstore 5, 2)) (k : X Γ B own nm cc nL ret lev mc ms (pc + 2) (a0 :: a1 :: a2 :: a3 :: a4 :: some (vL x) :: none :: T) st kc ks S V) (hc : c1 a4 = true := by rfl) (hn : 5 + 1 < nL := by decide) : X Γ B own nm cc nL ret lev mc ms pc (a0 :: a1 :: a2 :: a3 :: a4 :: a5 :: a6 :: T) (vL x :: st) kc ks S V := by
  obtain ⟨p, l, e, R, s, m, args, below, meth, c, Q, D, ca⟩ := Γ
  intro o H locs ls h1 h2 h3
  have hp : ∀ w, 0 < 5 → (a0 :: a1 :: a2 :: a3 :: a4 :: a5 :: a6 :: T)[5 - 1]? = some w → c1 w = true := fun w _ h => by
    have h : some a4 = some w := h
    cases h
    exact hc
  have hx := o.1
  have hb := o.2.1
  exact lv_lstore hx hb d h3 hn rfl (fun ls' hl => k o H locs ls' h1 h2 (LH_st2 hl hp))
theorem x_inc5 {a0 a1 a2 a3 a4 : Option Value} {T : List (Option Value)} {x n : Int} (d : decode cc pc = .ok (.iinc 5 n, 3)) (k : X Γ B own nm cc nL ret lev mc ms (pc + 3) (a0 :: a1 :: a2 :: a3 :: a4 :: some (vI (x + n)) :: T) st kc ks S V) (hc : c1 a4 = true := by rfl) (hn : 5 < nL := by decide) : X Γ B own nm cc nL ret lev mc ms pc (a0 :: a1 :: a2 :: a3 :: a4 :: some (vI x) :: T) st kc ks S V := by
  obtain ⟨p, l, e, R, s, m, args, below, meth, c, Q, D, ca⟩ := Γ
  intro o H locs ls h1 h2 h3
  have hp : ∀ w, 0 < 5 → (a0 :: a1 :: a2 :: a3 :: a4 :: some (vI x) :: T)[5 - 1]? = some w → c1 w = true := fun w _ h => by
    have h : some a4 = some w := h
    cases h
    exact hc
  have hm : (5, vI x) ∈ lvp 0 (a0 :: a1 :: a2 :: a3 :: a4 :: some (vI x) :: T) := (lvp_mem _ 0 5 _).mpr ⟨Nat.zero_le _, rfl⟩
  obtain ⟨j, hj⟩ := List.getElem?_of_mem hm
  exact lv_iinc (x := Int32.ofInt x) (v := Int32.ofInt (x + n)) (k := j) o.1 o.2.1 d h3 hj (Int32.ofInt_add x n).symm hn rfl (fun ls' hl => k o H locs ls' h1 h2 (LH_st1 hl hp))
theorem x_il6 {a0 a1 a2 a3 a4 a5 : Option Value} {T : List (Option Value)} {x : Int} (d : decode cc pc = .ok (.iload 6, 2)) (k : X Γ B own nm cc nL ret lev mc ms (pc + 2) (a0 :: a1 :: a2 :: a3 :: a4 :: a5 :: some (vI x) :: T) (vI x :: st) kc ks S V) : X Γ B own nm cc nL ret lev mc ms pc (a0 :: a1 :: a2 :: a3 :: a4 :: a5 :: some (vI x) :: T) st kc ks S V := by
  obtain ⟨p, l, e, R, s, m, args, below, meth, c, Q, D, ca⟩ := Γ
  intro o H locs ls h1 h2 h3
  have hl := h3.at_ (i := 6) rfl
  have hx := o.1
  have hb := o.2.1
  have k := k o H locs ls h1 h2 h3
  exact lv_iload hx hb d hl k
theorem x_ll6 {a0 a1 a2 a3 a4 a5 : Option Value} {T : List (Option Value)} {x : Int} (d : decode cc pc = .ok (.lload 6, 2)) (k : X Γ B own nm cc nL ret lev mc ms (pc + 2) (a0 :: a1 :: a2 :: a3 :: a4 :: a5 :: some (vL x) :: T) (vL x :: st) kc ks S V) : X Γ B own nm cc nL ret lev mc ms pc (a0 :: a1 :: a2 :: a3 :: a4 :: a5 :: some (vL x) :: T) st kc ks S V := by
  obtain ⟨p, l, e, R, s, m, args, below, meth, c, Q, D, ca⟩ := Γ
  intro o H locs ls h1 h2 h3
  have hl := h3.at_ (i := 6) rfl
  have hx := o.1
  have hb := o.2.1
  have k := k o H locs ls h1 h2 h3
  exact lv_lload hx hb d hl k
theorem x_al6 {a0 a1 a2 a3 a4 a5 : Option Value} {T : List (Option Value)} {x : Nat} (d : decode cc pc = .ok (.aload 6, 2)) (k : X Γ B own nm cc nL ret lev mc ms (pc + 2) (a0 :: a1 :: a2 :: a3 :: a4 :: a5 :: some (vR B x) :: T) (vR B x :: st) kc ks S V) : X Γ B own nm cc nL ret lev mc ms pc (a0 :: a1 :: a2 :: a3 :: a4 :: a5 :: some (vR B x) :: T) st kc ks S V := by
  obtain ⟨p, l, e, R, s, m, args, below, meth, c, Q, D, ca⟩ := Γ
  intro o H locs ls h1 h2 h3
  have hl := h3.at_ (i := 6) rfl
  have hx := o.1
  have hb := o.2.1
  have k := k o H locs ls h1 h2 h3
  exact lv_aload hx hb d hl k
theorem x_rl6 {a0 a1 a2 a3 a4 a5 : Option Value} {T : List (Option Value)} {x : Nat} (d : decode cc pc = .ok (.aload 6, 2)) (k : X Γ B own nm cc nL ret lev mc ms (pc + 2) (a0 :: a1 :: a2 :: a3 :: a4 :: a5 :: some ((.ref x : Value)) :: T) ((.ref x : Value) :: st) kc ks S V) : X Γ B own nm cc nL ret lev mc ms pc (a0 :: a1 :: a2 :: a3 :: a4 :: a5 :: some ((.ref x : Value)) :: T) st kc ks S V := by
  obtain ⟨p, l, e, R, s, m, args, below, meth, c, Q, D, ca⟩ := Γ
  intro o H locs ls h1 h2 h3
  have hl := h3.at_ (i := 6) rfl
  have hx := o.1
  have hb := o.2.1
  have k := k o H locs ls h1 h2 h3
  exact lv_aload hx hb d hl k
theorem x_is6 {a6 : Option Value} {a0 a1 a2 a3 a4 a5 : Option Value} {T : List (Option Value)} {x : Int} (d : decode cc pc = .ok (.istore 6, 2)) (k : X Γ B own nm cc nL ret lev mc ms (pc + 2) (a0 :: a1 :: a2 :: a3 :: a4 :: a5 :: some (vI x) :: T) st kc ks S V) (hc : c1 a5 = true := by rfl) (hn : 6 < nL := by decide) : X Γ B own nm cc nL ret lev mc ms pc (a0 :: a1 :: a2 :: a3 :: a4 :: a5 :: a6 :: T) (vI x :: st) kc ks S V := by
  obtain ⟨p, l, e, R, s, m, args, below, meth, c, Q, D, ca⟩ := Γ
  intro o H locs ls h1 h2 h3
  have hp : ∀ w, 0 < 6 → (a0 :: a1 :: a2 :: a3 :: a4 :: a5 :: a6 :: T)[6 - 1]? = some w → c1 w = true := fun w _ h => by
    have h : some a5 = some w := h
    cases h
    exact hc
  have hx := o.1
  have hb := o.2.1
  exact lv_istore hx hb d h3 hn rfl (fun ls' hl => k o H locs ls' h1 h2 (LH_st1 hl hp))
theorem x_as6 {a6 : Option Value} {a0 a1 a2 a3 a4 a5 : Option Value} {T : List (Option Value)} {x : Nat} (d : decode cc pc = .ok (.astore 6, 2)) (k : X Γ B own nm cc nL ret lev mc ms (pc + 2) (a0 :: a1 :: a2 :: a3 :: a4 :: a5 :: some (vR B x) :: T) st kc ks S V) (hc : c1 a5 = true := by rfl) (hn : 6 < nL := by decide) : X Γ B own nm cc nL ret lev mc ms pc (a0 :: a1 :: a2 :: a3 :: a4 :: a5 :: a6 :: T) (vR B x :: st) kc ks S V := by
  obtain ⟨p, l, e, R, s, m, args, below, meth, c, Q, D, ca⟩ := Γ
  intro o H locs ls h1 h2 h3
  have hp : ∀ w, 0 < 6 → (a0 :: a1 :: a2 :: a3 :: a4 :: a5 :: a6 :: T)[6 - 1]? = some w → c1 w = true := fun w _ h => by
    have h : some a5 = some w := h
    cases h
    exact hc
  have hx := o.1
  have hb := o.2.1
  exact lv_astore hx hb d h3 hn rfl (fun ls' hl => k o H locs ls' h1 h2 (LH_st1 hl hp))
theorem x_rs6 {a6 : Option Value} {a0 a1 a2 a3 a4 a5 : Option Value} {T : List (Option Value)} {x : Nat} (d : decode cc pc = .ok (.astore 6, 2)) (k : X Γ B own nm cc nL ret lev mc ms (pc + 2) (a0 :: a1 :: a2 :: a3 :: a4 :: a5 :: some ((.ref x : Value)) :: T) st kc ks S V) (hc : c1 a5 = true := by rfl) (hn : 6 < nL := by decide) : X Γ B own nm cc nL ret lev mc ms pc (a0 :: a1 :: a2 :: a3 :: a4 :: a5 :: a6 :: T) ((.ref x : Value) :: st) kc ks S V := by
  obtain ⟨p, l, e, R, s, m, args, below, meth, c, Q, D, ca⟩ := Γ
  intro o H locs ls h1 h2 h3
  have hp : ∀ w, 0 < 6 → (a0 :: a1 :: a2 :: a3 :: a4 :: a5 :: a6 :: T)[6 - 1]? = some w → c1 w = true := fun w _ h => by
    have h : some a5 = some w := h
    cases h
    exact hc
  have hx := o.1
  have hb := o.2.1
  exact lv_astore hx hb d h3 hn rfl (fun ls' hl => k o H locs ls' h1 h2 (LH_st1 hl hp))
theorem x_ls6 {a6 a7 : Option Value} {a0 a1 a2 a3 a4 a5 : Option Value} {T : List (Option Value)} {x : Int} (d : decode cc pc = .ok (.lstore 6, 2)) (k : X Γ B own nm cc nL ret lev mc ms (pc + 2) (a0 :: a1 :: a2 :: a3 :: a4 :: a5 :: some (vL x) :: none :: T) st kc ks S V) (hc : c1 a5 = true := by rfl) (hn : 6 + 1 < nL := by decide) : X Γ B own nm cc nL ret lev mc ms pc (a0 :: a1 :: a2 :: a3 :: a4 :: a5 :: a6 :: a7 :: T) (vL x :: st) kc ks S V := by
  obtain ⟨p, l, e, R, s, m, args, below, meth, c, Q, D, ca⟩ := Γ
  intro o H locs ls h1 h2 h3
  have hp : ∀ w, 0 < 6 → (a0 :: a1 :: a2 :: a3 :: a4 :: a5 :: a6 :: a7 :: T)[6 - 1]? = some w → c1 w = true := fun w _ h => by
    have h : some a5 = some w := h
    cases h
    exact hc
  have hx := o.1
  have hb := o.2.1
  exact lv_lstore hx hb d h3 hn rfl (fun ls' hl => k o H locs ls' h1 h2 (LH_st2 hl hp))
theorem x_inc6 {a0 a1 a2 a3 a4 a5 : Option Value} {T : List (Option Value)} {x n : Int} (d : decode cc pc = .ok (.iinc 6 n, 3)) (k : X Γ B own nm cc nL ret lev mc ms (pc + 3) (a0 :: a1 :: a2 :: a3 :: a4 :: a5 :: some (vI (x + n)) :: T) st kc ks S V) (hc : c1 a5 = true := by rfl) (hn : 6 < nL := by decide) : X Γ B own nm cc nL ret lev mc ms pc (a0 :: a1 :: a2 :: a3 :: a4 :: a5 :: some (vI x) :: T) st kc ks S V := by
  obtain ⟨p, l, e, R, s, m, args, below, meth, c, Q, D, ca⟩ := Γ
  intro o H locs ls h1 h2 h3
  have hp : ∀ w, 0 < 6 → (a0 :: a1 :: a2 :: a3 :: a4 :: a5 :: some (vI x) :: T)[6 - 1]? = some w → c1 w = true := fun w _ h => by
    have h : some a5 = some w := h
    cases h
    exact hc
  have hm : (6, vI x) ∈ lvp 0 (a0 :: a1 :: a2 :: a3 :: a4 :: a5 :: some (vI x) :: T) := (lvp_mem _ 0 6 _).mpr ⟨Nat.zero_le _, rfl⟩
  obtain ⟨j, hj⟩ := List.getElem?_of_mem hm
  exact lv_iinc (x := Int32.ofInt x) (v := Int32.ofInt (x + n)) (k := j) o.1 o.2.1 d h3 hj (Int32.ofInt_add x n).symm hn rfl (fun ls' hl => k o H locs ls' h1 h2 (LH_st1 hl hp))
theorem x_il7 {a0 a1 a2 a3 a4 a5 a6 : Option Value} {T : List (Option Value)} {x : Int} (d : decode cc pc = .ok (.iload 7, 2)) (k : X Γ B own nm cc nL ret lev mc ms (pc + 2) (a0 :: a1 :: a2 :: a3 :: a4 :: a5 :: a6 :: some (vI x) :: T) (vI x :: st) kc ks S V) : X Γ B own nm cc nL ret lev mc ms pc (a0 :: a1 :: a2 :: a3 :: a4 :: a5 :: a6 :: some (vI x) :: T) st kc ks S V := by
  obtain ⟨p, l, e, R, s, m, args, below, meth, c, Q, D, ca⟩ := Γ
  intro o H locs ls h1 h2 h3
  have hl := h3.at_ (i := 7) rfl
  have hx := o.1
  have hb := o.2.1
  have k := k o H locs ls h1 h2 h3
  exact lv_iload hx hb d hl k
theorem x_ll7 {a0 a1 a2 a3 a4 a5 a6 : Option Value} {T : List (Option Value)} {x : Int} (d : decode cc pc = .ok (.lload 7, 2)) (k : X Γ B own nm cc nL ret lev mc ms (pc + 2) (a0 :: a1 :: a2 :: a3 :: a4 :: a5 :: a6 :: some (vL x) :: T) (vL x :: st) kc ks S V) : X Γ B own nm cc nL ret lev mc ms pc (a0 :: a1 :: a2 :: a3 :: a4 :: a5 :: a6 :: some (vL x) :: T) st kc ks S V := by
  obtain ⟨p, l, e, R, s, m, args, below, meth, c, Q, D, ca⟩ := Γ
  intro o H locs ls h1 h2 h3
  have hl := h3.at_ (i := 7) rfl
  have hx := o.1
  have hb := o.2.1
  have k := k o H locs ls h1 h2 h3
  exact lv_lload hx hb d hl k
theorem x_al7 {a0 a1 a2 a3 a4 a5 a6 : Option Value} {T : List (Option Value)} {x : Nat} (d : decode cc pc = .ok (.aload 7, 2)) (k : X Γ B own nm cc nL ret lev mc ms (pc + 2) (a0 :: a1 :: a2 :: a3 :: a4 :: a5 :: a6 :: some (vR B x) :: T) (vR B x :: st) kc ks S V) : X Γ B own nm cc nL ret lev mc ms pc (a0 :: a1 :: a2 :: a3 :: a4 :: a5 :: a6 :: some (vR B x) :: T) st kc ks S V := by
  obtain ⟨p, l, e, R, s, m, args, below, meth, c, Q, D, ca⟩ := Γ
  intro o H locs ls h1 h2 h3
  have hl := h3.at_ (i := 7) rfl
  have hx := o.1
  have hb := o.2.1
  have k := k o H locs ls h1 h2 h3
  exact lv_aload hx hb d hl k
theorem x_rl7 {a0 a1 a2 a3 a4 a5 a6 : Option Value} {T : List (Option Value)} {x : Nat} (d : decode cc pc = .ok (.aload 7, 2)) (k : X Γ B own nm cc nL ret lev mc ms (pc + 2) (a0 :: a1 :: a2 :: a3 :: a4 :: a5 :: a6 :: some ((.ref x : Value)) :: T) ((.ref x : Value) :: st) kc ks S V) : X Γ B own nm cc nL ret lev mc ms pc (a0 :: a1 :: a2 :: a3 :: a4 :: a5 :: a6 :: some ((.ref x : Value)) :: T) st kc ks S V := by
  obtain ⟨p, l, e, R, s, m, args, below, meth, c, Q, D, ca⟩ := Γ
  intro o H locs ls h1 h2 h3
  have hl := h3.at_ (i := 7) rfl
  have hx := o.1
  have hb := o.2.1
  have k := k o H locs ls h1 h2 h3
  exact lv_aload hx hb d hl k
theorem x_is7 {a7 : Option Value} {a0 a1 a2 a3 a4 a5 a6 : Option Value} {T : List (Option Value)} {x : Int} (d : decode cc pc = .ok (.istore 7, 2)) (k : X Γ B own nm cc nL ret lev mc ms (pc + 2) (a0 :: a1 :: a2 :: a3 :: a4 :: a5 :: a6 :: some (vI x) :: T) st kc ks S V) (hc : c1 a6 = true := by rfl) (hn : 7 < nL := by decide) : X Γ B own nm cc nL ret lev mc ms pc (a0 :: a1 :: a2 :: a3 :: a4 :: a5 :: a6 :: a7 :: T) (vI x :: st) kc ks S V := by
  obtain ⟨p, l, e, R, s, m, args, below, meth, c, Q, D, ca⟩ := Γ
  intro o H locs ls h1 h2 h3
  have hp : ∀ w, 0 < 7 → (a0 :: a1 :: a2 :: a3 :: a4 :: a5 :: a6 :: a7 :: T)[7 - 1]? = some w → c1 w = true := fun w _ h => by
    have h : some a6 = some w := h
    cases h
    exact hc
  have hx := o.1
  have hb := o.2.1
  exact lv_istore hx hb d h3 hn rfl (fun ls' hl => k o H locs ls' h1 h2 (LH_st1 hl hp))
theorem x_as7 {a7 : Option Value} {a0 a1 a2 a3 a4 a5 a6 : Option Value} {T : List (Option Value)} {x : Nat} (d : decode cc pc = .ok (.astore 7, 2)) (k : X Γ B own nm cc nL ret lev mc ms (pc + 2) (a0 :: a1 :: a2 :: a3 :: a4 :: a5 :: a6 :: some (vR B x) :: T) st kc ks S V) (hc : c1 a6 = true := by rfl) (hn : 7 < nL := by decide) : X Γ B own nm cc nL ret lev mc ms pc (a0 :: a1 :: a2 :: a3 :: a4 :: a5 :: a6 :: a7 :: T) (vR B x :: st) kc ks S V := by
  obtain ⟨p, l, e, R, s, m, args, below, meth, c, Q, D, ca⟩ := Γ
  intro o H locs ls h1 h2 h3
  have hp : ∀ w, 0 < 7 → (a0 :: a1 :: a2 :: a3 :: a4 :: a5 :: a6 :: a7 :: T)[7 - 1]? = some w → c1 w = true := fun w _ h => by
    have h : some a6 = some w := h
    cases h
    exact hc
  have hx := o.1
  have hb := o.2.1
  exact lv_astore hx hb d h3 hn rfl (fun ls' hl => k o H locs ls' h1 h2 (LH_st1 hl hp))
theorem x_rs7 {a7 : Option Value} {a0 a1 a2 a3 a4 a5 a6 : Option Value} {T : List (Option Value)} {x : Nat} (d : decode cc pc = .ok (.astore 7, 2)) (k : X Γ B own nm cc nL ret lev mc ms (pc + 2) (a0 :: a1 :: a2 :: a3 :: a4 :: a5 :: a6 :: some ((.ref x : Value)) :: T) st kc ks S V) (hc : c1 a6 = true := by rfl) (hn : 7 < nL := by decide) : X Γ B own nm cc nL ret lev mc ms pc (a0 :: a1 :: a2 :: a3 :: a4 :: a5 :: a6 :: a7 :: T) ((.ref x : Value) :: st) kc ks S V := by
  obtain ⟨p, l, e, R, s, m, args, below, meth, c, Q, D, ca⟩ := Γ
  intro o H locs ls h1 h2 h3
  have hp : ∀ w, 0 < 7 → (a0 :: a1 :: a2 :: a3 :: a4 :: a5 :: a6 :: a7 :: T)[7 - 1]? = some w → c1 w = true := fun w _ h => by
    have h : some a6 = some w := h
    cases h
    exact hc
  have hx := o.1
  have hb := o.2.1
  exact lv_astore hx hb d h3 hn rfl (fun ls' hl => k o H locs ls' h1 h2 (LH_st1 hl hp))
theorem x_ls7 {a7 a8 : Option Value} {a0 a1 a2 a3 a4 a5 a6 : Option Value} {T : List (Option Value)} {x : Int} (d : decode cc pc = .ok (.lstore 7, 2)) (k : X Γ B own nm cc nL ret lev mc ms (pc + 2) (a0 :: a1 :: a2 :: a3 :: a4 :: a5 :: a6 :: some (vL x) :: none :: T) st kc ks S V) (hc : c1 a6 = true := by rfl) (hn : 7 + 1 < nL := by decide) : X Γ B own nm cc nL ret lev mc ms pc (a0 :: a1 :: a2 :: a3 :: a4 :: a5 :: a6 :: a7 :: a8 :: T) (vL x :: st) kc ks S V := by
  obtain ⟨p, l, e, R, s, m, args, below, meth, c, Q, D, ca⟩ := Γ
  intro o H locs ls h1 h2 h3
  have hp : ∀ w, 0 < 7 → (a0 :: a1 :: a2 :: a3 :: a4 :: a5 :: a6 :: a7 :: a8 :: T)[7 - 1]? = some w → c1 w = true := fun w _ h => by
    have h : some a6 = some w := h
    cases h
    exact hc
  have hx := o.1
  have hb := o.2.1
  exact lv_lstore hx hb d h3 hn rfl (fun ls' hl => k o H locs ls' h1 h2 (LH_st2 hl hp))
theorem x_inc7 {a0 a1 a2 a3 a4 a5 a6 : Option Value} {T : List (Option Value)} {x n : Int} (d : decode cc pc = .ok (.iinc 7 n, 3)) (k : X Γ B own nm cc nL ret lev mc ms (pc + 3) (a0 :: a1 :: a2 :: a3 :: a4 :: a5 :: a6 :: some (vI (x + n)) :: T) st kc ks S V) (hc : c1 a6 = true := by rfl) (hn : 7 < nL := by decide) : X Γ B own nm cc nL ret lev mc ms pc (a0 :: a1 :: a2 :: a3 :: a4 :: a5 :: a6 :: some (vI x) :: T) st kc ks S V := by
  obtain ⟨p, l, e, R, s, m, args, below, meth, c, Q, D, ca⟩ := Γ
  intro o H locs ls h1 h2 h3
  have hp : ∀ w, 0 < 7 → (a0 :: a1 :: a2 :: a3 :: a4 :: a5 :: a6 :: some (vI x) :: T)[7 - 1]? = some w → c1 w = true := fun w _ h => by
    have h : some a6 = some w := h
    cases h
    exact hc
  have hm : (7, vI x) ∈ lvp 0 (a0 :: a1 :: a2 :: a3 :: a4 :: a5 :: a6 :: some (vI x) :: T) := (lvp_mem _ 0 7 _).mpr ⟨Nat.zero_le _, rfl⟩
  obtain ⟨j, hj⟩ := List.getElem?_of_mem hm
  exact lv_iinc (x := Int32.ofInt x) (v := Int32.ofInt (x + n)) (k := j) o.1 o.2.1 d h3 hj (Int32.ofInt_add x n).symm hn rfl (fun ls' hl => k o H locs ls' h1 h2 (LH_st1 hl hp))
theorem x_il8 {a0 a1 a2 a3 a4 a5 a6 a7 : Option Value} {T : List (Option Value)} {x : Int} (d : decode cc pc = .ok (.iload 8, 2)) (k : X Γ B own nm cc nL ret lev mc ms (pc + 2) (a0 :: a1 :: a2 :: a3 :: a4 :: a5 :: a6 :: a7 :: some (vI x) :: T) (vI x :: st) kc ks S V) : X Γ B own nm cc nL ret lev mc ms pc (a0 :: a1 :: a2 :: a3 :: a4 :: a5 :: a6 :: a7 :: some (vI x) :: T) st kc ks S V := by
  obtain ⟨p, l, e, R, s, m, args, below, meth, c, Q, D, ca⟩ := Γ
  intro o H locs ls h1 h2 h3
  have hl := h3.at_ (i := 8) rfl
  have hx := o.1
  have hb := o.2.1
  have k := k o H locs ls h1 h2 h3
  exact lv_iload hx hb d hl k
theorem x_ll8 {a0 a1 a2 a3 a4 a5 a6 a7 : Option Value} {T : List (Option Value)} {x : Int} (d : decode cc pc = .ok (.lload 8, 2)) (k : X Γ B own nm cc nL ret lev mc ms (pc + 2) (a0 :: a1 :: a2 :: a3 :: a4 :: a5 :: a6 :: a7 :: some (vL x) :: T) (vL x :: st) kc ks S V) : X Γ B own nm cc nL ret lev mc ms pc (a0 :: a1 :: a2 :: a3 :: a4 :: a5 :: a6 :: a7 :: some (vL x) :: T) st kc ks S V := by
  obtain ⟨p, l, e, R, s, m, args, below, meth, c, Q, D, ca⟩ := Γ
  intro o H locs ls h1 h2 h3
  have hl := h3.at_ (i := 8) rfl
  have hx := o.1
  have hb := o.2.1
  have k := k o H locs ls h1 h2 h3
  exact lv_lload hx hb d hl k
theorem x_al8 {a0 a1 a2 a3 a4 a5 a6 a7 : Option Value} {T : List (Option Value)} {x : Nat} (d : decode cc pc = .ok (.aload 8, 2)) (k : X Γ B own nm cc nL ret lev mc ms (pc + 2) (a0 :: a1 :: a2 :: a3 :: a4 :: a5 :: a6 :: a7 :: some (vR B x) :: T) (vR B x :: st) kc ks S V) : X Γ B own nm cc nL ret lev mc ms pc (a0 :: a1 :: a2 :: a3 :: a4 :: a5 :: a6 :: a7 :: some (vR B x) :: T) st kc ks S V := by
  obtain ⟨p, l, e, R, s, m, args, below, meth, c, Q, D, ca⟩ := Γ
  intro o H locs ls h1 h2 h3
  have hl := h3.at_ (i := 8) rfl
  have hx := o.1
  have hb := o.2.1
  have k := k o H locs ls h1 h2 h3
  exact lv_aload hx hb d hl k
theorem x_rl8 {a0 a1 a2 a3 a4 a5 a6 a7 : Option Value} {T : List (Option Value)} {x : Nat} (d : decode cc pc = .ok (.aload 8, 2)) (k : X Γ B own nm cc nL ret lev mc ms (pc + 2) (a0 :: a1 :: a2 :: a3 :: a4 :: a5 :: a6 :: a7 :: some ((.ref x : Value)) :: T) ((.ref x : Value) :: st) kc ks S V) : X Γ B own nm cc nL ret lev mc ms pc (a0 :: a1 :: a2 :: a3 :: a4 :: a5 :: a6 :: a7 :: some ((.ref x : Value)) :: T) st kc ks S V := by
  obtain ⟨p, l, e, R, s, m, args, below, meth, c, Q, D, ca⟩ := Γ
  intro o H locs ls h1 h2 h3
  have hl := h3.at_ (i := 8) rfl
  have hx := o.1
  have hb := o.2.1
  have k := k o H locs ls h1 h2 h3
  exact lv_aload hx hb d hl k
theorem x_is8 {a8 : Option Value} {a0 a1 a2 a3 a4 a5 a6 a7 : Option Value} {T : List (Option Value)} {x : Int} (d : decode cc pc = .ok (.istore 8, 2)) (k : X Γ B own nm cc nL ret lev mc ms (pc + 2) (a0 :: a1 :: a2 :: a3 :: a4 :: a5 :: a6 :: a7 :: some (vI x) :: T) st kc ks S V) (hc : c1 a7 = true := by rfl) (hn : 8 < nL := by decide) : X Γ B own nm cc nL ret lev mc ms pc (a0 :: a1 :: a2 :: a3 :: a4 :: a5 :: a6 :: a7 :: a8 :: T) (vI x :: st) kc ks S V := by
  obtain ⟨p, l, e, R, s, m, args, below, meth, c, Q, D, ca⟩ := Γ
  intro o H locs ls h1 h2 h3
  have hp : ∀ w, 0 < 8 → (a0 :: a1 :: a2 :: a3 :: a4 :: a5 :: a6 :: a7 :: a8 :: T)[8 - 1]? = some w → c1 w = true := fun w _ h => by
    have h : some a7 = some w := h
    cases h
    exact hc
  have hx := o.1
  have hb := o.2.1
  exact lv_istore hx hb d h3 hn rfl (fun ls' hl => k o H locs ls' h1 h2 (LH_st1 hl hp))
theorem x_as8 {a8 : Option Value} {a0 a1 a2 a3 a4 a5 a6 a7 : Option Value} {T : List (Option Value)} {x : Nat} (d : decode cc pc = .ok (.astore 8, 2)) (k : X Γ B own nm cc nL ret lev mc ms (pc + 2) (a0 :: a1 :: a2 :: a3 :: a4 :: a5 :: a6 :: a7 :: some (vR B x) :: T) st kc ks S V) (hc : c1 a7 = true := by rfl) (hn : 8 < nL := by decide) : X Γ B own nm cc nL ret lev mc ms pc (a0 :: a1 :: a2 :: a3 :: a4 :: a5 :: a6 :: a7 :: a8 :: T) (vR B x :: st) kc ks S V := by
  obtain ⟨p, l, e, R, s, m, args, below, meth, c, Q, D, ca⟩ := Γ
  intro o H locs ls h1 h2 h3
  have hp : ∀ w, 0 < 8 → (a0 :: a1 :: a2 :: a3 :: a4 :: a5 :: a6 :: a7 :: a8 :: T)[8 - 1]? = some w → c1 w = true := fun w _ h => by
    have h : some a7 = some w := h
    cases h
    exact hc
  have hx := o.1
  have hb := o.2.1
  exact lv_astore hx hb d h3 hn rfl (fun ls' hl => k o H locs ls' h1 h2 (LH_st1 hl hp))
theorem x_rs8 {a8 : Option Value} {a0 a1 a2 a3 a4 a5 a6 a7 : Option Value} {T : List (Option Value)} {x : Nat} (d : decode cc pc = .ok (.astore 8, 2)) (k : X Γ B own nm cc nL ret lev mc ms (pc + 2) (a0 :: a1 :: a2 :: a3 :: a4 :: a5 :: a6 :: a7 :: some ((.ref x : Value)) :: T) st kc ks S V) (hc : c1 a7 = true := by rfl) (hn : 8 < nL := by decide) : X Γ B own nm cc nL ret lev mc ms pc (a0 :: a1 :: a2 :: a3 :: a4 :: a5 :: a6 :: a7 :: a8 :: T) ((.ref x : Value) :: st) kc ks S V := by
  obtain ⟨p, l, e, R, s, m, args, below, meth, c, Q, D, ca⟩ := Γ
  intro o H locs ls h1 h2 h3
  have hp : ∀ w, 0 < 8 → (a0 :: a1 :: a2 :: a3 :: a4 :: a5 :: a6 :: a7 :: a8 :: T)[8 - 1]? = some w → c1 w = true := fun w _ h => by
    have h : some a7 = some w := h
    cases h
    exact hc
  have hx := o.1
  have hb := o.2.1
  exact lv_astore hx hb d h3 hn rfl (fun ls' hl => k o H locs ls' h1 h2 (LH_st1 hl hp))
theorem x_ls8 {a8 a9 : Option Value} {a0 a1 a2 a3 a4 a5 a6 a7 : Option Value} {T : List (Option Value)} {x : Int} (d : decode cc pc = .ok (.lstore 8, 2)) (k : X Γ B own nm cc nL ret lev mc ms (pc + 2) (a0 :: a1 :: a2 :: a3 :: a4 :: a5 :: a6 :: a7 :: some (vL x) :: none :: T) st kc ks S V) (hc : c1 a7 = true := by rfl) (hn : 8 + 1 < nL := by decide) : X Γ B own nm cc nL ret lev mc ms pc (a0 :: a1 :: a2 :: a3 :: a4 :: a5 :: a6 :: a7 :: a8 :: a9 :: T) (vL x :: st) kc ks S V := by
  obtain ⟨p, l, e, R, s, m, args, below, meth, c, Q, D, ca⟩ := Γ
  intro o H locs ls h1 h2 h3
  have hp : ∀ w, 0 < 8 → (a0 :: a1 :: a2 :: a3 :: a4 :: a5 :: a6 :: a7 :: a8 :: a9 :: T)[8 - 1]? = some w → c1 w = true := fun w _ h => by
    have h : some a7 = some w := h
    cases h
    exact hc
  have hx := o.1
  have hb := o.2.1
  exact lv_lstore hx hb d h3 hn rfl (fun ls' hl => k o H locs ls' h1 h2 (LH_st2 hl hp))
theorem x_inc8 {a0 a1 a2 a3 a4 a5 a6 a7 : Option Value} {T : List (Option Value)} {x n : Int} (d : decode cc pc = .ok (.iinc 8 n, 3)) (k : X Γ B own nm cc nL ret lev mc ms (pc + 3) (a0 :: a1 :: a2 :: a3 :: a4 :: a5 :: a6 :: a7 :: some (vI (x + n)) :: T) st kc ks S V) (hc : c1 a7 = true := by rfl) (hn : 8 < nL := by decide) : X Γ B own nm cc nL ret lev mc ms pc (a0 :: a1 :: a2 :: a3 :: a4 :: a5 :: a6 :: a7 :: some (vI x) :: T) st kc ks S V := by
  obtain ⟨p, l, e, R, s, m, args, below, meth, c, Q, D, ca⟩ := Γ
  intro o H locs ls h1 h2 h3
  have hp : ∀ w, 0 < 8 → (a0 :: a1 :: a2 :: a3 :: a4 :: a5 :: a6 :: a7 :: some (vI x) :: T)[8 - 1]? = some w → c1 w = true := fun w _ h => by
    have h : some a7 = some w := h
    cases h
    exact hc
  have hm : (8, vI x) ∈ lvp 0 (a0 :: a1 :: a2 :: a3 :: a4 :: a5 :: a6 :: a7 :: some (vI x) :: T) := (lvp_mem _ 0 8 _).mpr ⟨Nat.zero_le _, rfl⟩
  obtain ⟨j, hj⟩ := List.getElem?_of_mem hm
  exact lv_iinc (x := Int32.ofInt x) (v := Int32.ofInt (x + n)) (k := j) o.1 o.2.1 d h3 hj (Int32.ofInt_add x n).symm hn rfl (fun ls' hl => k o H locs ls' h1 h2 (LH_st1 hl hp))
theorem x_il9 {a0 a1 a2 a3 a4 a5 a6 a7 a8 : Option Value} {T : List (Option Value)} {x : Int} (d : decode cc pc = .ok (.iload 9, 2)) (k : X Γ B own nm cc nL ret lev mc ms (pc + 2) (a0 :: a1 :: a2 :: a3 :: a4 :: a5 :: a6 :: a7 :: a8 :: some (vI x) :: T) (vI x :: st) kc ks S V) : X Γ B own nm cc nL ret lev mc ms pc (a0 :: a1 :: a2 :: a3 :: a4 :: a5 :: a6 :: a7 :: a8 :: some (vI x) :: T) st kc ks S V := by
  obtain ⟨p, l, e, R, s, m, args, below, meth, c, Q, D, ca⟩ := Γ
  intro o H locs ls h1 h2 h3
  have hl := h3.at_ (i := 9) rfl
  have hx := o.1
  have hb := o.2.1
  have k := k o H locs ls h1 h2 h3
  exact lv_iload hx hb d hl k
theorem x_ll9 {a0 a1 a2 a3 a4 a5 a6 a7 a8 : Option Value} {T : List (Option Value)} {x : Int} (d : decode cc pc = .ok (.lload 9, 2)) (k : X Γ B own nm cc nL ret lev mc ms (pc + 2) (a0 :: a1 :: a2 :: a3 :: a4 :: a5 :: a6 :: a7 :: a8 :: some (vL x) :: T) (vL x :: st) kc ks S V) : X Γ B own nm cc nL ret lev mc ms pc (a0 :: a1 :: a2 :: a3 :: a4 :: a5 :: a6 :: a7 :: a8 :: some (vL x) :: T) st kc ks S V := by
  obtain ⟨p, l, e, R, s, m, args, below, meth, c, Q, D, ca⟩ := Γ
  intro o H locs ls h1 h2 h3
  have hl := h3.at_ (i := 9) rfl
  have hx := o.1
  have hb := o.2.1
  have k := k o H locs ls h1 h2 h3
  exact lv_lload hx hb d hl k
theorem x_al9 {a0 a1 a2 a3 a4 a5 a6 a7 a8 : Option Value} {T : List (Option Value)} {x : Nat} (d : decode cc pc = .ok (.aload 9, 2)) (k : X Γ B own nm cc nL ret lev mc ms (pc + 2) (a0 :: a1 :: a2 :: a3 :: a4 :: a5 :: a6 :: a7 :: a8 :: some (vR B x) :: T) (vR B x :: st) kc ks S V) : X Γ B own nm cc nL ret lev mc ms pc (a0 :: a1 :: a2 :: a3 :: a4 :: a5 :: a6 :: a7 :: a8 :: some (vR B x) :: T) st kc ks S V := by
  obtain ⟨p, l, e, R, s, m, args, below, meth, c, Q, D, ca⟩ := Γ
  intro o H locs ls h1 h2 h3
  have hl := h3.at_ (i := 9) rfl
  have hx := o.1
  have hb := o.2.1
  have k := k o H locs ls h1 h2 h3
  exact lv_aload hx hb d hl k
theorem x_rl9 {a0 a1 a2 a3 a4 a5 a6 a7 a8 : Option Value} {T : List (Option Value)} {x : Nat} (d : decode cc pc = .ok (.aload 9, 2)) (k : X Γ B own nm cc nL ret lev mc ms (pc + 2) (a0 :: a1 :: a2 :: a3 :: a4 :: a5 :: a6 :: a7 :: a8 :: some ((.ref x : Value)) :: T) ((.ref x : Value) :: st) kc ks S V) : X Γ B own nm cc nL ret lev mc ms pc (a0 :: a1 :: a2 :: a3 :: a4 :: a5 :: a6 :: a7 :: a8 :: some ((.ref x : Value)) :: T) st kc ks S V := by
  obtain ⟨p, l, e, R, s, m, args, below, meth, c, Q, D, ca⟩ := Γ
  intro o H locs ls h1 h2 h3
  have hl := h3.at_ (i := 9) rfl
  have hx := o.1
  have hb := o.2.1
  have k := k o H locs ls h1 h2 h3
  exact lv_aload hx hb d hl k
theorem x_is9 {a9 : Option Value} {a0 a1 a2 a3 a4 a5 a6 a7 a8 : Option Value} {T : List (Option Value)} {x : Int} (d : decode cc pc = .ok (.istore 9, 2)) (k : X Γ B own nm cc nL ret lev mc ms (pc + 2) (a0 :: a1 :: a2 :: a3 :: a4 :: a5 :: a6 :: a7 :: a8 :: some (vI x) :: T) st kc ks S V) (hc : c1 a8 = true := by rfl) (hn : 9 < nL := by decide) : X Γ B own nm cc nL ret lev mc ms pc (a0 :: a1 :: a2 :: a3 :: a4 :: a5 :: a6 :: a7 :: a8 :: a9 :: T) (vI x :: st) kc ks S V := by
  obtain ⟨p, l, e, R, s, m, args, below, meth, c, Q, D, ca⟩ := Γ
  intro o H locs ls h1 h2 h3
  have hp : ∀ w, 0 < 9 → (a0 :: a1 :: a2 :: a3 :: a4 :: a5 :: a6 :: a7 :: a8 :: a9 :: T)[9 - 1]? = some w → c1 w = true := fun w _ h => by
    have h : some a8 = some w := h
    cases h
    exact hc
  have hx := o.1
  have hb := o.2.1
  exact lv_istore hx hb d h3 hn rfl (fun ls' hl => k o H locs ls' h1 h2 (LH_st1 hl hp))
theorem x_as9 {a9 : Option Value} {a0 a1 a2 a3 a4 a5 a6 a7 a8 : Option Value} {T : List (Option Value)} {x : Nat} (d : decode cc pc = .ok (.astore 9, 2)) (k : X Γ B own nm cc nL ret lev mc ms (pc + 2) (a0 :: a1 :: a2 :: a3 :: a4 :: a5 :: a6 :: a7 :: a8 :: some (vR B x) :: T) st kc ks S V) (hc : c1 a8 = true := by rfl) (hn : 9 < nL := by decide) : X Γ B own nm cc nL ret lev mc ms pc (a0 :: a1 :: a2 :: a3 :: a4 :: a5 :: a6 :: a7 :: a8 :: a9 :: T) (vR B x :: st) kc ks S V := by
  obtain ⟨p, l, e, R, s, m, args, below, meth, c, Q, D, ca⟩ := Γ
  intro o H locs ls h1 h2 h3
  have hp : ∀ w, 0 < 9 → (a0 :: a1 :: a2 :: a3 :: a4 :: a5 :: a6 :: a7 :: a8 :: a9 :: T)[9 - 1]? = some w → c1 w = true := fun w _ h => by
    have h : some a8 = some w := h
    cases h
    exact hc
  have hx := o.1
  have hb := o.2.1
  exact lv_astore hx hb d h3 hn rfl (fun ls' hl => k o H locs ls' h1 h2 (LH_st1 hl hp))
theorem x_rs9 {a9 : Option Value} {a0 a1 a2 a3 a4 a5 a6 a7 a8 : Option Value} {T : List (Option Value)} {x : Nat} (d : decode cc pc = .ok (.astore 9, 2)) (k : X Γ B own nm cc nL ret lev mc ms (pc + 2) (a0 :: a1 :: a2 :: a3 :: a4 :: a5 :: a6 :: a7 :: a8 :: some ((.ref x : Value)) :: T) st kc ks S V) (hc : c1 a8 = true := by rfl) (hn : 9 < nL := by decide) : X Γ B own nm cc nL ret lev mc ms pc (a0 :: a1 :: a2 :: a3 :: a4 :: a5 :: a6 :: a7 :: a8 :: a9 :: T) ((.ref x : Value) :: st) kc ks S V := by
  obtain ⟨p, l, e, R, s, m, args, below, meth, c, Q, D, ca⟩ := Γ
  intro o H locs ls h1 h2 h3
  have hp : ∀ w, 0 < 9 → (a0 :: a1 :: a2 :: a3 :: a4 :: a5 :: a6 :: a7 :: a8 :: a9 :: T)[9 - 1]? = some w → c1 w = true := fun w _ h => by
    have h : some a8 = some w := h
    cases h
    exact hc
  have hx := o.1
  have hb := o.2.1
  exact lv_astore hx hb d h3 hn rfl (fun ls' hl => k o H locs ls' h1 h2 (LH_st1 hl hp))
theorem x_ls9 {a9 a10 : Option Value} {a0 a1 a2 a3 a4 a5 a6 a7 a8 : Option Value} {T : List (Option Value)} {x : Int} (d : decode cc pc = .ok (.lstore 9, 2)) (k : X Γ B own nm cc nL ret lev mc ms (pc + 2) (a0 :: a1 :: a2 :: a3 :: a4 :: a5 :: a6 :: a7 :: a8 :: some (vL x) :: none :: T) st kc ks S V) (hc : c1 a8 = true := by rfl) (hn : 9 + 1 < nL := by decide) : X Γ B own nm cc nL ret lev mc ms pc (a0 :: a1 :: a2 :: a3 :: a4 :: a5 :: a6 :: a7 :: a8 :: a9 :: a10 :: T) (vL x :: st) kc ks S V := by
  obtain ⟨p, l, e, R, s, m, args, below, meth, c, Q, D, ca⟩ := Γ
  intro o H locs ls h1 h2 h3
  have hp : ∀ w, 0 < 9 → (a0 :: a1 :: a2 :: a3 :: a4 :: a5 :: a6 :: a7 :: a8 :: a9 :: a10 :: T)[9 - 1]? = some w → c1 w = true := fun w _ h => by
    have h : some a8 = some w := h
    cases h
    exact hc
  have hx := o.1
  have hb := o.2.1
  exact lv_lstore hx hb d h3 hn rfl (fun ls' hl => k o H locs ls' h1 h2 (LH_st2 hl hp))
theorem x_inc9 {a0 a1 a2 a3 a4 a5 a6 a7 a8 : Option Value} {T : List (Option Value)} {x n : Int} (d : decode cc pc = .ok (.iinc 9 n, 3)) (k : X Γ B own nm cc nL ret lev mc ms (pc + 3) (a0 :: a1 :: a2 :: a3 :: a4 :: a5 :: a6 :: a7 :: a8 :: some (vI (x + n)) :: T) st kc ks S V) (hc : c1 a8 = true := by rfl) (hn : 9 < nL := by decide) : X Γ B own nm cc nL ret lev mc ms pc (a0 :: a1 :: a2 :: a3 :: a4 :: a5 :: a6 :: a7 :: a8 :: some (vI x) :: T) st kc ks S V := by
  obtain ⟨p, l, e, R, s, m, args, below, meth, c, Q, D, ca⟩ := Γ
  intro o H locs ls h1 h2 h3
  have hp : ∀ w, 0 < 9 → (a0 :: a1 :: a2 :: a3 :: a4 :: a5 :: a6 :: a7 :: a8 :: some (vI x) :: T)[9 - 1]? = some w → c1 w = true := fun w _ h => by
    have h : some a8 = some w := h
    cases h
    exact hc
  have hm : (9, vI x) ∈ lvp 0 (a0 :: a1 :: a2 :: a3 :: a4 :: a5 :: a6 :: a7 :: a8 :: some (vI x) :: T) := (lvp_mem _ 0 9 _).mpr ⟨Nat.zero_le _, rfl⟩
  obtain ⟨j, hj⟩ := List.getElem?_of_mem hm
  exact lv_iinc (x := Int32.ofInt x) (v := Int32.ofInt (x + n)) (k := j) o.1 o.2.1 d h3 hj (Int32.ofInt_add x n).symm hn rfl (fun ls' hl => k o H locs ls' h1 h2 (LH_st1 hl hp))
theorem x_il10 {a0 a1 a2 a3 a4 a5 a6 a7 a8 a9 : Option Value} {T : List (Option Value)} {x : Int} (d : decode cc pc = .ok (.iload 10, 2)) (k : X Γ B own nm cc nL ret lev mc ms (pc + 2) (a0 :: a1 :: a2 :: a3 :: a4 :: a5 :: a6 :: a7 :: a8 :: a9 :: some (vI x) :: T) (vI x :: st) kc ks S V) : X Γ B own nm cc nL ret lev mc ms pc (a0 :: a1 :: a2 :: a3 :: a4 :: a5 :: a6 :: a7 :: a8 :: a9 :: some (vI x) :: T) st kc ks S V := by
  obtain ⟨p, l, e, R, s, m, args, below, meth, c, Q, D, ca⟩ := Γ
  intro o H locs ls h1 h2 h3
  have hl := h3.at_ (i := 10) rfl
  have hx := o.1
  have hb := o.2.1
  have k := k o H locs ls h1 h2 h3
  exact lv_iload hx hb d hl k
theorem x_ll10 {a0 a1 a2 a3 a4 a5 a6 a7 a8 a9 : Option Value} {T : List (Option Value)} {x : Int} (d : decode cc pc = .ok (.lload 10, 2)) (k : X Γ B own nm cc nL ret lev mc ms (pc + 2) (a0 :: a1 :: a2 :: a3 :: a4 :: a5 :: a6 :: a7 :: a8 :: a9 :: some (vL x) :: T) (vL x :: st) kc ks S V) : X Γ B own nm cc nL ret lev mc ms pc (a0 :: a1 :: a2 :: a3 :: a4 :: a5 :: a6 :: a7 :: a8 :: a9 :: some (vL x) :: T) st kc ks S V := by
  obtain ⟨p, l, e, R, s, m, args, below, meth, c, Q, D, ca⟩ := Γ
  intro o H locs ls h1 h2 h3
  have hl := h3.at_ (i := 10) rfl
  have hx := o.1
  have hb := o.2.1
  have k := k o H locs ls h1 h2 h3
  exact lv_lload hx hb d hl k
theorem x_al10 {a0 a1 a2 a3 a4 a5 a6 a7 a8 a9 : Option Value} {T : List (Option Value)} {x : Nat} (d : decode cc pc = .ok (.aload 10, 2)) (k : X Γ B own nm cc nL ret lev mc ms (pc + 2) (a0 :: a1 :: a2 :: a3 :: a4 :: a5 :: a6 :: a7 :: a8 :: a9 :: some (vR B x) :: T) (vR B x :: st) kc ks S V) : X Γ B own nm cc nL ret lev mc ms pc (a0 :: a1 :: a2 :: a3 :: a4 :: a5 :: a6 :: a7 :: a8 :: a9 :: some (vR B x) :: T) st kc ks S V := by
  obtain ⟨p, l, e, R, s, m, args, below, meth, c, Q, D, ca⟩ := Γ
  intro o H locs ls h1 h2 h3
  have hl := h3.at_ (i := 10) rfl
  have hx := o.1
  have hb := o.2.1
  have k := k o H locs ls h1 h2 h3
  exact lv_aload hx hb d hl k
theorem x_rl10 {a0 a1 a2 a3 a4 a5 a6 a7 a8 a9 : Option Value} {T : List (Option Value)} {x : Nat} (d : decode cc pc = .ok (.aload 10, 2)) (k : X Γ B own nm cc nL ret lev mc ms (pc + 2) (a0 :: a1 :: a2 :: a3 :: a4 :: a5 :: a6 :: a7 :: a8 :: a9 :: some ((.ref x : Value)) :: T) ((.ref x : Value) :: st) kc ks S V) : X Γ B own nm cc nL ret lev mc ms pc (a0 :: a1 :: a2 :: a3 :: a4 :: a5 :: a6 :: a7 :: a8 :: a9 :: some ((.ref x : Value)) :: T) st kc ks S V := by
  obtain ⟨p, l, e, R, s, m, args, below, meth, c, Q, D, ca⟩ := Γ
  intro o H locs ls h1 h2 h3
  have hl := h3.at_ (i := 10) rfl
  have hx := o.1
  have hb := o.2.1
  have k := k o H locs ls h1 h2 h3
  exact lv_aload hx hb d hl k
theorem x_is10 {a10 : Option Value} {a0 a1 a2 a3 a4 a5 a6 a7 a8 a9 : Option Value} {T : List (Option Value)} {x : Int} (d : decode cc pc = .ok (.istore 10, 2)) (k : X Γ B own nm cc nL ret lev mc ms (pc + 2) (a0 :: a1 :: a2 :: a3 :: a4 :: a5 :: a6 :: a7 :: a8 :: a9 :: some (vI x) :: T) st kc ks S V) (hc : c1 a9 = true := by rfl) (hn : 10 < nL := by decide) : X Γ B own nm cc nL ret lev mc ms pc (a0 :: a1 :: a2 :: a3 :: a4 :: a5 :: a6 :: a7 :: a8 :: a9 :: a10 :: T) (vI x :: st) kc ks S V := by
  obtain ⟨p, l, e, R, s, m, args, below, meth, c, Q, D, ca⟩ := Γ
  intro o H locs ls h1 h2 h3
  have hp : ∀ w, 0 < 10 → (a0 :: a1 :: a2 :: a3 :: a4 :: a5 :: a6 :: a7 :: a8 :: a9 :: a10 :: T)[10 - 1]? = some w → c1 w = true := fun w _ h => by
    have h : some a9 = some w := h
    cases h
    exact hc
  have hx := o.1
  have hb := o.2.1
  exact lv_istore hx hb d h3 hn rfl (fun ls' hl => k o H locs ls' h1 h2 (LH_st1 hl hp))
theorem x_as10 {a10 : Option Value} {a0 a1 a2 a3 a4 a5 a6 a7 a8 a9 : Option Value} {T : List (Option Value)} {x : Nat} (d : decode cc pc = .ok (.astore 10, 2)) (k : X Γ B own nm cc nL ret lev mc ms (pc + 2) (a0 :: a1 :: a2 :: a3 :: a4 :: a5 :: a6 :: a7 :: a8 :: a9 :: some (vR B x) :: T) st kc ks S V) (hc : c1 a9 = true := by rfl) (hn : 10 < nL := by decide) : X Γ B own nm cc nL ret lev mc ms pc (a0 :: a1 :: a2 :: a3 :: a4 :: a5 :: a6 :: a7 :: a8 :: a9 :: a10 :: T) (vR B x :: st) kc ks S V := by
  obtain ⟨p, l, e, R, s, m, args, below, meth, c, Q, D, ca⟩ := Γ
  intro o H locs ls h1 h2 h3
  have hp : ∀ w, 0 < 10 → (a0 :: a1 :: a2 :: a3 :: a4 :: a5 :: a6 :: a7 :: a8 :: a9 :: a10 :: T)[10 - 1]? = some w → c1 w = true := fun w _ h => by
    have h : some a9 = some w := h
    cases h
    exact hc
  have hx := o.1
  have hb := o.2.1
  exact lv_astore hx hb d h3 hn rfl (fun ls' hl => k o H locs ls' h1 h2 (LH_st1 hl hp))
theorem x_rs10 {a10 : Option Value} {a0 a1 a2 a3 a4 a5 a6 a7 a8 a9 : Option Value} {T : List (Option Value)} {x : Nat} (d : decode cc pc = .ok (.astore 10, 2)) (k : X Γ B own nm cc nL ret lev mc ms (pc + 2) (a0 :: a1 :: a2 :: a3 :: a4 :: a5 :: a6 :: a7 :: a8 :: a9 :: some ((.ref x : Value)) :: T) st kc ks S V) (hc : c1 a9 = true := by rfl) (hn : 10 < nL := by decide) : X Γ B own nm cc nL ret lev mc ms pc (a0 :: a1 :: a2 :: a3 :: a4 :: a5 :: a6 :: a7 :: a8 :: a9 :: a10 :: T) ((.ref x : Value) :: st) kc ks S V := by
  obtain ⟨p, l, e, R, s, m, args, below, meth, c, Q, D, ca⟩ := Γ
  intro o H locs ls h1 h2 h3
  have hp : ∀ w, 0 < 10 → (a0 :: a1 :: a2 :: a3 :: a4 :: a5 :: a6 :: a7 :: a8 :: a9 :: a10 :: T)[10 - 1]? = some w → c1 w = true := fun w _ h => by
    have h : some a9 = some w := h
    cases h
    exact hc
  have hx := o.1
  have hb := o.2.1
  exact lv_astore hx hb d h3 hn rfl (fun ls' hl => k o H locs ls' h1 h2 (LH_st1 hl hp))
theorem x_ls10 {a10 a11 : Option Value} {a0 a1 a2 a3 a4 a5 a6 a7 a8 a9 : Option Value} {T : List (Option Value)} {x : Int} (d : decode cc pc = .ok (.lstore 10, 2)) (k : X Γ B own nm cc nL ret lev mc ms (pc + 2) (a0 :: a1 :: a2 :: a3 :: a4 :: a5 :: a6 :: a7 :: a8 :: a9 :: some (vL x) :: none :: T) st kc ks S V) (hc : c1 a9 = true := by rfl) (hn : 10 + 1 < nL := by decide) : X Γ B own nm cc nL ret lev mc ms pc (a0 :: a1 :: a2 :: a3 :: a4 :: a5 :: a6 :: a7 :: a8 :: a9 :: a10 :: a11 :: T) (vL x :: st) kc ks S V := by
  obtain ⟨p, l, e, R, s, m, args, below, meth, c, Q, D, ca⟩ := Γ
  intro o H locs ls h1 h2 h3
  have hp : ∀ w, 0 < 10 → (a0 :: a1 :: a2 :: a3 :: a4 :: a5 :: a6 :: a7 :: a8 :: a9 :: a10 :: a11 :: T)[10 - 1]? = some w → c1 w = true := fun w _ h => by
    have h : some a9 = some w := h
    cases h
    exact hc
  have hx := o.1
  have hb := o.2.1
  exact lv_lstore hx hb d h3 hn rfl (fun ls' hl => k o H locs ls' h1 h2 (LH_st2 hl hp))
theorem x_inc10 {a0 a1 a2 a3 a4 a5 a6 a7 a8 a9 : Option Value} {T : List (Option Value)} {x n : Int} (d : decode cc pc = .ok (.iinc 10 n, 3)) (k : X Γ B own nm cc nL ret lev mc ms (pc + 3) (a0 :: a1 :: a2 :: a3 :: a4 :: a5 :: a6 :: a7 :: a8 :: a9 :: some (vI (x + n)) :: T) st kc ks S V) (hc : c1 a9 = true := by rfl) (hn : 10 < nL := by decide) : X Γ B own nm cc nL ret lev mc ms pc (a0 :: a1 :: a2 :: a3 :: a4 :: a5 :: a6 :: a7 :: a8 :: a9 :: some (vI x) :: T) st kc ks S V := by
  obtain ⟨p, l, e, R, s, m, args, below, meth, c, Q, D, ca⟩ := Γ
  intro o H locs ls h1 h2 h3
  have hp : ∀ w, 0 < 10 → (a0 :: a1 :: a2 :: a3 :: a4 :: a5 :: a6 :: a7 :: a8 :: a9 :: some (vI x) :: T)[10 - 1]? = some w → c1 w = true := fun w _ h => by
    have h : some a9 = some w := h
    cases h
    exact hc
  have hm : (10, vI x) ∈ lvp 0 (a0 :: a1 :: a2 :: a3 :: a4 :: a5 :: a6 :: a7 :: a8 :: a9 :: some (vI x) :: T) := (lvp_mem _ 0 10 _).mpr ⟨Nat.zero_le _, rfl⟩
  obtain ⟨j, hj⟩ := List.getElem?_of_mem hm
  exact lv_iinc (x := Int32.ofInt x) (v := Int32.ofInt (x + n)) (k := j) o.1 o.2.1 d h3 hj (Int32.ofInt_add x n).symm hn rfl (fun ls' hl => k o H locs ls' h1 h2 (LH_st1 hl hp))
theorem x_il11 {a0 a1 a2 a3 a4 a5 a6 a7 a8 a9 a10 : Option Value} {T : List (Option Value)} {x : Int} (d : decode cc pc = .ok (.iload 11, 2)) (k : X Γ B own nm cc nL ret lev mc ms (pc + 2) (a0 :: a1 :: a2 :: a3 :: a4 :: a5 :: a6 :: a7 :: a8 :: a9 :: a10 :: some (vI x) :: T) (vI x :: st) kc ks S V) : X Γ B own nm cc nL ret lev mc ms pc (a0 :: a1 :: a2 :: a3 :: a4 :: a5 :: a6 :: a7 :: a8 :: a9 :: a10 :: some (vI x) :: T) st kc ks S V := by
  obtain ⟨p, l, e, R, s, m, args, below, meth, c, Q, D, ca⟩ := Γ
  intro o H locs ls h1 h2 h3
  have hl := h3.at_ (i := 11) rfl
  have hx := o.1
  have hb := o.2.1
  have k := k o H locs ls h1 h2 h3
  exact lv_iload hx hb d hl k
theorem x_ll11 {a0 a1 a2 a3 a4 a5 a6 a7 a8 a9 a10 : Option Value} {T : List (Option Value)} {x : Int} (d : decode cc pc = .ok (.lload 11, 2)) (k : X Γ B own nm cc nL ret lev mc ms (pc + 2) (a0 :: a1 :: a2 :: a3 :: a4 :: a5 :: a6 :: a7 :: a8 :: a9 :: a10 :: some (vL x) :: T) (vL x :: st) kc ks S V) : X Γ B own nm cc nL ret lev mc ms pc (a0 :: a1 :: a2 :: a3 :: a4 :: a5 :: a6 :: a7 :: a8 :: a9 :: a10 :: some (vL x) :: T) st kc ks S V := by
  obtain ⟨p, l, e, R, s, m, args, below, meth, c, Q, D, ca⟩ := Γ
  intro o H locs ls h1 h2 h3
  have hl := h3.at_ (i := 11) rfl
  have hx := o.1
  have hb := o.2.1
  have k := k o H locs ls h1 h2 h3
  exact lv_lload hx hb d hl k
theorem x_al11 {a0 a1 a2 a3 a4 a5 a6 a7 a8 a9 a10 : Option Value} {T : List (Option Value)} {x : Nat} (d : decode cc pc = .ok (.aload 11, 2)) (k : X Γ B own nm cc nL ret lev mc ms (pc + 2) (a0 :: a1 :: a2 :: a3 :: a4 :: a5 :: a6 :: a7 :: a8 :: a9 :: a10 :: some (vR B x) :: T) (vR B x :: st) kc ks S V) : X Γ B own nm cc nL ret lev mc ms pc (a0 :: a1 :: a2 :: a3 :: a4 :: a5 :: a6 :: a7 :: a8 :: a9 :: a10 :: some (vR B x) :: T) st kc ks S V := by
  obtain ⟨p, l, e, R, s, m, args, below, meth, c, Q, D, ca⟩ := Γ
  intro o H locs ls h1 h2 h3
  have hl := h3.at_ (i := 11) rfl
  have hx := o.1
  have hb := o.2.1
  have k := k o H locs ls h1 h2 h3
  exact lv_aload hx hb d hl k
theorem x_rl11 {a0 a1 a2 a3 a4 a5 a6 a7 a8 a9 a10 : Option Value} {T : List (Option Value)} {x : Nat} (d : decode cc pc = .ok (.aload 11, 2)) (k : X Γ B own nm cc nL ret lev mc ms (pc + 2) (a0 :: a1 :: a2 :: a3 :: a4 :: a5 :: a6 :: a7 :: a8 :: a9 :: a10 :: some ((.ref x : Value)) :: T) ((.ref x : Value) :: st) kc ks S V) : X Γ B own nm cc nL ret lev mc ms pc (a0 :: a1 :: a2 :: a3 :: a4 :: a5 :: a6 :: a7 :: a8 :: a9 :: a10 :: some ((.ref x : Value)) :: T) st kc ks S V := by
  obtain ⟨p, l, e, R, s, m, args, below, meth, c, Q, D, ca⟩ := Γ
  intro o H locs ls h1 h2 h3
  have hl := h3.at_ (i := 11) rfl
  have hx := o.1
  have hb := o.2.1
  have k := k o H locs ls h1 h2 h3
  exact lv_aload hx hb d hl k
theorem x_is11 {a11 : Option Value} {a0 a1 a2 a3 a4 a5 a6 a7 a8 a9 a10 : Option Value} {T : List (Option Value)} {x : Int} (d : decode cc pc = .ok (.istore 11, 2)) (k : X Γ B own nm cc nL ret lev mc ms (pc + 2) (a0 :: a1 :: a2 :: a3 :: a4 :: a5 :: a6 :: a7 :: a8 :: a9 :: a10 :: some (vI x) :: T) st kc ks S V) (hc : c1 a10 = true := by rfl) (hn : 11 < nL := by decide) : X Γ B own nm cc nL ret lev mc ms pc (a0 :: a1 :: a2 :: a3 :: a4 :: a5 :: a6 :: a7 :: a8 :: a9 :: a10 :: a11 :: T) (vI x :: st) kc ks S V := by
  obtain ⟨p, l, e, R, s, m, args, below, meth, c, Q, D, ca⟩ := Γ
  intro o H locs ls h1 h2 h3
  have hp : ∀ w, 0 < 11 → (a0 :: a1 :: a2 :: a3 :: a4 :: a5 :: a6 :: a7 :: a8 :: a9 :: a10 :: a11 :: T)[11 - 1]? = some w → c1 w = true := fun w _ h => by
    have h : some a10 = some w := h
    cases h
    exact hc
  have hx := o.1
  have hb := o.2.1
  exact lv_istore hx hb d h3 hn rfl (fun ls' hl => k o H locs ls' h1 h2 (LH_st1 hl hp))
theorem x_as11 {a11 : Option Value} {a0 a1 a2 a3 a4 a5 a6 a7 a8 a9 a10 : Option Value} {T : List (Option Value)} {x : Nat} (d : decode cc pc = .ok (.astore 11, 2)) (k : X Γ B own nm cc nL ret lev mc ms (pc + 2) (a0 :: a1 :: a2 :: a3 :: a4 :: a5 :: a6 :: a7 :: a8 :: a9 :: a10 :: some (vR B x) :: T) st kc ks S V) (hc : c1 a10 = true := by rfl) (hn : 11 < nL := by decide) : X Γ B own nm cc nL ret lev mc ms pc (a0 :: a1 :: a2 :: a3 :: a4 :: a5 :: a6 :: a7 :: a8 :: a9 :: a10 :: a11 :: T) (vR B x :: st) kc ks S V := by
  obtain ⟨p, l, e, R, s, m, args, below, meth, c, Q, D, ca⟩ := Γ
  intro o H locs ls h1 h2 h3
  have hp : ∀ w, 0 < 11 → (a0 :: a1 :: a2 :: a3 :: a4 :: a5 :: a6 :: a7 :: a8 :: a9 :: a10 :: a11 :: T)[11 - 1]? = some w → c1 w = true := fun w _ h => by
    have h : some a10 = some w := h
    cases h
    exact hc
  have hx := o.1
  have hb := o.2.1
  exact lv_astore hx hb d h3 hn rfl (fun ls' hl => k o H locs ls' h1 h2 (LH_st1 hl hp))
theorem x_rs11 {a11 : Option Value} {a0 a1 a2 a3 a4 a5 a6 a7 a8 a9 a10 : Option Value} {T : List (Option Value)} {x : Nat} (d : decode cc pc = .ok (.astore 11, 2)) (k : X Γ B own nm cc nL ret lev mc ms (pc + 2) (a0 :: a1 :: a2 :: a3 :: a4 :: a5 :: a6 :: a7 :: a8 :: a9 :: a10 :: some ((.ref x : Value)) :: T) st kc ks S V) (hc : c1 a10 = true := by rfl) (hn : 11 < nL := by decide) : X Γ B own nm cc nL ret lev mc ms pc (a0 :: a1 :: a2 :: a3 :: a4 :: a5 :: a6 :: a7 :: a8 :: a9 :: a10 :: a11 :: T) ((.ref x : Value) :: st) kc ks S V := by
  obtain ⟨p, l, e, R, s, m, args, below, meth, c, Q, D, ca⟩ := Γ
  intro o H locs ls h1 h2 h3
  have hp : ∀ w, 0 < 11 → (a0 :: a1 :: a2 :: a3 :: a4 :: a5 :: a6 :: a7 :: a8 :: a9 :: a10 :: a11 :: T)[11 - 1]? = some w → c1 w = true := fun w _ h => by
    have h : some a10 = some w := h
    cases h
    exact hc
  have hx := o.1
  have hb := o.2.1
  exact lv_astore hx hb d h3 hn rfl (fun ls' hl => k o H locs ls' h1 h2 (LH_st1 hl hp))
theorem x_ls11 {a11 a12 : Option Value} {a0 a1 a2 a3 a4 a5 a6 a7 a8 a9 a10 : Option Value} {T : List (Option Value)} {x : Int} (d : decode cc pc = .ok (.lstore 11, 2)) (k : X Γ B own nm cc nL ret lev mc ms (pc + 2) (a0 :: a1 :: a2 :: a3 :: a4 :: a5 :: a6 :: a7 :: a8 :: a9 :: a10 :: some (vL x) :: none :: T) st kc ks S V) (hc : c1 a10 = true := by rfl) (hn : 11 + 1 < nL := by decide) : X Γ B own nm cc nL ret lev mc ms pc (a0 :: a1 :: a2 :: a3 :: a4 :: a5 :: a6 :: a7 :: a8 :: a9 :: a10 :: a11 :: a12 :: T) (vL x :: st) kc ks S V := by
  obtain ⟨p, l, e, R, s, m, args, below, meth, c, Q, D, ca⟩ := Γ
  intro o H locs ls h1 h2 h3
  have hp : ∀ w, 0 < 11 → (a0 :: a1 :: a2 :: a3 :: a4 :: a5 :: a6 :: a7 :: a8 :: a9 :: a10 :: a11 :: a12 :: T)[11 - 1]? = some w → c1 w = true := fun w _ h => by
    have h : some a10 = some w := h
    cases h
    exact hc
  have hx := o.1
  have hb := o.2.1
  exact lv_lstore hx hb d h3 hn rfl (fun ls' hl => k o H locs ls' h1 h2 (LH_st2 hl hp))
theorem x_inc11 {a0 a1 a2 a3 a4 a5 a6 a7 a8 a9 a10 : Option Value} {T : List (Option Value)} {x n : Int} (d : decode cc pc = .ok (.iinc 11 n, 3)) (k : X Γ B own nm cc nL ret lev mc ms (pc + 3) (a0 :: a1 :: a2 :: a3 :: a4 :: a5 :: a6 :: a7 :: a8 :: a9 :: a10 :: some (vI (x + n)) :: T) st kc ks S V) (hc : c1 a10 = true := by rfl) (hn : 11 < nL := by decide) : X Γ B own nm cc nL ret lev mc ms pc (a0 :: a1 :: a2 :: a3 :: a4 :: a5 :: a6 :: a7 :: a8 :: a9 :: a10 :: some (vI x) :: T) st kc ks S V := by
  obtain ⟨p, l, e, R, s, m, args, below, meth, c, Q, D, ca⟩ := Γ
  intro o H locs ls h1 h2 h3
  have hp : ∀ w, 0 < 11 → (a0 :: a1 :: a2 :: a3 :: a4 :: a5 :: a6 :: a7 :: a8 :: a9 :: a10 :: some (vI x) :: T)[11 - 1]? = some w → c1 w = true := fun w _ h => by
    have h : some a10 = some w := h
    cases h
    exact hc
  have hm : (11, vI x) ∈ lvp 0 (a0 :: a1 :: a2 :: a3 :: a4 :: a5 :: a6 :: a7 :: a8 :: a9 :: a10 :: some (vI x) :: T) := (lvp_mem _ 0 11 _).mpr ⟨Nat.zero_le _, rfl⟩
  obtain ⟨j, hj⟩ := List.getElem?_of_mem hm
  exact lv_iinc (x := Int32.ofInt x) (v := Int32.ofInt (x + n)) (k := j) o.1 o.2.1 d h3 hj (Int32.ofInt_add x n).symm hn rfl (fun ls' hl => k o H locs ls' h1 h2 (LH_st1 hl hp))
theorem x_il12 {a0 a1 a2 a3 a4 a5 a6 a7 a8 a9 a10 a11 : Option Value} {T : List (Option Value)} {x : Int} (d : decode cc pc = .ok (.iload 12, 2)) (k : X Γ B own nm cc nL ret lev mc ms (pc + 2) (a0 :: a1 :: a2 :: a3 :: a4 :: a5 :: a6 :: a7 :: a8 :: a9 :: a10 :: a11 :: some (vI x) :: T) (vI x :: st) kc ks S V) : X Γ B own nm cc nL ret lev mc ms pc (a0 :: a1 :: a2 :: a3 :: a4 :: a5 :: a6 :: a7 :: a8 :: a9 :: a10 :: a11 :: some (vI x) :: T) st kc ks S V := by
  obtain ⟨p, l, e, R, s, m, args, below, meth, c, Q, D, ca⟩ := Γ
  intro o H locs ls h1 h2 h3
  have hl := h3.at_ (i := 12) rfl
  have hx := o.1
  have hb := o.2.1
  have k := k o H locs ls h1 h2 h3
  exact lv_iload hx hb d hl k
theorem x_ll12 {a0 a1 a2 a3 a4 a5 a6 a7 a8 a9 a10 a11 : Option Value} {T : List (Option Value)} {x : Int} (d : decode cc pc = .ok (.lload 12, 2)) (k : X Γ B own nm cc nL ret lev mc ms (pc + 2) (a0 :: a1 :: a2 :: a3 :: a4 :: a5 :: a6 :: a7 :: a8 :: a9 :: a10 :: a11 :: some (vL x) :: T) (vL x :: st) kc ks S V) : X Γ B own nm cc nL ret lev mc ms pc (a0 :: a1 :: a2 :: a3 :: a4 :: a5 :: a6 :: a7 :: a8 :: a9 :: a10 :: a11 :: some (vL x) :: T) st kc ks S V := by
  obtain ⟨p, l, e, R, s, m, args, below, meth, c, Q, D, ca⟩ := Γ
  intro o H locs ls h1 h2 h3
  have hl := h3.at_ (i := 12) rfl
  have hx := o.1
  have hb := o.2.1
  have k := k o H locs ls h1 h2 h3
  exact lv_lload hx hb d hl k
theorem x_al12 {a0 a1 a2 a3 a4 a5 a6 a7 a8 a9 a10 a11 : Option Value} {T : List (Option Value)} {x : Nat} (d : decode cc pc = .ok (.aload 12, 2)) (k : X Γ B own nm cc nL ret lev mc ms (pc + 2) (a0 :: a1 :: a2 :: a3 :: a4 :: a5 :: a6 :: a7 :: a8 :: a9 :: a10 :: a11 :: some (vR B x) :: T) (vR B x :: st) kc ks S V) : X Γ B own nm cc nL ret lev mc ms pc (a0 :: a1 :: a2 :: a3 :: a4 :: a5 :: a6 :: a7 :: a8 :: a9 :: a10 :: a11 :: some (vR B x) :: T) st kc ks S V := by
  obtain ⟨p, l, e, R, s, m, args, below, meth, c, Q, D, ca⟩ := Γ
  intro o H locs ls h1 h2 h3
  have hl := h3.at_ (i := 12) rfl
  have hx := o.1
  have hb := o.2.1
  have k := k o H locs ls h1 h2 h3
  exact lv_aload hx hb d hl k
theorem x_rl12 {a0 a1 a2 a3 a4 a5 a6 a7 a8 a9 a10 a11 : Option Value} {T : List (Option Value)} {x : Nat} (d : decode cc pc = .ok (.aload 12, 2)) (k : X Γ B own nm cc nL ret lev mc ms (pc + 2) (a0 :: a1 :: a2 :: a3 :: a4 :: a5 :: a6 :: a7 :: a8 :: a9 :: a10 :: a11 :: some ((.ref x : Value)) :: T) ((.ref x : Value) :: st) kc ks S V) : X Γ B own nm cc nL ret lev mc ms pc (a0 :: a1 :: a2 :: a3 :: a4 :: a5 :: a6 :: a7 :: a8 :: a9 :: a10 :: a11 :: some ((.ref x : Value)) :: T) st kc ks S V := by
  obtain ⟨p, l, e, R, s, m, args, below, meth, c, Q, D, ca⟩ := Γ
  intro o H locs ls h1 h2 h3
  have hl := h3.at_ (i := 12) rfl
  have hx := o.1
  have hb := o.2.1
  have k := k o H locs ls h1 h2 h3
  exact lv_aload hx hb d hl k
theorem x_is12 {a12 : Option Value} {a0 a1 a2 a3 a4 a5 a6 a7 a8 a9 a10 a11 : Option Value} {T : List (Option Value)} {x : Int} (d : decode cc pc = .ok (.istore 12, 2)) (k : X Γ B own nm cc nL ret lev mc ms (pc + 2) (a0 :: a1 :: a2 :: a3 :: a4 :: a5 :: a6 :: a7 :: a8 :: a9 :: a10 :: a11 :: some (vI x) :: T) st kc ks S V) (hc : c1 a11 = true := by rfl) (hn : 12 < nL := by decide) : X Γ B own nm cc nL ret lev mc ms pc (a0 :: a1 :: a2 :: a3 :: a4 :: a5 :: a6 :: a7 :: a8 :: a9 :: a10 :: a11 :: a12 :: T) (vI x :: st) kc ks S V := by
  obtain ⟨p, l, e, R, s, m, args, below, meth, c, Q, D, ca⟩ := Γ
  intro o H locs ls h1 h2 h3
  have hp : ∀ w, 0 < 12 → (a0 :: a1 :: a2 :: a3 :: a4 :: a5 :: a6 :: a7 :: a8 :: a9 :: a10 :: a11 :: a12 :: T)[12 - 1]? = some w → c1 w = true := fun w _ h => by
    have h : some a11 = some w := h
    cases h
    exact hc
  have hx := o.1
  have hb := o.2.1
  exact lv_istore hx hb d h3 hn rfl (fun ls' hl => k o H locs ls' h1 h2 (LH_st1 hl hp))
theorem x_as12 {a12 : Option Value} {a0 a1 a2 a3 a4 a5 a6 a7 a8 a9 a10 a11 : Option Value} {T : List (Option Value)} {x : Nat} (d : decode cc pc = .ok (.astore 12, 2)) (k : X Γ B own nm cc nL ret lev mc ms (pc + 2) (a0 :: a1 :: a2 :: a3 :: a4 :: a5 :: a6 :: a7 :: a8 :: a9 :: a10 :: a11 :: some (vR B x) :: T) st kc ks S V) (hc : c1 a11 = true := by rfl) (hn : 12 < nL := by decide) : X Γ B own nm cc nL ret lev mc ms pc (a0 :: a1 :: a2 :: a3 :: a4 :: a5 :: a6 :: a7 :: a8 :: a9 :: a10 :: a11 :: a12 :: T) (vR B x :: st) kc ks S V := by
  obtain ⟨p, l, e, R, s, m, args, below, meth, c, Q, D, ca⟩ := Γ
  intro o H locs ls h1 h2 h3
  have hp : ∀ w, 0 < 12 → (a0 :: a1 :: a2 :: a3 :: a4 :: a5 :: a6 :: a7 :: a8 :: a9 :: a10 :: a11 :: a12 :: T)[12 - 1]? = some w → c1 w = true := fun w _ h => by
    have h : some a11 = some w := h
    cases h
    exact hc
  have hx := o.1
  have hb := o.2.1
  exact lv_astore hx hb d h3 hn rfl (fun ls' hl => k o H locs ls' h1 h2 (LH_st1 hl hp))
theorem x_rs12 {a12 : Option Value} {a0 a1 a2 a3 a4 a5 a6 a7 a8 a9 a10 a11 : Option Value} {T : List (Option Value)} {x : Nat} (d : decode cc pc = .ok (.astore 12, 2)) (k : X Γ B own nm cc nL ret lev mc ms (pc + 2) (a0 :: a1 :: a2 :: a3 :: a4 :: a5 :: a6 :: a7 :: a8 :: a9 :: a10 :: a11 :: some ((.ref x : Value)) :: T) st kc ks S V) (hc : c1 a11 = true := by rfl) (hn : 12 < nL := by decide) : X Γ B own nm cc nL ret lev mc ms pc (a0 :: a1 :: a2 :: a3 :: a4 :: a5 :: a6 :: a7 :: a8 :: a9 :: a10 :: a11 :: a12 :: T) ((.ref x : Value) :: st) kc ks S V := by
  obtain ⟨p, l, e, R, s, m, args, below, meth, c, Q, D, ca⟩ := Γ
  intro o H locs ls h1 h2 h3
  have hp : ∀ w, 0 < 12 → (a0 :: a1 :: a2 :: a3 :: a4 :: a5 :: a6 :: a7 :: a8 :: a9 :: a10 :: a11 :: a12 :: T)[12 - 1]? = some w → c1 w = true := fun w _ h => by
    have h : some a11 = some w := h
    cases h
    exact hc
  have hx := o.1
  have hb := o.2.1
  exact lv_astore hx hb d h3 hn rfl (fun ls' hl => k o H locs ls' h1 h2 (LH_st1 hl hp))
theorem x_ls12 {a12 a13 : Option Value} {a0 a1 a2 a3 a4 a5 a6 a7 a8 a9 a10 a11 : Option Value} {T : List (Option Value)} {x : Int} (d : decode cc pc = .ok (.lstore 12, 2)) (k : X Γ B own nm cc nL ret lev mc ms (pc + 2) (a0 :: a1 :: a2 :: a3 :: a4 :: a5 :: a6 :: a7 :: a8 :: a9 :: a10 :: a11 :: some (vL x) :: none :: T) st kc ks S V) (hc : c1 a11 = true := by rfl) (hn : 12 + 1 < nL := by decide) : X Γ B own nm cc nL ret lev mc ms pc (a0 :: a1 :: a2 :: a3 :: a4 :: a5 :: a6 :: a7 :: a8 :: a9 :: a10 :: a11 :: a12 :: a13 :: T) (vL x :: st) kc ks S V := by
  obtain ⟨p, l, e, R, s, m, args, below, meth, c, Q, D, ca⟩ := Γ
  intro o H locs ls h1 h2 h3
  have hp : ∀ w, 0 < 12 → (a0 :: a1 :: a2 :: a3 :: a4 :: a5 :: a6 :: a7 :: a8 :: a9 :: a10 :: a11 :: a12 :: a13 :: T)[12 - 1]? = some w → c1 w = true := fun w _ h => by
    have h : some a11 = some w := h
    cases h
    exact hc
  have hx := o.1
  have hb := o.2.1
  exact lv_lstore hx hb d h3 hn rfl (fun ls' hl => k o H locs ls' h1 h2 (LH_st2 hl hp))
theorem x_inc12 {a0 a1 a2 a3 a4 a5 a6 a7 a8 a9 a10 a11 : Option Value} {T : List (Option Value)} {x n : Int} (d : decode cc pc = .ok (.iinc 12 n, 3)) (k : X Γ B own nm cc nL ret lev mc ms (pc + 3) (a0 :: a1 :: a2 :: a3 :: a4 :: a5 :: a6 :: a7 :: a8 :: a9 :: a10 :: a11 :: some (vI (x + n)) :: T) st kc ks S V) (hc : c1 a11 = true := by rfl) (hn : 12 < nL := by decide) : X Γ B own nm cc nL ret lev mc ms pc (a0 :: a1 :: a2 :: a3 :: a4 :: a5 :: a6 :: a7 :: a8 :: a9 :: a10 :: a11 :: some (vI x) :: T) st kc ks S V := by
  obtain ⟨p, l, e, R, s, m, args, below, meth, c, Q, D, ca⟩ := Γ
  intro o H locs ls h1 h2 h3
  have hp : ∀ w, 0 < 12 → (a0 :: a1 :: a2 :: a3 :: a4 :: a5 :: a6 :: a7 :: a8 :: a9 :: a10 :: a11 :: some (vI x) :: T)[12 - 1]? = some w → c1 w = true := fun w _ h => by
    have h : some a11 = some w := h
    cases h
    exact hc
  have hm : (12, vI x) ∈ lvp 0 (a0 :: a1 :: a2 :: a3 :: a4 :: a5 :: a6 :: a7 :: a8 :: a9 :: a10 :: a11 :: some (vI x) :: T) := (lvp_mem _ 0 12 _).mpr ⟨Nat.zero_le _, rfl⟩
  obtain ⟨j, hj⟩ := List.getElem?_of_mem hm
  exact lv_iinc (x := Int32.ofInt x) (v := Int32.ofInt (x + n)) (k := j) o.1 o.2.1 d h3 hj (Int32.ofInt_add x n).symm hn rfl (fun ls' hl => k o H locs ls' h1 h2 (LH_st1 hl hp))
theorem x_il13 {a0 a1 a2 a3 a4 a5 a6 a7 a8 a9 a10 a11 a12 : Option Value} {T : List (Option Value)} {x : Int} (d : decode cc pc = .ok (.iload 13, 2)) (k : X Γ B own nm cc nL ret lev mc ms (pc + 2) (a0 :: a1 :: a2 :: a3 :: a4 :: a5 :: a6 :: a7 :: a8 :: a9 :: a10 :: a11 :: a12 :: some (vI x) :: T) (vI x :: st) kc ks S V) : X Γ B own nm cc nL ret lev mc ms pc (a0 :: a1 :: a2 :: a3 :: a4 :: a5 :: a6 :: a7 :: a8 :: a9 :: a10 :: a11 :: a12 :: some (vI x) :: T) st kc ks S V := by
  obtain ⟨p, l, e, R, s, m, args, below, meth, c, Q, D, ca⟩ := Γ
  intro o H locs ls h1 h2 h3
  have hl := h3.at_ (i := 13) rfl
  have hx := o.1
  have hb := o.2.1
  have k := k o H locs ls h1 h2 h3
  exact lv_iload hx hb d hl k
theorem x_ll13 {a0 a1 a2 a3 a4 a5 a6 a7 a8 a9 a10 a11 a12 : Option Value} {T : List (Option Value)} {x : Int} (d : decode cc pc = .ok (.lload 13, 2)) (k : X Γ B own nm cc nL ret lev mc ms (pc + 2) (a0 :: a1 :: a2 :: a3 :: a4 :: a5 :: a6 :: a7 :: a8 :: a9 :: a10 :: a11 :: a12 :: some (vL x) :: T) (vL x :: st) kc ks S V) : X Γ B own nm cc nL ret lev mc ms pc (a0 :: a1 :: a2 :: a3 :: a4 :: a5 :: a6 :: a7 :: a8 :: a9 :: a10 :: a11 :: a12 :: some (vL x) :: T) st kc ks S V := by
  obtain ⟨p, l, e, R, s, m, args, below, meth, c, Q, D, ca⟩ := Γ
  intro o H locs ls h1 h2 h3
  have hl := h3.at_ (i := 13) rfl
  have hx := o.1
  have hb := o.2.1
  have k := k o H locs ls h1 h2 h3
  exact lv_lload hx hb d hl k
theorem x_al13 {a0 a1 a2 a3 a4 a5 a6 a7 a8 a9 a10 a11 a12 : Option Value} {T : List (Option Value)} {x : Nat} (d : decode cc pc = .ok (.aload 13, 2)) (k : X Γ B own nm cc nL ret lev mc ms (pc + 2) (a0 :: a1 :: a2 :: a3 :: a4 :: a5 :: a6 :: a7 :: a8 :: a9 :: a10 :: a11 :: a12 :: some (vR B x) :: T) (vR B x :: st) kc ks S V) : X Γ B own nm cc nL ret lev mc ms pc (a0 :: a1 :: a2 :: a3 :: a4 :: a5 :: a6 :: a7 :: a8 :: a9 :: a10 :: a11 :: a12 :: some (vR B x) :: T) st kc ks S V := by
  obtain ⟨p, l, e, R, s, m, args, below, meth, c, Q, D, ca⟩ := Γ
  intro o H locs ls h1 h2 h3
  have hl := h3.at_ (i := 13) rfl
  have hx := o.1
  have hb := o.2.1
  have k := k o H locs ls h1 h2 h3
  exact lv_aload hx hb d hl k
theorem x_rl13 {a0 a1 a2 a3 a4 a5 a6 a7 a8 a9 a10 a11 a12 : Option Value} {T : List (Option Value)} {x : Nat} (d : decode cc pc = .ok (.aload 13, 2)) (k : X Γ B own nm cc nL ret lev mc ms (pc + 2) (a0 :: a1 :: a2 :: a3 :: a4 :: a5 :: a6 :: a7 :: a8 :: a9 :: a10 :: a11 :: a12 :: some ((.ref x : Value)) :: T) ((.ref x : Value) :: st) kc ks S V) : X Γ B own nm cc nL ret lev mc ms pc (a0 :: a1 :: a2 :: a3 :: a4 :: a5 :: a6 :: a7 :: a8 :: a9 :: a10 :: a11 :: a12 :: some ((.ref x : Value)) :: T) st kc ks S V := by
  obtain ⟨p, l, e, R, s, m, args, below, meth, c, Q, D, ca⟩ := Γ
  intro o H locs ls h1 h2 h3
  have hl := h3.at_ (i := 13) rfl
  have hx := o.1
  have hb := o.2.1
  have k := k o H locs ls h1 h2 h3
  exact lv_aload hx hb d hl k
theorem x_is13 {a13 : Option Value} {a0 a1 a2 a3 a4 a5 a6 a7 a8 a9 a10 a11 a12 : Option Value} {T : List (Option Value)} {x : Int} (d : decode cc pc = .ok (.istore 13, 2)) (k : X Γ B own nm cc nL ret lev mc ms (pc + 2) (a0 :: a1 :: a2 :: a3 :: a4 :: a5 :: a6 :: a7 :: a8 :: a9 :: a10 :: a11 :: a12 :: some (vI x) :: T) st kc ks S V) (hc : c1 a12 = true := by rfl) (hn : 13 < nL := by decide) : X Γ B own nm cc nL ret lev mc ms pc (a0 :: a1 :: a2 :: a3 :: a4 :: a5 :: a6 :: a7 :: a8 :: a9 :: a10 :: a11 :: a12 :: a13 :: T) (vI x :: st) kc ks S V := by
  obtain ⟨p, l, e, R, s, m, args, below, meth, c, Q, D, ca⟩ := Γ
  intro o H locs ls h1 h2 h3
  have hp : ∀ w, 0 < 13 → (a0 :: a1 :: a2 :: a3 :: a4 :: a5 :: a6 :: a7 :: a8 :: a9 :: a10 :: a11 :: a12 :: a13 :: T)[13 - 1]? = some w → c1 w = true := fun w _ h => by
    have h : some a12 = some w := h
    cases h
    exact hc
  have hx := o.1
  have hb := o.2.1
  exact lv_istore hx hb d h3 hn rfl (fun ls' hl => k o H locs ls' h1 h2 (LH_st1 hl hp))
theorem x_as13 {a13 : Option Value} {a0 a1 a2 a3 a4 a5 a6 a7 a8 a9 a10 a11 a12 : Option Value} {T : List (Option Value)} {x : Nat} (d : decode cc pc = .ok (.astore 13, 2)) (k : X Γ B own nm cc nL ret lev mc ms (pc + 2) (a0 :: a1 :: a2 :: a3 :: a4 :: a5 :: a6 :: a7 :: a8 :: a9 :: a10 :: a11 :: a12 :: some (vR B x) :: T) st kc ks S V) (hc : c1 a12 = true := by rfl) (hn : 13 < nL := by decide) : X Γ B own nm cc nL ret lev mc ms pc (a0 :: a1 :: a2 :: a3 :: a4 :: a5 :: a6 :: a7 :: a8 :: a9 :: a10 :: a11 :: a12 :: a13 :: T) (vR B x :: st) kc ks S V := by
  obtain ⟨p, l, e, R, s, m, args, below, meth, c, Q, D, ca⟩ := Γ
  intro o H locs ls h1 h2 h3
  have hp : ∀ w, 0 < 13 → (a0 :: a1 :: a2 :: a3 :: a4 :: a5 :: a6 :: a7 :: a8 :: a9 :: a10 :: a11 :: a12 :: a13 :: T)[13 - 1]? = some w → c1 w = true := fun w _ h => by
    have h : some a12 = some w := h
    cases h
    exact hc
  have hx := o.1
  have hb := o.2.1
  exact lv_astore hx hb d h3 hn rfl (fun ls' hl => k o H locs ls' h1 h2 (LH_st1 hl hp))
theorem x_rs13 {a13 : Option Value} {a0 a1 a2 a3 a4 a5 a6 a7 a8 a9 a10 a11 a12 : Option Value} {T : List (Option Value)} {x : Nat} (d : decode cc pc = .ok (.astore 13, 2)) (k : X Γ B own nm cc nL ret lev mc ms (pc + 2) (a0 :: a1 :: a2 :: a3 :: a4 :: a5 :: a6 :: a7 :: a8 :: a9 :: a10 :: a11 :: a12 :: some ((.ref x : Value)) :: T) st kc ks S V) (hc : c1 a12 = true := by rfl) (hn : 13 < nL := by decide) : X Γ B own nm cc nL ret lev mc ms pc (a0 :: a1 :: a2 :: a3 :: a4 :: a5 :: a6 :: a7 :: a8 :: a9 :: a10 :: a11 :: a12 :: a13 :: T) ((.ref x : Value) :: st) kc ks S V := by
  obtain ⟨p, l, e, R, s, m, args, below, meth, c, Q, D, ca⟩ := Γ
  intro o H locs ls h1 h2 h3
  have hp : ∀ w, 0 < 13 → (a0 :: a1 :: a2 :: a3 :: a4 :: a5 :: a6 :: a7 :: a8 :: a9 :: a10 :: a11 :: a12 :: a13 :: T)[13 - 1]? = some w → c1 w = true := fun w _ h => by
    have h : some a12 = some w := h
    cases h
    exact hc
  have hx := o.1
  have hb := o.2.1
  exact lv_astore hx hb d h3 hn rfl (fun ls' hl => k o H locs ls' h1 h2 (LH_st1 hl hp))
theorem x_ls13 {a13 a14 : Option Value} {a0 a1 a2 a3 a4 a5 a6 a7 a8 a9 a10 a11 a12 : Option Value} {T : List (Option Value)} {x : Int} (d : decode cc pc = .ok (.lstore 13, 2)) (k : X Γ B own nm cc nL ret lev mc ms (pc + 2) (a0 :: a1 :: a2 :: a3 :: a4 :: a5 :: a6 :: a7 :: a8 :: a9 :: a10 :: a11 :: a12 :: some (vL x) :: none :: T) st kc ks S V) (hc : c1 a12 = true := by rfl) (hn : 13 + 1 < nL := by decide) : X Γ B own nm cc nL ret lev mc ms pc (a0 :: a1 :: a2 :: a3 :: a4 :: a5 :: a6 :: a7 :: a8 :: a9 :: a10 :: a11 :: a12 :: a13 :: a14 :: T) (vL x :: st) kc ks S V := by
  obtain ⟨p, l, e, R, s, m, args, below, meth, c, Q, D, ca⟩ := Γ
  intro o H locs ls h1 h2 h3
  have hp : ∀ w, 0 < 13 → (a0 :: a1 :: a2 :: a3 :: a4 :: a5 :: a6 :: a7 :: a8 :: a9 :: a10 :: a11 :: a12 :: a13 :: a14 :: T)[13 - 1]? = some w → c1 w = true := fun w _ h => by
    have h : some a12 = some w := h
    cases h
    exact hc
  have hx := o.1
  have hb := o.2.1
  exact lv_lstore hx hb d h3 hn rfl (fun ls' hl => k o H locs ls' h1 h2 (LH_st2 hl hp))
theorem x_inc13 {a0 a1 a2 a3 a4 a5 a6 a7 a8 a9 a10 a11 a12 : Option Value} {T : List (Option Value)} {x n : Int} (d : decode cc pc = .ok (.iinc 13 n, 3)) (k : X Γ B own nm cc nL ret lev mc ms (pc + 3) (a0 :: a1 :: a2 :: a3 :: a4 :: a5 :: a6 :: a7 :: a8 :: a9 :: a10 :: a11 :: a12 :: some (vI (x + n)) :: T) st kc ks S V) (hc : c1 a12 = true := by rfl) (hn : 13 < nL := by decide) : X Γ B own nm cc nL ret lev mc ms pc (a0 :: a1 :: a2 :: a3 :: a4 :: a5 :: a6 :: a7 :: a8 :: a9 :: a10 :: a11 :: a12 :: some (vI x) :: T) st kc ks S V := by
  obtain ⟨p, l, e, R, s, m, args, below, meth, c, Q, D, ca⟩ := Γ
  intro o H locs ls h1 h2 h3
  have hp : ∀ w, 0 < 13 → (a0 :: a1 :: a2 :: a3 :: a4 :: a5 :: a6 :: a7 :: a8 :: a9 :: a10 :: a11 :: a12 :: some (vI x) :: T)[13 - 1]? = some w → c1 w = true := fun w _ h => by
    have h : some a12 = some w := h
    cases h
    exact hc
  have hm : (13, vI x) ∈ lvp 0 (a0 :: a1 :: a2 :: a3 :: a4 :: a5 :: a6 :: a7 :: a8 :: a9 :: a10 :: a11 :: a12 :: some (vI x) :: T) := (lvp_mem _ 0 13 _).mpr ⟨Nat.zero_le _, rfl⟩
  obtain ⟨j, hj⟩ := List.getElem?_of_mem hm
  exact lv_iinc (x := Int32.ofInt x) (v := Int32.ofInt (x + n)) (k := j) o.1 o.2.1 d h3 hj (Int32.ofInt_add x n).symm hn rfl (fun ls' hl => k o H locs ls' h1 h2 (LH_st1 hl hp))
theorem x_il14 {a0 a1 a2 a3 a4 a5 a6 a7 a8 a9 a10 a11 a12 a13 : Option Value} {T : List (Option Value)} {x : Int} (d : decode cc pc = .ok (.iload 14, 2)) (k : X Γ B own nm cc nL ret lev mc ms (pc + 2) (a0 :: a1 :: a2 :: a3 :: a4 :: a5 :: a6 :: a7 :: a8 :: a9 :: a10 :: a11 :: a12 :: a13 :: some (vI x) :: T) (vI x :: st) kc ks S V) : X Γ B own nm cc nL ret lev mc ms pc (a0 :: a1 :: a2 :: a3 :: a4 :: a5 :: a6 :: a7 :: a8 :: a9 :: a10 :: a11 :: a12 :: a13 :: some (vI x) :: T) st kc ks S V := by
  obtain ⟨p, l, e, R, s, m, args, below, meth, c, Q, D, ca⟩ := Γ
  intro o H locs ls h1 h2 h3
  have hl := h3.at_ (i := 14) rfl
  have hx := o.1
  have hb := o.2.1
  have k := k o H locs ls h1 h2 h3
  exact lv_iload hx hb d hl k
theorem x_ll14 {a0 a1 a2 a3 a4 a5 a6 a7 a8 a9 a10 a11 a12 a13 : Option Value} {T : List (Option Value)} {x : Int} (d : decode cc pc = .ok (.lload 14, 2)) (k : X Γ B own nm cc nL ret lev mc ms (pc + 2) (a0 :: a1 :: a2 :: a3 :: a4 :: a5 :: a6 :: a7 :: a8 :: a9 :: a10 :: a11 :: a12 :: a13 :: some (vL x) :: T) (vL x :: st) kc ks S V) : X Γ B own nm cc nL ret lev mc ms pc (a0 :: a1 :: a2 :: a3 :: a4 :: a5 :: a6 :: a7 :: a8 :: a9 :: a10 :: a11 :: a12 :: a13 :: some (vL x) :: T) st kc ks S V := by
  obtain ⟨p, l, e, R, s, m, args, below, meth, c, Q, D, ca⟩ := Γ
  intro o H locs ls h1 h2 h3
  have hl := h3.at_ (i := 14) rfl
  have hx := o.1
  have hb := o.2.1
  have k := k o H locs ls h1 h2 h3
  exact lv_lload hx hb d hl k
theorem x_al14 {a0 a1 a2 a3 a4 a5 a6 a7 a8 a9 a10 a11 a12 a13 : Option Value} {T : List (Option Value)} {x : Nat} (d : decode cc pc = .ok (.aload 14, 2)) (k : X Γ B own nm cc nL ret lev mc ms (pc + 2) (a0 :: a1 :: a2 :: a3 :: a4 :: a5 :: a6 :: a7 :: a8 :: a9 :: a10 :: a11 :: a12 :: a13 :: some (vR B x) :: T) (vR B x :: st) kc ks S V) : X Γ B own nm cc nL ret lev mc ms pc (a0 :: a1 :: a2 :: a3 :: a4 :: a5 :: a6 :: a7 :: a8 :: a9 :: a10 :: a11 :: a12 :: a13 :: some (vR B x) :: T) st kc ks S V := by
  obtain ⟨p, l, e, R, s, m, args, below, meth, c, Q, D, ca⟩ := Γ
  intro o H locs ls h1 h2 h3
  have hl := h3.at_ (i := 14) rfl
  have hx := o.1
  have hb := o.2.1
  have k := k o H locs ls h1 h2 h3
  exact lv_aload hx hb d hl k
theorem x_rl14 {a0 a1 a2 a3 a4 a5 a6 a7 a8 a9 a10 a11 a12 a13 : Option Value} {T : List (Option Value)} {x : Nat} (d : decode cc pc = .ok (.aload 14, 2)) (k : X Γ B own nm cc nL ret lev mc ms (pc + 2) (a0 :: a1 :: a2 :: a3 :: a4 :: a5 :: a6 :: a7 :: a8 :: a9 :: a10 :: a11 :: a12 :: a13 :: some ((.ref x : Value)) :: T) ((.ref x : Value) :: st) kc ks S V) : X Γ B own nm cc nL ret lev mc ms pc (a0 :: a1 :: a2 :: a3 :: a4 :: a5 :: a6 :: a7 :: a8 :: a9 :: a10 :: a11 :: a12 :: a13 :: some ((.ref x : Value)) :: T) st kc ks S V := by
  obtain ⟨p, l, e, R, s, m, args, below, meth, c, Q, D, ca⟩ := Γ
  intro o H locs ls h1 h2 h3
  have hl := h3.at_ (i := 14) rfl
  have hx := o.1
  have hb := o.2.1
  have k := k o H locs ls h1 h2 h3
  exact lv_aload hx hb d hl k
theorem x_is14 {a14 : Option Value} {a0 a1 a2 a3 a4 a5 a6 a7 a8 a9 a10 a11 a12 a13 : Option Value} {T : List (Option Value)} {x : Int} (d : decode cc pc = .ok (.istore 14, 2)) (k : X Γ B own nm cc nL ret lev mc ms (pc + 2) (a0 :: a1 :: a2 :: a3 :: a4 :: a5 :: a6 :: a7 :: a8 :: a9 :: a10 :: a11 :: a12 :: a13 :: some (vI x) :: T) st kc ks S V) (hc : c1 a13 = true := by rfl) (hn : 14 < nL := by decide) : X Γ B own nm cc nL ret lev mc ms pc (a0 :: a1 :: a2 :: a3 :: a4 :: a5 :: a6 :: a7 :: a8 :: a9 :: a10 :: a11 :: a12 :: a13 :: a14 :: T) (vI x :: st) kc ks S V := by
  obtain ⟨p, l, e, R, s, m, args, below, meth, c, Q, D, ca⟩ := Γ
  intro o H locs ls h1 h2 h3
  have hp : ∀ w, 0 < 14 → (a0 :: a1 :: a2 :: a3 :: a4 :: a5 :: a6 :: a7 :: a8 :: a9 :: a10 :: a11 :: a12 :: a13 :: a14 :: T)[14 - 1]? = some w → c1 w = true := fun w _ h => by
    have h : some a13 = some w := h
    cases h
    exact hc
  have hx := o.1
  have hb := o.2.1
  exact lv_istore hx hb d h3 hn rfl (fun ls' hl => k o H locs ls' h1 h2 (LH_st1 hl hp))
theorem x_as14 {a14 : Option Value} {a0 a1 a2 a3 a4 a5 a6 a7 a8 a9 a10 a11 a12 a13 : Option Value} {T : List (Option Value)} {x : Nat} (d : decode cc pc = .ok (.astore 14, 2)) (k : X Γ B own nm cc nL ret lev mc ms (pc + 2) (a0 :: a1 :: a2 :: a3 :: a4 :: a5 :: a6 :: a7 :: a8 :: a9 :: a10 :: a11 :: a12 :: a13 :: some (vR B x) :: T) st kc ks S V) (hc : c1 a13 = true := by rfl) (hn : 14 < nL := by decide) : X Γ B own nm cc nL ret lev mc ms pc (a0 :: a1 :: a2 :: a3 :: a4 :: a5 :: a6 :: a7 :: a8 :: a9 :: a10 :: a11 :: a12 :: a13 :: a14 :: T) (vR B x :: st) kc ks S V := by
  obtain ⟨p, l, e, R, s, m, args, below, meth, c, Q, D, ca⟩ := Γ
  intro o H locs ls h1 h2 h3
  have hp : ∀ w, 0 < 14 → (a0 :: a1 :: a2 :: a3 :: a4 :: a5 :: a6 :: a7 :: a8 :: a9 :: a10 :: a11 :: a12 :: a13 :: a14 :: T)[14 - 1]? = some w → c1 w = true := fun w _ h => by
    have h : some a13 = some w := h
    cases h
    exact hc
  have hx := o.1
  have hb := o.2.1
  exact lv_astore hx hb d h3 hn rfl (fun ls' hl => k o H locs ls' h1 h2 (LH_st1 hl hp))
theorem x_rs14 {a14 : Option Value} {a0 a1 a2 a3 a4 a5 a6 a7 a8 a9 a10 a11 a12 a13 : Option Value} {T : List (Option Value)} {x : Nat} (d : decode cc pc = .ok (.astore 14, 2)) (k : X Γ B own nm cc nL ret lev mc ms (pc + 2) (a0 :: a1 :: a2 :: a3 :: a4 :: a5 :: a6 :: a7 :: a8 :: a9 :: a10 :: a11 :: a12 :: a13 :: some ((.ref x : Value)) :: T) st kc ks S V) (hc : c1 a13 = true := by rfl) (hn : 14 < nL := by decide) : X Γ B own nm cc nL ret lev mc ms pc (a0 :: a1 :: a2 :: a3 :: a4 :: a5 :: a6 :: a7 :: a8 :: a9 :: a10 :: a11 :: a12 :: a13 :: a14 :: T) ((.ref x : Value) :: st) kc ks S V := by
  obtain ⟨p, l, e, R, s, m, args, below, meth, c, Q, D, ca⟩ := Γ
  intro o H locs ls h1 h2 h3
  have hp : ∀ w, 0 < 14 → (a0 :: a1 :: a2 :: a3 :: a4 :: a5 :: a6 :: a7 :: a8 :: a9 :: a10 :: a11 :: a12 :: a13 :: a14 :: T)[14 - 1]? = some w → c1 w = true := fun w _ h => by
    have h : some a13 = some w := h
    cases h
    exact hc
  have hx := o.1
  have hb := o.2.1
  exact lv_astore hx hb d h3 hn rfl (fun ls' hl => k o H locs ls' h1 h2 (LH_st1 hl hp))
theorem x_ls14 {a14 a15 : Option Value} {a0 a1 a2 a3 a4 a5 a6 a7 a8 a9 a10 a11 a12 a13 : Option Value} {T : List (Option Value)} {x : Int} (d : decode cc pc = .ok (.lstore 14, 2)) (k : X Γ B own nm cc nL ret lev mc ms (pc + 2) (a0 :: a1 :: a2 :: a3 :: a4 :: a5 :: a6 :: a7 :: a8 :: a9 :: a10 :: a11 :: a12 :: a13 :: some (vL x) :: none :: T) st kc ks S V) (hc : c1 a13 = true := by rfl) (hn : 14 + 1 < nL := by decide) : X Γ B own nm cc nL ret lev mc ms pc (a0 :: a1 :: a2 :: a3 :: a4 :: a5 :: a6 :: a7 :: a8 :: a9 :: a10 :: a11 :: a12 :: a13 :: a14 :: a15 :: T) (vL x :: st) kc ks S V := by
  obtain ⟨p, l, e, R, s, m, args, below, meth, c, Q, D, ca⟩ := Γ
  intro o H locs ls h1 h2 h3
  have hp : ∀ w, 0 < 14 → (a0 :: a1 :: a2 :: a3 :: a4 :: a5 :: a6 :: a7 :: a8 :: a9 :: a10 :: a11 :: a12 :: a13 :: a14 :: a15 :: T)[14 - 1]? = some w → c1 w = true := fun w _ h => by
    have h : some a13 = some w := h
    cases h
    exact hc
  have hx := o.1
  have hb := o.2.1
  exact lv_lstore hx hb d h3 hn rfl (fun ls' hl => k o H locs ls' h1 h2 (LH_st2 hl hp))
theorem x_inc14 {a0 a1 a2 a3 a4 a5 a6 a7 a8 a9 a10 a11 a12 a13 : Option Value} {T : List (Option Value)} {x n : Int} (d : decode cc pc = .ok (.iinc 14 n, 3)) (k : X Γ B own nm cc nL ret lev mc ms (pc + 3) (a0 :: a1 :: a2 :: a3 :: a4 :: a5 :: a6 :: a7 :: a8 :: a9 :: a10 :: a11 :: a12 :: a13 :: some (vI (x + n)) :: T) st kc ks S V) (hc : c1 a13 = true := by rfl) (hn : 14 < nL := by decide) : X Γ B own nm cc nL ret lev mc ms pc (a0 :: a1 :: a2 :: a3 :: a4 :: a5 :: a6 :: a7 :: a8 :: a9 :: a10 :: a11 :: a12 :: a13 :: some (vI x) :: T) st kc ks S V := by
  obtain ⟨p, l, e, R, s, m, args, below, meth, c, Q, D, ca⟩ := Γ
  intro o H locs ls h1 h2 h3
  have hp : ∀ w, 0 < 14 → (a0 :: a1 :: a2 :: a3 :: a4 :: a5 :: a6 :: a7 :: a8 :: a9 :: a10 :: a11 :: a12 :: a13 :: some (vI x) :: T)[14 - 1]? = some w → c1 w = true := fun w _ h => by
    have h : some a13 = some w := h
    cases h
    exact hc
  have hm : (14, vI x) ∈ lvp 0 (a0 :: a1 :: a2 :: a3 :: a4 :: a5 :: a6 :: a7 :: a8 :: a9 :: a10 :: a11 :: a12 :: a13 :: some (vI x) :: T) := (lvp_mem _ 0 14 _).mpr ⟨Nat.zero_le _, rfl⟩
  obtain ⟨j, hj⟩ := List.getElem?_of_mem hm
  exact lv_iinc (x := Int32.ofInt x) (v := Int32.ofInt (x + n)) (k := j) o.1 o.2.1 d h3 hj (Int32.ofInt_add x n).symm hn rfl (fun ls' hl => k o H locs ls' h1 h2 (LH_st1 hl hp))
theorem x_il15 {a0 a1 a2 a3 a4 a5 a6 a7 a8 a9 a10 a11 a12 a13 a14 : Option Value} {T : List (Option Value)} {x : Int} (d : decode cc pc = .ok (.iload 15, 2)) (k : X Γ B own nm cc nL ret lev mc ms (pc + 2) (a0 :: a1 :: a2 :: a3 :: a4 :: a5 :: a6 :: a7 :: a8 :: a9 :: a10 :: a11 :: a12 :: a13 :: a14 :: some (vI x) :: T) (vI x :: st) kc ks S V) : X Γ B own nm cc nL ret lev mc ms pc (a0 :: a1 :: a2 :: a3 :: a4 :: a5 :: a6 :: a7 :: a8 :: a9 :: a10 :: a11 :: a12 :: a13 :: a14 :: some (vI x) :: T) st kc ks S V := by
  obtain ⟨p, l, e, R, s, m, args, below, meth, c, Q, D, ca⟩ := Γ
  intro o H locs ls h1 h2 h3
  have hl := h3.at_ (i := 15) rfl
  have hx := o.1
  have hb := o.2.1
  have k := k o H locs ls h1 h2 h3
  exact lv_iload hx hb d hl k
theorem x_ll15 {a0 a1 a2 a3 a4 a5 a6 a7 a8 a9 a10 a11 a12 a13 a14 : Option Value} {T : List (Option Value)} {x : Int} (d : decode cc pc = .ok (.lload 15, 2)) (k : X Γ B own nm cc nL ret lev mc ms (pc + 2) (a0 :: a1 :: a2 :: a3 :: a4 :: a5 :: a6 :: a7 :: a8 :: a9 :: a10 :: a11 :: a12 :: a13 :: a14 :: some (vL x) :: T) (vL x :: st) kc ks S V) : X Γ B own nm cc nL ret lev mc ms pc (a0 :: a1 :: a2 :: a3 :: a4 :: a5 :: a6 :: a7 :: a8 :: a9 :: a10 :: a11 :: a12 :: a13 :: a14 :: some (vL x) :: T) st kc ks S V := by
  obtain ⟨p, l, e, R, s, m, args, below, meth, c, Q, D, ca⟩ := Γ
  intro o H locs ls h1 h2 h3
  have hl := h3.at_ (i := 15) rfl
  have hx := o.1
  have hb := o.2.1
  have k := k o H locs ls h1 h2 h3
  exact lv_lload hx hb d hl k
theorem x_al15 {a0 a1 a2 a3 a4 a5 a6 a7 a8 a9 a10 a11 a12 a13 a14 : Option Value} {T : List (Option Value)} {x : Nat} (d : decode cc pc = .ok (.aload 15, 2)) (k : X Γ B own nm cc nL ret lev mc ms (pc + 2) (a0 :: a1 :: a2 :: a3 :: a4 :: a5 :: a6 :: a7 :: a8 :: a9 :: a10 :: a11 :: a12 :: a13 :: a14 :: some (vR B x) :: T) (vR B x :: st) kc ks S V) : X Γ B own nm cc nL ret lev mc ms pc (a0 :: a1 :: a2 :: a3 :: a4 :: a5 :: a6 :: a7 :: a8 :: a9 :: a10 :: a11 :: a12 :: a13 :: a14 :: some (vR B x) :: T) st kc ks S V := by
  obtain ⟨p, l, e, R, s, m, args, below, meth, c, Q, D, ca⟩ := Γ
  intro o H locs ls h1 h2 h3
  have hl := h3.at_ (i := 15) rfl
  have hx := o.1
  have hb := o.2.1
  have k := k o H locs ls h1 h2 h3
  exact lv_aload hx hb d hl k
theorem x_rl15 {a0 a1 a2 a3 a4 a5 a6 a7 a8 a9 a10 a11 a12 a13 a14 : Option Value} {T : List (Option Value)} {x : Nat} (d : decode cc pc = .ok (.aload 15, 2)) (k : X Γ B own nm cc nL ret lev mc ms (pc + 2) (a0 :: a1 :: a2 :: a3 :: a4 :: a5 :: a6 :: a7 :: a8 :: a9 :: a10 :: a11 :: a12 :: a13 :: a14 :: some ((.ref x : Value)) :: T) ((.ref x : Value) :: st) kc ks S V) : X Γ B own nm cc nL ret lev mc ms pc (a0 :: a1 :: a2 :: a3 :: a4 :: a5 :: a6 :: a7 :: a8 :: a9 :: a10 :: a11 :: a12 :: a13 :: a14 :: some ((.ref x : Value)) :: T) st kc ks S V := by
  obtain ⟨p, l, e, R, s, m, args, below, meth, c, Q, D, ca⟩ := Γ
  intro o H locs ls h1 h2 h3
  have hl := h3.at_ (i := 15) rfl
  have hx := o.1
  have hb := o.2.1
  have k := k o H locs ls h1 h2 h3
  exact lv_aload hx hb d hl k
theorem x_is15 {a15 : Option Value} {a0 a1 a2 a3 a4 a5 a6 a7 a8 a9 a10 a11 a12 a13 a14 : Option Value} {T : List (Option Value)} {x : Int} (d : decode cc pc = .ok (.istore 15, 2)) (k : X Γ B own nm cc nL ret lev mc ms (pc + 2) (a0 :: a1 :: a2 :: a3 :: a4 :: a5 :: a6 :: a7 :: a8 :: a9 :: a10 :: a11 :: a12 :: a13 :: a14 :: some (vI x) :: T) st kc ks S V) (hc : c1 a14 = true := by rfl) (hn : 15 < nL := by decide) : X Γ B own nm cc nL ret lev mc ms pc (a0 :: a1 :: a2 :: a3 :: a4 :: a5 :: a6 :: a7 :: a8 :: a9 :: a10 :: a11 :: a12 :: a13 :: a14 :: a15 :: T) (vI x :: st) kc ks S V := by
  obtain ⟨p, l, e, R, s, m, args, below, meth, c, Q, D, ca⟩ := Γ
  intro o H locs ls h1 h2 h3
  have hp : ∀ w, 0 < 15 → (a0 :: a1 :: a2 :: a3 :: a4 :: a5 :: a6 :: a7 :: a8 :: a9 :: a10 :: a11 :: a12 :: a13 :: a14 :: a15 :: T)[15 - 1]? = some w → c1 w = true := fun w _ h => by
    have h : some a14 = some w := h
    cases h
    exact hc
  have hx := o.1
  have hb := o.2.1
  exact lv_istore hx hb d h3 hn rfl (fun ls' hl => k o H locs ls' h1 h2 (LH_st1 hl hp))
theorem x_as15 {a15 : Option Value} {a0 a1 a2 a3 a4 a5 a6 a7 a8 a9 a10 a11 a12 a13 a14 : Option Value} {T : List (Option Value)} {x : Nat} (d : decode cc pc = .ok (.astore 15, 2)) (k : X Γ B own nm cc nL ret lev mc ms (pc + 2) (a0 :: a1 :: a2 :: a3 :: a4 :: a5 :: a6 :: a7 :: a8 :: a9 :: a10 :: a11 :: a12 :: a13 :: a14 :: some (vR B x) :: T) st kc ks S V) (hc : c1 a14 = true := by rfl) (hn : 15 < nL := by decide) : X Γ B own nm cc nL ret lev mc ms pc (a0 :: a1 :: a2 :: a3 :: a4 :: a5 :: a6 :: a7 :: a8 :: a9 :: a10 :: a11 :: a12 :: a13 :: a14 :: a15 :: T) (vR B x :: st) kc ks S V := by
  obtain ⟨p, l, e, R, s, m, args, below, meth, c, Q, D, ca⟩ := Γ
  intro o H locs ls h1 h2 h3
  have hp : ∀ w, 0 < 15 → (a0 :: a1 :: a2 :: a3 :: a4 :: a5 :: a6 :: a7 :: a8 :: a9 :: a10 :: a11 :: a12 :: a13 :: a14 :: a15 :: T)[15 - 1]? = some w → c1 w = true := fun w _ h => by
    have h : some a14 = some w := h
    cases h
    exact hc
  have hx := o.1
  have hb := o.2.1
  exact lv_astore hx hb d h3 hn rfl (fun ls' hl => k o H locs ls' h1 h2 (LH_st1 hl hp))
theorem x_rs15 {a15 : Option Value} {a0 a1 a2 a3 a4 a5 a6 a7 a8 a9 a10 a11 a12 a13 a14 : Option Value} {T : List (Option Value)} {x : Nat} (d : decode cc pc = .ok (.astore 15, 2)) (k : X Γ B own nm cc nL ret lev mc ms (pc + 2) (a0 :: a1 :: a2 :: a3 :: a4 :: a5 :: a6 :: a7 :: a8 :: a9 :: a10 :: a11 :: a12 :: a13 :: a14 :: some ((.ref x : Value)) :: T) st kc ks S V) (hc : c1 a14 = true := by rfl) (hn : 15 < nL := by decide) : X Γ B own nm cc nL ret lev mc ms pc (a0 :: a1 :: a2 :: a3 :: a4 :: a5 :: a6 :: a7 :: a8 :: a9 :: a10 :: a11 :: a12 :: a13 :: a14 :: a15 :: T) ((.ref x : Value) :: st) kc ks S V := by
  obtain ⟨p, l, e, R, s, m, args, below, meth, c, Q, D, ca⟩ := Γ
  intro o H locs ls h1 h2 h3
  have hp : ∀ w, 0 < 15 → (a0 :: a1 :: a2 :: a3 :: a4 :: a5 :: a6 :: a7 :: a8 :: a9 :: a10 :: a11 :: a12 :: a13 :: a14 :: a15 :: T)[15 - 1]? = some w → c1 w = true := fun w _ h => by
    have h : some a14 = some w := h
    cases h
    exact hc
  have hx := o.1
  have hb := o.2.1
  exact lv_astore hx hb d h3 hn rfl (fun ls' hl => k o H locs ls' h1 h2 (LH_st1 hl hp))
theorem x_ls15 {a15 a16 : Option Value} {a0 a1 a2 a3 a4 a5 a6 a7 a8 a9 a10 a11 a12 a13 a14 : Option Value} {T : List (Option Value)} {x : Int} (d : decode cc pc = .ok (.lstore 15, 2)) (k : X Γ B own nm cc nL ret lev mc ms (pc + 2) (a0 :: a1 :: a2 :: a3 :: a4 :: a5 :: a6 :: a7 :: a8 :: a9 :: a10 :: a11 :: a12 :: a13 :: a14 :: some (vL x) :: none :: T) st kc ks S V) (hc : c1 a14 = true := by rfl) (hn : 15 + 1 < nL := by decide) : X Γ B own nm cc nL ret lev mc ms pc (a0 :: a1 :: a2 :: a3 :: a4 :: a5 :: a6 :: a7 :: a8 :: a9 :: a10 :: a11 :: a12 :: a13 :: a14 :: a15 :: a16 :: T) (vL x :: st) kc ks S V := by
  obtain ⟨p, l, e, R, s, m, args, below, meth, c, Q, D, ca⟩ := Γ
  intro o H locs ls h1 h2 h3
  have hp : ∀ w, 0 < 15 → (a0 :: a1 :: a2 :: a3 :: a4 :: a5 :: a6 :: a7 :: a8 :: a9 :: a10 :: a11 :: a12 :: a13 :: a14 :: a15 :: a16 :: T)[15 - 1]? = some w → c1 w = true := fun w _ h => by
    have h : some a14 = some w := h
    cases h
    exact hc
  have hx := o.1
  have hb := o.2.1
  exact lv_lstore hx hb d h3 hn rfl (fun ls' hl => k o H locs ls' h1 h2 (LH_st2 hl hp))
theorem x_inc15 {a0 a1 a2 a3 a4 a5 a6 a7 a8 a9 a10 a11 a12 a13 a14 : Option Value} {T : List (Option Value)} {x n : Int} (d : decode cc pc = .ok (.iinc 15 n, 3)) (k : X Γ B own nm cc nL ret lev mc ms (pc + 3) (a0 :: a1 :: a2 :: a3 :: a4 :: a5 :: a6 :: a7 :: a8 :: a9 :: a10 :: a11 :: a12 :: a13 :: a14 :: some (vI (x + n)) :: T) st kc ks S V) (hc : c1 a14 = true := by rfl) (hn : 15 < nL := by decide) : X Γ B own nm cc nL ret lev mc ms pc (a0 :: a1 :: a2 :: a3 :: a4 :: a5 :: a6 :: a7 :: a8 :: a9 :: a10 :: a11 :: a12 :: a13 :: a14 :: some (vI x) :: T) st kc ks S V := by
  obtain ⟨p, l, e, R, s, m, args, below, meth, c, Q, D, ca⟩ := Γ
  intro o H locs ls h1 h2 h3
  have hp : ∀ w, 0 < 15 → (a0 :: a1 :: a2 :: a3 :: a4 :: a5 :: a6 :: a7 :: a8 :: a9 :: a10 :: a11 :: a12 :: a13 :: a14 :: some (vI x) :: T)[15 - 1]? = some w → c1 w = true := fun w _ h => by
    have h : some a14 = some w := h
    cases h
    exact hc
  have hm : (15, vI x) ∈ lvp 0 (a0 :: a1 :: a2 :: a3 :: a4 :: a5 :: a6 :: a7 :: a8 :: a9 :: a10 :: a11 :: a12 :: a13 :: a14 :: some (vI x) :: T) := (lvp_mem _ 0 15 _).mpr ⟨Nat.zero_le _, rfl⟩
  obtain ⟨j, hj⟩ := List.getElem?_of_mem hm
  exact lv_iinc (x := Int32.ofInt x) (v := Int32.ofInt (x + n)) (k := j) o.1 o.2.1 d h3 hj (Int32.ofInt_add x n).symm hn rfl (fun ls' hl => k o H locs ls' h1 h2 (LH_st1 hl hp))
theorem x_il16 {a0 a1 a2 a3 a4 a5 a6 a7 a8 a9 a10 a11 a12 a13 a14 a15 : Option Value} {T : List (Option Value)} {x : Int} (d : decode cc pc = .ok (.iload 16, 2)) (k : X Γ B own nm cc nL ret lev mc ms (pc + 2) (a0 :: a1 :: a2 :: a3 :: a4 :: a5 :: a6 :: a7 :: a8 :: a9 :: a10 :: a11 :: a12 :: a13 :: a14 :: a15 :: some (vI x) :: T) (vI x :: st) kc ks S V) : X Γ B own nm cc nL ret lev mc ms pc (a0 :: a1 :: a2 :: a3 :: a4 :: a5 :: a6 :: a7 :: a8 :: a9 :: a10 :: a11 :: a12 :: a13 :: a14 :: a15 :: some (vI x) :: T) st kc ks S V := by
  obtain ⟨p, l, e, R, s, m, args, below, meth, c, Q, D, ca⟩ := Γ
  intro o H locs ls h1 h2 h3
  have hl := h3.at_ (i := 16) rfl
  have hx := o.1
  have hb := o.2.1
  have k := k o H locs ls h1 h2 h3
  exact lv_iload hx hb d hl k
theorem x_ll16 {a0 a1 a2 a3 a4 a5 a6 a7 a8 a9 a10 a11 a12 a13 a14 a15 : Option Value} {T : List (Option Value)} {x : Int} (d : decode cc pc = .ok (.lload 16, 2)) (k : X Γ B own nm cc nL ret lev mc ms (pc + 2) (a0 :: a1 :: a2 :: a3 :: a4 :: a5 :: a6 :: a7 :: a8 :: a9 :: a10 :: a11 :: a12 :: a13 :: a14 :: a15 :: some (vL x) :: T) (vL x :: st) kc ks S V) : X Γ B own nm cc nL ret lev mc ms pc (a0 :: a1 :: a2 :: a3 :: a4 :: a5 :: a6 :: a7 :: a8 :: a9 :: a10 :: a11 :: a12 :: a13 :: a14 :: a15 :: some (vL x) :: T) st kc ks S V := by
  obtain ⟨p, l, e, R, s, m, args, below, meth, c, Q, D, ca⟩ := Γ
  intro o H locs ls h1 h2 h3
  have hl := h3.at_ (i := 16) rfl
  have hx := o.1
  have hb := o.2.1
  have k := k o H locs ls h1 h2 h3
  exact lv_lload hx hb d hl k
theorem x_al16 {a0 a1 a2 a3 a4 a5 a6 a7 a8 a9 a10 a11 a12 a13 a14 a15 : Option Value} {T : List (Option Value)} {x : Nat} (d : decode cc pc = .ok (.aload 16, 2)) (k : X Γ B own nm cc nL ret lev mc ms (pc + 2) (a0 :: a1 :: a2 :: a3 :: a4 :: a5 :: a6 :: a7 :: a8 :: a9 :: a10 :: a11 :: a12 :: a13 :: a14 :: a15 :: some (vR B x) :: T) (vR B x :: st) kc ks S V) : X Γ B own nm cc nL ret lev mc ms pc (a0 :: a1 :: a2 :: a3 :: a4 :: a5 :: a6 :: a7 :: a8 :: a9 :: a10 :: a11 :: a12 :: a13 :: a14 :: a15 :: some (vR B x) :: T) st kc ks S V := by
  obtain ⟨p, l, e, R, s, m, args, below, meth, c, Q, D, ca⟩ := Γ
  intro o H locs ls h1 h2 h3
  have hl := h3.at_ (i := 16) rfl
  have hx := o.1
  have hb := o.2.1
  have k := k o H locs ls h1 h2 h3
  exact lv_aload hx hb d hl k
theorem x_rl16 {a0 a1 a2 a3 a4 a5 a6 a7 a8 a9 a10 a11 a12 a13 a14 a15 : Option Value} {T : List (Option Value)} {x : Nat} (d : decode cc pc = .ok (.aload 16, 2)) (k : X Γ B own nm cc nL ret lev mc ms (pc + 2) (a0 :: a1 :: a2 :: a3 :: a4 :: a5 :: a6 :: a7 :: a8 :: a9 :: a10 :: a11 :: a12 :: a13 :: a14 :: a15 :: some ((.ref x : Value)) :: T) ((.ref x : Value) :: st) kc ks S V) : X Γ B own nm cc nL ret lev mc ms pc (a0 :: a1 :: a2 :: a3 :: a4 :: a5 :: a6 :: a7 :: a8 :: a9 :: a10 :: a11 :: a12 :: a13 :: a14 :: a15 :: some ((.ref x : Value)) :: T) st kc ks S V := by
  obtain ⟨p, l, e, R, s, m, args, below, meth, c, Q, D, ca⟩ := Γ
  intro o H locs ls h1 h2 h3
  have hl := h3.at_ (i := 16) rfl
  have hx := o.1
  have hb := o.2.1
  have k := k o H locs ls h1 h2 h3
  exact lv_aload hx hb d hl k
theorem x_is16 {a16 : Option Value} {a0 a1 a2 a3 a4 a5 a6 a7 a8 a9 a10 a11 a12 a13 a14 a15 : Option Value} {T : List (Option Value)} {x : Int} (d : decode cc pc = .ok (.istore 16, 2)) (k : X Γ B own nm cc nL ret lev mc ms (pc + 2) (a0 :: a1 :: a2 :: a3 :: a4 :: a5 :: a6 :: a7 :: a8 :: a9 :: a10 :: a11 :: a12 :: a13 :: a14 :: a15 :: some (vI x) :: T) st kc ks S V) (hc : c1 a15 = true := by rfl) (hn : 16 < nL := by decide) : X Γ B own nm cc nL ret lev mc ms pc (a0 :: a1 :: a2 :: a3 :: a4 :: a5 :: a6 :: a7 :: a8 :: a9 :: a10 :: a11 :: a12 :: a13 :: a14 :: a15 :: a16 :: T) (vI x :: st) kc ks S V := by
  obtain ⟨p, l, e, R, s, m, args, below, meth, c, Q, D, ca⟩ := Γ
  intro o H locs ls h1 h2 h3
  have hp : ∀ w, 0 < 16 → (a0 :: a1 :: a2 :: a3 :: a4 :: a5 :: a6 :: a7 :: a8 :: a9 :: a10 :: a11 :: a12 :: a13 :: a14 :: a15 :: a16 :: T)[16 - 1]? = some w → c1 w = true := fun w _ h => by
    have h : some a15 = some w := h
    cases h
    exact hc
  have hx := o.1
  have hb := o.2.1
  exact lv_istore hx hb d h3 hn rfl (fun ls' hl => k o H locs ls' h1 h2 (LH_st1 hl hp))
theorem x_as16 {a16 : Option Value} {a0 a1 a2 a3 a4 a5 a6 a7 a8 a9 a10 a11 a12 a13 a14 a15 : Option Value} {T : List (Option Value)} {x : Nat} (d : decode cc pc = .ok (.astore 16, 2)) (k : X Γ B own nm cc nL ret lev mc ms (pc + 2) (a0 :: a1 :: a2 :: a3 :: a4 :: a5 :: a6 :: a7 :: a8 :: a9 :: a10 :: a11 :: a12 :: a13 :: a14 :: a15 :: some (vR B x) :: T) st kc ks S V) (hc : c1 a15 = true := by rfl) (hn : 16 < nL := by decide) : X Γ B own nm cc nL ret lev mc ms pc (a0 :: a1 :: a2 :: a3 :: a4 :: a5 :: a6 :: a7 :: a8 :: a9 :: a10 :: a11 :: a12 :: a13 :: a14 :: a15 :: a16 :: T) (vR B x :: st) kc ks S V := by
  obtain ⟨p, l, e, R, s, m, args, below, meth, c, Q, D, ca⟩ := Γ
  intro o H locs ls h1 h2 h3
  have hp : ∀ w, 0 < 16 → (a0 :: a1 :: a2 :: a3 :: a4 :: a5 :: a6 :: a7 :: a8 :: a9 :: a10 :: a11 :: a12 :: a13 :: a14 :: a15 :: a16 :: T)[16 - 1]? = some w → c1 w = true := fun w _ h => by
    have h : some a15 = some w := h
    cases h
    exact hc
  have hx := o.1
  have hb := o.2.1
  exact lv_astore hx hb d h3 hn rfl (fun ls' hl => k o H locs ls' h1 h2 (LH_st1 hl hp))
theorem x_rs16 {a16 : Option Value} {a0 a1 a2 a3 a4 a5 a6 a7 a8 a9 a10 a11 a12 a13 a14 a15 : Option Value} {T : List (Option Value)} {x : Nat} (d : decode cc pc = .ok (.astore 16, 2)) (k : X Γ B own nm cc nL ret lev mc ms (pc + 2) (a0 :: a1 :: a2 :: a3 :: a4 :: a5 :: a6 :: a7 :: a8 :: a9 :: a10 :: a11 :: a12 :: a13 :: a14 :: a15 :: some ((.ref x : Value)) :: T) st kc ks S V) (hc : c1 a15 = true := by rfl) (hn : 16 < nL := by decide) : X Γ B own nm cc nL ret lev mc ms pc (a0 :: a1 :: a2 :: a3 :: a4 :: a5 :: a6 :: a7 :: a8 :: a9 :: a10 :: a11 :: a12 :: a13 :: a14 :: a15 :: a16 :: T) ((.ref x : Value) :: st) kc ks S V := by
  obtain ⟨p, l, e, R, s, m, args, below, meth, c, Q, D, ca⟩ := Γ
  intro o H locs ls h1 h2 h3
  have hp : ∀ w, 0 < 16 → (a0 :: a1 :: a2 :: a3 :: a4 :: a5 :: a6 :: a7 :: a8 :: a9 :: a10 :: a11 :: a12 :: a13 :: a14 :: a15 :: a16 :: T)[16 - 1]? = some w → c1 w = true := fun w _ h => by
    have h : some a15 = some w := h
    cases h
    exact hc
  have hx := o.1
  have hb := o.2.1
  exact lv_astore hx hb d h3 hn rfl (fun ls' hl => k o H locs ls' h1 h2 (LH_st1 hl hp))
theorem x_ls16 {a16 a17 : Option Value} {a0 a1 a2 a3 a4 a5 a6 a7 a8 a9 a10 a11 a12 a13 a14 a15 : Option Value} {T : List (Option Value)} {x : Int} (d : decode cc pc = .ok (.lstore 16, 2)) (k : X Γ B own nm cc nL ret lev mc ms (pc + 2) (a0 :: a1 :: a2 :: a3 :: a4 :: a5 :: a6 :: a7 :: a8 :: a9 :: a10 :: a11 :: a12 :: a13 :: a14 :: a15 :: some (vL x) :: none :: T) st kc ks S V) (hc : c1 a15 = true := by rfl) (hn : 16 + 1 < nL := by decide) : X Γ B own nm cc nL ret lev mc ms pc (a0 :: a1 :: a2 :: a3 :: a4 :: a5 :: a6 :: a7 :: a8 :: a9 :: a10 :: a11 :: a12 :: a13 :: a14 :: a15 :: a16 :: a17 :: T) (vL x :: st) kc ks S V := by
  obtain ⟨p, l, e, R, s, m, args, below, meth, c, Q, D, ca⟩ := Γ
  intro o H locs ls h1 h2 h3
  have hp : ∀ w, 0 < 16 → (a0 :: a1 :: a2 :: a3 :: a4 :: a5 :: a6 :: a7 :: a8 :: a9 :: a10 :: a11 :: a12 :: a13 :: a14 :: a15 :: a16 :: a17 :: T)[16 - 1]? = some w → c1 w = true := fun w _ h => by
    have h : some a15 = some w := h
    cases h
    exact hc
  have hx := o.1
  have hb := o.2.1
  exact lv_lstore hx hb d h3 hn rfl (fun ls' hl => k o H locs ls' h1 h2 (LH_st2 hl hp))
theorem x_inc16 {a0 a1 a2 a3 a4 a5 a6 a7 a8 a9 a10 a11 a12 a13 a14 a15 : Option Value} {T : List (Option Value)} {x n : Int} (d : decode cc pc = .ok (.iinc 16 n, 3)) (k : X Γ B own nm cc nL ret lev mc ms (pc + 3) (a0 :: a1 :: a2 :: a3 :: a4 :: a5 :: a6 :: a7 :: a8 :: a9 :: a10 :: a11 :: a12 :: a13 :: a14 :: a15 :: some (vI (x + n)) :: T) st kc ks S V) (hc : c1 a15 = true := by rfl) (hn : 16 < nL := by decide) : X Γ B own nm cc nL ret lev mc ms pc (a0 :: a1 :: a2 :: a3 :: a4 :: a5 :: a6 :: a7 :: a8 :: a9 :: a10 :: a11 :: a12 :: a13 :: a14 :: a15 :: some (vI x) :: T) st kc ks S V := by
  obtain ⟨p, l, e, R, s, m, args, below, meth, c, Q, D, ca⟩ := Γ
  intro o H locs ls h1 h2 h3
  have hp : ∀ w, 0 < 16 → (a0 :: a1 :: a2 :: a3 :: a4 :: a5 :: a6 :: a7 :: a8 :: a9 :: a10 :: a11 :: a12 :: a13 :: a14 :: a15 :: some (vI x) :: T)[16 - 1]? = some w → c1 w = true := fun w _ h => by
    have h : some a15 = some w := h
    cases h
    exact hc
  have hm : (16, vI x) ∈ lvp 0 (a0 :: a1 :: a2 :: a3 :: a4 :: a5 :: a6 :: a7 :: a8 :: a9 :: a10 :: a11 :: a12 :: a13 :: a14 :: a15 :: some (vI x) :: T) := (lvp_mem _ 0 16 _).mpr ⟨Nat.zero_le _, rfl⟩
  obtain ⟨j, hj⟩ := List.getElem?_of_mem hm
  exact lv_iinc (x := Int32.ofInt x) (v := Int32.ofInt (x + n)) (k := j) o.1 o.2.1 d h3 hj (Int32.ofInt_add x n).symm hn rfl (fun ls' hl => k o H locs ls' h1 h2 (LH_st1 hl hp))
end XR
