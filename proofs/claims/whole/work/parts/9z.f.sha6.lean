/-! sharing: the search -/
abbrev okT (kd br my tw : Int → Int) (most : Int) (g : Int → Int) (k : Int) : Prop := okS kd br my most g k ∧ (0 ≤ tw k → g (tw k) ≤ g k)
def ExT (kd br my tw : Int → Int) (n most i : Int) (g : Int → Int) : Prop := ∀ k, i ≤ k → k < n → okT kd br my tw most g k
/-- what place answers: below i it leaves all; r = 1: the first that goes on from there; r = 0: there is none -/
def PlP (kd br my tw : Int → Int) (n most i : Int) (g : Int → Int) (r : Int) (g' : Int → Int) : Prop :=
  (∀ k, k < i → g' k = g k) ∧ ((r = 0 ∧ ∀ f, (∀ k, 0 ≤ k → k < i → f k = g k) → ¬ ExT kd br my tw n most i f) ∨ (r = 1 ∧ ExT kd br my tw n most i g' ∧ ∀ f, (∀ k, 0 ≤ k → k < i → f k = g k) → ExT kd br my tw n most i f → ∀ k, i ≤ k → k < n → (∀ j, 0 ≤ j → j < k → f j = g' j) → g' k ≤ f k))
theorem bits_ext {a b : Int} (ha : 0 ≤ a) (hb : 0 ≤ b) (h : ∀ j, 0 ≤ j → a / p2 j % 2 = b / p2 j % 2) : a = b := by
  obtain ⟨x, rfl⟩ := Int.eq_ofNat_of_zero_le ha
  obtain ⟨y, rfl⟩ := Int.eq_ofNat_of_zero_le hb
  have : x = y := Nat.eq_of_testBit_eq (fun j => by
    have q := h (j : Int) (by omega)
    rw [iB, iB, Int.toNat_natCast, nb_tb, nb_tb] at q
    cases hx : x.testBit j <;> cases hy : y.testBit j <;> simp [hx, hy] at q ⊢)
  rw [this]
theorem or_off {x i : Int} (hx : 0 ≤ x) (hi : 0 ≤ i) (h : x / p2 i % 2 = 0) : bor x (p2 i) - band (bor x (p2 i)) (p2 i) = x := by
  have b0 := bor_nn x (p2 i)
  have b1 := band_r (x := bor x (p2 i)) (y := p2 i) b0
  refine bits_ext (by omega) hx (fun j j0 => ?_)
  rw [bit_clear b0 hi j0, bit_or hx hi j0]
  by_cases c : j = i
  · rw [if_pos c, c, h]
  · rw [if_neg c, if_neg c]
def HasI (h g : Int → Int) (i : Int) : Prop := (∀ s k, 0 ≤ s → s < 12 → 0 ≤ k → k < 12 → (h s / p2 k % 2 = 1 ↔ k < i ∧ g k = s)) ∧ ∀ s, 0 ≤ s → s < 12 → 0 ≤ h s ∧ h s < 4096
theorem HasI_0 {h g : Int → Int} (hz : ∀ s, 0 ≤ s → s < 12 → h s = 0) : HasI h g 0 := by
  refine ⟨fun s k s0 s1 k0 k1 => ?_, fun s s0 s1 => by rw [hz s s0 s1]; omega⟩
  rw [hz s s0 s1, Int.zero_ediv]
  exact ⟨fun z => absurd z (by decide), fun z => by omega⟩
theorem HasI_on {h g : Int → Int} {i s : Int} (hI : HasI h g i) (i0 : 0 ≤ i) (i1 : i < 12) (s0 : 0 ≤ s) (s1 : s < 12) : HasI (ua h s (bor (h s) (p2 i))) (ua g i s) (i + 1) := by
  refine ⟨fun t k t0 t1 k0 k1 => ?_, fun t t0 t1 => ?_⟩
  · have q := hI.1 t k t0 t1 k0 k1
    by_cases a : t = s
    · rw [a] at q ⊢
      rw [ua_same, bit_or (hI.2 s s0 s1).1 i0 k0]
      by_cases b : k = i
      · rw [if_pos b, b, ua_same]
        exact ⟨fun _ => ⟨by omega, rfl⟩, fun _ => rfl⟩
      · rw [if_neg b, ua_ne b, q]
        exact ⟨fun z => ⟨by omega, z.2⟩, fun z => ⟨by omega, z.2⟩⟩
    · rw [ua_ne a, q]
      by_cases b : k = i
      · rw [b, ua_same]
        exact ⟨fun z => by omega, fun z => absurd z.2.symm a⟩
      · rw [ua_ne b]
        exact ⟨fun z => ⟨by omega, z.2⟩, fun z => ⟨by omega, z.2⟩⟩
  · by_cases a : t = s
    · rw [a, ua_same]
      have e : p2 12 = 4096 := by decide
      have z := hI.2 s s0 s1
      have := bor_lt (x := h s) (y := p2 i) (n := 12) (by omega) ⟨Int.le_of_lt (p2_pos _), p2_lt i0 i1⟩
      omega
    · rw [ua_ne a]; exact hI.2 t t0 t1
/-- taken off again -/
theorem HasI_off {h g : Int → Int} {i s : Int} (hI : HasI h g i) (i0 : 0 ≤ i) (i1 : i < 12) (s0 : 0 ≤ s) (s1 : s < 12) : ua (ua h s (bor (h s) (p2 i))) s (bor (h s) (p2 i) - band (bor (h s) (p2 i)) (p2 i)) = h := by
  have hs := hI.2 s s0 s1
  have hb : h s / p2 i % 2 = 0 := by
    have q := hI.1 s i s0 s1 i0 i1
    have : ¬ h s / p2 i % 2 = 1 := fun z => by have := q.mp z; omega
    omega
  have e : bor (h s) (p2 i) - band (bor (h s) (p2 i)) (p2 i) = h s := or_off hs.1 i0 hb
  funext q
  simp only [ua]
  by_cases a : q = s
  · rw [if_pos a, a, e]
  · rw [if_neg a, if_neg a]
theorem fits_c {V : Va} {kd my br h g : Int → Int} {cl : Int → Int → Prop} {n i s : Int} (hB : ShB V kd my cl n) (hC : ClB kd my br cl n) (hI : HasI h g i) (i0 : 0 ≤ i) (i1 : i < n) (s0 : 0 ≤ s) (s1 : s < 12) : (band (h s) (V 291 i) = 0 ∧ bN (band (h s) (V 292 i)) 16 < V 294 i) ↔ canP kd br my g i s := by
  obtain ⟨h0, h1, h2, h3⟩ := hB
  have hs := hI.2 s s0 s1
  have r1 := (h1 i i0 i1).1
  have r2 := (h1 i i0 i1).2.1
  have my_ := (h1 i i0 i1).2.2
  have e12 : p2 12 = 4096 := by decide
  have bb := band_r (x := h s) (y := V 292 i) hs.1
  have cnt : bN (band (h s) (V 292 i)) 16 = canC kd g i s i := by
    have z := bN_top (set := band (h s) (V 292 i)) (t := 12) bb.1 (by omega) (by omega) 4
    have z2 : bN (band (h s) (V 292 i)) 16 = bN (band (h s) (V 292 i)) 12 := z
    rw [z2]
    simp only [bN, canC]
    have hz := sumT_ext (fun k => band (h s) (V 292 i) / p2 k % 2) (n := i) (m := 12) i0 (by omega) (fun k k0 k1 => by
      have q : ¬ band (h s) (V 292 i) / p2 k % 2 = 1 := fun w => by
        have y := (bit_and hs.1 r2.1 (by omega)).mp w
        have := (hI.1 s k s0 s1 (by omega) k1).mp y.1
        omega
      show band (h s) (V 292 i) / p2 k % 2 = 0
      omega)
    rw [hz]
    refine sumT_c (fun k k0 k1 => ?_)
    show band (h s) (V 292 i) / p2 k % 2 = if g k = s ∧ kd k = kd i then 1 else 0
    have a1 := hI.1 s k s0 s1 k0 (by omega)
    have a2 := h3 i k i0 i1 k0 (by omega)
    have a3 := bit_and (k := k) hs.1 r2.1 k0
    by_cases c : g k = s ∧ kd k = kd i
    · rw [if_pos c]
      exact a3.mpr ⟨a1.mpr ⟨k1, c.1⟩, a2.mpr c.2.symm⟩
    · rw [if_neg c]
      have : ¬ band (h s) (V 292 i) / p2 k % 2 = 1 := fun w => by
        have y := a3.mp w
        exact c ⟨(a1.mp y.1).2, (a2.mp y.2).symm⟩
      omega
  have zero : band (h s) (V 291 i) = 0 ↔ ∀ k, 0 ≤ k → k < i → g k = s → ¬ cl i k := by
    constructor
    · intro e k k0 k1 gk c
      have y := (bit_and (k := k) hs.1 r1.1 k0).mpr ⟨(hI.1 s k s0 s1 k0 (by omega)).mpr ⟨k1, gk⟩, (h2 i k i0 i1 k0 (by omega)).mpr ⟨by omega, c⟩⟩
      rw [e, Int.zero_ediv] at y
      exact absurd y (by decide)
    · intro e
      have b1 := band_r (x := h s) (y := V 291 i) hs.1
      refine bits0 (m := 12) b1.1 (by omega) (fun k k0 k1 => ?_)
      have : ¬ band (h s) (V 291 i) / p2 k % 2 = 1 := fun w => by
        have y := (bit_and hs.1 r1.1 k0).mp w
        have y1 := (hI.1 s k s0 s1 k0 (by omega)).mp y.1
        have y2 := (h2 i k i0 i1 k0 (by omega)).mp y.2
        exact e k k0 y1.1 y1.2 y2.2
      omega
  rw [zero, cnt, my_.1]
  constructor
  · intro ⟨a1, a2⟩
    refine ⟨?_, by omega⟩
    rw [findT_no (fun j j0 j1 => decide_eq_false (fun z => a1 j j0 j1 z.1 ((hC.1 i j i0 i1 j0 (by omega) (by omega)).mpr (Or.inr z.2))))]
    omega
  · intro ⟨a1, a2⟩
    refine ⟨fun k k0 k1 gk c => ?_, by omega⟩
    rcases (hC.1 i k i0 i1 k0 (by omega) (by omega)).mp c with z | z
    · have q := sumT_one (fun k => if g k = s ∧ kd k = kd i then 1 else 0) (fun k _ => by show 0 ≤ (if g k = s ∧ kd k = kd i then (1 : Int) else 0); split <;> omega) k k0 i.toNat (by omega)
      rw [show ((i.toNat : Nat) : Int) = i by omega] at q
      have e : (if g k = s ∧ kd k = kd i then (1 : Int) else 0) = 1 := if_pos ⟨gk, z.1.symm⟩
      simp only [canC] at a2
      simp only [e] at q
      omega
    · rcases findT_r (fun k => decide (g k = s ∧ br i / p2 k % 2 = 1)) (n := i) i0 with y | y
      · exact of_decide_eq_false (y.2 k k0 k1) ⟨gk, z⟩
      · omega
/-- the loop of place: all below s is excluded -/
def PlL (kd br my tw : Int → Int) (n most i s : Int) (g0 g : Int → Int) : Prop := (∀ k, k < i → g k = g0 k) ∧ (0 ≤ tw i → g0 (tw i) ≤ s) ∧ ∀ f, (∀ k, 0 ≤ k → k < i → f k = g0 k) → ExT kd br my tw n most i f → s ≤ f i
theorem PlL_0 {kd br my tw g : Int → Int} {n most i : Int} (i0 : 0 ≤ i) (i1 : i < n) (ht : tw i < i) : PlL kd br my tw n most i (if tw i < 0 then 0 else g (tw i)) g g := by
  refine ⟨fun k _ => rfl, fun h => ?_, fun f hf hE => ?_⟩
  · rw [if_neg (by omega)]; exact Int.le_refl _
  · have q := hE i (Int.le_refl _) i1
    split
    · exact q.1.1
    · rw [← hf (tw i) (by omega) ht]
      exact q.2 (by omega)
theorem PlL_no {kd br my tw g0 g : Int → Int} {n most i s : Int} (i0 : 0 ≤ i) (i1 : i < n) (h : PlL kd br my tw n most i s g0 g) (hc : ¬ canP kd br my g0 i s) : PlL kd br my tw n most i (s + 1) g0 g := by
  refine ⟨h.1, fun z => by have := h.2.1 z; omega, fun f hf hE => ?_⟩
  have q := h.2.2 f hf hE
  by_cases c : f i = s
  · have y := (hE i (Int.le_refl _) i1).1.2.2.2
    rw [c] at y
    exact absurd ((canP_c (fun j j0 j1 => hf j j0 j1)).mp y) hc
  · omega
theorem PlL_end {kd br my tw g0 g : Int → Int} {n most i s : Int} (i0 : 0 ≤ i) (i1 : i < n) (h : PlL kd br my tw n most i s g0 g) (hs : usedN g0 i.toNat < s ∨ most ≤ s) : PlP kd br my tw n most i g0 0 g := by
  refine ⟨h.1, Or.inl ⟨rfl, fun f hf hE => ?_⟩⟩
  have q := h.2.2 f hf hE
  have y := (hE i (Int.le_refl _) i1).1
  have e := usedN_c (h := f) (g := g0) i.toNat (fun j j0 j1 => hf j j0 (by omega))
  have y1 := y.2.1
  have y2 := y.2.2.1
  omega
theorem PlL_fail {kd br my tw g0 g g' : Int → Int} {n most i s : Int} (i0 : 0 ≤ i) (i1 : i < n) (h : PlL kd br my tw n most i s g0 g) (hp : PlP kd br my tw n most (i + 1) (ua g i s) 0 g') : PlL kd br my tw n most i (s + 1) g0 g' := by
  refine ⟨fun k hk => ?_, fun z => by have := h.2.1 z; omega, fun f hf hE => ?_⟩
  · rw [hp.1 k (by omega), ua_ne (by omega)]; exact h.1 k hk
  · have q := h.2.2 f hf hE
    by_cases c : f i = s
    · rcases hp.2 with z | z
      · refine absurd (fun k k0 k1 => hE k (by omega) k1) (z.2 f (fun k k0 k1 => ?_))
        by_cases w : k = i
        · rw [w, ua_same]; exact c
        · rw [ua_ne w, hf k k0 (by omega), h.1 k (by omega)]
      · omega
    · omega
theorem PlL_done {kd br my tw g0 g g' : Int → Int} {n most i s : Int} (i0 : 0 ≤ i) (i1 : i < n) (ht : tw i < i) (h : PlL kd br my tw n most i s g0 g) (s0 : 0 ≤ s) (su : s ≤ usedN g0 i.toNat) (sm : s < most) (hc : canP kd br my g0 i s) (hp : PlP kd br my tw n most (i + 1) (ua g i s) 1 g') : PlP kd br my tw n most i g0 1 g' := by
  have ag : ∀ k, k < i → g' k = g0 k := fun k hk => by rw [hp.1 k (by omega), ua_ne (by omega)]; exact h.1 k hk
  have gi : g' i = s := by rw [hp.1 i (by omega), ua_same]
  rcases hp.2 with z | z
  · exact absurd z.1 (by omega)
  · refine ⟨ag, Or.inr ⟨rfl, fun k k0 k1 => ?_, fun f hf hE k k0 k1 ha => ?_⟩⟩
    · by_cases w : k = i
      · rw [w]
        refine ⟨⟨by omega, ?_, by omega, ?_⟩, fun t0 => ?_⟩
        · rw [gi, usedN_c (h := g') (g := g0) i.toNat (fun j j0 j1 => ag j (by omega))]; exact su
        · rw [gi]; exact (canP_c (fun j j0 j1 => ag j j1)).mpr hc
        · rw [gi, ag _ ht]; exact h.2.1 t0
      · exact z.2.1 k (by omega) k1
    · by_cases w : k = i
      · rw [w, gi]; exact h.2.2 f hf hE
      · refine z.2.2 f (fun j j0 j1 => ?_) (fun j j0 j1 => hE j (by omega) j1) k (by omega) k1 ha
        rw [ha j j0 (by omega), hp.1 j j1]
/-- settle -/
theorem ExT_first {V : Va} {kd my br tw g : Int → Int} {cl : Int → Int → Prop} {n most : Int} (hB : ShB V kd my cl n) (hC : ClB kd my br cl n) (ht : ∀ i, 0 ≤ i → i < n → TwL V i i (tw i)) (hf : Full kd br my n most g) (hv : Val kd my cl n most g) (hl : LxM (Val kd my cl n most) n g) : ExT kd br my tw n most 0 g := by
  intro k k0 k1
  refine ⟨hf k k0 k1, fun t0 => ?_⟩
  rcases ht k k0 k1 with z | z
  · omega
  · have q := Twn_tw hB (i := k) (j := tw k) ⟨k0, k1⟩ ⟨t0, by omega⟩ z.2.2.1
    exact LxM_tw hv hl ⟨t0, z.2.1⟩ k1 q.1 (hC.2.2.1 k (tw k) k0 k1 t0 (by omega) q.1) (ClB_sy hC) q.2
theorem set_no {V : Va} {kd my br tw g g' : Int → Int} {cl : Int → Int → Prop} {n most : Int} (hB : ShB V kd my cl n) (hC : ClB kd my br cl n) (ht : ∀ i, 0 ≤ i → i < n → TwL V i i (tw i)) (hp : PlP kd br my tw n most 0 g 0 g') : ∀ f, ¬ Full kd br my n most f := fun f hf => by
  obtain ⟨g0, h1, h2, h3, h4⟩ := Full_first hC hf
  rcases hp.2 with z | z
  · exact z.2 g0 (fun k k0 k1 => by omega) (ExT_first hB hC ht h1 h3 h4)
  · exact absurd z.1 (by omega)
theorem set_yes {V : Va} {kd my br tw g g' : Int → Int} {cl : Int → Int → Prop} {n most : Int} (hB : ShB V kd my cl n) (hC : ClB kd my br cl n) (ht : ∀ i, 0 ≤ i → i < n → TwL V i i (tw i)) (m0 : 0 ≤ most) (hno : ∀ m, 0 ≤ m → m < most → ∀ f, ¬ Full kd br my n m f) (hp : PlP kd br my tw n most 0 g 1 g') : Best kd br my n most g' := by
  rcases hp.2 with z | z
  · exact absurd z.1 (by omega)
  · have hF : Full kd br my n most g' := fun k k0 k1 => (z.2.1 k k0 k1).1
    obtain ⟨g0, h1, h2, h3, h4⟩ := Full_first hC hF
    have hE := ExT_first hB hC ht h1 h3 h4
    have eq : ∀ m : Nat, (m : Int) ≤ n → ∀ j, 0 ≤ j → j < (m : Int) → g0 j = g' j := by
      intro m
      induction m with
      | zero => intro _ j j0 j1; omega
      | succ m ih =>
        intro hm j j0 j1
        have ih := ih (by omega)
        by_cases c : j = m
        · have a1 := z.2.2 g0 (fun k k0 k1 => by omega) hE j j0 (by omega) (fun q q0 q1 => ih q q0 (by omega))
          have a2 := h2 g' hF j j0 (by omega) (fun q q0 q1 => (ih q q0 (by omega)).symm)
          omega
        · exact ih j j0 (by omega)
    have n0 := hB.1.1
    refine ⟨m0, hno, hF, fun f hf k k0 k1 ha => ?_⟩
    rw [← eq n.toNat (by omega) k k0 (by omega)]
    exact h2 f hf k k0 k1 (fun j j0 j1 => (ha j j0 j1).trans (eq n.toNat (by omega) j j0 (by omega)).symm)
theorem Best_eq {kd br my : Int → Int} {n m m' : Int} {g g' : Int → Int} (h : Best kd br my n m g) (h' : Best kd br my n m' g') : m = m' ∧ ∀ k, 0 ≤ k → k < n → g k = g' k := by
  have e : m = m' := by
    rcases (show m < m' ∨ m = m' ∨ m' < m by omega) with z | z | z
    · exact absurd h.2.2.1 (h'.2.1 m h.1 z g)
    · exact z
    · exact absurd h'.2.2.1 (h.2.1 m' h'.1 z g')
  subst e
  refine ⟨rfl, ?_⟩
  have eq : ∀ q : Nat, (q : Int) ≤ n → ∀ j, 0 ≤ j → j < (q : Int) → g j = g' j := by
    intro q
    induction q with
    | zero => intro _ j j0 j1; omega
    | succ q ih =>
      intro hq j j0 j1
      have ih := ih (by omega)
      by_cases c : j = q
      · have a1 := h.2.2.2 g' h'.2.2.1 j j0 (by omega) (fun x x0 x1 => (ih x x0 (by omega)).symm)
        have a2 := h'.2.2.2 g h.2.2.1 j j0 (by omega) (fun x x0 x1 => ih x x0 (by omega))
        omega
      · exact ih j j0 (by omega)
  exact fun k k0 k1 => eq n.toNat (by omega) k k0 (by omega)
