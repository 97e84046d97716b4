/-! sharing: colourings, the first one, twins -/
theorem sumT_mono (f : Int → Int) (h : ∀ k, 0 ≤ k → 0 ≤ f k) {a b : Int} (h0 : 0 ≤ a) (hab : a ≤ b) : sumT f a ≤ sumT f b := by
  have key : ∀ d : Nat, sumT f a ≤ sumT f (a + d) := by
    intro d
    induction d with
    | zero => rw [show a + ((0 : Nat) : Int) = a by omega]; exact Int.le_refl _
    | succ d ih =>
      rw [show a + ((d + 1 : Nat) : Int) = (a + (d : Int)) + 1 by omega, sumT_s _ (by omega)]
      have := h (a + d) (by omega)
      omega
  have := key (b - a).toNat
  rwa [show a + (((b - a).toNat : Nat) : Int) = b by omega] at this
theorem sumT_ua (f : Int → Int) (k e : Int) (k0 : 0 ≤ k) : ∀ n : Nat, sumT (ua f k e) n = sumT f n + (if k < n then e - f k else 0)
  | 0 => by rw [if_neg (by omega)]; rfl
  | n + 1 => by
    rw [show ((n + 1 : Nat) : Int) = (n : Int) + 1 by omega, sumT_s _ (by omega), sumT_s _ (by omega), sumT_ua f k e k0 n]
    by_cases c : k = n
    · rw [if_neg (by omega), if_pos (by omega), ← c, ua_same]; omega
    · rw [ua_ne (by omega)]
      by_cases d : k < n
      · rw [if_pos d, if_pos (by omega)]; omega
      · rw [if_neg d, if_neg (by omega)]; omega
theorem sumT_uaI (f : Int → Int) {k e n : Int} (k0 : 0 ≤ k) (k1 : k < n) : sumT (ua f k e) n = sumT f n + (e - f k) := by
  have := sumT_ua f k e k0 n.toNat
  rw [show ((n.toNat : Nat) : Int) = n by omega, if_pos k1] at this
  exact this
/-- two places exchanged -/
def trI (i j k : Int) : Int := if k = i then j else if k = j then i else k
theorem trI_r {i j k n : Int} (hi : 0 ≤ i ∧ i < n) (hj : 0 ≤ j ∧ j < n) (hk : 0 ≤ k ∧ k < n) : 0 ≤ trI i j k ∧ trI i j k < n := by
  simp only [trI]
  split
  · exact hj
  split
  · exact hi
  · exact hk
theorem trI_inj {i j k l : Int} (h : trI i j k = trI i j l) : k = l := by
  simp only [trI] at h
  split at h <;> split at h <;> (try split at h) <;> (try split at h) <;> omega
theorem sumT_tr (f : Int → Int) {i j n : Int} (hi : 0 ≤ i ∧ i < n) (hj : 0 ≤ j ∧ j < n) : sumT (fun k => f (trI i j k)) n = sumT f n := by
  have e : (fun k => f (trI i j k)) = ua (ua f j (f i)) i (f j) := by
    funext k
    simp only [trI, ua]
    by_cases c : k = i
    · rw [if_pos c, if_pos c]
    · rw [if_neg c, if_neg c]
      by_cases d : k = j
      · rw [if_pos d, if_pos d]
      · rw [if_neg d, if_neg d]
  rw [e, sumT_uaI _ hi.1 hi.2, sumT_uaI _ hj.1 hj.2]
  by_cases c : i = j
  · rw [c, ua_same]; omega
  · rw [ua_ne c]; omega
/-- how many of the kind of i are with i -/
def kdN (kd g : Int → Int) (n i : Int) : Int := sumT (fun k => if g k = g i ∧ kd k = kd i then 1 else 0) n
/-- a sharing, its saints in any order; cl: these two can't be together -/
def Val (kd my : Int → Int) (cl : Int → Int → Prop) (n most : Int) (g : Int → Int) : Prop :=
  (∀ i, 0 ≤ i → i < n → 0 ≤ g i ∧ g i < most) ∧ (∀ i k, 0 ≤ i → i < n → 0 ≤ k → k < n → i ≠ k → g i = g k → ¬ cl i k) ∧ ∀ i, 0 ≤ i → i < n → kdN kd g n i ≤ my i
theorem Val_col {kd my g : Int → Int} {cl : Int → Int → Prop} {n most : Int} (h : Val kd my cl n most g) (s : Int → Int) (hs : ∀ x, 0 ≤ x → x < most → 0 ≤ s x ∧ s x < most) (hj : ∀ x y, 0 ≤ x → x < most → 0 ≤ y → y < most → s x = s y → x = y) : Val kd my cl n most (fun k => s (g k)) := by
  refine ⟨fun i i0 i1 => hs _ (h.1 i i0 i1).1 (h.1 i i0 i1).2, fun i k i0 i1 k0 k1 ne e => h.2.1 i k i0 i1 k0 k1 ne (hj _ _ (h.1 i i0 i1).1 (h.1 i i0 i1).2 (h.1 k k0 k1).1 (h.1 k k0 k1).2 e), fun i i0 i1 => ?_⟩
  have e : kdN kd (fun k => s (g k)) n i = kdN kd g n i := by
    refine sumT_c (fun k k0 k1 => ?_)
    by_cases c : g k = g i ∧ kd k = kd i
    · rw [if_pos c, if_pos ⟨congrArg s c.1, c.2⟩]
    · rw [if_neg c, if_neg (fun z => c ⟨hj _ _ (h.1 k k0 k1).1 (h.1 k k0 k1).2 (h.1 i i0 i1).1 (h.1 i i0 i1).2 z.1, z.2⟩)]
  rw [e]
  exact h.2.2 i i0 i1
/-- two that are alike in all may change places -/
theorem Val_tr {kd my g : Int → Int} {cl : Int → Int → Prop} {n most i j : Int} (h : Val kd my cl n most g) (hi : 0 ≤ i ∧ i < n) (hj : 0 ≤ j ∧ j < n) (hk : kd i = kd j) (hm : my i = my j) (hsy : ∀ x y, 0 ≤ x → x < n → 0 ≤ y → y < n → cl x y → cl y x) (hc : ∀ k, 0 ≤ k → k < n → k ≠ i → k ≠ j → (cl i k ↔ cl j k)) : Val kd my cl n most (fun k => g (trI i j k)) := by
  have kt : ∀ k, kd (trI i j k) = kd k := fun k => by
    simp only [trI]
    split
    · rename_i c; rw [c, hk]
    split
    · rename_i c; rw [c, hk]
    · rfl
  have mt : ∀ k, my (trI i j k) = my k := fun k => by
    simp only [trI]
    split
    · rename_i c; rw [c, hm]
    split
    · rename_i c; rw [c, hm]
    · rfl
  refine ⟨fun k k0 k1 => h.1 _ (trI_r hi hj ⟨k0, k1⟩).1 (trI_r hi hj ⟨k0, k1⟩).2, fun x y x0 x1 y0 y1 ne e => ?_, fun k k0 k1 => ?_⟩
  · have q := h.2.1 _ _ (trI_r hi hj ⟨x0, x1⟩).1 (trI_r hi hj ⟨x0, x1⟩).2 (trI_r hi hj ⟨y0, y1⟩).1 (trI_r hi hj ⟨y0, y1⟩).2 (fun z => ne (trI_inj z)) e
    intro z
    apply q
    simp only [trI]
    by_cases a1 : x = i
    · rw [if_pos a1]
      by_cases b2 : y = j
      · rw [if_neg (show ¬ y = i by omega), if_pos b2]
        rw [a1, b2] at z
        exact hsy _ _ hi.1 hi.2 hj.1 hj.2 z
      · rw [if_neg (show ¬ y = i by omega), if_neg b2]
        rw [a1] at z
        exact (hc y y0 y1 (by omega) b2).mp z
    · rw [if_neg a1]
      by_cases a2 : x = j
      · rw [if_pos a2]
        by_cases b1 : y = i
        · rw [if_pos b1]
          rw [a2, b1] at z
          exact hsy _ _ hj.1 hj.2 hi.1 hi.2 z
        · rw [if_neg b1, if_neg (show ¬ y = j by omega)]
          rw [a2] at z
          exact (hc y y0 y1 b1 (by omega)).mpr z
      · rw [if_neg a2]
        by_cases b1 : y = i
        · rw [if_pos b1]
          rw [b1] at z
          exact hsy _ _ hj.1 hj.2 x0 x1 ((hc x x0 x1 a1 a2).mp (hsy _ _ x0 x1 hi.1 hi.2 z))
        · rw [if_neg b1]
          by_cases b2 : y = j
          · rw [if_pos b2]
            rw [b2] at z
            exact hsy _ _ hi.1 hi.2 x0 x1 ((hc x x0 x1 a1 a2).mpr (hsy _ _ x0 x1 hj.1 hj.2 z))
          · rw [if_neg b2]
            exact z
  · have e : kdN kd (fun k => g (trI i j k)) n k = kdN kd g n (trI i j k) := by
      have z := sumT_tr (fun q => if g q = g (trI i j k) ∧ kd q = kd (trI i j k) then (1 : Int) else 0) hi hj
      simp only [kdN]
      rw [← z]
      refine sumT_c (fun q q0 q1 => ?_)
      show (if _ then (1 : Int) else 0) = if g (trI i j q) = g (trI i j k) ∧ kd (trI i j q) = kd (trI i j k) then 1 else 0
      rw [kt q, kt k]
    rw [e]
    have := h.2.2 _ (trI_r hi hj ⟨k0, k1⟩).1 (trI_r hi hj ⟨k0, k1⟩).2
    rw [mt] at this
    exact this
/-- the first of those that have P -/
def LxM (P : (Int → Int) → Prop) (n : Int) (g : Int → Int) : Prop := ∀ f, P f → ∀ k, 0 ≤ k → k < n → (∀ j, 0 ≤ j → j < k → f j = g j) → g k ≤ f k
theorem low_ex (Q : (Int → Int) → Prop) (m : Int) (h0 : ∀ f, Q f → 0 ≤ f m) : ∀ (N : Nat) (f : Int → Int), Q f → f m ≤ N → ∃ f, Q f ∧ ∀ f', Q f' → f m ≤ f' m
  | 0, f, hf, hN => ⟨f, hf, fun f' h' => by have := h0 f' h'; omega⟩
  | N + 1, f, hf, hN => by
    by_cases c : ∃ f', Q f' ∧ f' m < f m
    · obtain ⟨f', h1, h2⟩ := c
      exact low_ex Q m h0 N f' h1 (by omega)
    · exact ⟨f, hf, fun f' h' => by
        by_cases d : f m ≤ f' m
        · exact d
        · exact absurd ⟨f', h', by omega⟩ c⟩
theorem LxM_ex (P : (Int → Int) → Prop) (n : Int) (h0 : ∀ f, P f → ∀ i, 0 ≤ i → i < n → 0 ≤ f i) {f : Int → Int} (hf : P f) : ∃ g, P g ∧ LxM P n g := by
  have key : ∀ m : Nat, (m : Int) ≤ n → ∃ g, P g ∧ ∀ f, P f → ∀ k, 0 ≤ k → k < (m : Int) → (∀ j, 0 ≤ j → j < k → f j = g j) → g k ≤ f k := by
    intro m
    induction m with
    | zero => intro _; exact ⟨f, hf, fun f' _ k k0 k1 => by omega⟩
    | succ m ih =>
      intro hm
      obtain ⟨g, hg, hl⟩ := ih (by omega)
      obtain ⟨g', ⟨hp, ha⟩, hmin⟩ := low_ex (fun f => P f ∧ ∀ j, 0 ≤ j → j < (m : Int) → f j = g j) m (fun f hf => h0 f hf.1 m (by omega) (by omega)) (g m).toNat g ⟨hg, fun j _ _ => rfl⟩ (by omega)
      refine ⟨g', hp, fun f' h' k k0 k1 hag => ?_⟩
      by_cases c : k = m
      · rw [c]
        exact hmin f' ⟨h', fun j j0 j1 => (hag j j0 (by omega)).trans (ha j j0 j1)⟩
      · rw [ha k k0 (by omega)]
        exact hl f' h' k k0 (by omega) (fun j j0 j1 => (hag j j0 j1).trans (ha j j0 (by omega)))
  by_cases hn : 0 ≤ n
  · obtain ⟨g, h1, h2⟩ := key n.toNat (by omega)
    exact ⟨g, h1, fun f hf k k0 k1 ha => h2 f hf k k0 (by omega) ha⟩
  · exact ⟨f, hf, fun f' _ k k0 k1 => by omega⟩
theorem usedN_gt {h : Int → Int} : ∀ (n : Nat) (j : Int), 0 ≤ j → j < n → h j < usedN h n
  | 0, j, j0, j1 => by omega
  | n + 1, j, j0, j1 => by
    simp only [usedN]
    by_cases c : j = n
    · rw [c]
      split <;> omega
    · have := usedN_gt (h := h) n j j0 (by omega)
      split <;> omega
/-- the first of all gives new saints in their order -/
theorem LxM_rg {kd my g : Int → Int} {cl : Int → Int → Prop} {n most : Int} (h : Val kd my cl n most g) (hl : LxM (Val kd my cl n most) n g) {i : Int} (i0 : 0 ≤ i) (i1 : i < n) : g i ≤ usedN g i.toNat := by
  by_cases c : g i ≤ usedN g i.toNat
  · exact c
  · have hu := usedN_n g i.toNat
    have hm := (h.1 i i0 i1).2
    have v := Val_col h (fun x => trI (usedN g i.toNat) (g i) x) (fun x x0 x1 => trI_r ⟨hu, by omega⟩ ⟨by omega, hm⟩ ⟨x0, x1⟩) (fun x y _ _ _ _ e => trI_inj e)
    have q := hl _ v i i0 i1 (fun j j0 j1 => by
      have := usedN_gt (h := g) i.toNat j j0 (by omega)
      show trI _ _ (g j) = g j
      simp only [trI]
      rw [if_neg (by omega), if_neg (by omega)])
    have e : trI (usedN g i.toNat) (g i) (g i) = usedN g i.toNat := by
      simp only [trI]
      rw [if_neg (by omega)]
      exact if_pos trivial
    have q2 : g i ≤ trI (usedN g i.toNat) (g i) (g i) := q
    rw [e] at q2
    exact q2
/-- and never gives the later of two twins to a lesser saint -/
theorem LxM_tw {kd my g : Int → Int} {cl : Int → Int → Prop} {n most i j : Int} (h : Val kd my cl n most g) (hl : LxM (Val kd my cl n most) n g) (hj : 0 ≤ j ∧ j < i) (hi : i < n) (hk : kd i = kd j) (hm : my i = my j) (hsy : ∀ x y, 0 ≤ x → x < n → 0 ≤ y → y < n → cl x y → cl y x) (hc : ∀ k, 0 ≤ k → k < n → k ≠ i → k ≠ j → (cl i k ↔ cl j k)) : g j ≤ g i := by
  have v := Val_tr h (i := i) (j := j) ⟨by omega, hi⟩ ⟨hj.1, by omega⟩ hk hm hsy hc
  have q := hl _ v j hj.1 (by omega) (fun k k0 k1 => by
    show g (trI i j k) = g k
    simp only [trI]
    rw [if_neg (by omega), if_neg (by omega)])
  have e : trI i j j = i := by
    simp only [trI]
    rw [if_neg (by omega)]
    exact if_pos trivial
  have q2 : g j ≤ g (trI i j j) := q
  rw [e] at q2
  exact q2
/-- what the class asks of a bit row, against the reference's bars -/
def ClB (kd my br : Int → Int) (cl : Int → Int → Prop) (n : Int) : Prop := (∀ x y, 0 ≤ x → x < n → 0 ≤ y → y < n → x ≠ y → (cl x y ↔ (kd x = kd y ∧ my x = 1) ∨ br x / p2 y % 2 = 1)) ∧ (∀ x y, 0 ≤ x → x < n → 0 ≤ y → y < n → x ≠ y → br x / p2 y % 2 = 1 → br y / p2 x % 2 = 1) ∧ (∀ x y, 0 ≤ x → x < n → 0 ≤ y → y < n → kd x = kd y → my x = my y) ∧ ∀ x, 0 ≤ x → x < n → 1 ≤ my x
theorem ClB_sy {kd my br : Int → Int} {cl : Int → Int → Prop} {n : Int} (h : ClB kd my br cl n) (x y : Int) (x0 : 0 ≤ x) (x1 : x < n) (y0 : 0 ≤ y) (y1 : y < n) (c : cl x y) : cl y x := by
  by_cases e : x = y
  · rw [e] at c ⊢; exact c
  · rcases (h.1 x y x0 x1 y0 y1 e).mp c with z | z
    · exact (h.1 y x y0 y1 x0 x1 (Ne.symm e)).mpr (Or.inl ⟨z.1.symm, by rw [h.2.2.1 y x y0 y1 x0 x1 z.1.symm]; exact z.2⟩)
    · exact (h.1 y x y0 y1 x0 x1 (Ne.symm e)).mpr (Or.inr (h.2.1 x y x0 x1 y0 y1 e z))
theorem canC_1 {kd g : Int → Int} {i k : Int} (hk : 0 ≤ k ∧ k < i) (h1 : g k = g i) (h2 : kd k = kd i) : 1 ≤ canC kd g i (g i) i := by
  have := sumT_one (fun k => if g k = g i ∧ kd k = kd i then 1 else 0) (fun k _ => by split <;> omega) k hk.1 i.toNat (by omega)
  rw [show ((i.toNat : Nat) : Int) = i by omega] at this
  have e : (if g k = g i ∧ kd k = kd i then (1 : Int) else 0) = 1 := if_pos ⟨h1, h2⟩
  simp only [canC]
  omega
theorem Full_Val {kd my br g : Int → Int} {cl : Int → Int → Prop} {n most : Int} (hC : ClB kd my br cl n) (h : Full kd br my n most g) : Val kd my cl n most g := by
  have pair : ∀ i k, 0 ≤ k → k < i → i < n → g i = g k → ¬ cl i k := fun i k k0 k1 i1 e c => by
    obtain ⟨-, -, -, h3, h4⟩ := h i (by omega) i1
    rcases (hC.1 i k (by omega) i1 k0 (by omega) (by omega)).mp c with z | z
    · have := canC_1 (kd := kd) (g := g) (i := i) ⟨k0, k1⟩ e.symm z.1.symm
      omega
    · rcases findT_r (fun k => decide (g k = g i ∧ br i / p2 k % 2 = 1)) (n := i) (by omega) with y | y
      · have := of_decide_eq_false (y.2 k k0 k1)
        exact this ⟨e.symm, z⟩
      · omega
  refine ⟨fun i i0 i1 => ⟨(h i i0 i1).1, (h i i0 i1).2.2.1⟩, fun i k i0 i1 k0 k1 ne e => ?_, fun i i0 i1 => ?_⟩
  · by_cases c : k < i
    · exact pair i k k0 c i1 e
    · exact fun z => pair k i i0 (by omega) k1 e.symm (ClB_sy hC i k i0 i1 k0 k1 z)
  · have key : ∀ m : Nat, (m : Int) ≤ n → sumT (fun k => if g k = g i ∧ kd k = kd i then 1 else 0) m ≤ my i := by
      intro m
      induction m with
      | zero => intro _; have := hC.2.2.2 i i0 i1; show (0 : Int) ≤ _; omega
      | succ m ih =>
        intro hm
        have ih := ih (by omega)
        rw [show ((m + 1 : Nat) : Int) = (m : Int) + 1 by omega, sumT_s _ (by omega)]
        by_cases c : g m = g i ∧ kd m = kd i
        · rw [if_pos c]
          obtain ⟨-, -, -, -, h4⟩ := h m (by omega) (by omega)
          have e : canC kd g m (g m) m = sumT (fun k => if g k = g i ∧ kd k = kd i then 1 else 0) m := by
            simp only [canC]
            rw [c.1, c.2]
          have := hC.2.2.1 m i (by omega) (by omega) i0 i1 c.2
          omega
        · rw [if_neg c]; omega
    have := key n.toNat (by omega)
    rwa [show ((n.toNat : Nat) : Int) = n by omega] at this
theorem Val_can {kd my br g : Int → Int} {cl : Int → Int → Prop} {n most : Int} (hC : ClB kd my br cl n) (h : Val kd my cl n most g) {i : Int} (i0 : 0 ≤ i) (i1 : i < n) : canP kd br my g i (g i) := by
  refine ⟨?_, ?_⟩
  · rw [findT_no (fun j j0 j1 => decide_eq_false (fun z => h.2.1 i j i0 i1 j0 (by omega) (by omega) z.1.symm ((hC.1 i j i0 i1 j0 (by omega) (by omega)).mpr (Or.inr z.2))))]
    omega
  · have e := sumT_mono (fun k => if g k = g i ∧ kd k = kd i then 1 else 0) (fun k _ => by split <;> omega) (a := i + 1) (b := n) (by omega) (by omega)
    rw [sumT_s _ i0, if_pos ⟨rfl, rfl⟩] at e
    have := h.2.2 i i0 i1
    simp only [kdN] at this
    simp only [canC]
    omega
/-- the first of all sharings is the first of the reference's -/
theorem Full_first {kd my br f : Int → Int} {cl : Int → Int → Prop} {n most : Int} (hC : ClB kd my br cl n) (hf : Full kd br my n most f) : ∃ g, Full kd br my n most g ∧ LxM (Full kd br my n most) n g ∧ Val kd my cl n most g ∧ LxM (Val kd my cl n most) n g := by
  obtain ⟨g, h1, h2⟩ := LxM_ex (Val kd my cl n most) n (fun f hf i i0 i1 => (hf.1 i i0 i1).1) (Full_Val hC hf)
  exact ⟨g, fun i i0 i1 => ⟨(h1.1 i i0 i1).1, LxM_rg h1 h2 i0 i1, (h1.1 i i0 i1).2, Val_can hC h1 i0 i1⟩, fun f hf => h2 f (Full_Val hC hf), h1, h2⟩
