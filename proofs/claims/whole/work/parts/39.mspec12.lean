/-! round: arrangements of a set, in their order -/
def Arr (A : Int → Prop) (n : Int) (q : Int → Int) : Prop := (∀ k, 0 ≤ k → k < n → A (q k)) ∧ (∀ j k, 0 ≤ j → j < n → 0 ≤ k → k < n → q j = q k → j = k) ∧ ∀ x, A x → ∃ k, 0 ≤ k ∧ k < n ∧ q k = x
/-- t comes ahead of q -/
def Lx (n : Int) (t q : Int → Int) : Prop := ∃ d, 0 ≤ d ∧ d < n ∧ (∀ j, 0 ≤ j → j < d → t j = q j) ∧ t d < q d
theorem Lx_tri {n : Int} {t q : Int → Int} : Lx n t q ∨ Lx n q t ∨ ∀ j, 0 ≤ j → j < n → t j = q j := by
  have key : ∀ m : Nat, (m : Int) ≤ n → Lx n t q ∨ Lx n q t ∨ ∀ j, 0 ≤ j → j < (m : Int) → t j = q j := by
    intro m
    induction m with
    | zero => intro _; exact Or.inr (Or.inr (fun j h0 h1 => by omega))
    | succ m ih =>
      intro hm
      rcases ih (by omega) with h | h | h
      · exact Or.inl h
      · exact Or.inr (Or.inl h)
      · rcases (show t m < q m ∨ q m < t m ∨ t m = q m by omega) with g | g | g
        · exact Or.inl ⟨m, by omega, by omega, h, g⟩
        · exact Or.inr (Or.inl ⟨m, by omega, by omega, fun j j0 j1 => (h j j0 j1).symm, g⟩)
        · refine Or.inr (Or.inr (fun j j0 j1 => ?_))
          by_cases e : j = m
          · rw [e]; exact g
          · exact h j j0 (by omega)
  by_cases hn : 0 ≤ n
  · have := key n.toNat (by omega)
    rw [show ((n.toNat : Nat) : Int) = n by omega] at this
    exact this
  · exact Or.inr (Or.inr (fun j h0 h1 => by omega))
theorem Lx_asym {n : Int} {t q : Int → Int} (h : Lx n t q) (g : Lx n q t) : False := by
  obtain ⟨d, d0, d1, d2, d3⟩ := h
  obtain ⟨e, e0, e1, e2, e3⟩ := g
  rcases (show d < e ∨ e < d ∨ d = e by omega) with z | z | z
  · have := e2 d d0 z; omega
  · have := d2 e e0 z; omega
  · subst z; omega
theorem Lx_c {n : Int} {t t' q : Int → Int} (e : ∀ j, 0 ≤ j → j < n → t j = t' j) (h : Lx n t q) : Lx n t' q := by
  obtain ⟨d, d0, d1, d2, d3⟩ := h
  exact ⟨d, d0, d1, fun j j0 j1 => by rw [← e j j0 (by omega)]; exact d2 j j0 j1, by rw [← e d d0 d1]; exact d3⟩
/-- an arrangement that agrees below d has at d something that stands at d or behind -/
theorem Arr_at {A : Int → Prop} {n d : Int} {t q : Int → Int} (ht : Arr A n t) (hq : Arr A n q) (d0 : 0 ≤ d) (d1 : d < n) (e : ∀ j, 0 ≤ j → j < d → t j = q j) : ∃ j, d ≤ j ∧ j < n ∧ t j = q d := by
  obtain ⟨j, j0, j1, j2⟩ := ht.2.2 (q d) (hq.1 d d0 d1)
  refine ⟨j, ?_, j1, j2⟩
  by_cases c : d ≤ j
  · exact c
  · have := hq.2.1 j d j0 j1 d0 d1 ((e j j0 (by omega)).symm.trans j2)
    omega
/-- falling from i on: nothing that agrees below i comes behind -/
theorem Lx_max {A : Int → Prop} {n i : Int} {t q : Int → Int} (ht : Arr A n t) (hq : Arr A n q) (hd : ∀ j l, i ≤ j → j < l → l < n → t l < t j) (d : Int) (d0 : 0 ≤ d) (d1 : d < n) (e : ∀ j, 0 ≤ j → j < d → t j = q j) (hi : i ≤ d) : ¬ t d < q d := by
  intro h
  obtain ⟨j, j0, j1, j2⟩ := Arr_at ht hq d0 d1 e
  by_cases c : j = d
  · subst c; omega
  · have := hd d j hi (by omega) j1; omega
theorem Lx_min {A : Int → Prop} {n i : Int} {t q : Int → Int} (ht : Arr A n t) (hq : Arr A n q) (hd : ∀ j l, i ≤ j → j < l → l < n → t j < t l) (d : Int) (d0 : 0 ≤ d) (d1 : d < n) (e : ∀ j, 0 ≤ j → j < d → t j = q j) (hi : i ≤ d) : ¬ q d < t d := by
  intro h
  obtain ⟨j, j0, j1, j2⟩ := Arr_at ht hq d0 d1 e
  by_cases c : j = d
  · subst c; omega
  · have := hd d j hi (by omega) j1; omega
def sg (i k n j : Int) : Int := if j < i then j else if j = i then k else if n + i - j = k then i else n + i - j
theorem sg_r {i k n j : Int} (hi : 0 ≤ i) (hk : i < k ∧ k < n) (h0 : 0 ≤ j) (h1 : j < n) : 0 ≤ sg i k n j ∧ sg i k n j < n := by
  simp only [sg]
  split
  · omega
  · split
    · omega
    · split <;> omega
theorem sg_inj {i k n j l : Int} (hk : i < k ∧ k < n) (h1 : j < n) (h2 : l < n) (e : sg i k n j = sg i k n l) : j = l := by
  simp only [sg] at e
  split at e
  · split at e
    · exact e
    · split at e
      · omega
      · split at e <;> omega
  · split at e
    · split at e
      · omega
      · split at e
        · omega
        · split at e <;> omega
    · split at e
      · split at e
        · omega
        · split at e
          · omega
          · split at e <;> omega
      · split at e
        · omega
        · split at e
          · omega
          · split at e <;> omega
theorem sg_sur {i k n m : Int} (hi : 0 ≤ i) (hk : i < k ∧ k < n) (h0 : 0 ≤ m) (h1 : m < n) : ∃ j, 0 ≤ j ∧ j < n ∧ sg i k n j = m := by
  by_cases c1 : m < i
  · exact ⟨m, h0, h1, if_pos c1⟩
  · by_cases c2 : m = k
    · exact ⟨i, by omega, by omega, by simp only [sg]; rw [if_neg (by omega), if_pos trivial, c2]⟩
    · by_cases c3 : m = i
      · exact ⟨n + i - k, by omega, by omega, by simp only [sg]; rw [if_neg (by omega), if_neg (by omega), if_pos (by omega), c3]⟩
      · exact ⟨n + i - m, by omega, by omega, by simp only [sg]; rw [if_neg (by omega), if_neg (by omega), if_neg (by omega)]; omega⟩
theorem Arr_sg {A : Int → Prop} {n i k : Int} {t h : Int → Int} (ht : Arr A n t) (hi : 0 ≤ i) (hk : i < k ∧ k < n) (hh : ∀ j, 0 ≤ j → j < n → h j = t (sg i k n j)) : Arr A n h := by
  refine ⟨fun j j0 j1 => ?_, fun j l j0 j1 l0 l1 e => ?_, fun x hx => ?_⟩
  · have r := sg_r hi hk j0 j1
    rw [hh j j0 j1]
    exact ht.1 _ r.1 r.2
  · have r := sg_r hi hk j0 j1
    have r' := sg_r hi hk l0 l1
    rw [hh j j0 j1, hh l l0 l1] at e
    exact sg_inj hk j1 l1 (ht.2.1 _ _ r.1 r.2 r'.1 r'.2 e)
  · obtain ⟨m, m0, m1, m2⟩ := ht.2.2 x hx
    obtain ⟨j, j0, j1, j2⟩ := sg_sur hi hk m0 m1
    exact ⟨j, j0, j1, by rw [hh j j0 j1, j2, m2]⟩
/-- what nextOrder answers -/
def NxP (A : Int → Prop) (n : Int) (t : Int → Int) (r : Int) (h : Int → Int) : Prop := (r = 0 ∧ h = t ∧ ∀ q, Arr A n q → q 0 = t 0 → ¬ Lx n t q) ∨ (r = 1 ∧ Arr A n h ∧ h 0 = t 0 ∧ Lx n t h ∧ ∀ q, Arr A n q → q 0 = t 0 → Lx n t q → ¬ Lx n q h)
theorem dec_lt {t : Int → Int} {n a : Int} (h : ∀ j, a ≤ j → j + 1 < n → t (j + 1) < t j) : ∀ (m : Nat) (j : Int), a ≤ j → j + 1 + m < n → t (j + 1 + m) < t j
  | 0, j, h0, h1 => by
    have := h j h0 (by omega)
    rw [show j + 1 + ((0 : Nat) : Int) = j + 1 by omega]; exact this
  | m + 1, j, h0, h1 => by
    have ih := dec_lt h m j h0 (by omega)
    have := h (j + 1 + m) (by omega) (by omega)
    rw [show j + 1 + ((m + 1 : Nat) : Int) = j + 1 + m + 1 by omega]; omega
theorem Nx_no {A : Int → Prop} {n i : Int} {t : Int → Int} (ht : Arr A n t) (hi : i < 1) (hd : ∀ j, i + 1 ≤ j → j + 1 < n → t (j + 1) < t j) : NxP A n t 0 t := by
  refine Or.inl ⟨rfl, rfl, fun q hq q0 ⟨d, d0, d1, d2, d3⟩ => ?_⟩
  refine Lx_max (i := 1) ht hq (fun j l h0 h1 h2 => ?_) d d0 d1 d2 ?_ d3
  · have := dec_lt hd (l - j - 1).toNat j (by omega) (by omega)
    rw [show j + 1 + (((l - j - 1).toNat : Nat) : Int) = l by omega] at this; exact this
  · by_cases z : d = 0
    · subst z; omega
    · omega
theorem Nx_yes {A : Int → Prop} {n i k : Int} {t h : Int → Int} (ht : Arr A n t) (hi : 1 ≤ i) (hk : i < k ∧ k < n) (hd : ∀ j, i + 1 ≤ j → j + 1 < n → t (j + 1) < t j) (h1 : t i < t k) (h2 : ∀ j, k < j → j < n → t j < t i) (hh : ∀ j, 0 ≤ j → j < n → h j = t (sg i k n j)) : NxP A n t 1 h := by
  have hdl : ∀ j l, i + 1 ≤ j → j < l → l < n → t l < t j := fun j l g0 g1 g2 => by
    have := dec_lt hd (l - j - 1).toNat j (by omega) (by omega)
    rw [show j + 1 + (((l - j - 1).toNat : Nat) : Int) = l by omega] at this; exact this
  have eb : ∀ j, 0 ≤ j → j < i → h j = t j := fun j g0 g1 => by rw [hh j g0 (by omega)]; simp only [sg]; rw [if_pos g1]
  have ei : h i = t k := by rw [hh i (by omega) (by omega)]; simp only [sg]; rw [if_neg (by omega), if_pos trivial]
  have hA := Arr_sg ht (by omega) hk hh
  have hin : ∀ j l, i + 1 ≤ j → j < l → l < n → h j < h l := fun j l g0 g1 g2 => by
    rw [hh j (by omega) (by omega), hh l (by omega) (by omega)]
    simp only [sg]
    rw [if_neg (by omega), if_neg (by omega), if_neg (show ¬ l < i by omega), if_neg (show ¬ l = i by omega)]
    by_cases c : n + i - j = k
    · rw [if_pos c, if_neg (by omega)]
      have := hdl (n + i - l) k (by omega) (by omega) hk.2
      omega
    · rw [if_neg c]
      by_cases c' : n + i - l = k
      · rw [if_pos c']; exact h2 _ (by omega) (by omega)
      · rw [if_neg c']; exact hdl _ _ (by omega) (by omega) (by omega)
  refine Or.inr ⟨rfl, hA, eb 0 (by omega) (by omega), ⟨i, by omega, by omega, fun j j0 j1 => (eb j j0 j1).symm, by rw [ei]; exact h1⟩, fun q hq q0 hl hx => ?_⟩
  obtain ⟨d, d0, d1, d2, d3⟩ := hl
  obtain ⟨e, e0, e1, e2, e3⟩ := hx
  have hdi : ¬ i < d := fun z => Lx_max (i := i + 1) ht hq hdl d d0 d1 d2 (by omega) d3
  by_cases z : d < i
  · rcases (show e < d ∨ d < e ∨ d = e by omega) with w | w | w
    · have := d2 e e0 w; have := eb e e0 (by omega); omega
    · have := e2 d d0 w; have := eb d d0 z; omega
    · subst w; have := eb d d0 z; omega
  · have di : d = i := by omega
    subst di
    obtain ⟨j, j0, j1, j2⟩ := Arr_at ht hq d0 d1 d2
    have jk : j ≤ k := by
      by_cases c : k < j
      · have := h2 j c j1; omega
      · omega
    have jd : j ≠ d := fun c => by subst c; omega
    have ge : t k ≤ q d := by
      by_cases c : j = k
      · subst c; omega
      · have := hdl j k (by omega) (by omega) hk.2; omega
    rcases (show e < d ∨ d < e ∨ d = e by omega) with w | w | w
    · have := d2 e e0 w; have := eb e e0 w; omega
    · exact Lx_min (i := d + 1) hA hq hin e e0 e1 (fun j g0 g1 => (e2 j g0 g1).symm) (by omega) e3
    · subst w; omega
/-- turned round between lo and hi, so far as p -/
def revK (f : Int → Int) (lo hi p : Int) : Int → Int := fun j => if (lo ≤ j ∧ j < p) ∨ (lo + hi - p < j ∧ j ≤ hi) then f (lo + hi - j) else f j
theorem revK_0 (f : Int → Int) (lo hi : Int) : f = revK f lo hi lo := by
  funext j
  simp only [revK]
  rw [if_neg (by omega)]
theorem revK_s {f : Int → Int} {lo hi p q : Int} (h0 : lo ≤ p) (h1 : p < q) (h2 : q = lo + hi - p) : ua (ua (revK f lo hi p) p (revK f lo hi p q)) q (revK f lo hi p p) = revK f lo hi (p + 1) := by
  have e1 : revK f lo hi p q = f q := by simp only [revK]; rw [if_neg (by omega)]
  have e2 : revK f lo hi p p = f p := by simp only [revK]; rw [if_neg (by omega)]
  rw [e1, e2]
  funext j
  simp only [ua]
  by_cases c1 : j = q
  · rw [if_pos c1]; simp only [revK]; rw [if_pos (by omega)]; congr 1; omega
  · rw [if_neg c1]
    by_cases c2 : j = p
    · rw [if_pos c2]; simp only [revK]; rw [if_pos (by omega)]; congr 1; omega
    · rw [if_neg c2]
      simp only [revK]
      by_cases c3 : (lo ≤ j ∧ j < p) ∨ (lo + hi - p < j ∧ j ≤ hi)
      · rw [if_pos c3, if_pos (by omega)]
      · rw [if_neg c3, if_neg (by omega)]
theorem revK_sg {t : Int → Int} {i k n p : Int} (hi : 1 ≤ i) (hk : i < k ∧ k < n) (hp : i + 1 ≤ p) (hq : ¬ p < i + 1 + (n - 1) - p) (hp2 : p ≤ n) (j : Int) (h0 : 0 ≤ j) (h1 : j < n) : revK (ua (ua t i (t k)) k (t i)) (i + 1) (n - 1) p j = t (sg i k n j) := by
  have sw : ∀ l, ua (ua t i (t k)) k (t i) l = if l = k then t i else if l = i then t k else t l := fun l => rfl
  simp only [revK, sg]
  by_cases c1 : j < i
  · rw [if_neg (by omega), if_pos c1, sw, if_neg (by omega), if_neg (by omega)]
  · rw [if_neg c1]
    by_cases c2 : j = i
    · rw [if_neg (by omega), if_pos c2, sw, if_neg (by omega), if_pos c2]
    · rw [if_neg c2]
      by_cases c3 : (i + 1 ≤ j ∧ j < p) ∨ (i + 1 + (n - 1) - p < j ∧ j ≤ n - 1)
      · rw [if_pos c3, sw]
        by_cases c4 : n + i - j = k
        · rw [if_pos (by omega), if_pos c4]
        · rw [if_neg (by omega), if_neg (by omega), if_neg c4]; congr 1; omega
      · rw [if_neg c3, sw]
        have e : n + i - j = j := by omega
        rw [e]
        by_cases c4 : j = k
        · rw [if_pos c4, if_pos c4]
        · rw [if_neg c4, if_neg c2, if_neg c4]
def numV (t : Int → Int) : Nat → Nat
  | 0 => 0
  | m + 1 => 10 * numV t m + (t m).toNat
theorem numV_c {t q : Int → Int} : ∀ m : Nat, (∀ j : Int, 0 ≤ j → j < m → t j = q j) → numV t m = numV q m
  | 0, _ => rfl
  | m + 1, e => by
    simp only [numV]
    rw [numV_c m (fun j h0 h1 => e j h0 (by omega)), e m (by omega) (by omega)]
theorem numV_r {t : Int → Int} : ∀ m : Nat, (∀ j : Int, 0 ≤ j → j < m → t j ≤ 9) → numV t m < 10 ^ m
  | 0, _ => by simp only [numV]; decide
  | m + 1, e => by
    have ih := numV_r m (fun j h0 h1 => e j h0 (by omega))
    have := e m (by omega) (by omega)
    simp only [numV]
    rw [Nat.pow_succ]
    omega
theorem numV_lx {t q : Int → Int} {d : Int} (d0 : 0 ≤ d) (e : ∀ j, 0 ≤ j → j < d → t j = q j) (h : t d < q d) : ∀ m : Nat, d < m → (∀ j : Int, 0 ≤ j → j < m → 0 ≤ t j ∧ t j ≤ 9) → numV t m < numV q m
  | 0, h0, _ => by omega
  | m + 1, h0, r => by
    have := r m (by omega) (by omega)
    simp only [numV]
    by_cases c : d = m
    · subst c
      rw [numV_c (q := q) m e]
      omega
    · have ih := numV_lx d0 e h m (by omega) (fun j j0 j1 => r j j0 (by omega))
      omega
def tourM (a t : Int → Int) (n : Int) : Int := sumT (fun k => mMiles a (t k) (t (if k + 1 = n then 0 else k + 1))) n
theorem tourM_c {a t q : Int → Int} {n : Int} (e : ∀ j, 0 ≤ j → j < n → t j = q j) : tourM a t n = tourM a q n := sumT_c (fun k h0 h1 => by
  rw [e k h0 h1]
  by_cases c : k + 1 = n
  · rw [if_pos c, e 0 (by omega) (by omega)]
  · rw [if_neg c, e (k + 1) (by omega) (by omega)])
/-- best so far, of those that come ahead of t -/
def SoF (a : Int → Int) (A : Int → Prop) (n x0 : Int) (P : (Int → Int) → Prop) (least : Int) (b : Int → Int) : Prop := Arr A n b ∧ b 0 = x0 ∧ least = tourM a b n ∧ ∀ q, Arr A n q → q 0 = x0 → P q → least ≤ tourM a q n ∧ (tourM a q n = least → ¬ Lx n q b)

abbrev tIn (a : Int → Int) (set x : Int) : Prop := 0 ≤ x ∧ x < a 0 ∧ set / p2 x % 2 = 1
def bN (set n : Int) : Int := sumT (fun k => set / p2 k % 2) n
def RoR (a : Int → Int) (set i r : Int) : Prop := if 1 ≤ set ∧ set ≤ p2 (a 0) - 1 ∧ bN set 16 ≤ 8 ∧ -1 ≤ i ∧ i < bN set 16 then ∃ x0 least b, SoF a (tIn a set) (bN set 16) x0 (fun _ => True) least b ∧ (∀ x, tIn a set x → x0 ≤ x) ∧ r = (if i = -1 then least else b i) else r = -1
/-- the towns found so far -/
def ColT (set n t : Int) (ro : Int → Int) : Prop := n = bN set t ∧ 0 ≤ n ∧ (∀ k, 0 ≤ k → k < n → 0 ≤ ro k ∧ ro k < t ∧ set / p2 (ro k) % 2 = 1) ∧ (∀ j k, 0 ≤ j → j < k → k < n → ro j < ro k) ∧ ∀ x, 0 ≤ x → x < t → set / p2 x % 2 = 1 → ∃ k, 0 ≤ k ∧ k < n ∧ ro k = x
theorem ColT_0 (set : Int) (ro : Int → Int) : ColT set 0 0 ro := ⟨rfl, by omega, fun k h0 h1 => by omega, fun j k h0 h1 h2 => by omega, fun x h0 h1 => by omega⟩
theorem ColT_no {set n t : Int} {ro : Int → Int} (h : ColT set n t ro) (ht : 0 ≤ t) (hb : set / p2 t % 2 = 0) : ColT set n (t + 1) ro := by
  obtain ⟨a1, a2, a3, a4, a5⟩ := h
  refine ⟨by simp only [bN]; rw [sumT_s _ ht, hb]; simp only [bN] at a1; omega, a2, fun k h0 h1 => by have := a3 k h0 h1; omega, a4, fun x h0 h1 h2 => ?_⟩
  by_cases c : x = t
  · subst c; omega
  · exact a5 x h0 (by omega) h2
theorem ColT_on {set n t : Int} {ro : Int → Int} (h : ColT set n t ro) (ht : 0 ≤ t) (hb : set / p2 t % 2 = 1) : ColT set (n + 1) (t + 1) (ua ro n t) := by
  obtain ⟨a1, a2, a3, a4, a5⟩ := h
  refine ⟨by simp only [bN]; rw [sumT_s _ ht, hb]; simp only [bN] at a1; omega, by omega, fun k h0 h1 => ?_, fun j k h0 h1 h2 => ?_, fun x h0 h1 h2 => ?_⟩
  · by_cases c : k = n
    · rw [c, ua_same]; exact ⟨ht, by omega, hb⟩
    · rw [ua_ne c]; have := a3 k h0 (by omega); omega
  · rw [ua_ne (show j ≠ n by omega)]
    by_cases c : k = n
    · rw [c, ua_same]; exact (a3 j h0 (by omega)).2.1
    · rw [ua_ne c]; exact a4 j k h0 h1 (by omega)
  · by_cases c : x = t
    · exact ⟨n, a2, by omega, by rw [ua_same, c]⟩
    · obtain ⟨k, k0, k1, k2⟩ := a5 x h0 (by omega) h2
      exact ⟨k, k0, by omega, by rw [ua_ne (by omega)]; exact k2⟩
theorem bN_mono {set : Int} : ∀ (m : Nat) (t : Int), 0 ≤ t → bN set t ≤ bN set (t + m)
  | 0, t, _ => by rw [show t + ((0 : Nat) : Int) = t by omega]; omega
  | m + 1, t, h => by
    have := bN_mono (set := set) m t h
    have e : bN set (t + m + 1) = bN set (t + m) + set / p2 (t + m) % 2 := sumT_s _ (by omega)
    rw [show t + ((m + 1 : Nat) : Int) = t + m + 1 by omega, e]
    omega
theorem bN_top {set t : Int} (h0 : 0 ≤ set) (h1 : set < p2 t) (ht : 0 ≤ t) : ∀ m : Nat, bN set (t + m) = bN set t
  | 0 => by rw [show t + ((0 : Nat) : Int) = t by omega]
  | m + 1 => by
    have e : bN set (t + m + 1) = bN set (t + m) + set / p2 (t + m) % 2 := sumT_s _ (by omega)
    rw [show t + ((m + 1 : Nat) : Int) = t + m + 1 by omega, e, bN_top h0 h1 ht m]
    have : set / p2 (t + m) = 0 := Int.ediv_eq_zero_of_lt h0 (Int.lt_of_lt_of_le h1 (p2_le (by omega)))
    rw [this]
    omega
theorem ColT_end {a : Int → Int} {set n : Int} {ro : Int → Int} (h : ColT set n (a 0) ro) : Arr (tIn a set) n ro := by
  obtain ⟨a1, a2, a3, a4, a5⟩ := h
  refine ⟨fun k h0 h1 => a3 k h0 h1, fun j k j0 j1 k0 k1 e => ?_, fun x hx => a5 x hx.1 hx.2.1 hx.2.2⟩
  rcases (show j < k ∨ k < j ∨ j = k by omega) with c | c | c
  · have := a4 j k j0 c k1; omega
  · have := a4 k j k0 c j1; omega
  · exact c
/-- where the search for a round stands -/
def RdI (a : Int → Int) (A : Int → Prop) (n x0 more least : Int) (t b : Int → Int) : Prop := Arr A n t ∧ t 0 = x0 ∧ ((more = 1 ∧ least = -1 ∧ ∀ q, Arr A n q → q 0 = x0 → ¬ Lx n q t) ∨ ((more = 0 ∨ more = 1) ∧ 0 ≤ least ∧ SoF a A n x0 (fun q => more = 1 → Lx n q t) least b ∧ (more = 1 → Lx n b t)))
theorem RdI_0 {a : Int → Int} {set n : Int} {ro b : Int → Int} (h : ColT set n (a 0) ro) : RdI a (tIn a set) n (ro 0) 1 (-1) ro b := by
  have hA := ColT_end h
  obtain ⟨a1, a2, a3, a4, a5⟩ := h
  refine ⟨hA, rfl, Or.inl ⟨rfl, rfl, fun q hq q0 ⟨d, d0, d1, d2, d3⟩ => ?_⟩⟩
  exact Lx_min (i := 0) hA hq (fun j l g0 g1 g2 => a4 j l (by omega) g1 g2) d d0 d1 (fun j j0 j1 => (d2 j j0 j1).symm) d0 d3
theorem SoF_new {a : Int → Int} {A : Int → Prop} {n x0 least : Int} {t b b' : Int → Int} (I : RdI a A n x0 1 least t b) (hl : least < 0 ∨ tourM a t n < least) (e : ∀ j, 0 ≤ j → j < n → b' j = t j) (hn : 0 < n) (hp : 0 ≤ tourM a t n) : SoF a A n x0 (fun q => ¬ Lx n t q) (tourM a t n) b' := by
  obtain ⟨h1, h2, h3⟩ := I
  have hb : Arr A n b' := ⟨fun k k0 k1 => by rw [e k k0 k1]; exact h1.1 k k0 k1, fun j k j0 j1 k0 k1 q => h1.2.1 j k j0 j1 k0 k1 (by rw [← e j j0 j1, ← e k k0 k1]; exact q), fun x hx => by obtain ⟨k, k0, k1, k2⟩ := h1.2.2 x hx; exact ⟨k, k0, k1, by rw [e k k0 k1]; exact k2⟩⟩
  refine ⟨hb, by rw [e 0 (by omega) hn]; exact h2, (tourM_c e).symm, fun q hq q0 hx => ?_⟩
  have hnx : Lx n q b' → Lx n q t := fun ⟨d, d0, d1, d2, d3⟩ => ⟨d, d0, d1, fun j j0 j1 => by rw [← e j j0 (by omega)]; exact d2 j j0 j1, by rw [← e d d0 d1]; exact d3⟩
  rcases h3 with g | g
  · rcases Lx_tri (n := n) (t := t) (q := q) with z | z | z
    · exact absurd z hx
    · exact absurd z (g.2.2 q hq q0)
    · exact ⟨by rw [tourM_c z]; omega, fun _ w => g.2.2 q hq q0 (hnx w)⟩
  · rcases Lx_tri (n := n) (t := t) (q := q) with z | z | z
    · exact absurd z hx
    · have s := g.2.2.1.2.2.2 q hq q0 (fun _ => z)
      have p := g.2.1
      exact ⟨by omega, fun y => by omega⟩
    · refine ⟨by rw [tourM_c z]; omega, fun _ w => ?_⟩
      obtain ⟨d, d0, d1, d2, d3⟩ := hnx w
      have := z d d0 d1
      omega
theorem Lx_trans {n : Int} {t q u : Int → Int} (h : Lx n t q) (g : Lx n q u) : Lx n t u := by
  obtain ⟨d, d0, d1, d2, d3⟩ := h
  obtain ⟨e, e0, e1, e2, e3⟩ := g
  rcases (show d < e ∨ e < d ∨ d = e by omega) with z | z | z
  · exact ⟨d, d0, d1, fun j j0 j1 => (d2 j j0 j1).trans (e2 j j0 (by omega)), by have := e2 d d0 z; omega⟩
  · exact ⟨e, e0, e1, fun j j0 j1 => (d2 j j0 (by omega)).trans (e2 j j0 j1), by have := d2 e e0 z; omega⟩
  · subst z; exact ⟨d, d0, d1, fun j j0 j1 => (d2 j j0 j1).trans (e2 j j0 j1), by omega⟩
theorem SoF_old {a : Int → Int} {A : Int → Prop} {n x0 least : Int} {t b : Int → Int} (I : RdI a A n x0 1 least t b) (hl : ¬ least < 0) (hm : ¬ tourM a t n < least) : SoF a A n x0 (fun q => ¬ Lx n t q) least b ∧ ¬ Lx n t b := by
  obtain ⟨h1, h2, h3⟩ := I
  rcases h3 with g | ⟨g1, g2, g3, g4⟩
  · omega
  · have nb : ¬ Lx n t b := fun w => Lx_asym w (g4 rfl)
    refine ⟨⟨g3.1, g3.2.1, g3.2.2.1, fun q hq q0 hx => ?_⟩, nb⟩
    rcases Lx_tri (n := n) (t := t) (q := q) with z | z | z
    · exact absurd z hx
    · exact g3.2.2.2 q hq q0 (fun _ => z)
    · exact ⟨by rw [← tourM_c z]; omega, fun y w => nb (Lx_c (fun j j0 j1 => (z j j0 j1).symm) w)⟩
theorem nLx_self {n : Int} {t b : Int → Int} (e : ∀ j, 0 ≤ j → j < n → b j = t j) : ¬ Lx n t b := fun ⟨d, d0, d1, d2, d3⟩ => by
  have := e d d0 d1
  omega
/-- one step of the search -/
theorem RdI_s {a : Int → Int} {A : Int → Prop} {n x0 least r : Int} {t b h : Int → Int} (hA : Arr A n t) (h0 : t 0 = x0) (hl : 0 ≤ least) (s : SoF a A n x0 (fun q => ¬ Lx n t q) least b) (nb : ¬ Lx n t b) (hx : NxP A n t r h) : RdI a A n x0 r least h b := by
  rcases hx with ⟨r0, hh, hn⟩ | ⟨r1, hB, hB0, ht, hn⟩
  · subst hh
    exact ⟨hA, h0, Or.inr ⟨Or.inl r0, hl, ⟨s.1, s.2.1, s.2.2.1, fun q hq q0 _ => s.2.2.2 q hq q0 (hn q hq (q0.trans h0.symm))⟩, fun z => by omega⟩⟩
  · refine ⟨hB, hB0.trans h0, Or.inr ⟨Or.inr r1, hl, ⟨s.1, s.2.1, s.2.2.1, fun q hq q0 g => s.2.2.2 q hq q0 (fun w => hn q hq (q0.trans h0.symm) w (g r1))⟩, fun _ => ?_⟩⟩
    rcases Lx_tri (n := n) (t := b) (q := h) with z | z | z
    · exact z
    · exact absurd (Lx_trans ht z) nb
    · exact absurd (show Lx n t b by
        obtain ⟨d, d0, d1, d2, d3⟩ := ht
        exact ⟨d, d0, d1, fun j j0 j1 => by rw [z j j0 (by omega)]; exact d2 j j0 j1, by rw [z d d0 d1]; exact d3⟩) nb
theorem RdI_end {a : Int → Int} {A : Int → Prop} {n x0 least : Int} {t b : Int → Int} (I : RdI a A n x0 0 least t b) : SoF a A n x0 (fun _ => True) least b := by
  obtain ⟨h1, h2, h3⟩ := I
  rcases h3 with g | ⟨g1, g2, g3, g4⟩
  · omega
  · exact ⟨g3.1, g3.2.1, g3.2.2.1, fun q hq q0 _ => g3.2.2.2 q hq q0 (fun z => by omega)⟩
theorem tourM_r {a : Int → Int} {n : Int} (hA : AB a) (hn : 0 ≤ n ∧ n ≤ 8) (t : Int → Int) : 0 ≤ tourM a t n ∧ tourM a t n < 2000000 := by
  have key : ∀ m : Nat, 0 ≤ sumT (fun k => mMiles a (t k) (t (if k + 1 = n then 0 else k + 1))) m ∧ sumT (fun k => mMiles a (t k) (t (if k + 1 = n then 0 else k + 1))) m ≤ 200000 * m := by
    intro m
    induction m with
    | zero => exact ⟨Int.le_refl _, by rw [show sumT (fun k => mMiles a (t k) (t (if k + 1 = n then 0 else k + 1))) ((0 : Nat) : Int) = 0 from rfl]; omega⟩
    | succ m ih =>
      have := mMiles_r hA (t m) (t (if (m : Int) + 1 = n then 0 else (m : Int) + 1))
      rw [show ((m + 1 : Nat) : Int) = (m : Int) + 1 by omega, sumT_s _ (by omega)]
      omega
  have := key n.toNat
  simp only [tourM]
  rw [show ((n.toNat : Nat) : Int) = n by omega] at this
  omega
theorem ColT_first {a : Int → Int} {set n : Int} {ro : Int → Int} (h : ColT set n (a 0) ro) (x : Int) (hx : tIn a set x) : ro 0 ≤ x := by
  obtain ⟨k, k0, k1, k2⟩ := h.2.2.2.2 x hx.1 hx.2.1 hx.2.2
  by_cases c : k = 0
  · rw [← k2, c]; omega
  · have := h.2.2.2.1 0 k (by omega) (by omega) k1; omega
theorem bits_0 {set : Int} : ∀ m : Nat, (∀ k : Int, 0 ≤ k → k < m → set / p2 k % 2 = 0) → set = set / p2 m * p2 m
  | 0, _ => by rw [show p2 ((0 : Nat) : Int) = 1 from rfl, Int.ediv_one, Int.mul_one]
  | m + 1, h => by
    have ih := bits_0 m (fun k k0 k1 => h k k0 (by omega))
    have b := h m (by omega) (by omega)
    have e : p2 ((m + 1 : Nat) : Int) = p2 m * 2 := by rw [show ((m + 1 : Nat) : Int) = (m : Int) + 1 by omega, p2_succ (by omega), Int.mul_comm]
    rw [e, ← Int.ediv_ediv_of_nonneg (Int.le_of_lt (p2_pos _)), Int.mul_comm (p2 m) 2, ← Int.mul_assoc]
    have : set / p2 m / 2 * 2 = set / p2 m := by omega
    rw [this]
    exact ih
theorem bN_pos {set : Int} (h0 : 1 ≤ set) (h1 : set < 65536) : 1 ≤ bN set 16 := by
  by_cases c : 1 ≤ bN set 16
  · exact c
  · have z : ∀ k : Int, 0 ≤ k → k < (16 : Nat) → set / p2 k % 2 = 0 := fun k k0 k1 => by
      have m1 := bN_mono (set := set) k.toNat 0 (by omega)
      have m2 := bN_mono (set := set) (15 - k).toNat (k + 1) (by omega)
      have e : bN set (k + 1) = bN set k + set / p2 k % 2 := sumT_s _ k0
      rw [show (0 : Int) + ((k.toNat : Nat) : Int) = k by omega, show bN set 0 = 0 from rfl] at m1
      rw [show k + 1 + (((15 - k).toNat : Nat) : Int) = 16 by omega] at m2
      omega
    have := bits_0 16 z
    rw [show p2 ((16 : Nat) : Int) = 65536 by decide] at this
    omega
