/-! CLAUSES and TEXTS, as such -/
abbrev Cls := Int × List Int × List (Int × Int)
def told (cs : List Cls) (s : Int) : Prop := ∃ c, c ∈ cs ∧ c.1 = s
def kTold (cs : List Cls) (v : Int) : Prop := ∃ c, c ∈ cs ∧ c.1 = 3 ∧ c.2.1[0]? = some v
def codeL : List Cls → List (Int × Int)
  | [] => []
  | c :: cs => c.2.2 ++ codeL cs
theorem codeL_app : ∀ (a b : List Cls), codeL (a ++ b) = codeL a ++ codeL b
  | [], b => rfl
  | c :: a, b => by simp only [List.cons_append, codeL]; rw [codeL_app a b, List.append_assoc]
/-- what stands behind a clause's first word -/
def BodR (T : Int → Int) (n : Int) (cs : List Cls) (s p f q : Int) (vs : List Int) (em : List (Int × Int)) : Prop := (s = 0 ∧ G T n s 1 0 0 p (f, q, em) ∧ vs = []) ∨ ((s = 1 ∨ s = 2) ∧ Eith T n s 0 p (f, q, em) ∧ vs = []) ∨ (3 ≤ s ∧ DoR T n (kTold cs) s p (f, q, vs) ∧ em = [])
theorem BodR_det {T : Int → Int} {n s p f q f' q' : Int} {cs : List Cls} {vs vs' : List Int} {em em' : List (Int × Int)} (h : BodR T n cs s p f q vs em) (g : BodR T n cs s p f' q' vs' em') : f = f' ∧ q = q' ∧ vs = vs' ∧ em = em' := by
  rcases h with ⟨h1, h2, h3⟩ | ⟨h1, h2, h3⟩ | ⟨h1, h2, h3⟩
  · rcases g with ⟨g1, g2, g3⟩ | ⟨g1, g2, g3⟩ | ⟨g1, g2, g3⟩
    · have e := G_det h2 g2
      rw [h3, g3]
      exact ⟨congrArg (fun z => z.1) e, congrArg (fun z => z.2.1) e, rfl, congrArg (fun z => z.2.2) e⟩
    · omega
    · omega
  · rcases g with ⟨g1, g2, g3⟩ | ⟨g1, g2, g3⟩ | ⟨g1, g2, g3⟩
    · omega
    · obtain ⟨m, h2⟩ := h2
      obtain ⟨l, g2⟩ := g2
      have e := EiF_det m l h2 g2
      rw [h3, g3]
      exact ⟨congrArg (fun z => z.1) e, congrArg (fun z => z.2.1) e, rfl, congrArg (fun z => z.2.2) e⟩
    · omega
  · rcases g with ⟨g1, g2, g3⟩ | ⟨g1, g2, g3⟩ | ⟨g1, g2, g3⟩
    · omega
    · omega
    · have e := DoR_det h2 g2
      rw [h3, g3]
      exact ⟨congrArg (fun z => z.1) e, congrArg (fun z => z.2.1) e, congrArg (fun z => z.2.2) e, rfl⟩
def tSr (T : Int → Int) (n p : Int) : Int := srtOf (tTok T n p) (tWd T n p)
/-- a clause behind p: FAULT f at q, or (f = 0) the clause c and q behind it -/
def ClR (T : Int → Int) (n : Int) (cs : List Cls) (p f q : Int) (c : Cls) : Prop :=
  (tSr T n p < 0 ∧ f = 1 ∧ q = p) ∨ ((0 ≤ tSr T n p ∧ tSr T n p < 3 ∧ told cs (tSr T n p)) ∧ f = 4 ∧ q = p) ∨ ((0 ≤ tSr T n p ∧ ¬ (tSr T n p < 3 ∧ told cs (tSr T n p)) ∧ cs.length = 24) ∧ f = 6 ∧ q = p) ∨
  ((0 ≤ tSr T n p ∧ ¬ (tSr T n p < 3 ∧ told cs (tSr T n p)) ∧ cs.length ≠ 24) ∧ ∃ f1 q1 vs em, BodR T n cs (tSr T n p) (tNx T n p) f1 q1 vs em ∧ ((f1 ≠ 0 ∧ f = f1 ∧ q = q1) ∨ (f1 = 0 ∧ tTok T n q1 ≠ 59 ∧ f = 1 ∧ q = q1) ∨ (f1 = 0 ∧ tTok T n q1 = 59 ∧ f = 0 ∧ q = tNx T n q1 ∧ c = (tSr T n p, vs, em))))
theorem ClR_det {T : Int → Int} {n p f q f' q' : Int} {cs : List Cls} {c c' : Cls} (h : ClR T n cs p f q c) (g : ClR T n cs p f' q' c') : f = f' ∧ q = q' ∧ (f = 0 → c = c') := by
  rcases h with h | h | h | h
  · rcases g with g | g | g | g
    · exact ⟨by omega, by omega, fun z => by omega⟩
    · omega
    · omega
    · omega
  · rcases g with g | g | g | g
    · omega
    · exact ⟨by omega, by omega, fun z => by omega⟩
    · exact absurd h.1.2 g.1.2.1
    · exact absurd h.1.2 g.1.2.1
  · rcases g with g | g | g | g
    · omega
    · exact absurd g.1.2 h.1.2.1
    · exact ⟨by omega, by omega, fun z => by omega⟩
    · exact absurd h.1.2.2 g.1.2.2
  · rcases g with g | g | g | g
    · omega
    · exact absurd g.1.2 h.1.2.1
    · exact absurd g.1.2.2 h.1.2.2
    · obtain ⟨-, f1, q1, vs, em, h1, h2⟩ := h
      obtain ⟨-, f2, q2, vs', em', g1, g2⟩ := g
      obtain ⟨e1, e2, e3, e4⟩ := BodR_det h1 g1
      subst e1; subst e2; subst e3; subst e4
      rcases h2 with h2 | h2 | h2 <;> rcases g2 with g2 | g2 | g2
      · exact ⟨by omega, by omega, fun z => by omega⟩
      · omega
      · omega
      · omega
      · exact ⟨by omega, by omega, fun z => by omega⟩
      · exact absurd g2.2.1 h2.2.1
      · omega
      · exact absurd h2.2.1 g2.2.1
      · exact ⟨by omega, by omega, fun _ => by rw [h2.2.2.2.2, g2.2.2.2.2]⟩
/-- all clauses from p on, behind those that there are -/
def RdR (T : Int → Int) (n : Int) : Nat → List Cls → Int → Int → Int → List Cls → Prop
  | 0, _, _, _, _, _ => False
  | m + 1, cs, p, f, q, cs' => (tTok T n p = 0 ∧ f = 0 ∧ q = p ∧ cs' = cs) ∨ (tTok T n p ≠ 0 ∧ ∃ f1 q1 c, ClR T n cs p f1 q1 c ∧ ((f1 ≠ 0 ∧ f = f1 ∧ q = q1 ∧ cs' = cs) ∨ (f1 = 0 ∧ RdR T n m (cs ++ [c]) q1 f q cs')))
theorem RdR_det {T : Int → Int} {n : Int} : ∀ (m l : Nat) {cs : List Cls} {p f q f' q' : Int} {d d' : List Cls}, RdR T n m cs p f q d → RdR T n l cs p f' q' d' → f = f' ∧ q = q' ∧ d = d'
  | 0, _, _, _, _, _, _, _, _, _, h, _ => h.elim
  | _ + 1, 0, _, _, _, _, _, _, _, _, _, g => g.elim
  | m + 1, l + 1, cs, p, f, q, f', q', d, d', h, g => by
    rcases h with h | ⟨h0, f1, q1, c, h1, h2⟩
    · rcases g with g | g
      · exact ⟨by omega, by omega, by rw [h.2.2.2, g.2.2.2]⟩
      · exact absurd h.1 g.1
    · rcases g with g | ⟨g0, f2, q2, c', g1, g2⟩
      · exact absurd g.1 h0
      · obtain ⟨e1, e2, e3⟩ := ClR_det h1 g1
        subst e1; subst e2
        rcases h2 with h2 | h2 <;> rcases g2 with g2 | g2
        · exact ⟨by omega, by omega, by rw [h2.2.2.2, g2.2.2.2]⟩
        · omega
        · omega
        · have e := e3 h2.1
          subst e
          exact RdR_det m l h2.2 g2.2
/-- a text read: FAULT f, where, and its clauses -/
def TxR (T : Int → Int) (n f q : Int) (cs : List Cls) : Prop := ∃ m, RdR T n m [] 0 f q cs
theorem TxR_det {T : Int → Int} {n f q f' q' : Int} {d d' : List Cls} (h : TxR T n f q d) (g : TxR T n f' q' d') : f = f' ∧ q = q' ∧ d = d' := by
  obtain ⟨m, h⟩ := h
  obtain ⟨l, g⟩ := g
  exact RdR_det m l h g
/-! how the reference's row holds them -/
def MTx (tx : Int → Int) (t0 : Int) (cs : List Cls) : Prop := tx t0 = cs.length ∧ (∀ (k : Nat) (c : Cls), cs[k]? = some c → c.2.1.length ≤ 3 ∧ tx (t0 + 1 + 4 * k) = c.1 ∧ (c.1 < 3 → tx (t0 + 1 + 4 * k + 1) = (codeL (cs.take k)).length ∧ tx (t0 + 1 + 4 * k + 2) = (codeL (cs.take k)).length + c.2.2.length) ∧ ∀ (j : Nat) (v : Int), c.2.1[j]? = some v → tx (t0 + 1 + 4 * k + 1 + j) = v) ∧ ∀ (i : Nat) (x : Int × Int), (codeL cs)[i]? = some x → tx (t0 + 100 + 2 * i) = bc x.1 ∧ tx (t0 + 100 + 2 * i + 1) = bc x.2
theorem MTx_0 {tx : Int → Int} {t0 : Int} (h : tx t0 = 0) : MTx tx t0 [] := ⟨h, fun k c e => by simp at e, fun i x e => by simp [codeL] at e⟩
theorem MTx_c {tx tx' : Int → Int} {t0 : Int} {cs : List Cls} (hl : cs.length ≤ 24) (h : MTx tx t0 cs) (e : ∀ q, (t0 ≤ q ∧ q < t0 + 1 + 4 * cs.length) ∨ (t0 + 100 ≤ q ∧ q < t0 + 100 + 2 * (codeL cs).length) → tx' q = tx q) : MTx tx' t0 cs := by
  refine ⟨by rw [e t0 (by omega)]; exact h.1, fun k c hc => ?_, fun i x hx => ?_⟩
  · have hk := (List.getElem?_eq_some_iff.mp hc).1
    obtain ⟨h1, h2, h3, h4⟩ := h.2.1 k c hc
    refine ⟨h1, by rw [e _ (by omega)]; exact h2, fun z => by rw [e _ (by omega), e _ (by omega)]; exact h3 z, fun j v hj => ?_⟩
    have hj' := (List.getElem?_eq_some_iff.mp hj).1
    rw [e _ (by omega)]
    exact h4 j v hj
  · have hi := (List.getElem?_eq_some_iff.mp hx).1
    have := h.2.2 i x hx
    rw [e _ (by omega), e _ (by omega)]
    exact this
theorem MTx_add {tx tx' : Int → Int} {t0 : Int} {cs : List Cls} {c : Cls} (h : MTx tx t0 cs) (hl : cs.length < 24) (h0 : tx' t0 = tx t0 + 1) (hlo : ∀ q, t0 < q → q < t0 + 1 + 4 * cs.length → tx' q = tx q) (hcd : ∀ q, t0 + 100 ≤ q → q < t0 + 100 + 2 * (codeL cs).length → tx' q = tx q) (hv : c.2.1.length ≤ 3) (hc1 : tx' (t0 + 1 + 4 * cs.length) = c.1) (hc2 : c.1 < 3 → tx' (t0 + 1 + 4 * cs.length + 1) = (codeL cs).length ∧ tx' (t0 + 1 + 4 * cs.length + 2) = (codeL cs).length + c.2.2.length) (hc3 : ∀ (j : Nat) (v : Int), c.2.1[j]? = some v → tx' (t0 + 1 + 4 * cs.length + 1 + j) = v) (hem : ∀ (i : Nat) (x : Int × Int), c.2.2[i]? = some x → tx' (t0 + 100 + 2 * ((codeL cs).length + i : Nat)) = bc x.1 ∧ tx' (t0 + 100 + 2 * ((codeL cs).length + i : Nat) + 1) = bc x.2) : MTx tx' t0 (cs ++ [c]) := by
  refine ⟨by rw [h0, h.1, List.length_append]; simp, fun k d hd => ?_, fun i x hx => ?_⟩
  · by_cases hk : k < cs.length
    · rw [List.getElem?_append_left hk] at hd
      obtain ⟨h1, h2, h3, h4⟩ := h.2.1 k d hd
      rw [List.take_append_of_le_length (by omega)]
      refine ⟨h1, by rw [hlo _ (by omega) (by omega)]; exact h2, fun z => by rw [hlo _ (by omega) (by omega), hlo _ (by omega) (by omega)]; exact h3 z, fun j v hj => ?_⟩
      have hj' := (List.getElem?_eq_some_iff.mp hj).1
      rw [hlo _ (by omega) (by omega)]
      exact h4 j v hj
    · have hk' := (List.getElem?_eq_some_iff.mp hd).1
      rw [List.length_append] at hk'
      simp only [List.length_cons, List.length_nil] at hk'
      have ek : k = cs.length := by omega
      subst ek
      rw [List.getElem?_append_right (by omega)] at hd
      simp at hd
      subst hd
      rw [List.take_append_of_le_length (by omega), List.take_of_length_le (by omega)]
      exact ⟨hv, hc1, hc2, hc3⟩
  · rw [codeL_app] at hx
    have e1 : codeL [c] = c.2.2 := by simp [codeL]
    rw [e1] at hx
    by_cases hi : i < (codeL cs).length
    · rw [List.getElem?_append_left hi] at hx
      rw [hcd _ (by omega) (by omega), hcd _ (by omega) (by omega)]
      exact h.2.2 i x hx
    · rw [List.getElem?_append_right (by omega)] at hx
      have := hem (i - (codeL cs).length) x hx
      rw [show (codeL cs).length + (i - (codeL cs).length) = i by omega] at this
      exact this
theorem emL_lo (t0 : Int) : ∀ (c : List (Int × Int)) (tx : Int → Int) (wr q : Int), q < t0 + 100 + 2 * wr → emL tx t0 wr c q = tx q
  | [], _, _, _, _ => rfl
  | x :: c, tx, wr, q, h => by
    simp only [emL]
    rw [emL_lo t0 c _ _ q (by omega), ua_ne (by omega), ua_ne (by omega)]
theorem emL_hi (t0 : Int) : ∀ (c : List (Int × Int)) (tx : Int → Int) (wr q : Int), t0 + 100 + 2 * (wr + c.length) ≤ q → emL tx t0 wr c q = tx q
  | [], _, _, _, _ => rfl
  | x :: c, tx, wr, q, h => by
    simp only [List.length_cons] at h
    simp only [emL]
    rw [emL_hi t0 c _ _ q (by omega), ua_ne (by omega), ua_ne (by omega)]
theorem emL_at (t0 : Int) : ∀ (c : List (Int × Int)) (tx : Int → Int) (wr : Int) (i : Nat) (x : Int × Int), c[i]? = some x → emL tx t0 wr c (t0 + 100 + 2 * (wr + i)) = bc x.1 ∧ emL tx t0 wr c (t0 + 100 + 2 * (wr + i) + 1) = bc x.2
  | [], _, _, _, _, h => by simp at h
  | y :: c, tx, wr, 0, x, h => by
    simp at h
    subst h
    simp only [emL]
    rw [emL_lo t0 c _ _ _ (by omega), emL_lo t0 c _ _ _ (by omega), show t0 + 100 + 2 * (wr + ((0 : Nat) : Int)) = t0 + 100 + 2 * wr by omega]
    exact ⟨by rw [ua_ne (by omega), ua_same], by rw [ua_same]⟩
  | y :: c, tx, wr, i + 1, x, h => by
    simp only [List.getElem?_cons_succ] at h
    have := emL_at t0 c (ua (ua tx (t0 + 100 + 2 * wr) (bc y.1)) (t0 + 100 + 2 * wr + 1) (bc y.2)) (wr + 1) i x h
    rw [show wr + 1 + (i : Int) = wr + ((i + 1 : Nat) : Int) by omega] at this
    simp only [emL]
    exact this
theorem putL_lo : ∀ (c : List Int) (tx : Int → Int) (x q : Int), q < x → putL tx x c q = tx q
  | [], _, _, _, _ => rfl
  | v :: c, tx, x, q, h => by
    simp only [putL]
    rw [putL_lo c _ _ q (by omega), ua_ne (by omega)]
theorem putL_at : ∀ (c : List Int) (tx : Int → Int) (x : Int) (i : Nat) (v : Int), c[i]? = some v → putL tx x c (x + i) = v
  | [], _, _, _, _, h => by simp at h
  | y :: c, tx, x, 0, v, h => by
    simp at h
    subst h
    simp only [putL]
    rw [putL_lo c _ _ _ (by omega), show x + ((0 : Nat) : Int) = x by omega, ua_same]
  | y :: c, tx, x, i + 1, v, h => by
    simp only [List.getElem?_cons_succ] at h
    have := putL_at c (ua tx x y) (x + 1) i v h
    rw [show x + 1 + (i : Int) = x + ((i + 1 : Nat) : Int) by omega] at this
    simp only [putL]
    exact this
theorem numR_len (T : Int → Int) (n : Int) : ∀ (L : List (Int × Int × Int)) (p : Int), (numR T n L p).2.2.length ≤ (L.filter (fun x => decide (x.1 ≠ 0))).length ∧ ∀ v, v ∈ (numR T n L p).2.2 → ∃ x, x ∈ L ∧ x.2.1 ≤ v ∧ v ≤ x.2.2
  | [], p => ⟨by simp [numR], fun v hv => by simp [numR] at hv⟩
  | x :: L, p => by
    have ih := numR_len T n L (tNx T n p)
    simp only [numR]
    by_cases c : x.1 = 0
    · rw [if_pos c, List.filter_cons_of_neg (by simp [c])]
      split
      · exact ⟨ih.1, fun v hv => by obtain ⟨y, y1, y2⟩ := ih.2 v hv; exact ⟨y, List.mem_cons_of_mem _ y1, y2⟩⟩
      · exact ⟨by simp, fun v hv => by simp at hv⟩
    · rw [if_neg c, List.filter_cons_of_pos (by simp [c])]
      split
      · exact ⟨by simp, fun v hv => by simp at hv⟩
      split
      · rename_i h2
        refine ⟨by simp only [List.length_cons]; omega, fun v hv => ?_⟩
        rcases List.mem_cons.mp hv with e | e
        · exact ⟨x, by simp, by rw [e]; exact h2.1, by rw [e]; exact h2.2⟩
        · obtain ⟨y, y1, y2⟩ := ih.2 v e
          exact ⟨y, List.mem_cons_of_mem _ y1, y2⟩
      · exact ⟨by simp, fun v hv => by simp at hv⟩
theorem itm_len (s : Int) : ((itm s).filter (fun x => decide (x.1 ≠ 0))).length ≤ 3 := by
  simp only [itm]
  (repeat' split) <;> decide
theorem DoR_len {T : Int → Int} {n s p f q : Int} {K : Int → Prop} {vs : List Int} (h : DoR T n K s p (f, q, vs)) : vs.length ≤ 3 := by
  rcases h with ⟨-, h | h⟩ | h
  · have e : vs = [] := congrArg (fun z => z.2.2) h.2
    rw [e]; simp
  · have e : vs = (numR T n (itm 3) p).2.2 := congrArg (fun z => z.2.2) h.2
    rw [e]
    exact Nat.le_trans (numR_len T n (itm 3) p).1 (itm_len 3)
  · have e : vs = (numR T n (itm s) p).2.2 := congrArg (fun z => z.2.2) h.2
    rw [e]
    exact Nat.le_trans (numR_len T n (itm s) p).1 (itm_len s)
