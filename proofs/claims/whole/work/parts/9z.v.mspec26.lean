/-! the reference reads a text: where it stands -/
def onceP (z : Int) (cs : List Cls) : Prop := (0 ≤ z ∧ z < 8) ∧ ∀ s, 0 ≤ s → s < 3 → (z / p2 s % 2 = 1 ↔ told cs s)
def TxI (T : Int → Int) (n t0 : Int) (cs : List Cls) (p : Int) (f tx : Int → Int) : Prop := PS T n p f ∧ f 12 = t0 ∧ f 14 = (codeL cs).length ∧ f 18 = 0 ∧ ((codeL cs).length : Int) ≤ p ∧ onceP (f 21) cs ∧ MTx tx t0 cs ∧ cs.length ≤ 24 ∧ ∀ c, c ∈ cs → okC c
def TxF (t0 : Int) (f0 tx0 f tx pl : Int → Int) : Prop := (∀ k, k < 7 ∨ 22 ≤ k → f k = f0 k) ∧ (∀ k, k < t0 ∨ t0 + 700 ≤ k → tx k = tx0 k) ∧ AB tx ∧ AB pl
def BoQ (T : Int → Int) (n t0 : Int) (cs : List Cls) (sr p wr x : Int) (tx1 f1 : Int → Int) (q : Int) (vs : List Int) (em : List (Int × Int)) (r : Int) (f tx pl : Int → Int) : Prop :=
  BodR T n cs sr p r q vs em ∧ PS T n q f ∧ p ≤ q ∧ (em.length : Int) ≤ q - p ∧ (∀ k, k < 7 ∨ k = 12 ∨ k = 20 ∨ k = 21 ∨ 22 ≤ k → f k = f1 k) ∧ (r = 0 → (f 14 = wr + em.length ∧ f 18 = 0) ∧ vs.length ≤ 3 ∧ (∀ (i : Nat) (y : Int × Int), em[i]? = some y → tx (t0 + 100 + 2 * (wr + i)) = bc y.1 ∧ tx (t0 + 100 + 2 * (wr + i) + 1) = bc y.2) ∧ ∀ (j : Nat) (v : Int), vs[j]? = some v → tx (x + 1 + j) = v) ∧ (∀ k, k ≤ x ∨ (x + 3 < k ∧ k < t0 + 100 + 2 * wr) ∨ t0 + 700 ≤ k → tx k = tx1 k) ∧ AB tx ∧ AB pl ∧ 0 ≤ r ∧ r < 10
def BoP (T : Int → Int) (n t0 : Int) (cs : List Cls) (sr p wr x : Int) (tx1 f1 : Int → Int) (r : Int) (f tx pl : Int → Int) : Prop := ∃ q vs em, BoQ T n t0 cs sr p wr x tx1 f1 q vs em r f tx pl
section Bo
variable {T : Int → Int} {n t0 : Int} {cs : List Cls} {sr p wr x : Int} {tx1 f1 : Int → Int} {r : Int} {f tx pl : Int → Int}
theorem BoP_rs {R : Rs → Prop} (hR : ∀ r q em, R (r, q, em) → BodR T n cs sr p r q [] em) (h : RsP T n p 0 t0 wr tx1 f1 R r f tx pl) (hw : 0 ≤ wr ∧ wr ≤ p) (hn : n ≤ 300) (ha : AB tx1) (hx : x + 3 < t0 + 100) : BoP T n t0 cs sr p wr x tx1 f1 r f tx pl := by
  rcases h with ⟨h1, q, em, h2, h3, h4, h5, h6, h7, h8, h9, h10⟩ | ⟨h1, h1b, h1c, q, em, h2, h3, h6, h7, h8, h9, h10⟩
  · subst h1
    have hq := h3.1
    refine ⟨q, [], em, hR _ _ _ h2, h3, h7, h8, h9, fun _ => ⟨⟨h4, h5⟩, by simp, fun i y hy => by rw [h6]; exact emL_at t0 em tx1 wr i y hy, fun j v hv => by simp at hv⟩, fun k hk => ?_, by rw [h6]; exact AB_emL _ _ _ _ ha, h10, by omega, by omega⟩
    rw [h6]
    by_cases c : k < t0 + 100 + 2 * wr
    · exact emL_lo t0 em tx1 wr k c
    · exact emL_hi t0 em tx1 wr k (by omega)
  · have hq := h3.1
    refine ⟨q, [], [], hR _ _ _ h2, h3, h7, by simp; omega, h9, fun z => absurd z h1, fun k hk => ?_, by rw [h6]; exact AB_emL _ _ _ _ ha, h10, h1c, h1b⟩
    rw [h6]
    by_cases c : k < t0 + 100 + 2 * wr
    · exact emL_lo t0 em tx1 wr k c
    · exact emL_hi t0 em tx1 wr k (by omega)
theorem AB_b {tx tx1 : Int → Int} (ha : AB tx1) (h : ∀ k, tx k = tx1 k ∨ (0 ≤ tx k ∧ tx k ≤ 99)) : AB tx := fun k => by
  have := ha k
  rcases h k with z | z
  · rw [z]; exact this
  · omega
theorem BoP_do {K : Int → Prop} {R : Int × Int × List Int} (hs : 3 ≤ sr) (hT : ∀ k, 0 ≤ T k ∧ T k < 256) (hK : ∀ v, 0 ≤ v → v ≤ 19 → (K v ↔ kTold cs v)) (hR : DoR T n K sr p R) (h : NuP T n x tx1 f1 R r f tx) (h14 : f1 14 = wr) (h18 : f1 18 = 0) (hp : p ≤ n) (hw : 0 ≤ wr ∧ wr ≤ p) (ha : AB tx1) (hb : AB pl) (hx : x + 3 < t0 + 100 ∧ 0 ≤ x) : BoP T n t0 cs sr p wr x tx1 f1 r f tx pl := by
  obtain ⟨h1, h2, h3, h4, h5, h6, h7, h8⟩ := h
  have hpq : p ≤ R.2.1 := by
    rcases hR with ⟨-, g | g⟩ | g
    · rw [g.2]; exact Int.le_refl _
    · rw [g.2]; exact (numR_ok hT _ _ hp).2.2
    · rw [g.2]; exact (numR_ok hT _ _ hp).2.2
  have hD := DoR_c hK hR
  obtain ⟨R1, R2, R3⟩ := R
  simp only at h1 h2 h4 hpq
  subst h1
  refine ⟨R2, R3, [], Or.inr (Or.inr ⟨hs, hD, rfl⟩), h2, hpq, by simp; omega, fun k hk => h3 k (by omega), fun z => ⟨⟨?_, ?_⟩, DoR_len hD, fun i y hy => by simp at hy, fun j v hv => ?_⟩, fun k hk => h5 k (by omega), AB_b ha h8, hb, h6, h7⟩
  · rw [h3 14 (by omega), h14]; simp
  · rw [h3 18 (by omega), h18]
  · rw [h4 z]; exact putL_at R3 tx1 (x + 1) j v hv
end Bo
theorem kTold_m {tx : Int → Int} {t0 : Int} {cs : List Cls} (h : MTx tx t0 cs) (hok : ∀ c, c ∈ cs → okC c) (v : Int) : mKd tx t0 v ↔ kTold cs v := by
  constructor
  · rintro ⟨k, k0, k1, k2, k3⟩
    rw [h.1] at k1
    have hk : k.toNat < cs.length := by omega
    have e := h.2.1 k.toNat cs[k.toNat] (by simp [hk])
    rw [show ((k.toNat : Nat) : Int) = k by omega] at e
    have e1 : cs[k.toNat].1 = 3 := by rw [← e.2.1]; exact k2
    obtain ⟨a, b, e3, -⟩ := okN_3 (by have := ((hok _ (List.getElem_mem hk)).2.2 (by omega)).2; rw [e1] at this; exact this)
    refine ⟨_, List.getElem_mem hk, e1, ?_⟩
    have e4 := e.2.2.2 0 a (by rw [e3]; rfl)
    rw [show t0 + 1 + 4 * k + 1 + ((0 : Nat) : Int) = t0 + 2 + 4 * k by omega, k3] at e4
    rw [e3, e4]
    rfl
  · rintro ⟨c, hc, c1, c2⟩
    obtain ⟨k, hk, e⟩ := List.getElem_of_mem hc
    have e0 := h.2.1 k c (by rw [← e]; simp [hk])
    refine ⟨k, by omega, by rw [h.1]; omega, by rw [e0.2.1]; exact c1, ?_⟩
    have e4 := e0.2.2.2 0 v c2
    rw [show t0 + 1 + 4 * (k : Int) + 1 + ((0 : Nat) : Int) = t0 + 2 + 4 * k by omega] at e4
    exact e4
theorem mKd_x {tx : Int → Int} {t0 v sr L : Int} (hL : 0 ≤ L) (h : tx t0 = L) : mKd (ua tx (t0 + 1 + 4 * L) sr) t0 v ↔ mKd tx t0 v := by
  simp only [mKd]
  rw [ua_ne (show t0 ≠ t0 + 1 + 4 * L by omega), h]
  constructor
  · rintro ⟨k, k0, k1, k2, k3⟩
    rw [ua_ne (by omega)] at k2 k3
    exact ⟨k, k0, k1, k2, k3⟩
  · rintro ⟨k, k0, k1, k2, k3⟩
    exact ⟨k, k0, k1, by rw [ua_ne (by omega)]; exact k2, by rw [ua_ne (by omega)]; exact k3⟩
theorem PS_sr {T f : Int → Int} {n p : Int} (h : PS T n p f) : srtOf (f 9) (f 11) = tSr T n p := by
  have h9 := h.2.2.2.2.1
  have h11 := h.2.2.2.2.2.2.1
  simp only [tSr]
  by_cases c : tTok T n p = 2
  · rw [h9, h11 c]
  · rw [h9]
    have a := (srtOf_r (tTok T n p) (f 11)).2.2
    have b := (srtOf_r (tTok T n p) (tWd T n p)).2.2
    have a2 := (srtOf_r (tTok T n p) (f 11)).1
    have b2 := (srtOf_r (tTok T n p) (tWd T n p)).1
    omega
theorem told_app {cs : List Cls} {c : Cls} {s : Int} : told (cs ++ [c]) s ↔ told cs s ∨ c.1 = s := by
  constructor
  · rintro ⟨d, hd, e⟩
    rcases List.mem_append.mp hd with z | z
    · exact Or.inl ⟨d, z, e⟩
    · simp at z
      rw [z] at e
      exact Or.inr e
  · rintro (⟨d, hd, e⟩ | e)
    · exact ⟨d, List.mem_append_left _ hd, e⟩
    · exact ⟨c, by simp, e⟩
theorem once_bit {z s k : Int} (hz : 0 ≤ z ∧ z < 8) (hs : 0 ≤ s ∧ s < 3) (hk : 0 ≤ k ∧ k < 3) : (0 ≤ bor z (p2 s) ∧ bor z (p2 s) < 8) ∧ (bor z (p2 s) / p2 k % 2 = 1 ↔ z / p2 k % 2 = 1 ∨ k = s) := by
  have h1 : z = 0 ∨ z = 1 ∨ z = 2 ∨ z = 3 ∨ z = 4 ∨ z = 5 ∨ z = 6 ∨ z = 7 := by omega
  have h2 : s = 0 ∨ s = 1 ∨ s = 2 := by omega
  have h3 : k = 0 ∨ k = 1 ∨ k = 2 := by omega
  rcases h1 with e | e | e | e | e | e | e | e <;> rcases h2 with d | d | d <;> rcases h3 with c | c | c <;> subst e <;> subst d <;> subst c <;> decide
theorem onceP_s {z : Int} {cs : List Cls} {c : Cls} (h : onceP z cs) (hs : 0 ≤ c.1 ∧ c.1 < 3) : onceP (bor z (p2 c.1)) (cs ++ [c]) := by
  refine ⟨(once_bit h.1 hs (by omega : (0 : Int) ≤ 0 ∧ (0 : Int) < 3)).1, fun s s0 s1 => ?_⟩
  rw [(once_bit h.1 hs ⟨s0, s1⟩).2, told_app, h.2 s s0 s1]
  exact ⟨fun e => e.elim Or.inl (fun e => Or.inr e.symm), fun e => e.elim Or.inl (fun e => Or.inr e.symm)⟩
theorem onceP_n {z : Int} {cs : List Cls} {c : Cls} (h : onceP z cs) (hs : 3 ≤ c.1) : onceP z (cs ++ [c]) := by
  refine ⟨h.1, fun s s0 s1 => ?_⟩
  rw [told_app, h.2 s s0 s1]
  exact ⟨Or.inl, fun e => e.elim id (fun e => by omega)⟩
/-- a clause is whole -/
theorem TxI_add {T : Int → Int} (hT : ∀ k, 0 ≤ T k ∧ T k < 256) {n t0 p sr q : Int} {cs : List Cls} {f0 tx0 F fq txq plq txn : Int → Int} {vs : List Int} {em : List (Int × Int)} (I : TxI T n t0 cs p f0 tx0) (hs : sr = tSr T n p) (h0 : 0 ≤ sr) (hnt : ¬ (sr < 3 ∧ told cs sr)) (hl : cs.length ≠ 24) (hFk : ∀ k, k < 7 ∨ k = 12 ∨ k = 14 ∨ k = 18 ∨ 22 ≤ k → F k = f0 k) (hF21 : (sr < 3 → F 21 = bor (f0 21) (p2 sr)) ∧ (3 ≤ sr → F 21 = f0 21)) (hB : BoQ T n t0 cs sr (tNx T n p) (f0 14) (t0 + 1 + 4 * cs.length) (ua tx0 (t0 + 1 + 4 * cs.length) sr) F q vs em 0 fq txq plq)
    (n0 : txn t0 = txq t0 + 1) (n1 : sr < 3 → txn (t0 + 1 + 4 * cs.length + 1) = f0 14 ∧ txn (t0 + 1 + 4 * cs.length + 2) = fq 14) (n2 : ∀ k, k ≠ t0 → (3 ≤ sr ∨ (k ≠ t0 + 1 + 4 * cs.length + 1 ∧ k ≠ t0 + 1 + 4 * cs.length + 2)) → txn k = txq k) (h59 : tTok T n q = 59) : TxI T n t0 (cs ++ [(sr, vs, em)]) (tNx T n q) (mTok fq T) txn ∧ ClR T n cs p 0 (tNx T n q) (sr, vs, em) ∧ p < tNx T n q := by
  obtain ⟨i1, i2, i3, i4, i5, i6, i7, i8, i9⟩ := I
  obtain ⟨b1, b2, b3, b4, b5, b6, b7, b8, b9, b10, b11⟩ := hB
  obtain ⟨⟨c1, c2⟩, c3, c4, c5⟩ := b6 rfl
  have sr8 := tSr_r T n p
  have tq := tok_r hT b2.1.2
  have tp := tok_r hT i1.1.2
  have hcl : codeL (cs ++ [(sr, vs, em)]) = codeL cs ++ em := by rw [codeL_app]; simp [codeL]
  have hbod := BodR_ok hT (s := sr) (by omega) tp.2.2.2.1 b1
  refine ⟨⟨PS_nx hT b2, ?_, ?_, ?_, ?_, ?_, ?_, by rw [List.length_append]; simp; omega, fun c hc => ?_⟩, ?_, by omega⟩
  · rw [mTok_k (by decide), b5 12 (by omega), hFk 12 (by omega), i2]
  · rw [mTok_k (by decide), c1, i3, hcl, List.length_append]; omega
  · rw [mTok_k (by decide), c2]
  · rw [hcl, List.length_append]; omega
  · rw [mTok_k (by decide), b5 21 (by omega)]
    by_cases c : sr < 3
    · rw [hF21.1 c]; exact onceP_s (c := (sr, vs, em)) i6 ⟨h0, c⟩
    · rw [hF21.2 (by omega)]; exact onceP_n (c := (sr, vs, em)) i6 (show 3 ≤ sr by omega)
  · have l24 : cs.length < 24 := by omega
    have lo : ∀ k, k < t0 + 1 + 4 * cs.length → k ≠ t0 → txn k = tx0 k := fun k hk hk0 => by
      rw [n2 k hk0 (Or.inr ⟨by omega, by omega⟩), b7 k (by omega), ua_ne (by omega)]
    refine MTx_add i7 l24 ?_ (fun k k0 k1 => lo k k1 (by omega)) (fun k k0 k1 => ?_) c3 ?_ (fun z => ?_) (fun j v hv => ?_) (fun i y hy => ?_)
    · rw [n0, b7 t0 (by omega), ua_ne (by omega)]
    · rw [n2 k (by omega) (Or.inr ⟨by omega, by omega⟩), b7 k (by omega), ua_ne (by omega)]
    · rw [n2 _ (by omega) (Or.inr ⟨by omega, by omega⟩), b7 _ (by omega), ua_same]
    · have z : sr < 3 := z
      have e := n1 z
      rw [e.1, e.2, c1, i3]
      exact ⟨rfl, rfl⟩
    · have hv : vs[j]? = some v := hv
      by_cases z : sr < 3
      · have e : vs = [] := (hbod.2.1 z).1
        rw [e] at hv
        simp at hv
      · have hj := (List.getElem?_eq_some_iff.mp hv).1
        rw [n2 _ (by omega) (Or.inl (by omega))]
        exact c5 j v hv
    · have hy : em[i]? = some y := hy
      have e := c4 i y hy
      rw [i3, show ((codeL cs).length : Int) + (i : Int) = (((codeL cs).length + i : Nat) : Int) by omega] at e
      rw [n2 _ (by omega) (Or.inr ⟨by omega, by omega⟩), n2 _ (by omega) (Or.inr ⟨by omega, by omega⟩)]
      exact e
  · rcases List.mem_append.mp hc with z | z
    · exact i9 c z
    · simp at z
      rw [z]
      exact hbod
  · refine Or.inr (Or.inr (Or.inr ⟨⟨by omega, by rw [← hs]; exact hnt, hl⟩, 0, q, vs, em, by rw [← hs]; exact b1, Or.inr (Or.inr ⟨rfl, h59, rfl, rfl, by rw [hs]⟩)⟩))
theorem TxF_mk {t0 x : Int} {f0 tx0 F fq txq plq txn : Int → Int} {T : Int → Int} {n sr p wr q r : Int} {cs : List Cls} {vs : List Int} {em : List (Int × Int)} (ht : 0 ≤ x - t0 ∧ x + 3 < t0 + 700) (hA : AB tx0) (hFk : ∀ k, k < 7 ∨ k = 12 ∨ k = 14 ∨ k = 18 ∨ 22 ≤ k → F k = f0 k) (hB : BoQ T n t0 cs sr p wr x (ua tx0 x sr) F q vs em r fq txq plq) (hk : ∀ k, k < t0 ∨ t0 + 700 ≤ k → txn k = txq k) (hb : AB txn) : TxF t0 f0 tx0 fq txn plq := by
  obtain ⟨b1, b2, b3, b4, b5, b6, b7, b8, b9, b10, b11⟩ := hB
  refine ⟨fun k hk => (b5 k (by omega)).trans (hFk k (by omega)), fun k hk2 => ?_, hb, b9⟩
  rw [hk k hk2, b7 k (by omega), ua_ne (by omega)]
/-- behind a clause -/
def CluP (T : Int → Int) (n t0 : Int) (cs : List Cls) (p : Int) (f0 tx0 : Int → Int) (r : Int) (f tx pl : Int → Int) : Prop := ∃ q c, ClR T n cs p r q c ∧ PS T n q f ∧ TxF t0 f0 tx0 f tx pl ∧ (0 ≤ r ∧ r < 10) ∧ (r = 0 → p < q ∧ TxI T n t0 (cs ++ [c]) q f tx)
theorem CluP_0 {T : Int → Int} {n t0 p r : Int} {cs : List Cls} {f tx pl : Int → Int} (I : TxI T n t0 cs p f tx) (ha : AB tx) (hb : AB pl) (h : ClR T n cs p r p (0, [], [])) (hr : 1 ≤ r ∧ r < 10) : CluP T n t0 cs p f tx r f tx pl := ⟨p, _, h, I.1, ⟨fun _ _ => rfl, fun _ _ => rfl, ha, hb⟩, by omega, fun z => by omega⟩
/-- reading all -/
def TxL (T : Int → Int) (n t0 : Int) (f0 tx0 f tx pl : Int → Int) : Prop := ∃ cs p, TxI T n t0 cs p f tx ∧ TxF t0 f0 tx0 f tx pl ∧ ∀ m r q d, RdR T n m cs p r q d → TxR T n r q d
def TxE (T : Int → Int) (n t0 : Int) (f0 tx0 : Int → Int) (r : Int) (f tx pl : Int → Int) : Prop := ∃ q cs, TxR T n r q cs ∧ PS T n q f ∧ TxF t0 f0 tx0 f tx pl ∧ (0 ≤ r ∧ r < 10) ∧ (r = 0 → TxI T n t0 cs q f tx)
theorem TxF_t {t0 : Int} {f0 tx0 f tx pl f' tx' pl' : Int → Int} (h : TxF t0 f0 tx0 f tx pl) (g : TxF t0 f tx f' tx' pl') : TxF t0 f0 tx0 f' tx' pl' := ⟨fun k hk => (g.1 k hk).trans (h.1 k hk), fun k hk => (g.2.1 k hk).trans (h.2.1 k hk), g.2.2⟩
theorem TxL_s {T : Int → Int} {n t0 p : Int} {f0 tx0 f tx pl f' tx' pl' : Int → Int} {cs : List Cls} (hF : TxF t0 f0 tx0 f tx pl) (hI : TxI T n t0 cs p f tx) (hL : ∀ m r q d, RdR T n m cs p r q d → TxR T n r q d) (ht : tTok T n p ≠ 0) (h : CluP T n t0 cs p f tx 0 f' tx' pl') : TxL T n t0 f0 tx0 f' tx' pl' := by
  obtain ⟨q, c, h1, h2, h3, h4, h5⟩ := h
  refine ⟨cs ++ [c], q, (h5 rfl).2, TxF_t hF h3, fun m r q' d hd => hL (m + 1) r q' d (Or.inr ⟨ht, 0, q, c, h1, Or.inr ⟨rfl, hd⟩⟩)⟩
theorem TxE_f {T : Int → Int} {n t0 p r : Int} {f0 tx0 f tx pl f' tx' pl' : Int → Int} {cs : List Cls} (hF : TxF t0 f0 tx0 f tx pl) (hL : ∀ m r q d, RdR T n m cs p r q d → TxR T n r q d) (ht : tTok T n p ≠ 0) (hr : r ≠ 0) (h : CluP T n t0 cs p f tx r f' tx' pl') : TxE T n t0 f0 tx0 r f' tx' pl' := by
  obtain ⟨q, c, h1, h2, h3, h4, h5⟩ := h
  exact ⟨q, cs, hL 1 r q cs (Or.inr ⟨ht, r, q, c, h1, Or.inl ⟨hr, rfl, rfl, rfl⟩⟩), h2, TxF_t hF h3, h4, fun z => absurd z hr⟩
theorem TxE_0 {T : Int → Int} {n t0 p : Int} {f0 tx0 f tx pl : Int → Int} {cs : List Cls} (hF : TxF t0 f0 tx0 f tx pl) (hI : TxI T n t0 cs p f tx) (hL : ∀ m r q d, RdR T n m cs p r q d → TxR T n r q d) (ht : tTok T n p = 0) : TxE T n t0 f0 tx0 0 f tx pl := ⟨p, cs, hL 1 0 p cs (Or.inl ⟨ht, rfl, rfl, rfl⟩), hI.1, hF, by omega, fun _ => hI⟩
theorem TxI_0 {T f tx : Int → Int} (hT : ∀ k, 0 ≤ T k ∧ T k < 256) {n t0 : Int} (hn : 0 ≤ n) (h4 : f 4 = n) (h10 : 0 ≤ f 10 ∧ f 10 < 1000000) (h11 : 0 ≤ f 11 ∧ f 11 < 72057594037927936) (ht : tx t0 = 0) (g7 : f 7 = 0) (g12 : f 12 = t0) (g14 : f 14 = 0) (g18 : f 18 = 0) (g21 : f 21 = 0) : TxI T n t0 [] 0 (mTok f T) tx := by
  have z := PS_mk hT (f := f) (n := n) (by omega) h4 h10 h11
  rw [g7] at z
  refine ⟨z, (mTok_k (by decide)).trans g12, (mTok_k (by decide)).trans g14, (mTok_k (by decide)).trans g18, by simp [codeL], ?_, MTx_0 ht, by simp, fun c hc => by simp at hc⟩
  rw [mTok_k (by decide), g21]
  refine ⟨by omega, fun s s0 s1 => ⟨fun h => ?_, fun ⟨c, hc, _⟩ => by simp at hc⟩⟩
  rw [Int.zero_ediv] at h
  omega
/-- what TEXT does to the reference -/
def TexM (V : Va) (v : Int) (VN : Va) : Prop := (V 309 3 = 4 ∧ v = -1 ∧ VN = V) ∨ (V 309 3 ≠ 4 ∧ ∃ r q cs f tx pl, TxR (V 312) (V 308 4) r q cs ∧ PS (V 312) (V 308 4) q f ∧ TxF (700 * V 309 3) (V 308) (V 311) f tx pl ∧ (0 ≤ r ∧ r < 10) ∧ (r = 0 → TxI (V 312) (V 308 4) (700 * V 309 3) cs q f tx) ∧ v = (if r = 0 then V 309 3 else -1) ∧ VN = up (up (up (up V 308 (ua (ua (ua f 5 r) 6 (if r = 0 then -1 else tPl (V 312) (V 308 4) q)) 4 0)) 309 (if r = 0 then ua (V 309) 3 (V 309 3 + 1) else V 309)) 311 tx) 313 pl)
