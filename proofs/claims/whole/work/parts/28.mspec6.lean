theorem mRun_v {nm : Int → Int} (hq : ∀ k, 0 ≤ k → k ≤ 7 → -1 ≤ nm k ∧ nm k < 65536) (op ag : Int → Int) (N T : Int) : ∀ (m : Nat) (i n t : Int) (v r : Int → Int), dOK op ag N T m i n t → (∀ k, 0 ≤ k → k < n → -1000000 ≤ v k ∧ v k ≤ 1000000) → ∀ k, 0 ≤ k → k < N → -1000000 ≤ (mRun nm op ag m i (v, r, n, t)).1 k ∧ (mRun nm op ag m i (v, r, n, t)).1 k ≤ 1000000
  | 0, _, n, t, v, r, hd, hv => by
    obtain ⟨rfl, rfl⟩ := hd
    exact hv
  | m + 1, i, n, t, v, r, hd, hv => by
    obtain ⟨h0, h1, h2, h3, h4, h5, h6⟩ := hd
    have key : ∀ (q e b : Int), (-1000000 ≤ e ∧ e ≤ 1000000) → (∀ k, 0 ≤ k → k < b → k < n ∨ k = q) → ∀ k, 0 ≤ k → k < b → -1000000 ≤ ua v q e k ∧ ua v q e k ≤ 1000000 := by
      intro q e b he hb k hk hkb
      simp only [ua]
      split
      · exact he
      · rcases hb k hk hkb with z | z
        · exact hv k hk z
        · contradiction
    simp only [mRun]
    by_cases c1 : op i ≤ 1
    · have h1 := h1 c1
      rw [show mEv nm (op i) (ag i) (v, r, n, t) = (ua v n (if op i = 0 then ag i else nm (ag i)), r, n + 1, t) by simp only [mEv]; rw [if_pos c1]]
      refine mRun_v hq op ag N T m _ _ _ _ _ h1.2.2.2.2 (key _ _ _ ?_ (fun k a b => by omega))
      split
      · have := h1.2.2.1 (by omega); omega
      · have := hq (ag i) h1.2.1 (h1.2.2.2.1 (by omega)); omega
    · by_cases c2 : op i = 2
      · have h2 := h2 c2
        rw [show mEv nm (op i) (ag i) (v, r, n, t) = (ua v (n - 1) (-(v (n - 1))), r, n, t) by simp only [mEv]; rw [if_neg c1, if_pos c2]]
        have := hv (n - 1) (by omega) (by omega)
        exact mRun_v hq op ag N T m _ _ _ _ _ h2.2 (key _ _ _ (by omega) (fun k a b => by omega))
      · by_cases c3 : op i < 10
        · have h3 := h3 (by omega) c3
          rw [show mEv nm (op i) (ag i) (v, r, n, t) = (ua v (n - 1 - 1) (mTwo (op i) (v (n - 1 - 1)) (v (n - 1))), r, n - 1, t) by simp only [mEv]; rw [if_neg c1, if_neg c2, if_pos c3]]
          exact mRun_v hq op ag N T m _ _ _ _ _ h3.2 (key _ _ _ (mTwo_r _ _ _) (fun k a b => by omega))
        · by_cases c4 : op i < 20
          · have h4 := h4 (by omega) c4
            rw [mEv_4 (by omega) c4]
            exact mRun_v hq op ag N T m _ _ _ _ _ h4.2.2 (fun k a b => hv k a (by simp only at b; omega))
          · by_cases c5 : op i = 20
            · have h5 := h5 c5
              rw [show mEv nm (op i) (ag i) (v, r, n, t) = (v, ua r (t - 1) (if r (t - 1) = 0 then 1 else 0), n, t) by simp only [mEv]; rw [if_neg c1, if_neg c2, if_neg c3, if_neg c4, if_pos c5]]
              exact mRun_v hq op ag N T m _ _ _ _ _ h5.2.2 hv
            · have h6 := h6 (by omega)
              rw [show mEv nm (op i) (ag i) (v, r, n, t) = (v, ua r (t - 1 - 1) (if op i = 21 then (if r (t - 1 - 1) ≠ 0 ∧ r (t - 1) ≠ 0 then 1 else 0) else (if r (t - 1 - 1) ≠ 0 ∨ r (t - 1) ≠ 0 then 1 else 0)), n, t - 1) by simp only [mEv]; rw [if_neg c1, if_neg c2, if_neg c3, if_neg c4, if_neg c5]]
              exact mRun_v hq op ag N T m _ _ _ _ _ h6.2.2 hv
theorem AB_zf : AB zf := fun k => by simp only [zf]; omega
theorem mVal_r {a tx : Int → Int} {k b o : Int} (hA : AB a) (hc : okCl tx (a 4) k) (hs : tx (700 * a 4 + 1 + 4 * k) = 0) : -1000000 ≤ mVal a tx k b o ∧ mVal a tx k b o ≤ 1000000 := by
  obtain ⟨-, -, -, hd⟩ := hc
  rw [if_pos hs, if_pos hs] at hd
  exact mRun_v (fun k _ _ => AB_mNm hA AB_zf b o k) _ _ _ _ _ _ _ _ _ _ hd (fun k h1 h2 => by omega) 0 (by omega) (by omega)
theorem mTru_01 (a tx : Int → Int) (k b o : Int) : mTru a tx k b o = 0 ∨ mTru a tx k b o = 1 := TRb_mCl (r := zf) (fun _ => Or.inl rfl) 0
theorem holy_v {a tx : Int → Int} {b : Int} (h : 0 ≤ mClause a tx 1) : (if mHoly a tx b then (1 : Int) else 0) = mTru a tx (mClause a tx 1) b 0 := by
  rcases mTru_01 a tx (mClause a tx 1) b 0 with e | e
  · rw [if_neg (by simp only [mHoly]; omega), e]
  · rw [if_pos (Or.inr e), e]
theorem unl_v {a tx : Int → Int} {one other : Int} (h : 0 ≤ mClause a tx 2) (h1 : mTru a tx (mClause a tx 2) one other = 0) : (if mUnl a tx one other then (1 : Int) else 0) = mTru a tx (mClause a tx 2) other one := by
  rcases mTru_01 a tx (mClause a tx 2) other one with e | e
  · rw [if_neg (by simp only [mUnl]; omega), e]
  · rw [if_pos ⟨by omega, Or.inr e⟩, e]
theorem mVal_eqT {a tx f v r : Int → Int} {T k b o : Int} (hT : T = a 4) (hc : okCl tx (a 4) k) (hs : tx (700 * a 4 + 1 + 4 * k) = 0) : (mCl (mNm a f b o) tx T k v r).1 0 = mVal a tx k b o := by subst hT; exact mVal_eq hc hs
def mPassF (a tx : Int → Int) (years : Int) : Int → Int := if 0 ≤ years ∧ years ≤ 99 ∧ a 2 + years ≤ 999 then mPassK (mKeep a) tx years.toNat else a
theorem mPassOne_lo {a tx : Int → Int} {q : Int} (h : q < 30) (h2 : q ≠ 2) : mPassOne a tx q = a q := by
  simp only [mPassOne]
  rw [mAgeK_lo _ (Or.inl h), ua_ne h2]
theorem mPassOne_2 {a tx : Int → Int} : mPassOne a tx 2 = a 2 + 1 := by
  simp only [mPassOne]
  rw [mAgeK_lo _ (Or.inl (by omega)), ua_same]
theorem mPassOne_hi {a tx : Int → Int} {q : Int} (h1 : 0 ≤ a 1 ∧ a 1 ≤ 16) (h : 126 ≤ q) : mPassOne a tx q = a q := by
  simp only [mPassOne]
  rw [mAgeK_lo _ (Or.inr (by omega)), ua_ne (by omega)]
theorem AB_mPassOne {a tx : Int → Int} (h : AB a) (h2 : a 2 < 1000) : AB (mPassOne a tx) := AB_mAgeK (AB_ua h (by have := h 2; omega)) _
theorem mPassK_lo {a tx : Int → Int} {q : Int} (h : q < 30) (h2 : q ≠ 2) : ∀ k, mPassK a tx k q = a q
  | 0 => rfl
  | k + 1 => by simp only [mPassK]; rw [mPassOne_lo h h2, mPassK_lo h h2 k]
theorem mPassK_2 {a tx : Int → Int} : ∀ k : Nat, mPassK a tx k 2 = a 2 + k
  | 0 => by simp only [mPassK]; omega
  | k + 1 => by simp only [mPassK]; rw [mPassOne_2, mPassK_2 k]; omega
theorem AB_mPassK {a tx : Int → Int} (h : AB a) (h0 : 0 ≤ a 2) : ∀ k : Nat, a 2 + k ≤ 1000 → AB (mPassK a tx k)
  | 0, _ => h
  | k + 1, hk => AB_mPassOne (AB_mPassK h h0 k (by omega)) (by rw [mPassK_2]; omega)
abbrev mPlayC (a tx : Int → Int) (x : Int) : Prop := (tx x = 4 → mLendC a (tx (x + 1)) (tx (x + 2)) (tx (x + 3))) ∧ (tx x = 5 → mSwapC a (tx (x + 1)) (tx (x + 2))) ∧ (tx x = 6 → mStealC a (tx (x + 1)) (tx (x + 2))) ∧ (tx x = 7 → mTownOk a (tx (x + 1))) ∧ (tx x = 8 → 0 ≤ tx (x + 1) ∧ tx (x + 1) ≤ 99 ∧ a 2 + tx (x + 1) ≤ 999)
def mPlayF (a tx : Int → Int) (x : Int) : Int → Int := if tx x = 4 then mLendF a (tx (x + 1)) (tx (x + 2)) (tx (x + 3)) else if tx x = 5 then mSwapF a (tx (x + 1)) (tx (x + 2)) else if tx x = 6 then mStealF a (tx (x + 1)) (tx (x + 2)) else if tx x = 7 then mBurnF a (tx (x + 1)) else if tx x = 8 then mPassF a tx (tx (x + 1)) else a
def AI (a : Int → Int) : Prop := AB a ∧ (0 ≤ a 0 ∧ a 0 ≤ 10) ∧ (0 ≤ a 1 ∧ a 1 ≤ 16) ∧ (0 ≤ a 2 ∧ a 2 ≤ 999) ∧ (-1 ≤ a 4 ∧ a 4 ≤ 3) ∧ (0 ≤ a 5 ∧ a 5 ≤ 20) ∧ ∀ b, 0 ≤ b → b < 16 → 0 ≤ a (30 + 6 * b + 5)
theorem AI_set {a : Int → Int} (h : AI a) {k e : Int} (hk : 30 ≤ k) (hk2 : k < 126) (h5 : (k - 30) % 6 ≠ 5) (he : -1 ≤ e ∧ e < 65536) : AI (ua a k e) := by
  obtain ⟨h1, h2, h3, h4, h6, h7, h8⟩ := h
  refine ⟨AB_ua h1 he, ?_, ?_, ?_, ?_, ?_, ?_⟩
  · rw [ua_ne (by omega)]; exact h2
  · rw [ua_ne (by omega)]; exact h3
  · rw [ua_ne (by omega)]; exact h4
  · rw [ua_ne (by omega)]; exact h6
  · rw [ua_ne (by omega)]; exact h7
  · intro b hb hb2
    rw [ua_ne (by omega)]; exact h8 b hb hb2
theorem AI_mKeep {a : Int → Int} (h : AI a) : AI (mKeep a) := by
  obtain ⟨h1, h2, h3, h4, h6, h7, h8⟩ := h
  refine ⟨AB_mKeep h1 h7, ?_, ?_, ?_, ?_, ?_, ?_⟩
  · rw [mKeep_lo (by omega) (by omega) h7]; exact h2
  · rw [mKeep_lo (by omega) (by omega) h7]; exact h3
  · rw [mKeep_lo (by omega) (by omega) h7]; exact h4
  · rw [mKeep_lo (by omega) (by omega) h7]; exact h6
  · rw [mKeep_5 h7]; split <;> omega
  · intro b hb hb2
    rw [mKeep_lo (by omega) (by omega) h7]; exact h8 b hb hb2
theorem band_r {x y : Int} (hx : 0 ≤ x) : 0 ≤ band x y ∧ band x y ≤ x := by
  simp only [band]
  have := Nat.and_le_left (n := x.toNat) (m := y.toNat)
  omega
theorem AI_burnK {a : Int → Int} (h : AI a) {t k : Int} (hk : k ≤ 16) : AI (burnK a t k) := by
  obtain ⟨h1, h2, h3, h4, h6, h7, h8⟩ := h
  have lo : ∀ q, q < 30 → burnK a t k q = a q := fun q hq => burnK_rd (Or.inl hq)
  refine ⟨?_, ?_, ?_, ?_, ?_, ?_, ?_⟩
  · intro q
    simp only [burnK]
    split
    · rename_i hq
      have hp := h8 ((q - 30) / 6) (by omega) (by omega)
      rw [show 30 + 6 * ((q - 30) / 6) + 5 = q by omega] at hp
      have := h1 q
      have := band_r (y := p2 t) hp
      omega
    · exact h1 q
  · rw [lo 0 (by omega)]; exact h2
  · rw [lo 1 (by omega)]; exact h3
  · rw [lo 2 (by omega)]; exact h4
  · rw [lo 4 (by omega)]; exact h6
  · rw [lo 5 (by omega)]; exact h7
  · intro b hb hb2
    have hp := h8 b hb hb2
    simp only [burnK]
    split
    · have := band_r (y := p2 t) hp
      omega
    · exact hp
theorem mAgeB_5 {a tx : Int → Int} {w b q : Int} (hb : 0 ≤ b) (h : (q - 30) % 6 = 5) : mAgeB a tx w b q = a q := by
  simp only [mAgeB]
  split <;> split <;> simp only [ua] <;> (repeat rw [if_neg (by omega)])
theorem mAgeK_5 {a tx : Int → Int} {w q : Int} (h : (q - 30) % 6 = 5) : ∀ (k : Nat), mAgeK a tx w k q = a q
  | 0 => rfl
  | k + 1 => by
    simp only [mAgeK]
    rw [mAgeB_5 (by omega) h, mAgeK_5 h k]
theorem AI_mPassOne {a tx : Int → Int} (h : AI a) (h2 : a 2 < 999) : AI (mPassOne a tx) := by
  obtain ⟨h1, h0, h3, h4, h6, h7, h8⟩ := h
  refine ⟨AB_mPassOne h1 (by omega), ?_, ?_, ?_, ?_, ?_, ?_⟩
  · rw [mPassOne_lo (by omega) (by omega)]; exact h0
  · rw [mPassOne_lo (by omega) (by omega)]; exact h3
  · rw [mPassOne_2]; omega
  · rw [mPassOne_lo (by omega) (by omega)]; exact h6
  · rw [mPassOne_lo (by omega) (by omega)]; exact h7
  · intro b hb hb2
    simp only [mPassOne]
    rw [mAgeK_5 (by omega), ua_ne (by omega)]
    exact h8 b hb hb2
theorem AI_mPassK {a tx : Int → Int} (h : AI a) : ∀ k : Nat, a 2 + k ≤ 999 → AI (mPassK a tx k)
  | 0, _ => h
  | k + 1, hk => AI_mPassOne (AI_mPassK h k (by omega)) (by rw [mPassK_2]; omega)
theorem AI_mLendF {a : Int → Int} (h : AI a) (b t y : Int) : AI (mLendF a b t y) := by
  simp only [mLendF]
  split
  · rename_i hc
    obtain ⟨⟨c1, c2⟩, ⟨c3, c4⟩, c5, c6, c7, -⟩ := hc
    have h0 := h.2.1
    have h1 := h.2.2.1
    have h2 := h.2.2.2.1
    exact AI_set (AI_set (AI_mKeep h) (by omega) (by omega) (by omega) (by omega)) (by omega) (by omega) (by omega) (by omega)
  · exact h
theorem AI_mSwapF {a : Int → Int} (h : AI a) (b t : Int) : AI (mSwapF a b t) := by
  simp only [mSwapF]
  split
  · rename_i hc
    obtain ⟨⟨c1, c2⟩, ⟨c3, c4⟩, -⟩ := hc
    have h1 := h.2.2.1
    exact AI_set (AI_set (AI_mKeep h) (by omega) (by omega) (by omega) (h.1 _)) (by omega) (by omega) (by omega) (h.1 _)
  · exact h
theorem AI_mStealF {a : Int → Int} (h : AI a) (b t : Int) : AI (mStealF a b t) := by
  simp only [mStealF]
  split
  · rename_i hc
    obtain ⟨⟨c1, c2⟩, ⟨c3, c4⟩, -⟩ := hc
    have h0 := h.2.1
    have h1 := h.2.2.1
    exact AI_set (AI_set (AI_set (AI_mKeep h) (by omega) (by omega) (by omega) (by omega)) (by omega) (by omega) (by omega) (by omega)) (by omega) (by omega) (by omega) (by omega)
  · exact h
theorem AI_mBurnF {a : Int → Int} (h : AI a) (t : Int) : AI (mBurnF a t) := by
  simp only [mBurnF]
  split
  · exact AI_burnK (AI_mKeep h) h.2.2.1.2
  · exact h
theorem AI_mPassF {a tx : Int → Int} (h : AI a) (y : Int) : AI (mPassF a tx y) := by
  simp only [mPassF]
  split
  · rename_i hc
    refine AI_mPassK (AI_mKeep h) _ ?_
    rw [mKeep_lo (by omega) (by omega) h.2.2.2.2.2.1]
    omega
  · exact h
theorem AI_mPlayF {a tx : Int → Int} (h : AI a) (x : Int) : AI (mPlayF a tx x) := by
  simp only [mPlayF]
  split
  · exact AI_mLendF h _ _ _
  split
  · exact AI_mSwapF h _ _
  split
  · exact AI_mStealF h _ _
  split
  · exact AI_mBurnF h _
  split
  · exact AI_mPassF h _
  · exact h
/-- the ops leave the ruling text, and the number of texts, as they are -/
theorem mPlayF_34 {a tx : Int → Int} (h : AI a) (x : Int) : mPlayF a tx x 4 = a 4 ∧ mPlayF a tx x 3 = a 3 := by
  have h5 := h.2.2.2.2.2.1
  have h1 := h.2.2.1
  have k4 : mKeep a 4 = a 4 := mKeep_lo (by omega) (by omega) h5
  have k3 : mKeep a 3 = a 3 := mKeep_lo (by omega) (by omega) h5
  simp only [mPlayF]
  split
  · simp only [mLendF]; split
    · rename_i hc
      have c1 := hc.1.1
      exact ⟨by rw [ua_ne (by omega), ua_ne (by omega), k4], by rw [ua_ne (by omega), ua_ne (by omega), k3]⟩
    · exact ⟨rfl, rfl⟩
  split
  · simp only [mSwapF]; split
    · rename_i hc
      have c1 := hc.1.1
      have c2 := hc.2.1.1
      exact ⟨by rw [ua_ne (by omega), ua_ne (by omega), k4], by rw [ua_ne (by omega), ua_ne (by omega), k3]⟩
    · exact ⟨rfl, rfl⟩
  split
  · simp only [mStealF]; split
    · rename_i hc
      have c1 := hc.1.1
      exact ⟨by rw [ua_ne (by omega), ua_ne (by omega), ua_ne (by omega), k4], by rw [ua_ne (by omega), ua_ne (by omega), ua_ne (by omega), k3]⟩
    · exact ⟨rfl, rfl⟩
  split
  · simp only [mBurnF]; split
    · exact ⟨by rw [burnK_rd (Or.inl (by omega)), k4], by rw [burnK_rd (Or.inl (by omega)), k3]⟩
    · exact ⟨rfl, rfl⟩
  split
  · simp only [mPassF]; split
    · exact ⟨by rw [mPassK_lo (by omega) (by omega), k4], by rw [mPassK_lo (by omega) (by omega), k3]⟩
    · exact ⟨rfl, rfl⟩
  · exact ⟨rfl, rfl⟩
/-- played, clause by clause: the row, and the first clause that can't be (n: all are done) -/
def mPlayK (a tx : Int → Int) (t : Int) : Nat → Int → Int
  | 0 => a
  | k + 1 => mPlayF (mPlayK a tx t k) tx (700 * t + 1 + 4 * k)
theorem mPlayK_inv {a tx : Int → Int} {t : Int} (h : AI a) : ∀ k : Nat, AI (mPlayK a tx t k) ∧ mPlayK a tx t k 4 = a 4 ∧ mPlayK a tx t k 3 = a 3
  | 0 => ⟨h, rfl, rfl⟩
  | k + 1 => by
    have ih := mPlayK_inv (tx := tx) (t := t) h k
    have e := mPlayF_34 (tx := tx) ih.1 (700 * t + 1 + 4 * k)
    exact ⟨AI_mPlayF ih.1 _, e.1.trans ih.2.1, e.2.trans ih.2.2⟩
def mPlayR (a tx : Int → Int) (t : Int) : Int := findT (fun k => !decide (mPlayC (mPlayK a tx t k.toNat) tx (700 * t + 1 + 4 * k))) (tx (700 * t))
def mPlayG (a tx : Int → Int) (t : Int) : Int → Int := mPlayK a tx t (if mPlayR a tx t < 0 then tx (700 * t) else mPlayR a tx t).toNat
theorem mPlayF_no {a tx : Int → Int} {x : Int} (h : ¬ mPlayC a tx x) : mPlayF a tx x = a := by
  simp only [mPlayF]
  split
  · simp only [mLendF]; rw [if_neg (fun q => h ⟨fun _ => q, by omega, by omega, by omega, by omega⟩)]
  split
  · simp only [mSwapF]; rw [if_neg (fun q => h ⟨by omega, fun _ => q, by omega, by omega, by omega⟩)]
  split
  · simp only [mStealF]; rw [if_neg (fun q => h ⟨by omega, by omega, fun _ => q, by omega, by omega⟩)]
  split
  · simp only [mBurnF]; rw [if_neg (fun q => h ⟨by omega, by omega, by omega, fun _ => q, by omega⟩)]
  split
  · simp only [mPassF]; rw [if_neg (fun q => h ⟨by omega, by omega, by omega, by omega, fun _ => q⟩)]
  · rfl
def drawN (x : Int) : Int := (x * 173 + 41) % 30103
abbrev mHolyTown (a tx : Int → Int) (t : Int) : Prop := 0 ≤ findT (fun b => decide (a (30 + 6 * b + 3) = t ∧ mHoly a tx b)) (a 1)
/-- k pilgrims: what is drawn then, and how many the town has healed -/
def mPil (a tx : Int → Int) (c town x0 : Int) : Nat → Int × Int
  | 0 => (x0, 0)
  | k + 1 =>
    let x := (mPil a tx c town x0 k).1
    let y := drawN x
    if mHolyTown a tx (x % a 0) then (drawN y, (mPil a tx c town x0 k).2 + (if y % 6 < c ∧ x % a 0 = town then 1 else 0)) else (y, (mPil a tx c town x0 k).2)
theorem mPil_r {a tx : Int → Int} {c town x0 : Int} (h : 0 ≤ x0 ∧ x0 < 70100) : ∀ k, 0 ≤ (mPil a tx c town x0 k).1 ∧ (mPil a tx c town x0 k).1 < 70100
  | 0 => h
  | k + 1 => by
    have key : ∀ x, 0 ≤ drawN x ∧ drawN x < 70100 := fun x => by simp only [drawN]; omega
    simp only [mPil]
    split
    · exact key _
    · exact key _
theorem mAgeB_a {a tx : Int → Int} {w b : Int} (hw : w < 0) (hd : a (30 + 6 * b + 4) = a 2) : ua (ua a (30 + 6 * b + 3) (a (30 + 6 * b + 2))) (30 + 6 * b + 4) (-1) = mAgeB a tx w b := by simp only [mAgeB]; rw [if_pos hd, if_pos hw]
theorem mAgeB_b {a tx : Int → Int} {w b : Int} (hw : w < 0) (hd : a (30 + 6 * b + 4) ≠ a 2) : a = mAgeB a tx w b := by simp only [mAgeB]; rw [if_neg hd, if_pos hw]
theorem mAgeB_c {a tx : Int → Int} {w b e : Int} (hw : ¬ w < 0) (hd : a (30 + 6 * b + 4) = a 2) (he : e = (if a (30 + 6 * b + 1) - (if mVal a tx w b 0 < 0 then 0 else mVal a tx w b 0) < 1 then 1 else a (30 + 6 * b + 1) - (if mVal a tx w b 0 < 0 then 0 else mVal a tx w b 0))) : ua (ua (ua a (30 + 6 * b + 1) e) (30 + 6 * b + 3) (a (30 + 6 * b + 2))) (30 + 6 * b + 4) (-1) = mAgeB a tx w b := by simp only [mAgeB]; rw [if_pos hd, if_neg hw, he]
theorem mAgeB_d {a tx : Int → Int} {w b e : Int} (hw : ¬ w < 0) (hd : a (30 + 6 * b + 4) ≠ a 2) (he : e = (if a (30 + 6 * b + 1) - (if mVal a tx w b 0 < 0 then 0 else mVal a tx w b 0) < 1 then 1 else a (30 + 6 * b + 1) - (if mVal a tx w b 0 < 0 then 0 else mVal a tx w b 0))) : ua a (30 + 6 * b + 1) e = mAgeB a tx w b := by simp only [mAgeB]; rw [if_neg hd, if_neg hw, he]
theorem age_e0 {X v e : Int} (hv : v < 0) (he : (X - 0 < 1 ∧ e = 1) ∨ (1 ≤ X - 0 ∧ e = X - 0)) : e = (if X - (if v < 0 then 0 else v) < 1 then 1 else X - (if v < 0 then 0 else v)) := by
  rw [if_pos hv]
  rcases he with ⟨h1, h2⟩ | ⟨h1, h2⟩
  · rw [if_pos h1, h2]
  · rw [if_neg (by omega), h2]
theorem age_e1 {X v e : Int} (hv : ¬ v < 0) (he : (X - v < 1 ∧ e = 1) ∨ (1 ≤ X - v ∧ e = X - v)) : e = (if X - (if v < 0 then 0 else v) < 1 then 1 else X - (if v < 0 then 0 else v)) := by
  rw [if_neg hv]
  rcases he with ⟨h1, h2⟩ | ⟨h1, h2⟩
  · rw [if_pos h1, h2]
  · rw [if_neg (by omega), h2]
