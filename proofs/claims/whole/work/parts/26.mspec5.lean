def TRb (h : Int → Int) : Prop := ∀ k, h k = 0 ∨ h k = 1
/-- an answer, and the three rows of scratch whatever they are -/
def rIs (S : Stt) (V : Va) (e : Int) : Option Value → Stt → Va → Prop := fun v S' V' => ∃ f g h, AB f ∧ TRb h ∧ some (vI e) = v ∧ S = S' ∧ up (up (up V 314 f) 315 g) 316 h = V'
def rVs (S : Stt) (V : Va) : Option Value → Stt → Va → Prop := fun v S' V' => ∃ f g h, AB f ∧ TRb h ∧ none = v ∧ S = S' ∧ up (up (up V 314 f) 315 g) 316 h = V'
theorem scr_self (W : Va) : up (up (up W 314 (W 314)) 315 (W 315)) 316 (W 316) = W := by
  rw [up_self]
  show up (up W 315 (W 315)) 316 (W 316) = W
  rw [up_self]
  show up W 316 (W 316) = W
  rw [up_self]
section XS
variable {Γ : Ctx} {B : Bs} {own nm : String} {cc : ByteArray} {nL : Nat} {ret : Option FieldType} {lev mc ms pc : Nat} {L : List (Option Value)} {st : List Value} {kc ks : Nat} {S : Stt} {V : Va}
theorem x_cVis {y : MethodName} {cc' : ByteArray} {nL' n index ci i z lev' : Nat} {ret' : Option FieldType} {As rest : List Value} {S1 : Stt} {V1 : Va} {r : Int} (hm : MV y cc' nL' ret' n) (hl : Cond.methodLink own index y ∈ TB) (d : decode cc pc = .ok (.invokevirtual index, 3)) (hC : C B y cc' nL' ret' lev' 0 0 (vR B i :: As) S V (rIs S1 V1 r)) (hs : S.1 i = (ci + 5, z)) (hi : i < S.2.2)
    (k : ∀ f g h, AB f → TRb h → X Γ B own nm cc nL ret lev mc ms (pc + 3) L (vI r :: rest) kc ks S1 (up (up (up V1 314 f) 315 g) 316 h)) (hst : st = As.reverse ++ vR B i :: rest := by rfl) (hci : ci < 12 := by decide) (hy : Rc ci = y.cls := by rfl) (hlev : lev' < lev := by decide) (hn : As.length = n := by rfl) (hrm : nL' ≤ 45 := by decide) (hsum : (rest.map fun v => v.category).sum ≤ 8 := by exact Nat.le_of_ble_eq_true rfl) (hf : kc + 0 ≤ mc ∧ ks + 0 ≤ ms := by exact ⟨Nat.le_of_ble_eq_true rfl, Nat.le_of_ble_eq_true rfl⟩) : X Γ B own nm cc nL ret lev mc ms pc L st kc ks S V :=
  x_callV hm hl d hC hs hi (fun v S' V' h => by obtain ⟨f, g, h, h1, h2, rfl, rfl, rfl⟩ := h; exact k f g h h1 h2) hst hlev hci hy hn hrm hsum hf
theorem x_cVvs {y : MethodName} {cc' : ByteArray} {nL' n index ci i z lev' : Nat} {ret' : Option FieldType} {As rest : List Value} {S1 : Stt} {V1 : Va} (hm : MV y cc' nL' ret' n) (hl : Cond.methodLink own index y ∈ TB) (d : decode cc pc = .ok (.invokevirtual index, 3)) (hC : C B y cc' nL' ret' lev' 0 0 (vR B i :: As) S V (rVs S1 V1)) (hs : S.1 i = (ci + 5, z)) (hi : i < S.2.2)
    (k : ∀ f g h, AB f → TRb h → X Γ B own nm cc nL ret lev mc ms (pc + 3) L rest kc ks S1 (up (up (up V1 314 f) 315 g) 316 h)) (hst : st = As.reverse ++ vR B i :: rest := by rfl) (hci : ci < 12 := by decide) (hy : Rc ci = y.cls := by rfl) (hlev : lev' < lev := by decide) (hn : As.length = n := by rfl) (hrm : nL' ≤ 45 := by decide) (hsum : (rest.map fun v => v.category).sum ≤ 8 := by exact Nat.le_of_ble_eq_true rfl) (hf : kc + 0 ≤ mc ∧ ks + 0 ≤ ms := by exact ⟨Nat.le_of_ble_eq_true rfl, Nat.le_of_ble_eq_true rfl⟩) : X Γ B own nm cc nL ret lev mc ms pc L st kc ks S V :=
  x_callV hm hl d hC hs hi (fun v S' V' h => by obtain ⟨f, g, h, h1, h2, rfl, rfl, rfl⟩ := h; exact k f g h h1 h2) hst hlev hci hy hn hrm hsum hf
end XS
theorem mRun_nm {nm nm' : Int → Int} (hq : ∀ k, 0 ≤ k → k ≤ 7 → nm k = nm' k) (op ag : Int → Int) (N T : Int) : ∀ (m : Nat) (i n t : Int) (v r : Int → Int), dOK op ag N T m i n t → mRun nm op ag m i (v, r, n, t) = mRun nm' op ag m i (v, r, n, t)
  | 0, _, _, _, _, _, _ => rfl
  | m + 1, i, n, t, v, r, hd => by
    obtain ⟨h0, h1, h2, h3, h4, h5, h6⟩ := hd
    simp only [mRun]
    by_cases c1 : op i ≤ 1
    · have h1 := h1 c1
      have e : ∀ nm, mEv nm (op i) (ag i) (v, r, n, t) = (ua v n (if op i = 0 then ag i else nm (ag i)), r, n + 1, t) := fun nm => by simp only [mEv]; rw [if_pos c1]
      have e2 : (if op i = 0 then ag i else nm (ag i)) = (if op i = 0 then ag i else nm' (ag i)) := by
        split
        · rfl
        · exact hq _ h1.2.1 (h1.2.2.2.1 (by omega))
      rw [e, e, e2]
      exact mRun_nm hq op ag N T m _ _ _ _ _ h1.2.2.2.2
    · have e : mEv nm (op i) (ag i) (v, r, n, t) = mEv nm' (op i) (ag i) (v, r, n, t) := by simp only [mEv]; rw [if_neg c1, if_neg c1]
      rw [e]
      by_cases c2 : op i = 2
      · rw [show mEv nm' (op i) (ag i) (v, r, n, t) = (ua v (n - 1) (-(v (n - 1))), r, n, t) by simp only [mEv]; rw [if_neg c1, if_pos c2]]
        exact mRun_nm hq op ag N T m _ _ _ _ _ (h2 c2).2
      · by_cases c3 : op i < 10
        · rw [show mEv nm' (op i) (ag i) (v, r, n, t) = (ua v (n - 1 - 1) (mTwo (op i) (v (n - 1 - 1)) (v (n - 1))), r, n - 1, t) by simp only [mEv]; rw [if_neg c1, if_neg c2, if_pos c3]]
          exact mRun_nm hq op ag N T m _ _ _ _ _ (h3 (by omega) c3).2
        · by_cases c4 : op i < 20
          · rw [show mEv nm' (op i) (ag i) (v, r, n, t) = (v, ua r t (if mAsk (op i) (v (n - 2)) (v (n - 2 + 1)) then 1 else 0), n - 2, t + 1) by simp only [mEv]; rw [if_neg c1, if_neg c2, if_neg c3, if_pos c4]]
            exact mRun_nm hq op ag N T m _ _ _ _ _ (h4 (by omega) c4).2.2
          · by_cases c5 : op i = 20
            · rw [show mEv nm' (op i) (ag i) (v, r, n, t) = (v, ua r (t - 1) (if r (t - 1) = 0 then 1 else 0), n, t) by simp only [mEv]; rw [if_neg c1, if_neg c2, if_neg c3, if_neg c4, if_pos c5]]
              exact mRun_nm hq op ag N T m _ _ _ _ _ (h5 c5).2.2
            · rw [show mEv nm' (op i) (ag i) (v, r, n, t) = (v, ua r (t - 1 - 1) (if op i = 21 then (if r (t - 1 - 1) ≠ 0 ∧ r (t - 1) ≠ 0 then 1 else 0) else (if r (t - 1 - 1) ≠ 0 ∨ r (t - 1) ≠ 0 then 1 else 0)), n, t - 1) by simp only [mEv]; rw [if_neg c1, if_neg c2, if_neg c3, if_neg c4, if_neg c5]]
              exact mRun_nm hq op ag N T m _ _ _ _ _ (h6 (by omega)).2.2
theorem mEv_4 {nm : Int → Int} {o v : Int} {s : ES} (h1 : 10 ≤ o) (h2 : o < 20) : mEv nm o v s = (s.1, ua s.2.1 s.2.2.2 (if mAsk o (s.1 (s.2.2.1 - 2)) (s.1 (s.2.2.1 - 2 + 1)) then 1 else 0), s.2.2.1 - 2, s.2.2.2 + 1) := by simp only [mEv]; rw [if_neg (by omega), if_neg (by omega), if_neg (by omega), if_pos h2]
/-- what a run keeps: truths are 0 or 1, values are small -/
theorem mEv_tr {nm : Int → Int} {o v : Int} {s : ES} (h : TRb s.2.1) : TRb (mEv nm o v s).2.1 := by
  have key : ∀ (q e : Int), (e = 0 ∨ e = 1) → TRb (ua s.2.1 q e) := by
    intro q e he k
    simp only [ua]
    split
    · exact he
    · exact h k
  simp only [mEv]
  split
  · exact h
  split
  · exact h
  split
  · exact h
  split
  · exact key _ _ (ite_01 _)
  split
  · exact key _ _ (ite_01 _)
  · refine key _ _ ?_
    split <;> exact ite_01 _
theorem mRun_tr (nm op ag : Int → Int) : ∀ (m : Nat) (i : Int) (s : ES), TRb s.2.1 → TRb (mRun nm op ag m i s).2.1
  | 0, _, _, h => h
  | m + 1, i, _, h => mRun_tr nm op ag m (i + 1) _ (mEv_tr h)
theorem TRb_mCl {nm tx : Int → Int} {T k : Int} {v r : Int → Int} (h : TRb r) : TRb (mCl nm tx T k v r).2.1 := mRun_tr _ _ _ _ _ _ h
def zf : Int → Int := fun _ => 0
theorem mNm_ind {a f g : Int → Int} {b o : Int} : ∀ k, 0 ≤ k → k ≤ 7 → mNm a f b o k = mNm a g b o k := by
  intro k h0 h7
  simp only [mNm, ua]
  repeat' split
  all_goals first | rfl | omega
/-- the truth, or the value, of a clause for a bone and another one -/
def mTru (a tx : Int → Int) (k b o : Int) : Int := (mCl (mNm a zf b o) tx (a 4) k zf zf).2.1 0
def mVal (a tx : Int → Int) (k b o : Int) : Int := (mCl (mNm a zf b o) tx (a 4) k zf zf).1 0
theorem mTru_eq {a tx f v r : Int → Int} {k b o : Int} (hc : okCl tx (a 4) k) (hs : tx (700 * a 4 + 1 + 4 * k) ≠ 0) : (mCl (mNm a f b o) tx (a 4) k v r).2.1 0 = mTru a tx k b o := by
  obtain ⟨-, -, -, hd⟩ := hc
  rw [if_neg hs, if_neg hs] at hd
  simp only [mTru, mCl]
  rw [mRun_nm (nm' := mNm a zf b o) mNm_ind _ _ _ _ _ _ _ _ _ _ hd]
  exact (mRun_ind _ _ _ _ _ _ _ _ _ v zf r zf (by omega) (by omega) hd (fun k h1 h2 => by omega) (fun k h1 h2 => by omega)).2.2 0 (by omega) (by omega)
theorem mVal_eq {a tx f v r : Int → Int} {k b o : Int} (hc : okCl tx (a 4) k) (hs : tx (700 * a 4 + 1 + 4 * k) = 0) : (mCl (mNm a f b o) tx (a 4) k v r).1 0 = mVal a tx k b o := by
  obtain ⟨-, -, -, hd⟩ := hc
  rw [if_pos hs, if_pos hs] at hd
  simp only [mVal, mCl]
  rw [mRun_nm (nm' := mNm a zf b o) mNm_ind _ _ _ _ _ _ _ _ _ _ hd]
  exact (mRun_ind _ _ _ _ _ _ _ _ _ v zf r zf (by omega) (by omega) hd (fun k h1 h2 => by omega) (fun k h1 h2 => by omega)).2.1 0 (by omega) (by omega)
/-- a text's clauses are well made -/
def TW (tx : Int → Int) (T : Int) : Prop := 0 ≤ tx (700 * T) ∧ tx (700 * T) ≤ 24 ∧ ∀ k, 0 ≤ k → k < tx (700 * T) → 0 ≤ tx (700 * T + 1 + 4 * k) ∧ (tx (700 * T + 1 + 4 * k) ≤ 2 → okCl tx T k)
theorem findT_r (f : Int → Bool) {n : Int} (hn : 0 ≤ n) : (findT f n = -1 ∧ ∀ j, 0 ≤ j → j < n → f j = false) ∨ (0 ≤ findT f n ∧ findT f n < n ∧ f (findT f n) = true ∧ ∀ j, 0 ≤ j → j < findT f n → f j = false) := by
  by_cases h : ∃ k : Nat, (k : Int) < n ∧ f k = true
  · obtain ⟨k, ⟨h1, h2⟩, h3⟩ := pk_least (fun k : Nat => (k : Int) < n ∧ f k = true) h
    right
    have e : findT f n = k := findT_at (by omega) h1 h2 (fun j j0 jk => by
      have := h3 j.toNat (by omega)
      rw [Int.toNat_of_nonneg j0] at this
      cases hj : f j
      · rfl
      · exact absurd ⟨by omega, hj⟩ this)
    rw [e]
    refine ⟨by omega, h1, h2, fun j j0 jk => ?_⟩
    have := h3 j.toNat (by omega)
    rw [Int.toNat_of_nonneg j0] at this
    cases hj : f j
    · rfl
    · exact absurd ⟨by omega, hj⟩ this
  · left
    have hb : ∀ j, 0 ≤ j → j < n → f j = false := fun j j0 jn => by
      cases hj : f j
      · rfl
      · exact absurd ⟨j.toNat, by omega, by rw [Int.toNat_of_nonneg j0]; exact hj⟩ h
    exact ⟨findT_no hb, hb⟩
theorem mClause_r {a tx : Int → Int} {s : Int} (hw : 0 ≤ a 4 → TW tx (a 4)) : mClause a tx s = -1 ∨ (0 ≤ a 4 ∧ 0 ≤ mClause a tx s ∧ mClause a tx s < tx (700 * a 4) ∧ mClause a tx s < 24 ∧ tx (700 * a 4 + 1 + 4 * mClause a tx s) = s) := by
  simp only [mClause]
  split
  · exact Or.inl rfl
  · have hw := hw (by omega)
    rcases findT_r (fun k => decide (tx (700 * a 4 + 1 + 4 * k) = s)) hw.1 with h | h
    · exact Or.inl h.1
    · right
      have h3 := of_decide_eq_true h.2.2.1
      have := hw.2.1
      exact ⟨by omega, h.1, h.2.1, by omega, h3⟩
theorem mClause_ok {a tx : Int → Int} {s : Int} (hw : 0 ≤ a 4 → TW tx (a 4)) (h0 : 0 ≤ mClause a tx s) (hs : s ≤ 2) : okCl tx (a 4) (mClause a tx s) := by
  rcases mClause_r (s := s) hw with h | h
  · omega
  · exact ((hw h.1).2.2 _ h.2.1 h.2.2.1).2 (by omega)
abbrev mHoly (a tx : Int → Int) (b : Int) : Prop := mClause a tx 1 < 0 ∨ mTru a tx (mClause a tx 1) b 0 = 1
abbrev mUnl (a tx : Int → Int) (one other : Int) : Prop := ¬ mClause a tx 2 < 0 ∧ (mTru a tx (mClause a tx 2) one other = 1 ∨ mTru a tx (mClause a tx 2) other one = 1)
def mManyK (a tx : Int → Int) (kind : Int) : Int := if a 4 < 0 then -1 else findT (fun k => decide (tx (700 * a 4 + 1 + 4 * k) = 3 ∧ tx (700 * a 4 + 1 + 4 * k + 1) = kind)) (tx (700 * a 4))
def mMany (a tx : Int → Int) (kind : Int) : Int := if mManyK a tx kind < 0 then 1 else tx (700 * a 4 + 1 + 4 * mManyK a tx kind + 2)
/-- a bone is a year older -/
def mAgeB (a tx : Int → Int) (w b : Int) : Int → Int :=
  let left := a (30 + 6 * b + 1) - (if mVal a tx w b 0 < 0 then 0 else mVal a tx w b 0)
  let a1 := if w < 0 then a else ua a (30 + 6 * b + 1) (if left < 1 then 1 else left)
  if a (30 + 6 * b + 4) = a 2 then ua (ua a1 (30 + 6 * b + 3) (a (30 + 6 * b + 2))) (30 + 6 * b + 4) (-1) else a1
def mAgeK (a tx : Int → Int) (w : Int) : Nat → Int → Int
  | 0 => a
  | k + 1 => mAgeB (mAgeK a tx w k) tx w k
def mPassOne (a tx : Int → Int) : Int → Int := mAgeK (ua a 2 (a 2 + 1)) tx (mClause a tx 0) (a 1).toNat
def mPassK (a tx : Int → Int) : Nat → Int → Int
  | 0 => a
  | k + 1 => mPassOne (mPassK a tx k) tx
theorem mAgeB_o {a tx : Int → Int} {w b q : Int} (h : q < 30 + 6 * b + 1 ∨ 30 + 6 * b + 4 < q) : mAgeB a tx w b q = a q := by
  simp only [mAgeB]
  split <;> split <;> simp only [ua] <;> (repeat rw [if_neg (by omega)])
theorem mAgeK_lo {a tx : Int → Int} {w q : Int} : ∀ (k : Nat), (q < 30 ∨ 30 + 6 * (k : Int) ≤ q) → mAgeK a tx w k q = a q
  | 0, _ => rfl
  | k + 1, h => by
    simp only [mAgeK]
    rw [mAgeB_o (by omega), mAgeK_lo k (by omega)]
theorem AB_mAgeB {a tx : Int → Int} {w b : Int} (h : AB a) : AB (mAgeB a tx w b) := by
  have h1 := h (30 + 6 * b + 1)
  have hl : -1 ≤ (if a (30 + 6 * b + 1) - (if mVal a tx w b 0 < 0 then 0 else mVal a tx w b 0) < 1 then 1 else a (30 + 6 * b + 1) - (if mVal a tx w b 0 < 0 then 0 else mVal a tx w b 0)) ∧ (if a (30 + 6 * b + 1) - (if mVal a tx w b 0 < 0 then 0 else mVal a tx w b 0) < 1 then 1 else a (30 + 6 * b + 1) - (if mVal a tx w b 0 < 0 then 0 else mVal a tx w b 0)) < 65536 := by
    split
    · omega
    · split at * <;> omega
  simp only [mAgeB]
  split <;> split
  · exact AB_ua (AB_ua h (h _)) (by omega)
  · exact AB_ua (AB_ua (AB_ua h hl) (h _)) (by omega)
  · exact h
  · exact AB_ua h hl
theorem AB_mAgeK {a tx : Int → Int} {w : Int} (h : AB a) : ∀ (k : Nat), AB (mAgeK a tx w k)
  | 0 => h
  | k + 1 => AB_mAgeB (AB_mAgeK h k)
