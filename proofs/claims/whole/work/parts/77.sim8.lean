/-! scripts -/
section Pl
variable {a tx : Int → Int} {x : Int}
theorem pl_4 (h : tx x = 4) : (mPlayC a tx x ↔ mLendC a (tx (x + 1)) (tx (x + 2)) (tx (x + 3))) ∧ mPlayF a tx x = mLendF a (tx (x + 1)) (tx (x + 2)) (tx (x + 3)) := ⟨⟨fun q => q.1 h, fun q => ⟨fun _ => q, by omega, by omega, by omega, by omega⟩⟩, if_pos h⟩
theorem pl_5 (h : tx x = 5) : (mPlayC a tx x ↔ mSwapC a (tx (x + 1)) (tx (x + 2))) ∧ mPlayF a tx x = mSwapF a (tx (x + 1)) (tx (x + 2)) := ⟨⟨fun q => q.2.1 h, fun q => ⟨by omega, fun _ => q, by omega, by omega, by omega⟩⟩, (if_neg (by omega)).trans (if_pos h)⟩
theorem pl_6 (h : tx x = 6) : (mPlayC a tx x ↔ mStealC a (tx (x + 1)) (tx (x + 2))) ∧ mPlayF a tx x = mStealF a (tx (x + 1)) (tx (x + 2)) := ⟨⟨fun q => q.2.2.1 h, fun q => ⟨by omega, by omega, fun _ => q, by omega, by omega⟩⟩, (if_neg (by omega)).trans ((if_neg (by omega)).trans (if_pos h))⟩
theorem pl_7 (h : tx x = 7) : (mPlayC a tx x ↔ mTownOk a (tx (x + 1))) ∧ mPlayF a tx x = mBurnF a (tx (x + 1)) := ⟨⟨fun q => q.2.2.2.1 h, fun q => ⟨by omega, by omega, by omega, fun _ => q, by omega⟩⟩, (if_neg (by omega)).trans ((if_neg (by omega)).trans ((if_neg (by omega)).trans (if_pos h)))⟩
theorem pl_8 (h : tx x = 8) : (mPlayC a tx x ↔ 0 ≤ tx (x + 1) ∧ tx (x + 1) ≤ 99 ∧ a 2 + tx (x + 1) ≤ 999) ∧ mPlayF a tx x = mPassF a tx (tx (x + 1)) := ⟨⟨fun q => q.2.2.2.2 h, fun q => ⟨by omega, by omega, by omega, by omega, fun _ => q⟩⟩, (if_neg (by omega)).trans ((if_neg (by omega)).trans ((if_neg (by omega)).trans ((if_neg (by omega)).trans (if_pos h))))⟩
theorem pl_0 (h : tx x < 4) : mPlayC a tx x ∧ mPlayF a tx x = a := ⟨⟨by omega, by omega, by omega, by omega, by omega⟩, (if_neg (by omega)).trans ((if_neg (by omega)).trans ((if_neg (by omega)).trans ((if_neg (by omega)).trans (if_neg (by omega)))))⟩
end Pl
/-- how far a world has come -/
def Adv (n : Int) (V V' : Va) (a a' : Int → Int) : Prop := (V' = V ∧ a' = a) ∨ (V 1 10 < V' 1 10 ∧ V' 1 10 ≤ V 1 10 + n)
def PlR (n : Int) (a a' : Int → Int) (V V' : Va) : Prop := WSim V' 1 a' ∧ WB V' 1 ∧ MIv a' ∧ FrN V V' ∧ Adv n V V' a a'
theorem StpR_Pl {C : Prop} {a a' : Int → Int} {V V' : Va} (h : StpR C a' V V') (hM' : MIv a') (hn : ¬ C → a' = a) (hW : WSim V 1 a) (hB : WB V 1) : PlR 1 a a' V V' := by
  rcases h with h | h
  · exact ⟨h.2.1, h.2.2.1, hM', h.2.2.2.1, Or.inr (by have := h.2.2.2.2; omega)⟩
  · obtain ⟨h1, rfl⟩ := h
    have e := hn h1
    rw [e]
    exact ⟨hW, hB, by rw [← e]; exact hM', fun q _ _ _ => rfl, Or.inl ⟨rfl, rfl⟩⟩
theorem PlR_0 {a : Int → Int} {V : Va} {n : Int} (hW : WSim V 1 a) (hB : WB V 1) (hM : MIv a) : PlR n a a V V := ⟨hW, hB, hM, fun q _ _ _ => rfl, Or.inl ⟨rfl, rfl⟩⟩
theorem PlR_t {a a' a'' : Int → Int} {V V' V'' : Va} {n m : Int} (hn : 0 ≤ n) (hm : 0 ≤ m) (h : PlR n a a' V V') (k : PlR m a' a'' V' V'') : PlR (n + m) a a'' V V'' := by
  obtain ⟨h1, h2, h3, h4, h5⟩ := h
  obtain ⟨k1, k2, k3, k4, k5⟩ := k
  refine ⟨k1, k2, k3, FrN_t h4 k4, ?_⟩
  rcases h5 with ⟨rfl, rfl⟩ | h5
  · rcases k5 with ⟨rfl, rfl⟩ | k5
    · exact Or.inl ⟨rfl, rfl⟩
    · exact Or.inr (by omega)
  · rcases k5 with ⟨rfl, rfl⟩ | k5
    · exact Or.inr (by omega)
    · exact Or.inr (by omega)
theorem ite_c {p q : Prop} [Decidable p] [Decidable q] (h : p ↔ q) {x y : Int} : (if p then x else y) = if q then x else y := by
  by_cases c : p
  · rw [if_pos c, if_pos (h.mp c)]
  · rw [if_neg c, if_neg (fun z => c (h.mpr z))]
