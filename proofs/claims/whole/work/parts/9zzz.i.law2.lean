/-! calls that change -/
def ChR (a a' : Int → Int) (V V1 : Va) : Prop := (WSim V1 1 a' ∧ WB V1 1 ∧ FrM V V1 ∧ V 1 10 < V1 1 10 ∧ V1 1 10 ≤ V 1 10 + 24) ∨ (V1 = V ∧ a' = a)
theorem ChR_o {C : Prop} {a a' : Int → Int} {V V1 : Va} (h : OpR C a' V V1) (hn : ¬ C → a' = a) : ChR a a' V V1 := by
  rcases h with ⟨_, h1, h2, h3, h4⟩ | ⟨c, h⟩
  · exact Or.inl ⟨h1, h2, h3, by omega, by omega⟩
  · exact Or.inr ⟨h, hn c⟩
theorem FrN_M {V V1 : Va} (h : FrN V V1) : FrM V V1 := fun q a b c => h q (by omega) b c
theorem ChR_s {C : Prop} {a a' : Int → Int} {V V1 : Va} (h : StpR C a' V V1) (hn : ¬ C → a' = a) : ChR a a' V V1 := by
  rcases h with ⟨_, h1, h2, h3, h4⟩ | ⟨c, h⟩
  · exact Or.inl ⟨h1, h2, FrN_M h3, by omega, by omega⟩
  · exact Or.inr ⟨h, hn c⟩
theorem ChR_p {a a' : Int → Int} {V V1 : Va} (h : PlR 24 a a' V V1) : ChR a a' V V1 := by
  obtain ⟨h1, h2, h3, h4, h5⟩ := h
  rcases h5 with z | z
  · exact Or.inr z
  · exact Or.inl ⟨h1, h2, FrN_M h4, z.1, z.2⟩
theorem ChR_hi {a a' : Int → Int} {V V1 : Va} (h : ChR a a' V V1) : ∀ q : Nat, 308 ≤ q → V1 q = V q := fun q hq => by
  rcases h with ⟨_, _, h3, _⟩ | ⟨e, _⟩
  · exact h3 q (by omega) (by omega) (by omega)
  · rw [e]
theorem INV_o {n : Int} {S : Stt} {V V1 V2 : Va} {a' : Int → Int} (h : INV n S V) (r : ChR (V 309) a' V V1) (hM : MIv a') (h3 : a' 3 = V 309 3) (e9 : V2 309 = a') (e4 : AB (V2 314)) (e6 : TRb (V2 316)) (er : ∀ q : Nat, q ≠ 309 → q ≠ 314 → q ≠ 315 → q ≠ 316 → V2 q = V1 q) : INV (n + 1) S V2 := by
  rcases r with ⟨r1, r2, r3, r4, r5⟩ | ⟨r1, r2⟩
  · exact INV_w h r1 r2 hM r3 h3 ⟨r4, r5⟩ e9 e4 e6 er
  · subst r1
    refine INV_q h (fun _ _ => rfl) h.ca ⟨fun q hq => ?_, fun k _ => by rw [er 308 (by decide) (by decide) (by decide) (by decide)], e4, e6, by rw [er 323 (by decide) (by decide) (by decide) (by decide)]; exact h.ab.2.2.2.2⟩
    by_cases z : q = 309
    · rw [z, e9, r2]
    · exact er q z (by omega) (by omega) (by omega)
theorem INV_o1 {n : Int} {S : Stt} {V V1 : Va} {a' : Int → Int} (h : INV n S V) (r : ChR (V 309) a' V V1) (hM : MIv a') (h3 : a' 3 = V 309 3) : INV (n + 1) S (up V1 309 a') :=
  INV_o h r hM h3 (up_same _ _ _) (by rw [up_ne (by decide), ChR_hi r 314 (by decide)]; exact h.ab.2.2.1) (by rw [up_ne (by decide), ChR_hi r 316 (by decide)]; exact h.ab.2.2.2.1) (fun q h1 _ _ _ => up_ne h1)
theorem INV_o4 {n : Int} {S : Stt} {V V1 : Va} {a' f g k : Int → Int} (h : INV n S V) (r : ChR (V 309) a' V V1) (hM : MIv a') (h3 : a' 3 = V 309 3) (hf : AB f) (hk : TRb k) : INV (n + 1) S (up (up (up (up V1 309 a') 314 f) 315 g) 316 k) :=
  INV_o h r hM h3 (by rw [up_ne (by decide), up_ne (by decide), up_ne (by decide), up_same]) (by rw [up_ne (by decide), up_ne (by decide), up_same]; exact hf) (by rw [up_same]; exact hk) (fun q h1 h2 h3 h4 => by rw [up_ne h4, up_ne h3, up_ne h2, up_ne h1])
section Th3
variable {a : Int → Int}
theorem mTownF_3 (h : MIv a) (x y : Int) : mTownF a x y 3 = a 3 := by
  have i0 := h.1.2.1
  simp only [mTownF]
  split
  · rw [ua_ne (by omega), ua_ne (by omega), ua_ne (by omega)]
  · rfl
theorem mBoneF_3 (h : MIv a) (x y z : Int) : mBoneF a x y z 3 = a 3 := by
  have i1 := h.1.2.2.1
  simp only [mBoneF, mBoneA]
  split
  · rw [ua_ne (by omega), ua_ne (by omega), ua_ne (by omega), ua_ne (by omega), ua_ne (by omega), ua_ne (by omega), ua_ne (by omega)]
  · rfl
theorem mKeep_3 (h : MIv a) : mKeep a 3 = a 3 := mKeep_lo (by decide) (by decide) h.1.2.2.2.2.2.1
theorem mProveF_3 (h : MIv a) (t b : Int) : mProveF a t b 3 = a 3 := by
  simp only [mProveF]
  split
  · rw [ua_ne (by omega), mKeep_3 h]
  · rfl
theorem mLendF_3 (h : MIv a) (b t y : Int) : mLendF a b t y 3 = a 3 := by
  simp only [mLendF]
  split
  · rename_i c
    have c1 := c.1.1
    rw [ua_ne (by omega), ua_ne (by omega), mKeep_3 h]
  · rfl
theorem mSwapF_3 (h : MIv a) (b t : Int) : mSwapF a b t 3 = a 3 := by
  simp only [mSwapF]
  split
  · rename_i c
    have c1 := c.1.1
    have c2 := c.2.1.1
    rw [ua_ne (by omega), ua_ne (by omega), mKeep_3 h]
  · rfl
theorem mStealF_3 (h : MIv a) (b t : Int) : mStealF a b t 3 = a 3 := by
  simp only [mStealF]
  split
  · rename_i c
    have c1 := c.1.1
    rw [ua_ne (by omega), ua_ne (by omega), ua_ne (by omega), mKeep_3 h]
  · rfl
theorem mBurnF_3 (h : MIv a) (t : Int) : mBurnF a t 3 = a 3 := by
  simp only [mBurnF]
  split
  · rw [burnK_rd (Or.inl (by decide)), mKeep_3 h]
  · rfl
theorem mUndoF_3 (h : MIv a) : mUndoF a 3 = a 3 := by
  simp only [mUndoF]
  split
  · rfl
  · simp only [mUndo]
    rw [undoK_hi (Or.inl (by decide)), ua_ne (by decide), ua_ne (by decide)]
theorem mPassF_3 (h : MIv a) (tx : Int → Int) (y : Int) : mPassF a tx y 3 = a 3 := by
  simp only [mPassF]
  split
  · rw [mPassK_lo (by decide) (by decide), mKeep_3 h]
  · rfl
end Th3
/-- what a call of the class needs, at hand -/
def Hd1 (V : Va) (a : Int → Int) : Prop := (V 1 7 = a 0) ∧ (V 1 8 = a 3) ∧ (V 1 9 = a 4) ∧ (V 5 5 = a 1) ∧ (V 5 6 = a 2) ∧ (V 11 2 = a 5) ∧ (0 ≤ V 11 1 ∧ V 11 1 < 20) ∧ (V 134 4 = a 6 ∧ V 134 5 = a 7 ∧ V 134 6 = a 8) ∧ (0 ≤ a 0 ∧ a 0 ≤ 10) ∧ (0 ≤ a 1 ∧ a 1 ≤ 16) ∧ (0 ≤ a 2 ∧ a 2 ≤ 999) ∧ (0 ≤ a 3 ∧ a 3 ≤ 4) ∧ (-1 ≤ a 4 ∧ a 4 ≤ 3) ∧ (0 ≤ a 5 ∧ a 5 ≤ 20) ∧ (0 ≤ a 6 ∧ a 6 ≤ 12) ∧ (0 ≤ a 7 ∧ a 7 ≤ 9 ∧ 1 ≤ a 8 ∧ a 8 ≤ 99)
theorem Hd1.w7 {V : Va} {a : Int → Int} (h : Hd1 V a) : V 1 7 = a 0 := h.1
theorem Hd1.w8 {V : Va} {a : Int → Int} (h : Hd1 V a) : V 1 8 = a 3 := h.2.1
theorem Hd1.w9 {V : Va} {a : Int → Int} (h : Hd1 V a) : V 1 9 = a 4 := h.2.2.1
theorem Hd1.w55 {V : Va} {a : Int → Int} (h : Hd1 V a) : V 5 5 = a 1 := h.2.2.2.1
theorem Hd1.w56 {V : Va} {a : Int → Int} (h : Hd1 V a) : V 5 6 = a 2 := h.2.2.2.2.1
theorem Hd1.w112 {V : Va} {a : Int → Int} (h : Hd1 V a) : V 11 2 = a 5 := h.2.2.2.2.2.1
theorem Hd1.w111 {V : Va} {a : Int → Int} (h : Hd1 V a) : 0 ≤ V 11 1 ∧ V 11 1 < 20 := h.2.2.2.2.2.2.1
theorem Hd1.w134 {V : Va} {a : Int → Int} (h : Hd1 V a) : V 134 4 = a 6 ∧ V 134 5 = a 7 ∧ V 134 6 = a 8 := h.2.2.2.2.2.2.2.1
theorem Hd1.i0 {V : Va} {a : Int → Int} (h : Hd1 V a) : 0 ≤ a 0 ∧ a 0 ≤ 10 := h.2.2.2.2.2.2.2.2.1
theorem Hd1.i1 {V : Va} {a : Int → Int} (h : Hd1 V a) : 0 ≤ a 1 ∧ a 1 ≤ 16 := h.2.2.2.2.2.2.2.2.2.1
theorem Hd1.i2 {V : Va} {a : Int → Int} (h : Hd1 V a) : 0 ≤ a 2 ∧ a 2 ≤ 999 := h.2.2.2.2.2.2.2.2.2.2.1
theorem Hd1.i3 {V : Va} {a : Int → Int} (h : Hd1 V a) : 0 ≤ a 3 ∧ a 3 ≤ 4 := h.2.2.2.2.2.2.2.2.2.2.2.1
theorem Hd1.i4 {V : Va} {a : Int → Int} (h : Hd1 V a) : -1 ≤ a 4 ∧ a 4 ≤ 3 := h.2.2.2.2.2.2.2.2.2.2.2.2.1
theorem Hd1.i5 {V : Va} {a : Int → Int} (h : Hd1 V a) : 0 ≤ a 5 ∧ a 5 ≤ 20 := h.2.2.2.2.2.2.2.2.2.2.2.2.2.1
theorem Hd1.i6 {V : Va} {a : Int → Int} (h : Hd1 V a) : 0 ≤ a 6 ∧ a 6 ≤ 12 := h.2.2.2.2.2.2.2.2.2.2.2.2.2.2.1
theorem Hd1.i7 {V : Va} {a : Int → Int} (h : Hd1 V a) : 0 ≤ a 7 ∧ a 7 ≤ 9 ∧ 1 ≤ a 8 ∧ a 8 ≤ 99 := h.2.2.2.2.2.2.2.2.2.2.2.2.2.2.2
theorem Hd1_of {V : Va} {a : Int → Int} (hW : WSim V 1 a) (hM : MIv a) : Hd1 V a := ⟨hW.1.1, hW.1.2.1, hW.1.2.2, hW.2.2.2.1.1, hW.2.2.2.1.2.1, hW.2.2.2.2.1.1, ⟨hW.2.2.2.2.1.2.1, hW.2.2.2.2.1.2.2.1⟩, ⟨hW.2.2.2.2.2.1, hW.2.2.2.2.2.2.1, hW.2.2.2.2.2.2.2.1⟩, hM.1.2.1, hM.1.2.2.1, hM.1.2.2.2.1, ⟨hM.2.1.1, hM.2.1.2.1⟩, hM.1.2.2.2.2.1, hM.1.2.2.2.2.2.1, hM.2.2.1, hM.2.2.2.1⟩
theorem if_cg {c d : Prop} [Decidable c] [Decidable d] {x y z : Int} (h : c ↔ d) (e : x = y) : (if c then x else z) = (if d then y else z) := by
  by_cases k : c
  · rw [if_pos k, if_pos (h.mp k), e]
  · rw [if_neg k, if_neg (fun q => k (h.mpr q))]
