/-! the law: what holds between two calls -/
theorem mRun_tc {nm op ag op' ag' : Int → Int} : ∀ (m : Nat) (i : Int) (s : ES), (∀ j, i ≤ j → j < i + m → op j = op' j ∧ ag j = ag' j) → mRun nm op ag m i s = mRun nm op' ag' m i s
  | 0, _, _, _ => rfl
  | m + 1, i, s, h => by
    have h0 := h i (by omega) (by omega)
    simp only [mRun]
    rw [h0.1, h0.2]
    exact mRun_tc m (i + 1) _ (fun j a b => h j (by omega) (by omega))
/-- two rows of TEXTS that are the same in TEXT T -/
def AgT (tx tx' : Int → Int) (T : Int) : Prop := ∀ k, 700 * T ≤ k → k < 700 * T + 700 → tx' k = tx k
theorem mClause_tc {a tx tx' : Int → Int} (hg : 0 ≤ a 4 → AgT tx tx' (a 4)) (hw : 0 ≤ a 4 → TW tx (a 4)) (s : Int) : mClause a tx' s = mClause a tx s := by
  simp only [mClause]
  by_cases c : a 4 < 0
  · rw [if_pos c, if_pos c]
  · rw [if_neg c, if_neg c]
    have g := hg (by omega)
    have w := hw (by omega)
    have w2 := w.2.1
    rw [g (700 * a 4) (by omega) (by omega)]
    exact findT_c (fun j j0 j1 => by rw [g (700 * a 4 + 1 + 4 * j) (by omega) (by omega)])
theorem mCl_tc {nm tx tx' v r : Int → Int} {T k : Int} (g : AgT tx tx' T) (k0 : 0 ≤ k) (k1 : k < 24) (ok : okCl tx T k) : mCl nm tx' T k v r = mCl nm tx T k v r := by
  obtain ⟨h1, h2, h3, -⟩ := ok
  simp only [mCl]
  rw [g (700 * T + 1 + 4 * k + 2) (by omega) (by omega), g (700 * T + 1 + 4 * k + 1) (by omega) (by omega)]
  refine mRun_tc _ _ _ (fun j a b => ?_)
  simp only [tOp, tArg]
  exact ⟨g _ (by omega) (by omega), g _ (by omega) (by omega)⟩
theorem mClause_at {a tx : Int → Int} {s : Int} (hw : 0 ≤ a 4 → TW tx (a 4)) (h : ¬ mClause a tx s < 0) (hs : s ≤ 2) : 0 ≤ a 4 ∧ 0 ≤ mClause a tx s ∧ mClause a tx s < 24 ∧ okCl tx (a 4) (mClause a tx s) := by
  have e : mClause a tx s = if a 4 < 0 then -1 else findT (fun k => decide (tx (700 * a 4 + 1 + 4 * k) = s)) (tx (700 * a 4)) := rfl
  by_cases c : a 4 < 0
  · rw [e, if_pos c] at h
    omega
  · rw [if_neg c] at e
    have w := hw (by omega)
    have w2 := w.2.1
    rcases findT_r (fun k => decide (tx (700 * a 4 + 1 + 4 * k) = s)) w.1 with z | z
    · rw [e, z.1] at h
      omega
    · rw [← e] at z
      have t : tx (700 * a 4 + 1 + 4 * mClause a tx s) = s := of_decide_eq_true z.2.2.1
      exact ⟨by omega, z.1, by omega, (w.2.2 _ z.1 z.2.1).2 (by rw [t]; exact hs)⟩
theorem mTru_tc {a tx tx' : Int → Int} {s b o : Int} (hg : 0 ≤ a 4 → AgT tx tx' (a 4)) (hw : 0 ≤ a 4 → TW tx (a 4)) (h : ¬ mClause a tx s < 0) (hs : s ≤ 2) : mTru a tx' (mClause a tx s) b o = mTru a tx (mClause a tx s) b o := by
  have z := mClause_at hw h hs
  simp only [mTru]
  rw [mCl_tc (hg z.1) z.2.1 z.2.2.1 z.2.2.2]
theorem mHoly_tc {a tx tx' : Int → Int} (hg : 0 ≤ a 4 → AgT tx tx' (a 4)) (hw : 0 ≤ a 4 → TW tx (a 4)) (b : Int) : mHoly a tx' b ↔ mHoly a tx b := by
  show (mClause a tx' 1 < 0 ∨ mTru a tx' (mClause a tx' 1) b 0 = 1) ↔ (mClause a tx 1 < 0 ∨ mTru a tx (mClause a tx 1) b 0 = 1)
  rw [mClause_tc hg hw]
  by_cases c : mClause a tx 1 < 0
  · exact ⟨fun _ => Or.inl c, fun _ => Or.inl c⟩
  · rw [mTru_tc hg hw c (by decide)]
theorem mUnl_tc {a tx tx' : Int → Int} (hg : 0 ≤ a 4 → AgT tx tx' (a 4)) (hw : 0 ≤ a 4 → TW tx (a 4)) (x y : Int) : mUnl a tx' x y ↔ mUnl a tx x y := by
  show (¬ mClause a tx' 2 < 0 ∧ (mTru a tx' (mClause a tx' 2) x y = 1 ∨ mTru a tx' (mClause a tx' 2) y x = 1)) ↔ (¬ mClause a tx 2 < 0 ∧ (mTru a tx (mClause a tx 2) x y = 1 ∨ mTru a tx (mClause a tx 2) y x = 1))
  rw [mClause_tc hg hw]
  by_cases c : mClause a tx 2 < 0
  · exact ⟨fun z => absurd c z.1, fun z => absurd c z.1⟩
  · rw [mTru_tc hg hw c (by decide), mTru_tc hg hw c (by decide)]
theorem mMany_tc {a tx tx' : Int → Int} (hg : 0 ≤ a 4 → AgT tx tx' (a 4)) (hw : 0 ≤ a 4 → TW tx (a 4)) (kd : Int) : mMany a tx' kd = mMany a tx kd := by
  have e : mManyK a tx' kd = mManyK a tx kd := by
    simp only [mManyK]
    by_cases c : a 4 < 0
    · rw [if_pos c, if_pos c]
    · rw [if_neg c, if_neg c]
      have g := hg (by omega)
      have w := hw (by omega)
      have w2 := w.2.1
      rw [g (700 * a 4) (by omega) (by omega)]
      exact findT_c (fun j j0 j1 => by rw [g (700 * a 4 + 1 + 4 * j) (by omega) (by omega), g (700 * a 4 + 1 + 4 * j + 1) (by omega) (by omega)])
  simp only [mMany]
  rw [e]
  by_cases c : mManyK a tx kd < 0
  · rw [if_pos c, if_pos c]
  · rw [if_neg c, if_neg c]
    have e2 : mManyK a tx kd = if a 4 < 0 then -1 else findT (fun k => decide (tx (700 * a 4 + 1 + 4 * k) = 3 ∧ tx (700 * a 4 + 1 + 4 * k + 1) = kd)) (tx (700 * a 4)) := rfl
    by_cases c4 : a 4 < 0
    · rw [if_pos c4] at e2
      omega
    · rw [if_neg c4] at e2
      have w := hw (by omega)
      have w2 := w.2.1
      rcases findT_r (fun k => decide (tx (700 * a 4 + 1 + 4 * k) = 3 ∧ tx (700 * a 4 + 1 + 4 * k + 1) = kd)) w.1 with z | z
      · rw [← e2] at z
        omega
      · rw [← e2] at z
        have z1 := z.1
        have z2 := z.2.1
        exact hg (by omega) _ (by omega) (by omega)
theorem mAc_tc {a tx tx' : Int → Int} (hg : 0 ≤ a 4 → AgT tx tx' (a 4)) (hw : 0 ≤ a 4 → TW tx (a 4)) (set : Int) : ∀ n : Nat, mAc a tx' set n = mAc a tx set n
  | 0 => rfl
  | n + 1 => by
    have ih := mAc_tc hg hw set n
    have h := mHoly_tc hg hw (n : Int)
    simp only [mAc]
    by_cases c : mAp a tx set n
    · rw [if_pos c, if_pos (show mAp a tx' set n from ⟨c.1, h.mpr c.2⟩), ih]
    · rw [if_neg c, if_neg (fun z : mAp a tx' set n => c ⟨z.1, h.mp z.2⟩), ih]
theorem mAr_tc {a tx tx' : Int → Int} (hg : 0 ≤ a 4 → AgT tx tx' (a 4)) (hw : 0 ≤ a 4 → TW tx (a 4)) (set : Int) (r : Int → Int) : ∀ n : Nat, mAr a tx' set r n = mAr a tx set r n
  | 0 => rfl
  | n + 1 => by
    have ih := mAr_tc hg hw set r n
    have e := mAc_tc hg hw set n
    have h := mHoly_tc hg hw (n : Int)
    simp only [mAr]
    by_cases c : mAp a tx set n
    · rw [if_pos c, if_pos (show mAp a tx' set n from ⟨c.1, h.mpr c.2⟩), ih, e]
    · rw [if_neg c, if_neg (fun z : mAp a tx' set n => c ⟨z.1, h.mp z.2⟩), ih]
theorem mBr_tc {a tx tx' : Int → Int} (hg : 0 ≤ a 4 → AgT tx tx' (a 4)) (hw : 0 ≤ a 4 → TW tx (a 4)) (s : Int → Int) (i : Int) : ∀ n : Nat, mBr a tx' s i n = mBr a tx s i n
  | 0 => rfl
  | n + 1 => by
    have ih := mBr_tc hg hw s i n
    have h := mUnl_tc hg hw (s i) (s n)
    simp only [mBr]
    by_cases c : i ≠ n ∧ mUnl a tx (s i) (s n)
    · rw [if_pos c, if_pos (show i ≠ n ∧ mUnl a tx' (s i) (s n) from ⟨c.1, h.mpr c.2⟩), ih]
    · rw [if_neg c, if_neg (fun z : i ≠ n ∧ mUnl a tx' (s i) (s n) => c ⟨z.1, h.mp z.2⟩), ih]
theorem ShC_t {a tx tx' : Int → Int} {V : Va} (hg : 0 ≤ a 4 → AgT tx tx' (a 4)) (hw : 0 ≤ a 4 → TW tx (a 4)) (h : ShC a tx V) : ShC a tx' V := by
  have e1 : ∀ s n, mAc a tx' s n = mAc a tx s n := fun s n => mAc_tc hg hw s n
  have e2 : ∀ s r n, mAr a tx' s r n = mAr a tx s r n := fun s r n => mAr_tc hg hw s r n
  have e3 : ∀ s i n, mBr a tx' s i n = mBr a tx s i n := fun s i n => mBr_tc hg hw s i n
  have e4 : ∀ k, mMany a tx' k = mMany a tx k := fun k => mMany_tc hg hw k
  simp only [ShC, ShE, e1, e2, e3, e4]
  simp only [ShC, ShE] at h
  exact h
/-- the TEXTS of a WORLD of the class are the reference's -/
def LS1 (S : Stt) (V : Va) (tx : Int → Int) (T : Int) (id : Nat) (cs : List Cls) : Prop := TxS S id (4 * cs.length) (codeL cs).length ∧ V id 1 = cs.length ∧ TxD cs (V (id + 1)) (V (id + 2)) (V (id + 3)) (V (id + 4)) (V (id + 5)) ∧ (∀ k, InR (V (id + 1) k)) ∧ MTx tx (700 * T) cs
def LSim (S : Stt) (V : Va) (b : Nat) (a tx : Int → Int) : Prop := ∀ T, 0 ≤ T → T < a 3 → ∃ id cs, S.2.1 b T = some id ∧ LS1 S V tx T id cs
theorem LSim_T {S : Stt} {V : Va} {b : Nat} {a tx : Int → Int} (h : LSim S V b a tx) : TSim S V b a tx := fun T t0 t1 => by
  obtain ⟨id, cs, e, h1, h2, h3, h4, h5⟩ := h T t0 t1
  exact ⟨id, _, _, e, h1, TxV_of h5 h3 h2 h4⟩
theorem LSim_W {S : Stt} {V : Va} {b : Nat} {a tx : Int → Int} (h : LSim S V b a tx) : ∀ T, 0 ≤ T → T < a 3 → TW tx T := fun T t0 t1 => by
  obtain ⟨id, cs, e, h1, h2, h3, h4, h5⟩ := h T t0 t1
  exact TW_of h5 h3.2.2.2.2.1 h3.2.2.2.2.2.1 h3.2.2.2.2.2.2
theorem LSim_c {S : Stt} {V V' : Va} {b : Nat} {a a' tx : Int → Int} (h : LSim S V b a tx) (e : ∀ q, 326 ≤ q → q < S.2.2 → V' q = V q) (h3 : a' 3 = a 3) : LSim S V' b a' tx := fun T t0 t1 => by
  obtain ⟨id, cs, e0, h1, h2, h3', h4, h5⟩ := h T t0 (by omega)
  have i0 := h1.1.1
  have i1 := h1.1.2.1
  refine ⟨id, cs, e0, h1, ?_, ?_, ?_, h5⟩
  · rw [e id (by omega) (by omega)]; exact h2
  · rw [e (id + 1) (by omega) (by omega), e (id + 2) (by omega) (by omega), e (id + 3) (by omega) (by omega), e (id + 4) (by omega) (by omega), e (id + 5) (by omega) (by omega)]; exact h3'
  · rw [e (id + 1) (by omega) (by omega)]; exact h4
/-- what holds between two calls, n of them done -/
def INV (n : Int) (S : Stt) (V : Va) : Prop := (Stat S) ∧ (WSim V 1 (V 309) ∧ WB V 1 ∧ MIv (V 309)) ∧ (WSim V 139 (V 310) ∧ WB V 139 ∧ MIv (V 310)) ∧ (V 310 3 ≤ V 309 3) ∧ (LSim S V 133 (V 309) (V 311)) ∧ (LSim S V 271 (V 310) (V 311)) ∧ (∀ k j, S.2.1 133 k = some j → S.1 j = (13, 0) ∧ j < S.2.2) ∧ (∀ k j, S.2.1 271 k = some j → S.1 j = (13, 0) ∧ j < S.2.2) ∧ (AB (V 311) ∧ AB (V 313) ∧ AB (V 314) ∧ TRb (V 316) ∧ TRb (V 323)) ∧ (V 278 = V 312 ∧ V 277 1 = V 308 4 ∧ (0 ≤ V 308 4 ∧ V 308 4 ≤ 300) ∧ (∀ k, 0 ≤ V 312 k ∧ V 312 k < 256) ∧ V 277 2 = V 308 5 ∧ V 277 3 = V 308 6) ∧ (InR (V 308 5) ∧ InR (V 308 6)) ∧ ((0 ≤ V 308 10 ∧ V 308 10 < 1000000) ∧ 0 ≤ V 308 11 ∧ V 308 11 < 72057594037927936) ∧ ((0 ≤ V 1 10 ∧ V 1 10 ≤ 24 * n) ∧ 0 ≤ V 139 10 ∧ V 139 10 ≤ n) ∧ (ShC (V 309) (V 311) V ∧ ShK V) ∧ (PsI (V 309) V) ∧ (RdB V ∧ RdC (V 309) V)
theorem INV.st {n : Int} {S : Stt} {V : Va} (h : INV n S V) : Stat S := h.1
theorem INV.now {n : Int} {S : Stt} {V : Va} (h : INV n S V) : WSim V 1 (V 309) ∧ WB V 1 ∧ MIv (V 309) := h.2.1
theorem INV.img {n : Int} {S : Stt} {V : Va} (h : INV n S V) : WSim V 139 (V 310) ∧ WB V 139 ∧ MIv (V 310) := h.2.2.1
theorem INV.le3 {n : Int} {S : Stt} {V : Va} (h : INV n S V) : V 310 3 ≤ V 309 3 := h.2.2.2.1
theorem INV.tx {n : Int} {S : Stt} {V : Va} (h : INV n S V) : LSim S V 133 (V 309) (V 311) := h.2.2.2.2.1
theorem INV.txi {n : Int} {S : Stt} {V : Va} (h : INV n S V) : LSim S V 271 (V 310) (V 311) := h.2.2.2.2.2.1
theorem INV.tr {n : Int} {S : Stt} {V : Va} (h : INV n S V) : ∀ k j, S.2.1 133 k = some j → S.1 j = (13, 0) ∧ j < S.2.2 := h.2.2.2.2.2.2.1
theorem INV.tri {n : Int} {S : Stt} {V : Va} (h : INV n S V) : ∀ k j, S.2.1 271 k = some j → S.1 j = (13, 0) ∧ j < S.2.2 := h.2.2.2.2.2.2.2.1
theorem INV.ab {n : Int} {S : Stt} {V : Va} (h : INV n S V) : AB (V 311) ∧ AB (V 313) ∧ AB (V 314) ∧ TRb (V 316) ∧ TRb (V 323) := h.2.2.2.2.2.2.2.2.1
theorem INV.rd {n : Int} {S : Stt} {V : Va} (h : INV n S V) : V 278 = V 312 ∧ V 277 1 = V 308 4 ∧ (0 ≤ V 308 4 ∧ V 308 4 ≤ 300) ∧ (∀ k, 0 ≤ V 312 k ∧ V 312 k < 256) ∧ V 277 2 = V 308 5 ∧ V 277 3 = V 308 6 := h.2.2.2.2.2.2.2.2.2.1
theorem INV.fa {n : Int} {S : Stt} {V : Va} (h : INV n S V) : InR (V 308 5) ∧ InR (V 308 6) := h.2.2.2.2.2.2.2.2.2.2.1
theorem INV.nu {n : Int} {S : Stt} {V : Va} (h : INV n S V) : (0 ≤ V 308 10 ∧ V 308 10 < 1000000) ∧ 0 ≤ V 308 11 ∧ V 308 11 < 72057594037927936 := h.2.2.2.2.2.2.2.2.2.2.2.1
theorem INV.ch {n : Int} {S : Stt} {V : Va} (h : INV n S V) : (0 ≤ V 1 10 ∧ V 1 10 ≤ 24 * n) ∧ 0 ≤ V 139 10 ∧ V 139 10 ≤ n := h.2.2.2.2.2.2.2.2.2.2.2.2.1
theorem INV.sh {n : Int} {S : Stt} {V : Va} (h : INV n S V) : ShC (V 309) (V 311) V ∧ ShK V := h.2.2.2.2.2.2.2.2.2.2.2.2.2.1
theorem INV.ps {n : Int} {S : Stt} {V : Va} (h : INV n S V) : PsI (V 309) V := h.2.2.2.2.2.2.2.2.2.2.2.2.2.2.1
theorem INV.ro {n : Int} {S : Stt} {V : Va} (h : INV n S V) : RdB V ∧ RdC (V 309) V := h.2.2.2.2.2.2.2.2.2.2.2.2.2.2.2
theorem INV.T {n : Int} {S : Stt} {V : Va} (h : INV n S V) : TSim S V 133 (V 309) (V 311) := LSim_T h.tx
theorem INV.W {n : Int} {S : Stt} {V : Va} (h : INV n S V) : 0 ≤ V 309 4 → TW (V 311) (V 309 4) := fun z => LSim_W h.tx _ z h.now.2.2.2.1.2.2
/-- the caches are void, or as they were -/
theorem ShC_v {a tx : Int → Int} {V : Va} (h : V 289 11 < V 1 10) : ShC a tx V := fun z _ => by omega
theorem ShK_v {V V' : Va} (h : ShK V) (e : V' 289 = V 289) (l : V 1 10 ≤ V' 1 10) : ShK V' := by
  obtain ⟨h1, h2, h3, h4⟩ := h
  refine ⟨?_, ?_, ?_, ?_⟩ <;> rw [e] <;> first | assumption | omega
theorem PsI_v {a a' : Int → Int} {V V' : Va} (h : PsI a V) (e : V' 301 = V 301) (e2 : V' 297 = V 297) (l : V 1 10 < V' 1 10) : PsI a' V' := by
  obtain ⟨h1, h2, h3, h4⟩ := h
  refine ⟨by rw [e]; exact h1, fun z => ?_, by rw [e2]; exact h3, by rw [e2]; omega⟩
  rw [e2] at z
  omega
theorem RdC_v {a a' : Int → Int} {V V' : Va} (h : RdC a V) (e : V' 303 = V 303) (l : V 1 10 < V' 1 10) : RdC a' V' := by
  obtain ⟨h1, h2, h3⟩ := h
  refine ⟨fun z => ?_, by rw [e]; exact h2, by rw [e]; omega⟩
  rw [e] at z
  omega
theorem RdB_v {V V' : Va} (h : RdB V) (e : V' 306 = V 306) (e2 : V' 307 = V 307) : RdB V' := by
  obtain ⟨h1, h2⟩ := h
  exact ⟨by rw [e]; exact h1, by rw [e2]; exact h2⟩
/-- a call that changes the WORLD now -/
theorem INV_w {n : Int} {S : Stt} {V V1 V2 : Va} {a' : Int → Int} (h : INV n S V) (hW : WSim V1 1 a') (hB : WB V1 1) (hM : MIv a') (hF : FrM V V1) (h3 : a' 3 = V 309 3) (hc : V 1 10 < V1 1 10 ∧ V1 1 10 ≤ V 1 10 + 24)
    (e9 : V2 309 = a') (e4 : AB (V2 314)) (e6 : TRb (V2 316)) (er : ∀ q : Nat, q ≠ 309 → q ≠ 314 → q ≠ 315 → q ≠ 316 → V2 q = V1 q) : INV (n + 1) S V2 := by
  have f : ∀ q : Nat, q = 0 ∨ 138 < q → q ≠ 287 → q ≠ 288 → q ≠ 309 → q ≠ 314 → q ≠ 315 → q ≠ 316 → V2 q = V q := fun q a b c d1 d2 d3 d4 => (er q d1 d2 d3 d4).trans (hF q a b c)
  have r1 : V2 1 = V1 1 := er 1 (by decide) (by decide) (by decide) (by decide)
  have hsh := h.sh
  have hro := h.ro
  obtain ⟨k1, k2, k3, k4⟩ := hsh.2
  have r289 : V2 289 = V 289 := f 289 (by omega) (by decide) (by decide) (by decide) (by decide) (by decide) (by decide)
  have r308 : V2 308 = V 308 := f 308 (by omega) (by decide) (by decide) (by decide) (by decide) (by decide) (by decide)
  have r310 : V2 310 = V 310 := f 310 (by omega) (by decide) (by decide) (by decide) (by decide) (by decide) (by decide)
  have r311 : V2 311 = V 311 := f 311 (by omega) (by decide) (by decide) (by decide) (by decide) (by decide) (by decide)
  have r312 : V2 312 = V 312 := f 312 (by omega) (by decide) (by decide) (by decide) (by decide) (by decide) (by decide)
  have r313 : V2 313 = V 313 := f 313 (by omega) (by decide) (by decide) (by decide) (by decide) (by decide) (by decide)
  have r323 : V2 323 = V 323 := f 323 (by omega) (by decide) (by decide) (by decide) (by decide) (by decide) (by decide)
  have r277 : V2 277 = V 277 := f 277 (by omega) (by decide) (by decide) (by decide) (by decide) (by decide) (by decide)
  have r278 : V2 278 = V 278 := f 278 (by omega) (by decide) (by decide) (by decide) (by decide) (by decide) (by decide)
  have r139 : V2 139 = V 139 := f 139 (by omega) (by decide) (by decide) (by decide) (by decide) (by decide) (by decide)
  have hch := h.ch
  refine ⟨h.st, ?_, ?_, ?_, ?_, ?_, h.tr, h.tri, ?_, ?_, ?_, ?_, ?_, ?_, ?_, ?_⟩
  · rw [e9]
    exact ⟨WSim_c (fun q q0 q1 => er q (by omega) (by omega) (by omega) (by omega)) hW, WB_c (fun q q0 q1 => er q (by omega) (by omega) (by omega) (by omega)) hB, hM⟩
  · rw [r310]
    exact ⟨WSim_c (fun q q0 q1 => f q (by omega) (by omega) (by omega) (by omega) (by omega) (by omega) (by omega)) h.img.1, WB_c (fun q q0 q1 => f q (by omega) (by omega) (by omega) (by omega) (by omega) (by omega) (by omega)) h.img.2.1, h.img.2.2⟩
  · rw [r310, e9, h3]; exact h.le3
  · rw [e9, r311]
    exact LSim_c h.tx (fun q q0 q1 => f q (by omega) (by omega) (by omega) (by omega) (by omega) (by omega) (by omega)) h3
  · rw [r310, r311]
    exact LSim_c h.txi (fun q q0 q1 => f q (by omega) (by omega) (by omega) (by omega) (by omega) (by omega) (by omega)) rfl
  · rw [r311, r313, r323]
    exact ⟨h.ab.1, h.ab.2.1, e4, e6, h.ab.2.2.2.2⟩
  · rw [r277, r278, r308, r312]; exact h.rd
  · rw [r308]; exact h.fa
  · rw [r308]; exact h.nu
  · rw [r1, r139]; omega
  · exact ⟨ShC_v (by rw [r289, r1]; omega), ShK_v hsh.2 r289 (by rw [r1]; omega)⟩
  · exact PsI_v h.ps (f 301 (by omega) (by decide) (by decide) (by decide) (by decide) (by decide) (by decide)) (f 297 (by omega) (by decide) (by decide) (by decide) (by decide) (by decide) (by decide)) (by rw [r1]; omega)
  · exact ⟨RdB_v hro.1 (f 306 (by omega) (by decide) (by decide) (by decide) (by decide) (by decide) (by decide)) (f 307 (by omega) (by decide) (by decide) (by decide) (by decide) (by decide) (by decide)), RdC_v hro.2 (f 303 (by omega) (by decide) (by decide) (by decide) (by decide) (by decide) (by decide)) (by rw [r1]; omega)⟩
