/-! a word is looked up -/
def wdW (T : Int → Int) (s b : Int) : Int := if 7 < b - s then 0 else wdK T s (b - s).toNat
def Mt (T : Int → Int) (s b : Int) (e : Nat) : Prop := b - s = e - wo e ∧ ∀ j : Nat, j < e - wo e → T (s + j) = sB 1 (wo e + j)
theorem wdK_c {T U : Int → Int} {s r : Int} : ∀ k : Nat, (∀ j : Nat, j < k → T (s + j) = U (r + j)) → wdK T s k = wdK U r k
  | 0, _ => rfl
  | k + 1, h => by
    simp only [wdK]
    rw [wdK_c k (fun j hj => h j (by omega)), h k (by omega)]
theorem wlt_r {T : Int → Int} {s b : Int} (hl : ∀ j, s ≤ j → j < b → isLt (T j)) (j : Nat) (hj : (j : Int) < b - s) : 0 < T (s + j) ∧ T (s + j) < 256 := by
  have := hl (s + j) (by omega) (by omega)
  omega
theorem Mt_iff {T : Int → Int} {s b : Int} (hs : s < b) (hl : ∀ j, s ≤ j → j < b → isLt (T j)) {e : Nat} (he : e < 125) (h32 : sB 1 e = 32) : Mt T s b e ↔ wdW T s b = WV.getD (wi e) 0 := by
  obtain ⟨t1, t2, t3, t4⟩ := wtab ⟨e, he⟩ h32
  simp only at t1 t2 t3 t4
  have wl := wo_le e
  have hU : ∀ j : Nat, j < e - wo e → 0 < sB 1 (wo e + j) ∧ sB 1 (wo e + j) < 256 := fun j hj => by
    have h1 := (wlet ⟨e, he⟩).2 ⟨wo e + j, by omega⟩ (by simp) (by simp only; omega)
    have h2 := sB1_r (wo e + j) (by omega)
    simp only at h1
    rw [show ((wo e + j : Nat) : Int) = (wo e : Int) + (j : Int) by omega] at h1 h2
    omega
  constructor
  · rintro ⟨m1, m2⟩
    simp only [wdW]
    rw [if_neg (by omega), show (b - s).toNat = e - wo e by omega, ← t4]
    refine wdK_c _ (fun j hj => ?_)
    rw [m2 j hj, Int.zero_add]
  · intro h
    have nz : WV.getD (wi e) 0 ≠ 0 := (WV_all ⟨wi e, t1⟩).2.2.2
    by_cases c : 7 < b - s
    · simp only [wdW] at h
      rw [if_pos c] at h
      exact absurd h.symm nz
    · simp only [wdW] at h
      rw [if_neg c, ← t4] at h
      have u := wd_uniq (T := T) (U := fun j => sB 1 (wo e + j)) (s := s) (b - s).toNat (e - wo e) (by omega) t3 (fun j hj => wlt_r hl j (by omega)) hU h
      exact ⟨by omega, fun j hj => u.2 j (by omega)⟩
theorem Mt_yes {T : Int → Int} {s b : Int} (hs : s < b) (hl : ∀ j, s ≤ j → j < b → isLt (T j)) {e : Nat} (he : e < 125) (h32 : sB 1 e = 32) (h : Mt T s b e) : cWd (wdW T s b) = 16 + wi e := (cWd_k _ _ (wtab ⟨e, he⟩ h32).1).mpr ((Mt_iff hs hl he h32).mp h)
theorem Mt_no {T : Int → Int} {s b : Int} (hs : s < b) (hl : ∀ j, s ≤ j → j < b → isLt (T j)) (h : ∀ e : Nat, e < 125 → sB 1 e = 32 → ¬ Mt T s b e) : cWd (wdW T s b) = 1 := by
  rcases WV_or (wdW T s b) with ⟨k, hk, e⟩ | z
  · obtain ⟨q, q1, q2⟩ := wtab2 ⟨k, hk⟩
    simp only at q2
    exact absurd ((Mt_iff hs hl q.isLt q1).mpr (by rw [e, q2])) (h q.val q.isLt q1)
  · exact cWdL_no _ _ z
/-- where the look-up stands -/
def WoI (T : Int → Int) (s b k i like : Int) : Prop := (∀ e : Nat, (e : Int) < k → sB 1 e = 32 → ¬ Mt T s b e) ∧ ((like = 1 ∧ i = s + (k.toNat - wo k.toNat : Nat) ∧ ∀ j : Nat, j < k.toNat - wo k.toNat → s + j < b ∧ T (s + j) = sB 1 (wo k.toNat + j)) ∨ (like = 0 ∧ ∃ j : Nat, j < k.toNat - wo k.toNat ∧ ¬ (s + j < b ∧ T (s + j) = sB 1 (wo k.toNat + j))))
theorem WoI_0 {T : Int → Int} {s b : Int} : WoI T s b 0 s 1 := ⟨fun e he => by omega, Or.inl ⟨rfl, by simp [wo], fun j hj => by simp at hj⟩⟩
section Wo
variable {T : Int → Int} {s b k i like : Int}
theorem wo_sp {k : Int} (h0 : 0 ≤ k) (h : sB 1 k = 32) : wo (k + 1).toNat = k.toNat + 1 ∧ wi (k + 1).toNat = wi k.toNat + 1 := by
  rw [show (k + 1).toNat = k.toNat + 1 by omega]
  simp only [wo, wi]
  rw [show ((k.toNat : Nat) : Int) = k by omega, if_pos h, if_pos h]
  exact ⟨rfl, rfl⟩
theorem wo_ns {k : Int} (h0 : 0 ≤ k) (h : ¬ sB 1 k = 32) : wo (k + 1).toNat = wo k.toNat ∧ wi (k + 1).toNat = wi k.toNat := by
  rw [show (k + 1).toNat = k.toNat + 1 by omega]
  simp only [wo, wi]
  rw [show ((k.toNat : Nat) : Int) = k by omega, if_neg h, if_neg h]
  exact ⟨rfl, rfl⟩
theorem WoI_m (h0 : 0 ≤ k) (I : WoI T s b k i like) (hl : like = 1) (hb : i = b) : Mt T s b k.toNat := by
  have wl := wo_le k.toNat
  rcases I.2 with ⟨-, i2, i3⟩ | z
  · exact ⟨by omega, fun j hj => (i3 j hj).2⟩
  · omega
theorem WoI_sp (h0 : 0 ≤ k) (h : sB 1 k = 32) (I : WoI T s b k i like) (hn : ¬ (like = 1 ∧ i = b)) : WoI T s b (k + 1) s 1 := by
  have w := wo_sp h0 h
  have wl := wo_le k.toNat
  refine ⟨fun e he h32 m => ?_, Or.inl ⟨rfl, by rw [w.1]; omega, fun j hj => by rw [w.1] at hj; omega⟩⟩
  by_cases c : (e : Int) < k
  · exact I.1 e c h32 m
  · have e1 : e = k.toNat := by omega
    rcases I.2 with ⟨i1, i2, i3⟩ | ⟨i1, j, j1, j2⟩
    · refine hn ⟨i1, ?_⟩
      have := m.1
      rw [e1] at this
      omega
    · rw [e1] at m
      exact j2 ⟨by have := m.1; omega, m.2 j j1⟩
theorem WoI_no (h0 : 0 ≤ k) (h : ¬ sB 1 k = 32) (I : WoI T s b k i 0) : WoI T s b (k + 1) i 0 := by
  have w := wo_ns h0 h
  have wl := wo_le k.toNat
  refine ⟨fun e he h32 m => ?_, Or.inr ⟨rfl, ?_⟩⟩
  · by_cases c : (e : Int) < k
    · exact I.1 e c h32 m
    · have e1 : (e : Int) = k := by omega
      rw [e1] at h32
      exact h h32
  · rcases I.2 with z | ⟨-, j, j1, j2⟩
    · omega
    · exact ⟨j, by rw [w.1]; omega, by rw [w.1]; exact j2⟩
theorem WoI_y (h0 : 0 ≤ k) (h : ¬ sB 1 k = 32) (I : WoI T s b k i like) (hl : like ≠ 0) (hy : i < b ∧ T i = sB 1 k) : WoI T s b (k + 1) (i + 1) 1 := by
  have w := wo_ns h0 h
  have wl := wo_le k.toNat
  rcases I.2 with ⟨i1, i2, i3⟩ | z
  · refine ⟨fun e he h32 m => ?_, Or.inl ⟨rfl, by rw [w.1]; omega, fun j hj => ?_⟩⟩
    · by_cases c : (e : Int) < k
      · exact I.1 e c h32 m
      · have e1 : (e : Int) = k := by omega
        rw [e1] at h32
        exact h h32
    · rw [w.1] at hj ⊢
      by_cases c : j < k.toNat - wo k.toNat
      · exact i3 j c
      · have e1 : s + (j : Int) = i := by omega
        have e2 : (wo k.toNat : Int) + (j : Int) = k := by omega
        rw [e1, e2]
        exact hy
  · omega
theorem WoI_x (h0 : 0 ≤ k) (h : ¬ sB 1 k = 32) (I : WoI T s b k i like) (hl : like ≠ 0) (hy : ¬ (i < b ∧ T i = sB 1 k)) : WoI T s b (k + 1) (i + 1) 0 := by
  have w := wo_ns h0 h
  have wl := wo_le k.toNat
  rcases I.2 with ⟨i1, i2, i3⟩ | z
  · refine ⟨fun e he h32 m => ?_, Or.inr ⟨rfl, k.toNat - wo k.toNat, by rw [w.1]; omega, ?_⟩⟩
    · by_cases c : (e : Int) < k
      · exact I.1 e c h32 m
      · have e1 : (e : Int) = k := by omega
        rw [e1] at h32
        exact h h32
    · rw [w.1]
      have e1 : s + ((k.toNat - wo k.toNat : Nat) : Int) = i := by omega
      have e2 : (wo k.toNat : Int) + ((k.toNat - wo k.toNat : Nat) : Int) = k := by omega
      rw [e1, e2]
      exact hy
  · omega
theorem WoI_l (I : WoI T s b k i like) : like = 0 ∨ like = 1 := I.2.elim (fun z => Or.inr z.1) (fun z => Or.inl z.1)
end Wo
theorem wi_le : ∀ k : Nat, wi k ≤ k
  | 0 => Nat.le_refl _
  | k + 1 => by
    have := wi_le k
    simp only [wi]
    split <;> omega
/-- the SIGNS -/
theorem sgn_c {c : Int} (h : 0 ≤ c ∧ c < 256) : (findT (fun zz => decide (sB 0 zz = c)) 11 < 0 → ¬ isSg c) ∧ (0 ≤ findT (fun zz => decide (sB 0 zz = c)) 11 → isSg c ∧ 3 + findT (fun zz => decide (sB 0 zz = c)) 11 = cSg c ∧ findT (fun zz => decide (sB 0 zz = c)) 11 < 11) := by
  have key : ∀ n : Fin 256, (findT (fun zz => decide (sB 0 zz = (n.val : Int))) 11 < 0 → ¬ isSg (n.val : Int)) ∧ (0 ≤ findT (fun zz => decide (sB 0 zz = (n.val : Int))) 11 → isSg (n.val : Int) ∧ 3 + findT (fun zz => decide (sB 0 zz = (n.val : Int))) 11 = cSg (n.val : Int) ∧ findT (fun zz => decide (sB 0 zz = (n.val : Int))) 11 < 11) := by decide +kernel
  have k := key ⟨c.toNat, by omega⟩
  simp only at k
  rw [show ((c.toNat : Nat) : Int) = c by omega] at k
  exact k
/-- a number, cut -/
def nmC (T : Int → Int) (s : Int) (k : Nat) : Int := if 10000 < nmK T s k then 10000 else nmK T s k
theorem nmC_s {T : Int → Int} {s : Int} {k : Nat} (h0 : 0 ≤ nmK T s k) (hd : isDg (T (s + k))) : (if 10000 < nmC T s k * 10 + T (s + k) - 48 then 10000 else nmC T s k * 10 + T (s + k) - 48) = nmC T s (k + 1) := by
  simp only [nmC, nmK]
  (repeat' split) <;> omega
