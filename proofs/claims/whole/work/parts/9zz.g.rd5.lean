theorem cVl_q {T : Int → Int} (hT : ∀ k, 0 ≤ T k ∧ T k < 256) {n p : Int} (hp : p ≤ n) : (0 ≤ cVl T n p ∧ cVl T n p ≤ 10000) ∧ (tTok T n p = 1 → (cVl T n p ≤ 9999 ↔ tNum T n p ≤ 9999) ∧ (tNum T n p ≤ 9999 → cVl T n p = tNum T n p)) := by
  have t := (tok_r hT hp).2.2.2.2.2.2.2.1
  simp only [cVl]
  by_cases c : tTok T n p = 1
  · have r := t c
    rw [if_pos c]
    (repeat' split) <;> omega
  · rw [if_neg c]
    exact ⟨by omega, fun z => absurd z c⟩
theorem TkR_lt {T : Int → Int} {n : Int} {N i : Nat} {tk sr vl : Int → Int} (h : TkR T n N tk sr vl) (hi : i ≤ N) (ht : tTok T n (pos T n i) ≠ 0) : i < N := by
  rcases Nat.lt_or_ge i N with z | z
  · exact z
  · rw [show i = N by omega] at ht
    exact absurd h.2.2.2 ht
theorem TkR_r {T : Int → Int} {n x : Int} {N : Nat} {tk sr vl : Int → Int} (h : TkR T n N tk sr vl) (h0 : 0 ≤ x) (h1 : x ≤ N) : 0 ≤ tk x ∧ tk x ≤ 39 := by
  have q := (h.2.1 x.toNat (by omega)).1
  rw [show ((x.toNat : Nat) : Int) = x by omega] at q
  rw [q]
  exact cTk_r _ _ _
section TkQ
variable {T : Int → Int} {n p t : Int}
/-- what the class's number of a TOKEN says -/
theorem tk_q (h : t = cTk T n p) : (t = 0 ↔ tTok T n p = 0) ∧ (t = 2 ↔ tTok T n p = 1) ∧ (t = 3 ↔ tTok T n p = 59) ∧ (t = 4 ↔ tTok T n p = 40) ∧ (t = 5 ↔ tTok T n p = 41) ∧ (t = 6 ↔ tTok T n p = 43) ∧ (t = 7 ↔ tTok T n p = 45) ∧ (t = 8 ↔ tTok T n p = 42) ∧ (t = 9 ↔ tTok T n p = 47) ∧ (32 ≤ t ↔ 0 ≤ tNm T n p) ∧ (0 ≤ tNm T n p → t = 32 + tNm T n p) ∧ (0 ≤ t ∧ t ≤ 39) ∧ (-1 ≤ tNm T n p ∧ tNm T n p ≤ 7) := by
  subst h
  obtain ⟨b0, b1, b2, b3, b4, b5, b6, b7⟩ := cSg_r (tTok T n p)
  exact ⟨cTk_0, cTk_2, cTk_s (by decide) (by decide) b1, cTk_s (by decide) (by decide) b2, cTk_s (by decide) (by decide) b3, cTk_s (by decide) (by decide) b4, cTk_s (by decide) (by decide) b5, cTk_s (by decide) (by decide) b6, cTk_s (by decide) (by decide) b7, cTk_nm.1, cTk_nm.2, cTk_r T n p, nmOf_r _ _⟩
end TkQ
/-- the same, hidden -/
def TkQ (T : Int → Int) (n p t : Int) : Prop := t = cTk T n p
theorem TkQ_mk {T : Int → Int} {n p t : Int} (h : t = cTk T n p) : TkQ T n p t := h
section Tkq
variable {T : Int → Int} {n p t : Int}
theorem TkQ.r (h : TkQ T n p t) : 0 ≤ t ∧ t ≤ 39 := (tk_q h).2.2.2.2.2.2.2.2.2.2.2.1
theorem TkQ.nr (h : TkQ T n p t) : -1 ≤ tNm T n p ∧ tNm T n p ≤ 7 := (tk_q h).2.2.2.2.2.2.2.2.2.2.2.2
theorem TkQ.a0 (h : TkQ T n p t) (e : t = 0) : tTok T n p = 0 := (tk_q h).1.mp e
theorem TkQ.b0 (h : TkQ T n p t) (e : t ≠ 0) : tTok T n p ≠ 0 := fun z => e ((tk_q h).1.mpr z)
theorem TkQ.a2 (h : TkQ T n p t) (e : t = 2) : tTok T n p = 1 := (tk_q h).2.1.mp e
theorem TkQ.b2 (h : TkQ T n p t) (e : t ≠ 2) : tTok T n p ≠ 1 := fun z => e ((tk_q h).2.1.mpr z)
theorem TkQ.a3 (h : TkQ T n p t) (e : t = 3) : tTok T n p = 59 := (tk_q h).2.2.1.mp e
theorem TkQ.b3 (h : TkQ T n p t) (e : t ≠ 3) : tTok T n p ≠ 59 := fun z => e ((tk_q h).2.2.1.mpr z)
theorem TkQ.a4 (h : TkQ T n p t) (e : t = 4) : tTok T n p = 40 := (tk_q h).2.2.2.1.mp e
theorem TkQ.b4 (h : TkQ T n p t) (e : t ≠ 4) : tTok T n p ≠ 40 := fun z => e ((tk_q h).2.2.2.1.mpr z)
theorem TkQ.a6 (h : TkQ T n p t) (e : t = 6) : tTok T n p = 43 := (tk_q h).2.2.2.2.2.1.mp e
theorem TkQ.b6 (h : TkQ T n p t) (e : t ≠ 6) : tTok T n p ≠ 43 := fun z => e ((tk_q h).2.2.2.2.2.1.mpr z)
theorem TkQ.a7 (h : TkQ T n p t) (e : t = 7) : tTok T n p = 45 := (tk_q h).2.2.2.2.2.2.1.mp e
theorem TkQ.b7 (h : TkQ T n p t) (e : t ≠ 7) : tTok T n p ≠ 45 := fun z => e ((tk_q h).2.2.2.2.2.2.1.mpr z)
theorem TkQ.a8 (h : TkQ T n p t) (e : t = 8) : tTok T n p = 42 := (tk_q h).2.2.2.2.2.2.2.1.mp e
theorem TkQ.b8 (h : TkQ T n p t) (e : t ≠ 8) : tTok T n p ≠ 42 := fun z => e ((tk_q h).2.2.2.2.2.2.2.1.mpr z)
theorem TkQ.a9 (h : TkQ T n p t) (e : t = 9) : tTok T n p = 47 := (tk_q h).2.2.2.2.2.2.2.2.1.mp e
theorem TkQ.b9 (h : TkQ T n p t) (e : t ≠ 9) : tTok T n p ≠ 47 := fun z => e ((tk_q h).2.2.2.2.2.2.2.2.1.mpr z)
theorem TkQ.an (h : TkQ T n p t) (e : 32 ≤ t) : 0 ≤ tNm T n p := (tk_q h).2.2.2.2.2.2.2.2.2.1.mp e
theorem TkQ.bn (h : TkQ T n p t) (e : t < 32) : tNm T n p < 0 := by
  rcases Int.lt_or_le (tNm T n p) 0 with z | z
  · exact z
  · have := (tk_q h).2.2.2.2.2.2.2.2.2.1.mpr z
    omega
theorem TkQ.en (h : TkQ T n p t) (e : 0 ≤ tNm T n p) : t = 32 + tNm T n p := (tk_q h).2.2.2.2.2.2.2.2.2.2.1 e
theorem TkQ.w (h : TkQ T n p t) {k : Nat} (hk : k < 24) {w : Int} (hw : WV.getD k 0 = w) : t = 16 + k ↔ (tTok T n p = 2 ∧ tWd T n p = w) := by
  have h : t = cTk T n p := h
  rw [h]
  exact cTk_w hk hw
end Tkq
def UQ (x u : Int) : Prop := x = if u = 2 then 1 else 0
theorem UQ_mk {x u : Int} (h : x = if u = 2 then 1 else 0) : UQ x u := h
theorem UQ_un {x u : Int} (h : UQ x u) : x = if u = 2 then 1 else 0 := h
theorem UQ.r {x u : Int} (h : UQ x u) : 0 ≤ x ∧ x ≤ 1 := by
  have h : x = if u = 2 then 1 else 0 := h
  rw [h]
  split <;> omega
theorem UQ.x {x u : Int} (h : UQ x u) (e : x ≠ 0) : u = 2 := by
  have h : x = if u = 2 then 1 else 0 := h
  rw [h] at e
  split at e
  · assumption
  · omega
theorem UQ.y {x u : Int} (h : UQ x u) (e : u = 2) : x = 1 := by
  have h : x = if u = 2 then 1 else 0 := h
  rw [h, if_pos e]
theorem SuI_q {T : Int → Int} {n u o : Int} {N i : Nat} {f0 cd0 f cd : Int → Int} {w c : Int} (I : SuI T n u o N i f0 cd0 w c f cd) (hN : N ≤ 300) (h13 : 0 ≤ f0 13 ∧ f0 13 ≤ i) (hc : 0 ≤ c) : (0 ≤ f 2 ∧ f 2 < 10) ∧ (0 ≤ f 8 ∧ f 8 ≤ N) ∧ (0 ≤ f 13 ∧ f 13 ≤ 300) ∧ (f 2 = 0 → i + 2 * c < f 8) ∧ f 7 = f0 7 ∧ f 9 = f0 9 ∧ (w = 0 ∨ w = 6 ∨ w = 7) := by
  obtain ⟨w0, g0, ⟨j, em, g1, g2, g3, g4, g5, g6, g7, g8, g9⟩ | ⟨q, g1, g2, g3, g4, g5, g6⟩⟩ := I
  · refine ⟨by omega, by omega, ?_, fun _ => by omega, g0 7 (by decide) (by decide) (by decide) (by decide), g0 9 (by decide) (by decide) (by decide) (by decide), w0⟩
    split at g7 <;> omega
  · exact ⟨g3, g5, g6, fun z => absurd z g2, g0 7 (by decide) (by decide) (by decide) (by decide), g0 9 (by decide) (by decide) (by decide) (by decide), w0⟩
theorem CP_q {T : Int → Int} {n : Int} {N i : Nat} {R : Rs → Prop} {f cd f1 cd1 : Int → Int} (h : CP T n N i R f cd f1 cd1) (hN : N ≤ 300) (h13 : 0 ≤ f 13 ∧ f 13 ≤ i) : (0 ≤ f1 2 ∧ f1 2 < 10) ∧ (0 ≤ f1 8 ∧ f1 8 ≤ N) ∧ (0 ≤ f1 13 ∧ f1 13 ≤ 300) ∧ f1 7 = f 7 ∧ f1 9 = f 9 := by
  obtain ⟨g0, ⟨j, em, g1, g2, g3, g4, g5, g6, g7, g8, g9⟩ | ⟨q, g1, g2, g3, g4, g5, g6⟩⟩ := h
  · exact ⟨by omega, by omega, by omega, g0 7 (by decide) (by decide) (by decide) (by decide), g0 9 (by decide) (by decide) (by decide) (by decide)⟩
  · exact ⟨g3, g5, g6, g0 7 (by decide) (by decide) (by decide) (by decide), g0 9 (by decide) (by decide) (by decide) (by decide)⟩
def OneC (B : Bs) (S : Stt) (T : Int → Int) (n u : Int) (N d : Nat) : Prop := ∀ (V : Va) (i : Nat), RdH T n N V → RdS (V 277) i N u → C B yX3_readOne cX3_readOne 4 none (2 * d + 3) 0 0 [vR B 277, vI (8 - (d : Int))] S V (rCP S V (CP T n N i (G T n u 0 (8 - (d : Int)) 0 (pos T n i)) (V 277) (V 283)))
def SumC (B : Bs) (S : Stt) (T : Int → Int) (n u : Int) (N d : Nat) : Prop := ∀ (V : Va) (i : Nat), RdH T n N V → RdS (V 277) i N u → C B yX3_readSum cX3_readSum 6 none (2 * d + 4) 0 0 [vR B 277, vI (8 - (d : Int))] S V (rCP S V (CP T n N i (G T n u 1 (8 - (d : Int)) 0 (pos T n i)) (V 277) (V 283)))
