/-! the class's TOKENS -/
def pos (T : Int → Int) (n : Int) : Nat → Int
  | 0 => 0
  | k + 1 => tNx T n (pos T n k)
def cWdL : List Int → Int → Int → Int
  | [], _, _ => 1
  | v :: L, i, w => if w = v then i else cWdL L (i + 1) w
def cWd (w : Int) : Int := cWdL WV 16 w
theorem cWdL_no {w : Int} : ∀ (L : List Int) (i : Int), w ∉ L → cWdL L i w = 1
  | [], _, _ => rfl
  | v :: L, i, h => by
    simp only [cWdL]
    rw [if_neg (fun e => h (by simp [e]))]
    exact cWdL_no L _ (fun e => h (by simp [e]))
theorem WV_all : ∀ k : Fin 24, cWd (WV.getD k.val 0) = 16 + k.val ∧ srtOf 2 (WV.getD k.val 0) = (if k.val < 9 then (k.val : Int) else -1) ∧ nmOf 2 (WV.getD k.val 0) = (if 16 ≤ k.val then (k.val : Int) - 16 else -1) ∧ WV.getD k.val 0 ≠ 0 := by decide +kernel
theorem WV_or (w : Int) : (∃ k : Nat, k < 24 ∧ w = WV.getD k 0) ∨ w ∉ WV := by
  by_cases h : w ∈ WV
  · obtain ⟨k, hk, e⟩ := List.getElem_of_mem h
    refine Or.inl ⟨k, hk, ?_⟩
    rw [← e]
    show WV[k] = (WV[k]?).getD 0
    rw [List.getElem?_eq_getElem hk]
    rfl
  · exact Or.inr h
theorem WV_n {w : Int} (h : w ∉ WV) : ∀ k : Nat, k < 24 → w ≠ WV.getD k 0 := fun k hk e => h (by
  rw [e]
  show (WV[k]?).getD 0 ∈ WV
  rw [List.getElem?_eq_getElem (show k < WV.length from hk)]
  exact List.getElem_mem _)
theorem srt_no {w : Int} (h : w ∉ WV) : srtOf 2 w = -1 := by
  have n := WV_n h
  simp only [srtOf]
  rw [if_neg (fun z => n 0 (by decide) z.2), if_neg (fun z => n 1 (by decide) z.2), if_neg (fun z => n 2 (by decide) z.2), if_neg (fun z => n 3 (by decide) z.2), if_neg (fun z => n 4 (by decide) z.2), if_neg (fun z => n 5 (by decide) z.2), if_neg (fun z => n 6 (by decide) z.2), if_neg (fun z => n 7 (by decide) z.2), if_neg (fun z => n 8 (by decide) z.2)]
theorem nm_no {w : Int} (h : w ∉ WV) : nmOf 2 w = -1 := by
  have n := WV_n h
  simp only [nmOf]
  rw [if_neg (by decide), if_neg (show ¬ w = ((115 * 256 + 111) * 256 + 114) * 256 + 116 from n 16 (by decide)), if_neg (show ¬ w = ((((119 * 256 + 101) * 256 + 105) * 256 + 103) * 256 + 104) * 256 + 116 from n 17 (by decide)), if_neg (show ¬ w = ((116 * 256 + 111) * 256 + 119) * 256 + 110 from n 18 (by decide)), if_neg (show ¬ w = ((((112 * 256 + 114) * 256 + 111) * 256 + 111) * 256 + 102) * 256 + 115 from n 19 (by decide)), if_neg (show ¬ w = ((121 * 256 + 101) * 256 + 97) * 256 + 114 from n 20 (by decide)), if_neg (show ¬ w = (((111 * 256 + 115) * 256 + 111) * 256 + 114) * 256 + 116 from n 21 (by decide)), if_neg (show ¬ w = (((((111 * 256 + 119) * 256 + 101) * 256 + 105) * 256 + 103) * 256 + 104) * 256 + 116 from n 22 (by decide)), if_neg (show ¬ w = (((111 * 256 + 116) * 256 + 111) * 256 + 119) * 256 + 110 from n 23 (by decide))]
/-- the class's number of a TOKEN -/
def cSg (t : Int) : Int := if t = 59 then 3 else if t = 40 then 4 else if t = 41 then 5 else if t = 43 then 6 else if t = 45 then 7 else if t = 42 then 8 else if t = 47 then 9 else if t = 60 then 10 else if t = 62 then 11 else if t = 61 then 12 else if t = 35 then 13 else if t = 4 then 14 else if t = 5 then 15 else 1
def cTk (T : Int → Int) (n p : Int) : Int := if tTok T n p = 0 then 0 else if tTok T n p = 1 then 2 else if tTok T n p = 2 then cWd (tWd T n p) else cSg (tTok T n p)
theorem cSg_r (t : Int) : (1 ≤ cSg t ∧ cSg t ≤ 15 ∧ cSg t ≠ 2) ∧ (cSg t = 3 ↔ t = 59) ∧ (cSg t = 4 ↔ t = 40) ∧ (cSg t = 5 ↔ t = 41) ∧ (cSg t = 6 ↔ t = 43) ∧ (cSg t = 7 ↔ t = 45) ∧ (cSg t = 8 ↔ t = 42) ∧ (cSg t = 9 ↔ t = 47) := by
  simp only [cSg]
  repeat' split
  all_goals omega
theorem cSg_c (t : Int) : (10 ≤ cSg t ∧ cSg t ≤ 15 ↔ 0 ≤ cmpO t) ∧ (0 ≤ cmpO t → encO (cmpO t) 0 = -cSg t) := by
  by_cases h : t = 60 ∨ t = 62 ∨ t = 61 ∨ t = 35 ∨ t = 4 ∨ t = 5
  · rcases h with h | h | h | h | h | h <;> subst h <;> decide
  · have e : cmpO t = -1 := by
      simp only [cmpO]
      rw [if_neg (by omega), if_neg (by omega), if_neg (by omega), if_neg (by omega), if_neg (by omega), if_neg (by omega)]
    have e2 : cSg t < 10 := by
      simp only [cSg]
      repeat' split
      all_goals omega
    exact ⟨⟨fun z => by omega, fun z => by omega⟩, fun z => by omega⟩
theorem cWd_r (w : Int) : 1 ≤ cWd w ∧ cWd w ≤ 39 ∧ (cWd w = 1 ∨ 16 ≤ cWd w) ∧ (16 ≤ cWd w ∧ cWd w ≤ 24 ↔ 0 ≤ srtOf 2 w) ∧ (0 ≤ srtOf 2 w → cWd w = 16 + srtOf 2 w) ∧ (32 ≤ cWd w ↔ 0 ≤ nmOf 2 w) ∧ (0 ≤ nmOf 2 w → cWd w = 32 + nmOf 2 w) := by
  rcases WV_or w with ⟨k, hk, e⟩ | h
  · obtain ⟨h1, h2, h3, h4⟩ := WV_all ⟨k, hk⟩
    simp only at h1 h2 h3 h4
    rw [e, h1, h2, h3]
    by_cases c : k < 9
    · rw [if_pos c, if_neg (by omega)]
      refine ⟨by omega, by omega, by omega, by omega, by omega, by omega, by omega⟩
    · rw [if_neg c]
      by_cases d : 16 ≤ k
      · rw [if_pos d]
        refine ⟨by omega, by omega, by omega, by omega, by omega, by omega, by omega⟩
      · rw [if_neg d]
        refine ⟨by omega, by omega, by omega, by omega, by omega, by omega, by omega⟩
  · rw [srt_no h, nm_no h, show cWd w = 1 from cWdL_no _ _ h]
    refine ⟨by omega, by omega, by omega, by omega, by omega, by omega, by omega⟩
theorem cWd_k (w : Int) (k : Nat) (hk : k < 24) : cWd w = 16 + k ↔ w = WV.getD k 0 := by
  rcases WV_or w with ⟨j, hj, e⟩ | h
  · have h1 := (WV_all ⟨j, hj⟩).1
    simp only at h1
    rw [e, h1]
    constructor
    · intro z
      rw [show j = k by omega]
    · intro z
      have h2 := (WV_all ⟨k, hk⟩).1
      simp only at h2
      rw [← z, h1] at h2
      exact h2
  · rw [show cWd w = 1 from cWdL_no _ _ h]
    exact ⟨fun z => by omega, fun z => absurd z (WV_n h k hk)⟩
section Tk
variable {T : Int → Int} {n p : Int}
theorem cTk_0 : cTk T n p = 0 ↔ tTok T n p = 0 := by
  have a := (cWd_r (tWd T n p)).1
  have b := (cSg_r (tTok T n p)).1
  simp only [cTk]
  (repeat' split) <;> omega
theorem cTk_2 : cTk T n p = 2 ↔ tTok T n p = 1 := by
  have a := cWd_r (tWd T n p)
  have b := (cSg_r (tTok T n p)).1
  have a3 := a.2.2.1
  simp only [cTk]
  (repeat' split) <;> omega
theorem cTk_s {x t : Int} (ht : t ≠ 0 ∧ t ≠ 1 ∧ t ≠ 2) (hx : 3 ≤ x ∧ x ≤ 15) (h : cSg (tTok T n p) = x ↔ tTok T n p = t) : cTk T n p = x ↔ tTok T n p = t := by
  have a3 := (cWd_r (tWd T n p)).2.2.1
  simp only [cTk]
  (repeat' split)
  · omega
  · omega
  · omega
  · exact h
theorem cTk_r (T : Int → Int) (n p : Int) : 0 ≤ cTk T n p ∧ cTk T n p ≤ 39 := by
  have a := cWd_r (tWd T n p)
  have a1 := a.1
  have a2 := a.2.1
  have b := (cSg_r (tTok T n p)).1
  simp only [cTk]
  (repeat' split) <;> omega
theorem cTk_sr : (16 ≤ cTk T n p ∧ cTk T n p ≤ 24 ↔ 0 ≤ tSr T n p) ∧ (0 ≤ tSr T n p → cTk T n p = 16 + tSr T n p) := by
  have b := (cSg_r (tTok T n p)).1
  have r := (tSr_r T n p).2.2
  have a := cWd_r (tWd T n p)
  by_cases c : tTok T n p = 2
  · have e : tSr T n p = srtOf 2 (tWd T n p) := by simp only [tSr]; rw [c]
    have e2 : cTk T n p = cWd (tWd T n p) := by simp only [cTk]; rw [if_neg (by omega), if_neg (by omega), if_pos c]
    rw [e, e2]
    exact ⟨a.2.2.2.1, a.2.2.2.2.1⟩
  · have e2 : cTk T n p < 16 := by
      simp only [cTk]
      (repeat' split) <;> omega
    exact ⟨⟨fun z => by omega, fun z => absurd (r z) c⟩, fun z => absurd (r z) c⟩
theorem cTk_nm : (32 ≤ cTk T n p ↔ 0 ≤ tNm T n p) ∧ (0 ≤ tNm T n p → cTk T n p = 32 + tNm T n p) := by
  have b := (cSg_r (tTok T n p)).1
  have a := cWd_r (tWd T n p)
  by_cases c : tTok T n p = 2
  · have e : tNm T n p = nmOf 2 (tWd T n p) := by simp only [tNm]; rw [c]
    have e2 : cTk T n p = cWd (tWd T n p) := by simp only [cTk]; rw [if_neg (by omega), if_neg (by omega), if_pos c]
    rw [e, e2]
    exact ⟨a.2.2.2.2.2.1, a.2.2.2.2.2.2⟩
  · have e2 : cTk T n p < 16 := by
      simp only [cTk]
      (repeat' split) <;> omega
    exact ⟨⟨fun z => by omega, fun z => absurd (nmOf_2 z) c⟩, fun z => absurd (nmOf_2 z) c⟩
theorem cTk_w {k : Nat} (hk : k < 24) {w : Int} (hw : WV.getD k 0 = w) : cTk T n p = 16 + k ↔ (tTok T n p = 2 ∧ tWd T n p = w) := by
  have b := (cSg_r (tTok T n p)).1
  by_cases c : tTok T n p = 2
  · have e2 : cTk T n p = cWd (tWd T n p) := by simp only [cTk]; rw [if_neg (by omega), if_neg (by omega), if_pos c]
    rw [e2, cWd_k _ k hk, hw]
    exact ⟨fun z => ⟨c, z⟩, fun z => z.2⟩
  · have e2 : cTk T n p < 16 := by
      simp only [cTk]
      (repeat' split) <;> omega
    exact ⟨fun z => by omega, fun z => absurd z.1 c⟩
theorem cTk_c : (10 ≤ cTk T n p ∧ cTk T n p ≤ 15 ↔ 0 ≤ cmpO (tTok T n p)) ∧ (0 ≤ cmpO (tTok T n p) → encO (cmpO (tTok T n p)) 0 = -cTk T n p) := by
  have s := cSg_c (tTok T n p)
  by_cases c : tTok T n p = 0 ∨ tTok T n p = 1 ∨ tTok T n p = 2
  · have e : cmpO (tTok T n p) = -1 := by
      simp only [cmpO]
      rw [if_neg (by omega), if_neg (by omega), if_neg (by omega), if_neg (by omega), if_neg (by omega), if_neg (by omega)]
    have a3 := (cWd_r (tWd T n p)).2.2.1
    have e2 : ¬ (10 ≤ cTk T n p ∧ cTk T n p ≤ 15) := by
      simp only [cTk]
      (repeat' split) <;> omega
    exact ⟨⟨fun z => absurd z e2, fun z => by omega⟩, fun z => by omega⟩
  · have e2 : cTk T n p = cSg (tTok T n p) := by
      simp only [cTk]
      rw [if_neg (by omega), if_neg (by omega), if_neg (by omega)]
    rw [e2]
    exact s
end Tk
def cVl (T : Int → Int) (n p : Int) : Int := if tTok T n p = 1 then (if 10000 < tNum T n p then 10000 else tNum T n p) else 0
/-- the class's rows hold the TOKENS -/
def TkR (T : Int → Int) (n : Int) (N : Nat) (tk sr vl : Int → Int) : Prop := N ≤ 300 ∧ (∀ k : Nat, k ≤ N → tk k = cTk T n (pos T n k) ∧ sr k = tPl T n (pos T n k) ∧ vl k = cVl T n (pos T n k)) ∧ (∀ k : Nat, k < N → tTok T n (pos T n k) ≠ 0) ∧ tTok T n (pos T n N) = 0
theorem pos_le {T : Int → Int} (hT : ∀ k, 0 ≤ T k ∧ T k < 256) {n : Int} (hn : 0 ≤ n) : ∀ k : Nat, 0 ≤ pos T n k ∧ pos T n k ≤ n
  | 0 => by simp only [pos]; omega
  | k + 1 => by
    have i := pos_le hT hn k
    have t := tok_r hT i.2
    simp only [pos]
    omega
theorem wdK_nn {T : Int → Int} {s : Int} : ∀ k : Nat, (∀ j : Nat, j < k → 0 < T (s + j)) → 0 ≤ wdK T s k ∧ True
  | 0, _ => by simp [wdK]
  | k + 1, h => by
    have i := (wdK_nn k (fun j hj => h j (by omega))).1
    have t := h k (by omega)
    simp only [wdK]
    refine ⟨?_, trivial⟩
    split <;> omega
theorem wd_uniq {T U : Int → Int} {s : Int} : ∀ (k l : Nat), k ≤ 7 → l ≤ 7 → (∀ j : Nat, j < k → 0 < T (s + j) ∧ T (s + j) < 256) → (∀ j : Nat, j < l → 0 < U j ∧ U j < 256) → wdK T s k = wdK U 0 l → k = l ∧ ∀ j : Nat, j < k → T (s + j) = U j
  | 0, 0, _, _, _, _, _ => ⟨rfl, fun j hj => absurd hj (by omega)⟩
  | 0, l + 1, _, h2, _, h4, h => by
    have hU := h4 l (by omega)
    simp only [wdK] at h
    rw [if_pos (by omega), Int.zero_add] at h
    have := (wdK_nn (T := U) (s := 0) l (fun j hj => by rw [Int.zero_add]; exact (h4 j (by omega)).1)).1
    omega
  | k + 1, 0, h1, _, h3, _, h => by
    have hT := h3 k (by omega)
    simp only [wdK] at h
    rw [if_pos (by omega)] at h
    have := (wdK_nn (T := T) (s := s) k (fun j hj => (h3 j (by omega)).1)).1
    omega
  | k + 1, l + 1, h1, h2, h3, h4, h => by
    have hT := h3 k (by omega)
    have hU := h4 l (by omega)
    simp only [wdK] at h
    rw [if_pos (by omega), if_pos (by omega), Int.zero_add] at h
    have e : T (s + k) = U l := by omega
    have i := wd_uniq k l (by omega) (by omega) (fun j hj => h3 j (by omega)) (fun j hj => h4 j (by omega)) (by omega)
    refine ⟨by omega, fun j hj => ?_⟩
    by_cases c : j = k
    · rw [c, e, i.1]
    · exact i.2 j (by omega)
