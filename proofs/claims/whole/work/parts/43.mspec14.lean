/-! the grammar -/
/-- a reading's end: its FAULT (0: none), where it stands then, and the code -/
abbrev Rs := Int × Int × List (Int × Int)
def preR (c : List (Int × Int)) (r : Rs) : Rs := if r.1 = 0 then (0, r.2.1, c ++ r.2.2) else r
theorem preR_0 {c d : List (Int × Int)} {q : Int} : preR c (0, q, d) = (0, q, c ++ d) := rfl
theorem preR_f {c : List (Int × Int)} {r : Rs} (h : r.1 ≠ 0) : preR c r = r := if_neg h
def nmOf (tok w : Int) : Int := if tok ≠ 2 then -1 else if w = ((115 * 256 + 111) * 256 + 114) * 256 + 116 then 0 else if w = ((((119 * 256 + 101) * 256 + 105) * 256 + 103) * 256 + 104) * 256 + 116 then 1 else if w = ((116 * 256 + 111) * 256 + 119) * 256 + 110 then 2 else if w = ((((112 * 256 + 114) * 256 + 111) * 256 + 111) * 256 + 102) * 256 + 115 then 3 else if w = ((121 * 256 + 101) * 256 + 97) * 256 + 114 then 4 else if w = (((111 * 256 + 115) * 256 + 111) * 256 + 114) * 256 + 116 then 5 else if w = (((((111 * 256 + 119) * 256 + 101) * 256 + 105) * 256 + 103) * 256 + 104) * 256 + 116 then 6 else if w = (((111 * 256 + 116) * 256 + 111) * 256 + 119) * 256 + 110 then 7 else -1
def tNm (T : Int → Int) (n p : Int) : Int := nmOf (tTok T n p) (tWd T n p)
def wlL (w : Int) : List (Int × Int) := if w = 0 then [] else [(w, 0)]
def gr (T : Int → Int) (n u : Int) : Nat → Int → Int → Int → Int → Option Rs
  | 0, _, _, _, _ => none
  | m + 1, k, o, w, p =>
    if k = 0 then
      if tTok T n p = 1 then some (if tNum T n p ≤ 9999 then (0, tNx T n p, [(0, tNum T n p)]) else (2, p, []))
      else if 0 ≤ tNm T n p then some (if 4 < tNm T n p ∧ u ≠ 2 then (5, p, []) else (0, tNx T n p, [(1, tNm T n p)]))
      else if tTok T n p = 40 then
        if o = 8 then some (3, p, []) else
        (gr T n u m 1 (o + 1) 0 (tNx T n p)).bind fun r => some (if r.1 ≠ 0 then r else if tTok T n r.2.1 = 41 then (0, tNx T n r.2.1, r.2.2) else (1, r.2.1, []))
      else if tTok T n p = 45 then
        if o = 8 then some (3, p, []) else
        (gr T n u m 0 (o + 1) 0 (tNx T n p)).bind fun r => some (if r.1 ≠ 0 then r else (0, r.2.1, r.2.2 ++ [(2, 0)]))
      else some (1, p, [])
    else if k = 1 then
      (gr T n u m 0 o 0 p).bind fun r => if r.1 ≠ 0 then some r else (gr T n u m 2 o 0 r.2.1).bind fun s => some (preR r.2.2 s)
    else if tTok T n p = 43 ∨ tTok T n p = 45 then
      (gr T n u m 0 o 0 (tNx T n p)).bind fun r => if r.1 ≠ 0 then some r else (gr T n u m 2 o (if tTok T n p = 43 then 3 else 4) r.2.1).bind fun s => some (preR (wlL w ++ r.2.2) s)
    else if tTok T n p = 42 ∨ tTok T n p = 47 then
      (gr T n u m 0 o 0 (tNx T n p)).bind fun r => if r.1 ≠ 0 then some r else (gr T n u m 2 o w r.2.1).bind fun s => some (preR (r.2.2 ++ [(if tTok T n p = 42 then 5 else 6, 0)]) s)
    else some (0, p, wlL w)
theorem bind_le {a b : Option Rs} {f g : Rs → Option Rs} {r : Rs} (h : ∀ x, a = some x → b = some x) (k : ∀ x, a = some x → f x = some r → g x = some r) (e : a.bind f = some r) : b.bind g = some r := by
  cases q : a with
  | none => rw [q] at e; exact absurd e (by simp)
  | some x => rw [q] at e; rw [h x q]; exact k x q e
theorem gr_s (T : Int → Int) (n u : Int) : ∀ (m : Nat) (k o w p : Int) (r : Rs), gr T n u m k o w p = some r → gr T n u (m + 1) k o w p = some r
  | 0, k, o, w, p, r, h => by simp [gr] at h
  | m + 1, k, o, w, p, r, h => by
    have ih := gr_s T n u m
    rw [gr] at h
    rw [gr]
    by_cases k0 : k = 0
    · rw [if_pos k0] at h ⊢
      by_cases c1 : tTok T n p = 1
      · rw [if_pos c1] at h ⊢; exact h
      rw [if_neg c1] at h ⊢
      by_cases c2 : 0 ≤ tNm T n p
      · rw [if_pos c2] at h ⊢; exact h
      rw [if_neg c2] at h ⊢
      by_cases c3 : tTok T n p = 40
      · rw [if_pos c3] at h ⊢
        by_cases c4 : o = 8
        · rw [if_pos c4] at h ⊢; exact h
        rw [if_neg c4] at h ⊢
        exact bind_le (fun x e => ih _ _ _ _ _ e) (fun x _ e => e) h
      rw [if_neg c3] at h ⊢
      by_cases c3 : tTok T n p = 45
      · rw [if_pos c3] at h ⊢
        by_cases c4 : o = 8
        · rw [if_pos c4] at h ⊢; exact h
        rw [if_neg c4] at h ⊢
        exact bind_le (fun x e => ih _ _ _ _ _ e) (fun x _ e => e) h
      rw [if_neg c3] at h ⊢; exact h
    rw [if_neg k0] at h ⊢
    have key : ∀ (w' : Int) (d : Rs → List (Int × Int)) (x : Rs), (if x.1 ≠ 0 then some x else (gr T n u m 2 o w' x.2.1).bind fun s => some (preR (d x) s)) = some r → (if x.1 ≠ 0 then some x else (gr T n u (m + 1) 2 o w' x.2.1).bind fun s => some (preR (d x) s)) = some r := fun w' d x e => by
      by_cases c : x.1 ≠ 0
      · rw [if_pos c] at e ⊢; exact e
      · rw [if_neg c] at e ⊢
        exact bind_le (fun x e => ih _ _ _ _ _ e) (fun x _ e => e) e
    by_cases k1 : k = 1
    · rw [if_pos k1] at h ⊢
      exact bind_le (fun x e => ih _ _ _ _ _ e) (fun x _ e => key 0 (fun x => x.2.2) x e) h
    rw [if_neg k1] at h ⊢
    by_cases c : tTok T n p = 43 ∨ tTok T n p = 45
    · rw [if_pos c] at h ⊢
      exact bind_le (fun x e => ih _ _ _ _ _ e) (fun x _ e => key _ (fun x => wlL w ++ x.2.2) x e) h
    rw [if_neg c] at h ⊢
    by_cases c : tTok T n p = 42 ∨ tTok T n p = 47
    · rw [if_pos c] at h ⊢
      exact bind_le (fun x e => ih _ _ _ _ _ e) (fun x _ e => key _ (fun x => x.2.2 ++ [(if tTok T n p = 42 then 5 else 6, 0)]) x e) h
    rw [if_neg c] at h ⊢; exact h
theorem gr_le {T : Int → Int} {n u : Int} {m k o w p : _} {r : Rs} (h : gr T n u m k o w p = some r) : ∀ d : Nat, gr T n u (m + d) k o w p = some r
  | 0 => h
  | d + 1 => gr_s T n u _ _ _ _ _ _ (gr_le h d)
def G (T : Int → Int) (n u k o w p : Int) (r : Rs) : Prop := ∃ m, gr T n u m k o w p = some r
theorem G_det {T : Int → Int} {n u k o w p : Int} {r s : Rs} (h : G T n u k o w p r) (g : G T n u k o w p s) : r = s := by
  obtain ⟨a, ha⟩ := h
  obtain ⟨b, hb⟩ := g
  have h1 := gr_le ha b
  have h2 := gr_le hb a
  rw [Nat.add_comm b a, h1] at h2
  exact Option.some.inj h2
section Gs
variable {T : Int → Int} {n u o w p : Int}
theorem G_num (h : tTok T n p = 1) (h2 : tNum T n p ≤ 9999) : G T n u 0 o w p (0, tNx T n p, [(0, tNum T n p)]) := ⟨1, by rw [gr, if_pos rfl, if_pos h, if_pos h2]⟩
theorem G_numF (h : tTok T n p = 1) (h2 : ¬ tNum T n p ≤ 9999) : G T n u 0 o w p (2, p, []) := ⟨1, by rw [gr, if_pos rfl, if_pos h, if_neg h2]⟩
theorem G_name (h1 : tTok T n p ≠ 1) (h : 0 ≤ tNm T n p) (h2 : ¬ (4 < tNm T n p ∧ u ≠ 2)) : G T n u 0 o w p (0, tNx T n p, [(1, tNm T n p)]) := ⟨1, by rw [gr, if_pos rfl, if_neg h1, if_pos h, if_neg h2]⟩
theorem G_nameF (h1 : tTok T n p ≠ 1) (h : 0 ≤ tNm T n p) (h2 : 4 < tNm T n p ∧ u ≠ 2) : G T n u 0 o w p (5, p, []) := ⟨1, by rw [gr, if_pos rfl, if_neg h1, if_pos h, if_pos h2]⟩
theorem G_deep (h : tTok T n p = 40 ∨ tTok T n p = 45) (hn : tNm T n p < 0) (ho : o = 8) : G T n u 0 o w p (3, p, []) := ⟨1, by
  rw [gr, if_pos rfl, if_neg (by omega), if_neg (by omega)]
  by_cases c : tTok T n p = 40
  · rw [if_pos c, if_pos ho]
  · rw [if_neg c, if_pos (by omega), if_pos ho]⟩
theorem G_else (h1 : tTok T n p ≠ 1) (hn : tNm T n p < 0) (h2 : tTok T n p ≠ 40) (h3 : tTok T n p ≠ 45) : G T n u 0 o w p (1, p, []) := ⟨1, by rw [gr, if_pos rfl, if_neg h1, if_neg (by omega), if_neg h2, if_neg h3]⟩
theorem G_par {r : Rs} (h : tTok T n p = 40) (hn : tNm T n p < 0) (ho : o ≠ 8) (hs : G T n u 1 (o + 1) 0 (tNx T n p) r) : G T n u 0 o w p (if r.1 ≠ 0 then r else if tTok T n r.2.1 = 41 then (0, tNx T n r.2.1, r.2.2) else (1, r.2.1, [])) := by
  obtain ⟨m, hm⟩ := hs
  refine ⟨m + 1, ?_⟩
  rw [gr, if_pos rfl, if_neg (by omega), if_neg (by omega), if_pos h, if_neg ho, hm]
  rfl
theorem G_neg {r : Rs} (h : tTok T n p = 45) (hn : tNm T n p < 0) (ho : o ≠ 8) (hs : G T n u 0 (o + 1) 0 (tNx T n p) r) : G T n u 0 o w p (if r.1 ≠ 0 then r else (0, r.2.1, r.2.2 ++ [(2, 0)])) := by
  obtain ⟨m, hm⟩ := hs
  refine ⟨m + 1, ?_⟩
  rw [gr, if_pos rfl, if_neg (by omega), if_neg (by omega), if_neg (by omega), if_pos h, if_neg ho, hm]
  rfl
theorem G_sumF {r : Rs} (h : G T n u 0 o 0 p r) (hf : r.1 ≠ 0) : G T n u 1 o w p r := by
  obtain ⟨m, hm⟩ := h
  refine ⟨m + 1, ?_⟩
  rw [gr, if_neg (by decide), if_pos rfl, hm]
  exact if_pos hf
theorem G_sum {r s : Rs} (h : G T n u 0 o 0 p r) (hf : r.1 = 0) (g : G T n u 2 o 0 r.2.1 s) : G T n u 1 o w p (preR r.2.2 s) := by
  obtain ⟨m, hm⟩ := h
  obtain ⟨l, hl⟩ := g
  refine ⟨m + l + 1, ?_⟩
  rw [gr, if_neg (by decide), if_pos rfl, gr_le hm l]
  show (if r.1 ≠ 0 then some r else (gr T n u (m + l) 2 o 0 r.2.1).bind fun s => some (preR r.2.2 s)) = _
  rw [if_neg (by omega), Nat.add_comm, gr_le hl m]
  rfl
theorem G_end (h1 : tTok T n p ≠ 43) (h2 : tTok T n p ≠ 45) (h3 : tTok T n p ≠ 42) (h4 : tTok T n p ≠ 47) : G T n u 2 o w p (0, p, wlL w) := ⟨1, by rw [gr, if_neg (by decide), if_neg (by decide), if_neg (by omega), if_neg (by omega)]⟩
theorem G_addF {r : Rs} (h : tTok T n p = 43 ∨ tTok T n p = 45) (hs : G T n u 0 o 0 (tNx T n p) r) (hf : r.1 ≠ 0) : G T n u 2 o w p r := by
  obtain ⟨m, hm⟩ := hs
  refine ⟨m + 1, ?_⟩
  rw [gr, if_neg (by decide), if_neg (by decide), if_pos h, hm]
  exact if_pos hf
theorem G_add {r s : Rs} (h : tTok T n p = 43 ∨ tTok T n p = 45) (hs : G T n u 0 o 0 (tNx T n p) r) (hf : r.1 = 0) (g : G T n u 2 o (if tTok T n p = 43 then 3 else 4) r.2.1 s) : G T n u 2 o w p (preR (wlL w ++ r.2.2) s) := by
  obtain ⟨m, hm⟩ := hs
  obtain ⟨l, hl⟩ := g
  refine ⟨m + l + 1, ?_⟩
  rw [gr, if_neg (by decide), if_neg (by decide), if_pos h, gr_le hm l]
  show (if r.1 ≠ 0 then some r else (gr T n u (m + l) 2 o _ r.2.1).bind fun s => some (preR (wlL w ++ r.2.2) s)) = _
  rw [if_neg (by omega), Nat.add_comm, gr_le hl m]
  rfl
theorem G_mulF {r : Rs} (h : tTok T n p = 42 ∨ tTok T n p = 47) (hs : G T n u 0 o 0 (tNx T n p) r) (hf : r.1 ≠ 0) : G T n u 2 o w p r := by
  obtain ⟨m, hm⟩ := hs
  refine ⟨m + 1, ?_⟩
  rw [gr, if_neg (by decide), if_neg (by decide), if_neg (by omega), if_pos h, hm]
  exact if_pos hf
theorem G_mul {r s : Rs} (h : tTok T n p = 42 ∨ tTok T n p = 47) (hs : G T n u 0 o 0 (tNx T n p) r) (hf : r.1 = 0) (g : G T n u 2 o w r.2.1 s) : G T n u 2 o w p (preR (r.2.2 ++ [(if tTok T n p = 42 then 5 else 6, 0)]) s) := by
  obtain ⟨m, hm⟩ := hs
  obtain ⟨l, hl⟩ := g
  refine ⟨m + l + 1, ?_⟩
  rw [gr, if_neg (by decide), if_neg (by decide), if_neg (by omega), if_pos h, gr_le hm l]
  show (if r.1 ≠ 0 then some r else (gr T n u (m + l) 2 o w r.2.1).bind fun s => some (preR (r.2.2 ++ _) s)) = _
  rw [if_neg (by omega), Nat.add_comm, gr_le hl m]
  rfl
end Gs
