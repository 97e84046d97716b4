/-! one choice keeps the table -/
theorem pr_m1 (a : Int → Int) (i : Int) : pr a i (-1) = 4503599627370496 := by
  simp only [pr, pk, wB, wT1, wD]
  rw [if_pos (by omega), if_pos (by omega), show (-1 + 1 : Int) = 0 by omega, Int.zero_mul]
  rfl
theorem lkP_pr {V : Va} {a : Int → Int} (hW : WSim V 1 a) {i j : Int} (i0 : 0 ≤ i) (i1 : i < a 6) (j0 : 0 ≤ j) (j1 : j < a 6) : lkP V i j = pr a i j := by
  have sr := hW.2.2.2.2.2.2.2.2
  have hi : V 135 i = a (126 + 4 * i) := (sr i i0 i1).1
  have hj : V 135 j = a (126 + 4 * j) := (sr j j0 j1).1
  simp only [lkP, pr, pk, wB, wT1, wD]
  rw [hi, hj, if_neg (show ¬ j < 0 by omega), if_neg (show ¬ j < 0 by omega)]
  by_cases c : a (126 + 4 * j) = a (126 + 4 * i)
  · rw [if_pos c, if_neg (fun z => z c.symm)]; rfl
  · rw [if_neg c, if_pos (fun z => c z.symm)]; rfl
theorem bor_ge {x y : Int} (hx : 0 ≤ x) : x ≤ bor x y := by
  have := Nat.left_le_or (n := x.toNat) (m := y.toNat)
  simp only [bor]
  omega
theorem chF_LM {V : Va} {a : Int → Int} {n : Nat} (hW : WSim V 1 a) (h6 : a 6 = n) (hn : n ≤ 12) (hP : PmS (V 298) n) (hS : Srt (V 138) (V 298) n) {q A c : Int} (q0 : 0 ≤ q) (q1 : q < n) (hA : 0 ≤ A) (hA1 : A < p2 q) {sel bt pc cs ws : Int → Int} (hL : LkI V (V 298 q) q c sel bt pc) (l : List Int) (hb : bdL (V 298 q :: l) < 281474976710656)
    (hT : ∀ A', A ≤ A' → A' < p2 q → LM (hN (smf a) a n l (hUp (V 298) n A')) (bdL l) (cs A') (ws A')) : ∀ k : Nat, (k : Int) ≤ c →
    LM (fun p => hN (smf a) a n l (hUp (V 298) n A) (hSh a p (V 298 q) (-1)) + sumT (fun k => if band A (bt k) = 0 then hN (smf a) a n l (hU (hUp (V 298) n A) (V 298 (sel k))) (hSh a p (V 298 q) (V 298 (sel k))) else 0) k) (bdL (V 298 q :: l)) (chF cs ws bt pc A k).1 (chF cs ws bt pc A k).2
  | 0, _ => by
    have z := LM_sh (i := V 298 q) (j := -1) hn (by omega) (by omega) hb (hT A (by omega) hA1)
    rw [pr_m1] at z
    refine LM_e (fun p => ?_) z
    show _ = _ + sumT _ 0
    rw [sumT_0, Int.add_zero]
  | k + 1, hk => by
    have ih := chF_LM hW h6 hn hP hS q0 q1 hA hA1 hL l hb hT k (by omega)
    obtain ⟨s0, s1, s2, s3⟩ := hL.2.1 k (by omega) (by omega)
    have os := hS.1 (sel k) s0 (by omega)
    have oq := hS.1 q q0 q1
    simp only [chF]
    by_cases c0 : band A (bt k) = 0
    · rw [if_pos c0]
      have bl := bor_lt (x := A) (y := bt k) (n := q) ⟨hA, hA1⟩ (by rw [s2]; exact ⟨Int.le_of_lt (p2_pos _), p2_lt s0 s1⟩)
      have bg := bor_ge (x := A) (y := bt k) hA
      have t := hT _ bg bl.2
      have t2 : LM (hN (smf a) a n l (hU (hUp (V 298) n A) (V 298 (sel k)))) (bdL l) (cs (bor A (bt k))) (ws (bor A (bt k))) := LM_e (fun p => hN_ext _ _ _ _ _ _ p (fun x x0 x1 => by rw [s2]; exact hUp_or hP hA s0 (by omega) x0 x1)) t
      have t3 := LM_sh (i := V 298 q) (j := V 298 (sel k)) hn (by omega) (by omega) hb t2
      have t4 := LM_add hb ih t3
      rw [← lkP_pr hW oq.1 (by omega) os.1 (by omega), ← s3] at t4
      have em : min (chF cs ws bt pc A k).1 (cs (bor A (bt k)) + pc k) = if cs (bor A (bt k)) + pc k < (chF cs ws bt pc A k).1 then cs (bor A (bt k)) + pc k else (chF cs ws bt pc A k).1 := by
        by_cases d : cs (bor A (bt k)) + pc k < (chF cs ws bt pc A k).1
        · rw [if_pos d]; exact Int.min_eq_right (by omega)
        · rw [if_neg d]; exact Int.min_eq_left (by omega)
      rw [em] at t4
      simp only [chS]
      rw [show p2 48 = 281474976710656 by decide]
      refine LM_e (fun p => ?_) t4
      show _ + _ + _ = _
      rw [show ((k + 1 : Nat) : Int) = (k : Int) + 1 by omega, sumT_s _ (by omega), if_pos c0, Int.add_assoc]
    · rw [if_neg c0]
      refine LM_e (fun p => ?_) ih
      show _ + _ = _
      rw [show ((k + 1 : Nat) : Int) = (k : Int) + 1 by omega, sumT_s _ (by omega), if_neg c0, Int.add_zero]
theorem ch_LM {V : Va} {a : Int → Int} {n : Nat} (hW : WSim V 1 a) (hM : MIv a) (h6 : a 6 = n) (hn : n ≤ 12) (hP : PmS (V 298) n) (hS : Srt (V 138) (V 298) n) {q A c : Int} (q0 : 0 ≤ q) (q1 : q < n) (hA : 0 ≤ A) (hA1 : A < p2 q) {sel bt pc cs ws : Int → Int} (hL : LkI V (V 298 q) q c sel bt pc) (l : List Int) (hb : bdL (V 298 q :: l) < 281474976710656)
    (hT : ∀ A', A ≤ A' → A' < p2 q → LM (hN (smf a) a n l (hUp (V 298) n A')) (bdL l) (cs A') (ws A')) : LM (hN (smf a) a n (V 298 q :: l) (hUp (V 298) n A)) (bdL (V 298 q :: l)) (chF cs ws bt pc A c.toNat).1 (chF cs ws bt pc A c.toNat).2 := by
  have hc := hL.1.1
  refine LM_e (fun p => ?_) (chF_LM hW h6 hn hP hS q0 q1 hA hA1 hL l hb hT c.toNat (by omega))
  rw [hN_links hW hM h6 hn hP hS q0 q1 hA hL l p, show ((c.toNat : Nat) : Int) = c by omega]
/-- the places from q on -/
def plL (o : Int → Int) (n : Int) : Nat → List Int
  | 0 => []
  | r + 1 => o (n - ((r : Int) + 1)) :: plL o n r
theorem bdL_pl (o : Int → Int) (n : Int) : ∀ r : Nat, (r : Int) ≤ n → bdL (plL o n r) + sumT (fun y => 15 * p2 (4 * (11 - o y))) (n - r) = sumT (fun y => 15 * p2 (4 * (11 - o y))) n
  | 0, _ => by simp only [plL, bdL]; rw [show n - ((0 : Nat) : Int) = n by omega]; omega
  | r + 1, h => by
    have ih := bdL_pl o n r (by omega)
    simp only [plL, bdL]
    rw [show n - (r : Int) = n - ((r : Int) + 1) + 1 by omega, sumT_s _ (by omega)] at ih
    rw [show n - ((r + 1 : Nat) : Int) = n - ((r : Int) + 1) by omega]
    omega
theorem bd_all : ∀ n : Nat, n ≤ 12 → sumT (fun y => 15 * p2 (4 * (11 - y))) n + p2 (4 * (12 - (n : Int))) = 281474976710656
  | 0, _ => by decide
  | n + 1, h => by
    have ih := bd_all n (by omega)
    rw [show ((n + 1 : Nat) : Int) = (n : Int) + 1 by omega, sumT_s _ (by omega)]
    have ep : p2 (4 * (12 - (n : Int))) = 16 * p2 (4 * (11 - (n : Int))) := by
      rw [show 4 * (12 - (n : Int)) = 4 * (11 - (n : Int)) + 1 + 1 + 1 + 1 by omega, p2_succ (by omega), p2_succ (by omega), p2_succ (by omega), p2_succ (by omega)]
      omega
    rw [show 4 * (12 - ((n : Int) + 1)) = 4 * (11 - (n : Int)) by omega]
    omega
theorem bdL_lt {o : Int → Int} {n r : Nat} (hn : n ≤ 12) (hP : PmS o n) (hr : r ≤ n) : bdL (plL o n r) < 281474976710656 := by
  have a1 := bdL_pl o n r (by omega)
  have a2 := hP (fun z => 15 * p2 (4 * (11 - z)))
  have a3 := bd_all n hn
  have a4 := p2_pos (4 * (12 - (n : Int)))
  have a5 := sumT_ge (fun y => 15 * p2 (4 * (11 - o y))) (fun k _ => by have := p2_pos (4 * (11 - o k)); omega) (n - r)
  rw [show ((n - r : Nat) : Int) = (n : Int) - r by omega] at a5
  omega
