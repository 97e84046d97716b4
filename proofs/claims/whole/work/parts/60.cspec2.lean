/-! World's small methods on the memory -/
abbrev cTownOk (V : Va) (t : Int) : Prop := 0 ≤ t ∧ t < V 1 7
abbrev cBoneOk (V : Va) (b : Int) : Prop := 0 ≤ b ∧ b < V 5 5
def cMiles (V : Va) (s t : Int) : Int := (if V 2 s - V 2 t < 0 then -(V 2 s - V 2 t) else V 2 s - V 2 t) + (if V 3 s - V 3 t < 0 then -(V 3 s - V 3 t) else V 3 s - V 3 t)
theorem cMiles_r {V : Va} (h2 : AB (V 2)) (h3 : AB (V 3)) (s t : Int) : 0 ≤ cMiles V s t ∧ cMiles V s t < 200000 := by
  have a1 := h2 s
  have a2 := h2 t
  have a3 := h3 s
  have a4 := h3 t
  simp only [cMiles]
  split <;> split <;> omega
def cProofsOf (V : Va) (b n : Int) : Int := sumT (fun t => V 10 t / p2 b % 2) n
def cBonesAt (V : Va) (t n : Int) : Int := sumT (fun b => if V 8 b = t then 1 else 0) n
def cAboutT (V : Va) (what : Int) : Int := if cTownOk V (what - 10) then bN (V 10 (what - 10)) 16 else if what < 20 ∨ ¬ cTownOk V (what - 20) then -2 else cBonesAt V (what - 20) (V 5 5)
abbrev cTownC (V : Va) (x y : Int) : Prop := V 1 7 < 10 ∧ 0 ≤ x ∧ x ≤ 99 ∧ 0 ≤ y ∧ y ≤ 99
def cTownF (V : Va) (x y : Int) : Va := if cTownC V x y then up (up (up V 1 (ua (ua (V 1) 10 (V 1 10 + 1)) 7 (V 1 7 + 1))) 2 (ua (V 2) (V 1 7) x)) 3 (ua (V 3) (V 1 7) y) else V
abbrev cBoneC (V : Va) (sort weight owner : Int) : Prop := V 5 5 < 16 ∧ 0 ≤ sort ∧ sort ≤ 19 ∧ 1 ≤ weight ∧ weight ≤ 999 ∧ cTownOk V owner
def cBoneF (V : Va) (sort weight owner : Int) : Va := if cBoneC V sort weight owner then up (up (up (up (up (up (up V 1 (ua (V 1) 10 (V 1 10 + 1))) 4 (ua (V 4) (V 5 5) sort)) 5 (ua (V 5) 5 (V 5 5 + 1))) 6 (ua (V 6) (V 5 5) weight)) 7 (ua (V 7) (V 5 5) owner)) 8 (ua (V 8) (V 5 5) owner)) 9 (ua (V 9) (V 5 5) (-1)) else V
abbrev cProveC (V : Va) (town bone : Int) : Prop := cTownOk V town ∧ cBoneOk V bone ∧ V 10 town / p2 bone % 2 = 0
def cProveF (V : Va) (town bone : Int) : Va := if cProveC V town bone then up (cRem V) 10 (ua (cRem V 10) town (bor (V 10 town) (p2 bone))) else V
abbrev cLendC (V : Va) (bone town years : Int) : Prop := cBoneOk V bone ∧ cTownOk V town ∧ 1 ≤ years ∧ years ≤ 99 ∧ V 8 bone = V 7 bone ∧ V 9 bone = -1 ∧ V 8 bone ≠ town ∧ V 5 6 + years ≤ 999
def cLendF (V : Va) (bone town years : Int) : Va := if cLendC V bone town years then up (up (cRem V) 8 (ua (cRem V 8) bone town)) 9 (ua (cRem V 9) bone (V 5 6 + years)) else V
abbrev cSwapC (V : Va) (one other : Int) : Prop := cBoneOk V one ∧ cBoneOk V other ∧ V 8 one ≠ V 8 other
def cSwapF (V : Va) (one other : Int) : Va := if cSwapC V one other then up (cRem V) 8 (ua (ua (cRem V 8) one (V 8 other)) other (V 8 one)) else V
abbrev cStealC (V : Va) (bone town : Int) : Prop := cBoneOk V bone ∧ cTownOk V town ∧ V 8 bone ≠ town
def cStealF (V : Va) (bone town : Int) : Va := if cStealC V bone town then up (up (up (cRem V) 7 (ua (cRem V 7) bone town)) 8 (ua (cRem V 8) bone town)) 9 (ua (cRem V 9) bone (-1)) else V
def cBurnF (V : Va) (town : Int) : Va := if cTownOk V town then up (cRem V) 10 (ua (cRem V 10) town 0) else V
def cUndoF (V : Va) : Va := if V 11 2 = 0 then V else cTB V
abbrev cSeenC (V : Va) (town sort weight year : Int) : Prop := V 134 4 < 12 ∧ cTownOk V town ∧ 0 ≤ sort ∧ sort ≤ 19 ∧ 1 ≤ weight ∧ weight ≤ 999 ∧ 0 ≤ year ∧ year ≤ 999
def cSeenF (V : Va) (town sort weight year : Int) : Va := if cSeenC V town sort weight year then up (up (up (up (up (up V 1 (ua (V 1) 10 (V 1 10 + 1))) 134 (ua (V 134) 4 (V 134 4 + 1))) 135 (ua (V 135) (V 134 4) town)) 136 (ua (V 136) (V 134 4) sort)) 137 (ua (V 137) (V 134 4) weight)) 138 (ua (V 138) (V 134 4) year) else V
abbrev cSeenOk (V : Va) (s : Int) : Prop := 0 ≤ s ∧ s ≤ V 134 4 - 1
abbrev cSame (V : Va) (ahead one : Int) : Prop := cSeenOk V ahead ∧ cSeenOk V one ∧ V 136 ahead = V 136 one ∧ 0 < V 138 one - V 138 ahead ∧ 0 ≤ V 137 ahead - V 137 one ∧ V 137 ahead - V 137 one ≤ V 134 5 * (V 138 one - V 138 ahead) ∧ cMiles V (V 135 ahead) (V 135 one) < (V 138 one - V 138 ahead + 1) * V 134 6
theorem cTB_1 {V : Va} {k : Int} (hk : k ≠ 10) : cTB V 1 k = V 1 k := by
  simp only [cTB]
  rw [up_same, ua_ne hk]
