/-- four bytes, the highest first, at n -/
def tape4 (t : Int → Int) (n v : Int) : Int → Int := ua (ua (ua (ua t n (v / p2 24 % 256)) (n + 1) (v / p2 16 % 256)) (n + 1 + 1) (v / p2 8 % 256)) (n + 1 + 1 + 1) (v / p2 0 % 256)
def feedT (t : Int → Int) (n a b c d e : Int) : Int → Int := tape4 (tape4 (tape4 (tape4 (tape4 t n a) (n + 1 + 1 + 1 + 1) b) (n + 1 + 1 + 1 + 1 + 1 + 1 + 1 + 1) c) (n + 1 + 1 + 1 + 1 + 1 + 1 + 1 + 1 + 1 + 1 + 1 + 1) d) (n + 1 + 1 + 1 + 1 + 1 + 1 + 1 + 1 + 1 + 1 + 1 + 1 + 1 + 1 + 1 + 1) e
abbrev mSeenC (a : Int → Int) (town kind weight year : Int) : Prop := mTownOk a town ∧ 0 ≤ kind ∧ kind ≤ 19 ∧ 1 ≤ weight ∧ weight ≤ 999 ∧ 0 ≤ year ∧ year ≤ 999 ∧ a 6 ≠ 12
def mSeenA (a : Int → Int) (town kind weight year : Int) : Int → Int := ua (ua (ua (ua (ua a (126 + 4 * a 6) town) (126 + 4 * a 6 + 1) kind) (126 + 4 * a 6 + 2) weight) (126 + 4 * a 6 + 3) year) 6 (a 6 + 1)
def mAbout (a : Int → Int) (taped what : Int) : Int := if 10 ≤ what ∧ what ≤ 9 + a 0 then mProofs a (what - 10) (a 1) else if 20 ≤ what ∧ what ≤ 19 + a 0 then mBonesAt a (what - 20) (a 1) else if 0 ≤ what ∧ what ≤ 8 then a what else if what = 9 then taped else -2
