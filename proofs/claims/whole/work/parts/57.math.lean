/-! Math -/
theorem ini_math : Cond.initialized "java/lang/Math" ∈ TB := tb_1 13 rfl rfl
theorem sta_max : Cond.static Lib.Math.max.name ∈ TB := tb_3 116 rfl rfl
theorem cod_max : Cond.code Lib.Math.max.name Lib.Math.max.code 2 (some .int) ∈ TB := tb_3 117 rfl rfl
theorem sta_min : Cond.static Lib.Math.min.name ∈ TB := tb_2 237 rfl rfl
theorem cod_min : Cond.code Lib.Math.min.name Lib.Math.min.code 2 (some .int) ∈ TB := tb_2 238 rfl rfl
theorem sta_abs : Cond.static Lib.Math.abs.name ∈ TB := tb_4 231 rfl rfl
theorem cod_abs : Cond.code Lib.Math.abs.name Lib.Math.abs.code 1 (some .int) ∈ TB := tb_4 232 rfl rfl
theorem sta_minL : Cond.static Lib.MathLoose.min_long.x ∈ TB := tb_5 24 rfl rfl
theorem cod_minL : Cond.code Lib.MathLoose.min_long.x Lib.MathLoose.min_long.code 4 (some .long) ∈ TB := tb_5 25 rfl rfl
section XMt
variable {Γ : Ctx} {B : Bs} {own nm : String} {cc : ByteArray} {nL : Nat} {ret : Option FieldType} {lev mc ms pc : Nat} {L : List (Option Value)} {st : List Value} {kc ks : Nat} {S : Stt} {V : Va}
theorem x_mmax {index : Nat} {a b : Int} (hl : Cond.methodLink own index Lib.Math.max.name ∈ TB) (d : decode cc pc = .ok (.invokestatic index, 3)) (ha : InR a) (hb : InR b) (k : X Γ B own nm cc nL ret lev mc ms (pc + 3) L (vI (if a < b then b else a) :: st) kc ks S V) (hlev : 1 ≤ lev := by decide) (hsum : (st.map fun v => v.category).sum ≤ 8 := by exact Nat.le_of_ble_eq_true rfl) (hf : kc ≤ mc ∧ ks ≤ ms := by exact ⟨Nat.le_of_ble_eq_true rfl, Nat.le_of_ble_eq_true rfl⟩) : X Γ B own nm cc nL ret lev mc ms pc L (vI b :: vI a :: st) kc ks S V := by
  obtain ⟨p, l, e, R, s, m, args, below, meth, c, Q, D, ca⟩ := Γ
  intro o H locs ls h1 h2 h3
  obtain ⟨hx, hb', hml, hr, hlk, hown, hnm, hts, hK, hBg, hle, hR1, hR2, hR3, hR4⟩ := id o
  refine va_mmax hx hb' (hml.trans h3.1.symm) hown (hts _ hl) (hts _ sta_max) (hts _ ini_math) (hts _ cod_max) (by omega) (by omega) (by omega) (by omega) d ?_
  have kk := k o H locs ls h1 h2 h3
  by_cases z : a < b
  · rw [if_pos z] at kk
    rw [if_pos ((iI_lt ha hb).mpr z)]
    exact kk
  · rw [if_neg z] at kk
    rw [if_neg (fun q => z ((iI_lt ha hb).mp q))]
    exact kk
theorem x_mmin {index : Nat} {a b : Int} (hl : Cond.methodLink own index Lib.Math.min.name ∈ TB) (d : decode cc pc = .ok (.invokestatic index, 3)) (ha : InR a) (hb : InR b) (k : X Γ B own nm cc nL ret lev mc ms (pc + 3) L (vI (if b < a then b else a) :: st) kc ks S V) (hlev : 1 ≤ lev := by decide) (hsum : (st.map fun v => v.category).sum ≤ 8 := by exact Nat.le_of_ble_eq_true rfl) (hf : kc ≤ mc ∧ ks ≤ ms := by exact ⟨Nat.le_of_ble_eq_true rfl, Nat.le_of_ble_eq_true rfl⟩) : X Γ B own nm cc nL ret lev mc ms pc L (vI b :: vI a :: st) kc ks S V := by
  obtain ⟨p, l, e, R, s, m, args, below, meth, c, Q, D, ca⟩ := Γ
  intro o H locs ls h1 h2 h3
  obtain ⟨hx, hb', hml, hr, hlk, hown, hnm, hts, hK, hBg, hle, hR1, hR2, hR3, hR4⟩ := id o
  refine va_mmin hx hb' (hml.trans h3.1.symm) hown (hts _ hl) (hts _ sta_min) (hts _ ini_math) (hts _ cod_min) (by omega) (by omega) (by omega) (by omega) d ?_
  have kk := k o H locs ls h1 h2 h3
  by_cases z : b < a
  · rw [if_pos z] at kk
    rw [if_pos ((iI_lt hb ha).mpr z)]
    exact kk
  · rw [if_neg z] at kk
    rw [if_neg (fun q => z ((iI_lt hb ha).mp q))]
    exact kk
theorem x_mabs {index : Nat} {a : Int} (hl : Cond.methodLink own index Lib.Math.abs.name ∈ TB) (d : decode cc pc = .ok (.invokestatic index, 3)) (ha : InR a) (k : X Γ B own nm cc nL ret lev mc ms (pc + 3) L (vI (if a < 0 then -a else a) :: st) kc ks S V) (hlev : 1 ≤ lev := by decide) (hsum : (st.map fun v => v.category).sum ≤ 8 := by exact Nat.le_of_ble_eq_true rfl) (hf : kc ≤ mc ∧ ks ≤ ms := by exact ⟨Nat.le_of_ble_eq_true rfl, Nat.le_of_ble_eq_true rfl⟩) : X Γ B own nm cc nL ret lev mc ms pc L (vI a :: st) kc ks S V := by
  obtain ⟨p, l, e, R, s, m, args, below, meth, c, Q, D, ca⟩ := Γ
  intro o H locs ls h1 h2 h3
  obtain ⟨hx, hb', hml, hr, hlk, hown, hnm, hts, hK, hBg, hle, hR1, hR2, hR3, hR4⟩ := id o
  refine va_mabs hx hb' (hml.trans h3.1.symm) hown (hts _ hl) (hts _ sta_abs) (hts _ ini_math) (hts _ cod_abs) (by omega) (by omega) (by omega) (by omega) d ?_
  have kk := k o H locs ls h1 h2 h3
  by_cases z : a < 0
  · rw [if_pos z] at kk
    rw [if_neg (fun q => by have := (iI_0le ha).mp q; omega), show (0 : Int32) - Int32.ofInt a = Int32.ofInt (-a) by rw [← Int.zero_sub, Int32.ofInt_sub]; rfl]
    exact kk
  · rw [if_neg z] at kk
    rw [if_pos ((iI_0le ha).mpr (by omega))]
    exact kk
theorem x_mminL {index : Nat} {a b : Int} (hl : Cond.methodLink own index Lib.MathLoose.min_long.x ∈ TB) (d : decode cc pc = .ok (.invokestatic index, 3)) (ha : InL a) (hb : InL b) (k : X Γ B own nm cc nL ret lev mc ms (pc + 3) L (vL (if b < a then b else a) :: st) kc ks S V) (hlev : 1 ≤ lev := by decide) (hsum : (st.map fun v => v.category).sum ≤ 8 := by exact Nat.le_of_ble_eq_true rfl) (hf : kc ≤ mc ∧ ks ≤ ms := by exact ⟨Nat.le_of_ble_eq_true rfl, Nat.le_of_ble_eq_true rfl⟩) : X Γ B own nm cc nL ret lev mc ms pc L (vL b :: vL a :: st) kc ks S V := by
  obtain ⟨p, l, e, R, s, m, args, below, meth, c, Q, D, ca⟩ := Γ
  intro o H locs ls h1 h2 h3
  obtain ⟨hx, hb', hml, hr, hlk, hown, hnm, hts, hK, hBg, hle, hR1, hR2, hR3, hR4⟩ := id o
  refine va_mmin_long hx hb' (hml.trans h3.1.symm) hown (hts _ hl) (hts _ sta_minL) (hts _ ini_math) (hts _ cod_minL) (by omega) (by omega) (by omega) (by omega) d ?_
  have kk := k o H locs ls h1 h2 h3
  by_cases z : b < a
  · rw [if_pos z] at kk
    rw [if_pos ((iL_lt hb ha).mpr z)]
    exact kk
  · rw [if_neg z] at kk
    rw [if_neg (fun q => z ((iL_lt hb ha).mp q))]
    exact kk
end XMt
