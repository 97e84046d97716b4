/-! null in a local -/
section XNu
variable {Γ : Ctx} {B : Bs} {own nm : String} {cc : ByteArray} {nL : Nat} {ret : Option FieldType} {lev mc ms pc : Nat} {L : List (Option Value)} {st : List Value} {kc ks : Nat} {S : Stt} {V : Va}
theorem x_nl1 {a0 : Option Value} {T : List (Option Value)} (d : decode cc pc = .ok (.aload_n 1, 1)) (k : X Γ B own nm cc nL ret lev mc ms (pc + 1) (a0 :: some .null :: T) (.null :: st) kc ks S V) : X Γ B own nm cc nL ret lev mc ms pc (a0 :: some .null :: T) st kc ks S V := by
  obtain ⟨p, l, e, R, s, m, args, below, meth, c, Q, D, ca⟩ := Γ
  intro o H locs ls h1 h2 h3
  exact lv_aload_nN o.1 o.2.1 d rfl (h3.at_ (i := 1) rfl) (k o H locs ls h1 h2 h3)
theorem x_ns1 {a1 : Option Value} {a0 : Option Value} {T : List (Option Value)} (d : decode cc pc = .ok (.astore_n 1, 1)) (k : X Γ B own nm cc nL ret lev mc ms (pc + 1) (a0 :: some .null :: T) st kc ks S V) (hc : c1 a0 = true := by rfl) (hn : 1 < nL := by decide) : X Γ B own nm cc nL ret lev mc ms pc (a0 :: a1 :: T) (.null :: st) kc ks S V := by
  obtain ⟨p, l, e, R, s, m, args, below, meth, c, Q, D, ca⟩ := Γ
  intro o H locs ls h1 h2 h3
  exact lv_astore_nN o.1 o.2.1 d rfl h3 hn rfl (fun ls' hl => k o H locs ls' h1 h2 (LH_st1 hl (fun w _ h => by
    have h : some a0 = some w := h
    cases h
    exact hc)))
theorem x_nl2 {a0 a1 : Option Value} {T : List (Option Value)} (d : decode cc pc = .ok (.aload_n 2, 1)) (k : X Γ B own nm cc nL ret lev mc ms (pc + 1) (a0 :: a1 :: some .null :: T) (.null :: st) kc ks S V) : X Γ B own nm cc nL ret lev mc ms pc (a0 :: a1 :: some .null :: T) st kc ks S V := by
  obtain ⟨p, l, e, R, s, m, args, below, meth, c, Q, D, ca⟩ := Γ
  intro o H locs ls h1 h2 h3
  exact lv_aload_nN o.1 o.2.1 d rfl (h3.at_ (i := 2) rfl) (k o H locs ls h1 h2 h3)
theorem x_ns2 {a2 : Option Value} {a0 a1 : Option Value} {T : List (Option Value)} (d : decode cc pc = .ok (.astore_n 2, 1)) (k : X Γ B own nm cc nL ret lev mc ms (pc + 1) (a0 :: a1 :: some .null :: T) st kc ks S V) (hc : c1 a1 = true := by rfl) (hn : 2 < nL := by decide) : X Γ B own nm cc nL ret lev mc ms pc (a0 :: a1 :: a2 :: T) (.null :: st) kc ks S V := by
  obtain ⟨p, l, e, R, s, m, args, below, meth, c, Q, D, ca⟩ := Γ
  intro o H locs ls h1 h2 h3
  exact lv_astore_nN o.1 o.2.1 d rfl h3 hn rfl (fun ls' hl => k o H locs ls' h1 h2 (LH_st1 hl (fun w _ h => by
    have h : some a1 = some w := h
    cases h
    exact hc)))
theorem x_nl3 {a0 a1 a2 : Option Value} {T : List (Option Value)} (d : decode cc pc = .ok (.aload_n 3, 1)) (k : X Γ B own nm cc nL ret lev mc ms (pc + 1) (a0 :: a1 :: a2 :: some .null :: T) (.null :: st) kc ks S V) : X Γ B own nm cc nL ret lev mc ms pc (a0 :: a1 :: a2 :: some .null :: T) st kc ks S V := by
  obtain ⟨p, l, e, R, s, m, args, below, meth, c, Q, D, ca⟩ := Γ
  intro o H locs ls h1 h2 h3
  exact lv_aload_nN o.1 o.2.1 d rfl (h3.at_ (i := 3) rfl) (k o H locs ls h1 h2 h3)
theorem x_ns3 {a3 : Option Value} {a0 a1 a2 : Option Value} {T : List (Option Value)} (d : decode cc pc = .ok (.astore_n 3, 1)) (k : X Γ B own nm cc nL ret lev mc ms (pc + 1) (a0 :: a1 :: a2 :: some .null :: T) st kc ks S V) (hc : c1 a2 = true := by rfl) (hn : 3 < nL := by decide) : X Γ B own nm cc nL ret lev mc ms pc (a0 :: a1 :: a2 :: a3 :: T) (.null :: st) kc ks S V := by
  obtain ⟨p, l, e, R, s, m, args, below, meth, c, Q, D, ca⟩ := Γ
  intro o H locs ls h1 h2 h3
  exact lv_astore_nN o.1 o.2.1 d rfl h3 hn rfl (fun ls' hl => k o H locs ls' h1 h2 (LH_st1 hl (fun w _ h => by
    have h : some a2 = some w := h
    cases h
    exact hc)))
theorem x_nl4 {a0 a1 a2 a3 : Option Value} {T : List (Option Value)} (d : decode cc pc = .ok (.aload 4, 2)) (k : X Γ B own nm cc nL ret lev mc ms (pc + 2) (a0 :: a1 :: a2 :: a3 :: some .null :: T) (.null :: st) kc ks S V) : X Γ B own nm cc nL ret lev mc ms pc (a0 :: a1 :: a2 :: a3 :: some .null :: T) st kc ks S V := by
  obtain ⟨p, l, e, R, s, m, args, below, meth, c, Q, D, ca⟩ := Γ
  intro o H locs ls h1 h2 h3
  exact lv_aloadN o.1 o.2.1 d (h3.at_ (i := 4) rfl) (k o H locs ls h1 h2 h3)
theorem x_ns4 {a4 : Option Value} {a0 a1 a2 a3 : Option Value} {T : List (Option Value)} (d : decode cc pc = .ok (.astore 4, 2)) (k : X Γ B own nm cc nL ret lev mc ms (pc + 2) (a0 :: a1 :: a2 :: a3 :: some .null :: T) st kc ks S V) (hc : c1 a3 = true := by rfl) (hn : 4 < nL := by decide) : X Γ B own nm cc nL ret lev mc ms pc (a0 :: a1 :: a2 :: a3 :: a4 :: T) (.null :: st) kc ks S V := by
  obtain ⟨p, l, e, R, s, m, args, below, meth, c, Q, D, ca⟩ := Γ
  intro o H locs ls h1 h2 h3
  exact lv_astoreN o.1 o.2.1 d h3 hn rfl (fun ls' hl => k o H locs ls' h1 h2 (LH_st1 hl (fun w _ h => by
    have h : some a3 = some w := h
    cases h
    exact hc)))
theorem x_nl5 {a0 a1 a2 a3 a4 : Option Value} {T : List (Option Value)} (d : decode cc pc = .ok (.aload 5, 2)) (k : X Γ B own nm cc nL ret lev mc ms (pc + 2) (a0 :: a1 :: a2 :: a3 :: a4 :: some .null :: T) (.null :: st) kc ks S V) : X Γ B own nm cc nL ret lev mc ms pc (a0 :: a1 :: a2 :: a3 :: a4 :: some .null :: T) st kc ks S V := by
  obtain ⟨p, l, e, R, s, m, args, below, meth, c, Q, D, ca⟩ := Γ
  intro o H locs ls h1 h2 h3
  exact lv_aloadN o.1 o.2.1 d (h3.at_ (i := 5) rfl) (k o H locs ls h1 h2 h3)
theorem x_ns5 {a5 : Option Value} {a0 a1 a2 a3 a4 : Option Value} {T : List (Option Value)} (d : decode cc pc = .ok (.astore 5, 2)) (k : X Γ B own nm cc nL ret lev mc ms (pc + 2) (a0 :: a1 :: a2 :: a3 :: a4 :: some .null :: T) st kc ks S V) (hc : c1 a4 = true := by rfl) (hn : 5 < nL := by decide) : X Γ B own nm cc nL ret lev mc ms pc (a0 :: a1 :: a2 :: a3 :: a4 :: a5 :: T) (.null :: st) kc ks S V := by
  obtain ⟨p, l, e, R, s, m, args, below, meth, c, Q, D, ca⟩ := Γ
  intro o H locs ls h1 h2 h3
  exact lv_astoreN o.1 o.2.1 d h3 hn rfl (fun ls' hl => k o H locs ls' h1 h2 (LH_st1 hl (fun w _ h => by
    have h : some a4 = some w := h
    cases h
    exact hc)))
end XNu
theorem RkI_t {nm op ag g : Int → Int} {N T fr to i top : Int} (I : RkI nm op ag N T fr to i top g) : 0 ≤ top ∧ top ≤ i - fr := by
  obtain ⟨v, r, n, t, h1, h2, h3, h4, -⟩ := I
  omega
theorem RkI_er {nm op ag g : Int → Int} {N T fr to i top e : Int} (I : RkI nm op ag N T fr to i top g) (hi : i < to) (he : e = encO (op i) (ag i)) : -9999 ≤ -e ∧ -e ≤ 40 := by
  obtain ⟨v, r, n, t, h1, h2, h3, h4, h5, -⟩ := I
  rw [show (to - i).toNat = (to - (i + 1)).toNat + 1 by omega] at h5
  simp only [dOK2] at h5
  rcases h5 with z | z | z | z | z | z | z
  · have y := enc_0 (v := ag i) z.1; omega
  · have y := enc_1 (v := ag i) z.1; omega
  · have y := enc_2 (v := ag i) z.1; omega
  · have y := enc_3 (v := ag i) z.1 z.2.1; omega
  · have y := enc_10 (v := ag i) z.1 z.2.1; omega
  · have y := enc_20 (v := ag i) z.1; omega
  · have y := enc_21 (v := ag i) z.1; omega
