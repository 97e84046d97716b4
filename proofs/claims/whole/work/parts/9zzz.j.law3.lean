section XLw
variable {Γ : Ctx} {B : Bs} {own nm : String} {cc : ByteArray} {nL : Nat} {ret : Option FieldType} {lev mc ms pc : Nat} {L : List (Option Value)} {st : List Value} {kc ks : Nat} {S : Stt} {V : Va} {b n : Nat} {xs : Nat → Int32}
theorem x_alS {T : List (Option Value)} {x : Nat} (d : decode cc pc = .ok (.aload_n 0, 1)) (k : X Γ B own nm cc nL ret lev mc ms (pc + 1) (some (.ref x) :: T) (.ref x :: st) kc ks S V) : X Γ B own nm cc nL ret lev mc ms pc (some (.ref x) :: T) st kc ks S V := by
  obtain ⟨p, l, e, R, s, m, args, below, meth, c, Q, D, ca⟩ := Γ
  intro o H locs ls h1 h2 h3
  have hl := h3.at_ (i := 0) rfl
  have hx := o.1
  have hb := o.2.1
  have k := k o H locs ls h1 h2 h3
  exact lv_aload_n hx hb d rfl hl k
theorem x_icmpS {a a' : Int} {off : Int} {tgt : Nat} (d : decode cc pc = .ok (.if_icmp .eq off, 3)) (h : a = a') (k : X Γ B own nm cc nL ret lev mc ms tgt L st kc ks S V) (ht : (pc : Int) + off = (tgt : Int) := by decide) : X Γ B own nm cc nL ret lev mc ms pc L (vI a' :: vI a :: st) kc ks S V := by
  subst h
  exact x_br (P1 := True) (P2 := False) (pc1 := tgt) (pc2 := pc + 3) (fun hx hb' h1 h2 => lv_icmp_eq hx hb' d ht (fun _ => h1 trivial) (fun z => absurd rfl z)) (fun _ => k) (fun f => f.elim)
theorem x_lcmpS {a a' : Int} {off : Int} {tgt : Nat} (d0 : decode cc pc = .ok (.lcmp, 1)) (d : decode cc (pc + 1) = .ok (.ifCond .eq off, 3)) (h : a = a') (k : X Γ B own nm cc nL ret lev mc ms tgt L st kc ks S V) (ht : ((pc + 1 : Nat) : Int) + off = (tgt : Int) := by decide) : X Γ B own nm cc nL ret lev mc ms pc L (vL a' :: vL a :: st) kc ks S V := by
  subst h
  exact x_br (P1 := True) (P2 := False) (pc1 := tgt) (pc2 := pc + 4) (fun hx hb' h1 h2 => W.lcmp hx hb' d0 (lv_if_eq hx hb' d ht (fun _ => h1 trivial) (fun z => absurd ((lg_cmp_eq _ _).mpr rfl) z))) (fun _ => k) (fun f => f.elim)
/-- one of the script's ints on the stack -/
theorem x_arg {a1 a2 : Option Value} {T : List (Option Value)} {i k : Int} (hc : Scp Γ B b n xs) (d0 : decode cc pc = .ok (.aload_n 0, 1)) (d1 : decode cc (pc + 1) = .ok (.iload_n 3, 1)) (d2 : decode cc (pc + 2) = .ok (.iconst k, 1)) (d3 : decode cc (pc + 3) = .ok (.iadd, 1)) (d4 : decode cc (pc + 4) = .ok (.iaload, 1)) (h0 : 0 ≤ i + k) (h1 : i + k < n) (K : X Γ B own nm cc nL ret lev mc ms (pc + 5) (some (.ref b) :: a1 :: a2 :: some (vI i) :: T) (vI (xv xs (i + k)) :: st) kc ks S V) : X Γ B own nm cc nL ret lev mc ms pc (some (.ref b) :: a1 :: a2 :: some (vI i) :: T) st kc ks S V :=
  x_alS d0 (x_il3 d1 (x_iconst d2 (x_iadd d3 (x_sld hc h0 h1 d4 K))))
/-- an answer of which something is known, and the reference's scratch -/
theorem x_cVig {y : MethodName} {cc' : ByteArray} {nL' m index ci i z lev' : Nat} {ret' : Option FieldType} {As rest : List Value} {P : Int → Prop} (hm : MV y cc' nL' ret' m) (hl : Cond.methodLink own index y ∈ TB) (d : decode cc pc = .ok (.invokevirtual index, 3)) (hC : C B y cc' nL' ret' lev' 0 0 (vR B i :: As) S V (rG S V P)) (hs : S.1 i = (ci + 5, z)) (hi : i < S.2.2)
    (k : ∀ r V1, P r → Scr V V1 → X Γ B own nm cc nL ret lev mc ms (pc + 3) L (vI r :: rest) kc ks S V1) (hst : st = As.reverse ++ vR B i :: rest := by rfl) (hci : ci < 12 := by decide) (hy : Rc ci = y.cls := by rfl) (hlev : lev' < lev := by decide) (hn : As.length = m := by rfl) (hrm : nL' ≤ 45 := by decide) (hsum : (rest.map fun v => v.category).sum ≤ 8 := by exact Nat.le_of_ble_eq_true rfl) (hf : kc + 0 ≤ mc ∧ ks + 0 ≤ ms := by exact ⟨Nat.le_of_ble_eq_true rfl, Nat.le_of_ble_eq_true rfl⟩) : X Γ B own nm cc nL ret lev mc ms pc L st kc ks S V :=
  x_callV hm hl d hC hs hi (fun v S' V' h => by obtain ⟨r, h1, rfl, rfl, h2⟩ := h; exact k r V' h1 h2) hst hlev hci hy hn hrm hsum hf
end XLw
