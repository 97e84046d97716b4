/-! the memory as the constructors leave it -/
def ExS : List (Nat × Nat) := [(14, 0), (10, 0), (11, 0), (6, 0), (9, 0), (16, 0), (8, 0), (0, 1814)]
def Zc (c : CelM) : Prop := (c.1 ∈ ExS ∨ ∀ k, c.2.2 k = 0) ∧ (c.1.1 ≠ 3 ∨ ∀ k, c.2.1 k = none)
theorem Zc_n (sh : Nat × Nat) : Zc (nC sh) := ⟨Or.inr (fun _ => rfl), Or.inr (fun _ => rfl)⟩
theorem Zc_x {sh : Nat × Nat} {r : Int → Option Nat} {v : Int → Int} (h : sh ∈ ExS) (h3 : sh.1 ≠ 3) : Zc (sh, r, v) := ⟨Or.inl h, Or.inl h3⟩
theorem Zc_o {sh : Nat × Nat} {r : Int → Option Nat} (h3 : sh.1 ≠ 3) : Zc (sh, r, fun _ => 0) := ⟨Or.inr (fun _ => rfl), Or.inl h3⟩
theorem z_nil : ∀ c, c ∈ ([] : List CelM) → Zc c := fun _ h => absurd h List.not_mem_nil
theorem bonC_z (i : Nat) : ∀ c, c ∈ bonC i → Zc c := by
  unfold bonC
  repeat first | exact z_nil | refine List.forall_mem_cons.mpr ⟨by first | exact Zc_n _ | exact Zc_o (by decide) | exact Zc_x (by decide) (by decide), ?_⟩
theorem seeC_z (i : Nat) : ∀ c, c ∈ seeC i → Zc c := by
  unfold seeC
  repeat first | exact z_nil | refine List.forall_mem_cons.mpr ⟨by first | exact Zc_n _ | exact Zc_o (by decide) | exact Zc_x (by decide) (by decide), ?_⟩
theorem stpC_z (i : Nat) : ∀ c, c ∈ stpC i → Zc c := by
  unfold stpC
  repeat first | exact z_nil | exact bonC_z _ | refine List.forall_mem_append.mpr ⟨bonC_z _, ?_⟩ | refine List.forall_mem_cons.mpr ⟨by first | exact Zc_n _ | exact Zc_o (by decide) | exact Zc_x (by decide) (by decide), ?_⟩
theorem worC_z (i : Nat) : ∀ c, c ∈ worC i → Zc c := by
  unfold worC
  repeat first | exact z_nil | exact seeC_z _ | refine List.forall_mem_append.mpr ⟨bonC_z _, ?_⟩ | refine List.forall_mem_append.mpr ⟨stpC_z _, ?_⟩ | refine List.forall_mem_cons.mpr ⟨by first | exact Zc_n _ | exact Zc_o (by decide) | exact Zc_x (by decide) (by decide), ?_⟩
theorem reaC_z (i : Nat) : ∀ c, c ∈ reaC i → Zc c := by
  unfold reaC
  repeat first | exact z_nil | refine List.forall_mem_cons.mpr ⟨by first | exact Zc_n _ | exact Zc_o (by decide) | exact Zc_x (by decide) (by decide), ?_⟩
theorem lawC_z (i a : Nat) : ∀ c, c ∈ lawC i a → Zc c := by
  unfold lawC
  repeat first | exact z_nil | refine List.forall_mem_cons.mpr ⟨by first | exact Zc_n _ | exact Zc_o (by decide) | exact Zc_x (by decide) (by decide), ?_⟩
theorem shaC_z (i a b : Nat) : ∀ c, c ∈ shaC i a b → Zc c := by
  unfold shaC
  repeat first | exact z_nil | refine List.forall_mem_cons.mpr ⟨by first | exact Zc_n _ | exact Zc_o (by decide) | exact Zc_x (by decide) (by decide), ?_⟩
theorem pasC_z (i a : Nat) : ∀ c, c ∈ pasC i a → Zc c := by
  unfold pasC
  repeat first | exact z_nil | refine List.forall_mem_cons.mpr ⟨by first | exact Zc_n _ | exact Zc_o (by decide) | exact Zc_x (by decide) (by decide), ?_⟩
theorem rouC_z (i a : Nat) : ∀ c, c ∈ rouC i a → Zc c := by
  unfold rouC
  repeat first | exact z_nil | refine List.forall_mem_cons.mpr ⟨by first | exact Zc_n _ | exact Zc_o (by decide) | exact Zc_x (by decide) (by decide), ?_⟩
theorem ninC_z (i : Nat) : ∀ c, c ∈ ninC i → Zc c := by
  unfold ninC
  repeat first | exact z_nil | exact rouC_z _ _ | refine List.forall_mem_append.mpr ⟨worC_z _, ?_⟩ | refine List.forall_mem_append.mpr ⟨reaC_z _, ?_⟩ | refine List.forall_mem_append.mpr ⟨lawC_z _ _, ?_⟩ | refine List.forall_mem_append.mpr ⟨shaC_z _ _ _, ?_⟩ | refine List.forall_mem_append.mpr ⟨pasC_z _ _, ?_⟩ | refine List.forall_mem_append.mpr ⟨rouC_z _ _, ?_⟩ | refine List.forall_mem_cons.mpr ⟨by first | exact Zc_n _ | exact Zc_o (by decide) | exact Zc_x (by decide) (by decide), ?_⟩
theorem modC_z (i : Nat) : ∀ c, c ∈ modC i → Zc c := by
  unfold modC
  repeat first | exact z_nil | refine List.forall_mem_cons.mpr ⟨by first | exact Zc_n _ | exact Zc_o (by decide) | exact Zc_x (by decide) (by decide), ?_⟩
theorem Zc_at (q : Nat) : Zc ((ninC 0 ++ modC 308).getD q dC) := by
  show Zc (((ninC 0 ++ modC 308)[q]?).getD dC)
  cases e : (ninC 0 ++ modC 308)[q]? with
  | none => exact ⟨Or.inr (fun _ => rfl), Or.inr (fun _ => rfl)⟩
  | some c => exact List.forall_mem_append.mpr ⟨ninC_z 0, modC_z 308⟩ c (List.mem_of_getElem? e)
/-- the memory when the law's loop begins -/
def S0 : Stt := sO (ninC 0 ++ modC 308)
def W0 : Va := vO (ninC 0 ++ modC 308)
def V0 : Va := up W0 310 (cpK (W0 309) (W0 310) 1814)
theorem z_W {q : Nat} (hq : q < 326) (hs : sh0 q ∉ ExS) (k : Int) : W0 q k = 0 := by
  rcases (Zc_at q).1 with z | z
  · exact absurd (by rw [← Stat_0.1 q hq]; exact z) hs
  · exact z k
theorem z_V {q : Nat} (hq : q < 326) (hs : sh0 q ∉ ExS) (k : Int) : V0 q k = 0 := by
  have h : q ≠ 310 := fun e => hs (by rw [e]; decide)
  show up W0 310 _ q k = 0
  rw [up_ne h]
  exact z_W hq hs k
theorem z_R {q : Nat} (hq : q < 326) (hs : (sh0 q).1 = 3) (k : Int) : S0.2.1 q k = none := by
  rcases (Zc_at q).2 with z | z
  · exact absurd (by rw [← hs, ← Stat_0.1 q hq]; rfl) z
  · exact z k
theorem V0_a : V0 309 = ua (ua (ua (fun _ => 0) 4 (-1)) 7 1) 8 10 := by
  have h := gAn (ninC 0) (t := modC 308) 1 rfl
  rw [ninC_len] at h
  show W0 309 = _
  show ((ninC 0 ++ modC 308).getD 309 dC).2.2 = _
  rw [show (309 : Nat) = 308 + 1 from rfl, h]
theorem V0_i : V0 310 = cpK (V0 309) (fun _ => 0) 1814 := by
  have h := gAn (ninC 0) (t := modC 308) 2 rfl
  rw [ninC_len] at h
  have e : W0 310 = fun _ => 0 := by
    show ((ninC 0 ++ modC 308).getD 310 dC).2.2 = _
    rw [show (310 : Nat) = 308 + 2 from rfl, h]
    rfl
  show up W0 310 (cpK (W0 309) (W0 310) 1814) 310 = cpK (up W0 310 (cpK (W0 309) (W0 310) 1814) 309) (fun _ => 0) 1814
  rw [up_same, up_ne (by decide), e]
theorem a0_at {k : Int} (h4 : k ≠ 4) (h7 : k ≠ 7) (h8 : k ≠ 8) : V0 309 k = 0 := by rw [V0_a, ua_ne h8, ua_ne h7, ua_ne h4]
theorem MIv_0 : MIv (V0 309) := by
  have a0 : V0 309 0 = 0 := a0_at (by decide) (by decide) (by decide)
  have a1 : V0 309 1 = 0 := a0_at (by decide) (by decide) (by decide)
  have a2 : V0 309 2 = 0 := a0_at (by decide) (by decide) (by decide)
  have a3 : V0 309 3 = 0 := a0_at (by decide) (by decide) (by decide)
  have a5 : V0 309 5 = 0 := a0_at (by decide) (by decide) (by decide)
  have a6 : V0 309 6 = 0 := a0_at (by decide) (by decide) (by decide)
  have a4 : V0 309 4 = -1 := by rw [V0_a]; rfl
  have a7 : V0 309 7 = 1 := by rw [V0_a]; rfl
  have a8 : V0 309 8 = 10 := by rw [V0_a]; rfl
  refine ⟨⟨fun k => ?_, by omega, by omega, by omega, by omega, by omega, fun b b0 b1 => ?_⟩, by omega, by omega, by omega, fun t t0 t1 => by omega, fun x x0 x1 => by omega, fun x x0 x1 => by omega, fun x x0 x1 => ?_, fun j j0 j1 => by omega, fun s s0 s1 => by omega⟩
  · rw [V0_a]
    simp only [ua]
    (repeat' split) <;> omega
  · rw [a0_at (by omega) (by omega) (by omega)]; exact Int.le_refl _
  · show V0 309 (30 + 6 * x + 1 + 4) = 0
    exact a0_at (by omega) (by omega) (by omega)
theorem WB_0 {b : Nat} (hb : b = 1 ∨ b = 139) : WB V0 b := by
  have key : ∀ q : Nat, q < 326 → sh0 q ∉ ExS → AB (V0 q) ∧ (∀ t, 0 ≤ V0 q t ∧ V0 q t < 65536) ∧ (∀ t, 0 ≤ V0 q t ∧ V0 q t ≤ 999) ∧ (0 ≤ V0 q 5 ∧ V0 q 5 ≤ 16) := fun q hq hs => by
    have z := z_V hq hs
    exact ⟨fun t => by rw [z]; omega, fun t => by rw [z]; omega, fun t => by rw [z]; omega, by rw [z]; omega⟩
  have ring : ∀ k, k < 20 → ∀ j, j < 6 → b + 12 + 6 * k + j < 326 ∧ sh0 (b + 12 + 6 * k + j) ∉ ExS := by
    rcases hb with rfl | rfl <;> decide
  have row : ∀ j, j < 11 → 1 ≤ j → b + j < 326 ∧ sh0 (b + j) ∉ ExS := by
    rcases hb with rfl | rfl <;> decide
  have r135 : (b + 135 < 326 ∧ sh0 (b + 135) ∉ ExS) ∧ (b + 136 < 326 ∧ sh0 (b + 136) ∉ ExS) ∧ (b + 137 < 326 ∧ sh0 (b + 137) ∉ ExS) := by
    rcases hb with rfl | rfl <;> decide
  have k := fun j h1 h2 => key (b + j) (row j h1 h2).1 (row j h1 h2).2
  refine ⟨(k 1 (by decide) (by decide)).1, (k 2 (by decide) (by decide)).1, (k 3 (by decide) (by decide)).1, (k 9 (by decide) (by decide)).2.1, (k 5 (by decide) (by decide)).1, (k 6 (by decide) (by decide)).1, (k 7 (by decide) (by decide)).1, (k 8 (by decide) (by decide)).1, (key _ r135.1.1 r135.1.2).1, (key _ r135.2.1.1 r135.2.1.2).2.2.1, (key _ r135.2.2.1 r135.2.2.2).2.2.1, fun m hm => ?_⟩
  have g := fun j hj => key (b + 12 + 6 * m + j) (ring m hm j hj).1 (ring m hm j hj).2
  exact ⟨(g 0 (by decide)).2.2.2, (g 5 (by decide)).2.1, (g 1 (by decide)).1, (g 2 (by decide)).1, (g 3 (by decide)).1, (g 4 (by decide)).1⟩
theorem WSim_0 {b : Nat} (hb : b = 1 ∨ b = 139) : WSim V0 b (V0 309) := by
  have a0 : V0 309 0 = 0 := a0_at (by decide) (by decide) (by decide)
  have a1 : V0 309 1 = 0 := a0_at (by decide) (by decide) (by decide)
  have a2 : V0 309 2 = 0 := a0_at (by decide) (by decide) (by decide)
  have a3 : V0 309 3 = 0 := a0_at (by decide) (by decide) (by decide)
  have a5 : V0 309 5 = 0 := a0_at (by decide) (by decide) (by decide)
  have a6 : V0 309 6 = 0 := a0_at (by decide) (by decide) (by decide)
  have a4 : V0 309 4 = -1 := by rw [V0_a]; rfl
  have a7 : V0 309 7 = 1 := by rw [V0_a]; rfl
  have a8 : V0 309 8 = 10 := by rw [V0_a]; rfl
  have row : ∀ j, j < 11 → 1 ≤ j → b + j < 326 ∧ sh0 (b + j) ∉ ExS := by
    rcases hb with rfl | rfl <;> decide
  have z : ∀ j, j < 11 → 1 ≤ j → ∀ t, V0 (b + j) t = 0 := fun j h1 h2 => z_V (row j h1 h2).1 (row j h1 h2).2
  have hw : (V0 b 7 = 0 ∧ V0 b 8 = 0 ∧ V0 b 9 = -1) ∧ V0 (b + 133) 4 = 0 ∧ V0 (b + 133) 5 = 1 ∧ V0 (b + 133) 6 = 10 := by
    rcases hb with rfl | rfl <;> decide +kernel
  refine ⟨by rw [a0, a3, a4]; exact hw.1, fun t t0 t1 => by omega, fun x x0 x1 => by omega, ⟨?_, ?_, fun x x0 x1 => by omega, fun t t0 t1 => ⟨?_, ?_, fun x x0 x1 => by omega⟩⟩, ⟨?_, ?_, ?_, fun j j0 j1 => by omega⟩, ?_, ?_, ?_, fun s s0 s1 => by omega⟩
  · rw [z 4 (by decide) (by decide), a1]
  · rw [z 4 (by decide) (by decide), a2]
  · show 0 ≤ V0 (b + 9) t
    rw [z 9 (by decide) (by decide)]; exact Int.le_refl _
  · show V0 (b + 9) t < p2 (V0 309 1)
    rw [z 9 (by decide) (by decide), a1]; decide
  · rw [z 10 (by decide) (by decide), a5]
  · rw [z 10 (by decide) (by decide)]; exact Int.le_refl _
  · rw [z 10 (by decide) (by decide)]; decide
  · rw [a6]; exact hw.2.1
  · rw [a7]; exact hw.2.2.1
  · rw [a8]; exact hw.2.2.2
theorem INV_0 : INV 0 S0 V0 := by
  have a3 : V0 309 3 = 0 := a0_at (by decide) (by decide) (by decide)
  have hq : ∀ q, 0 ≤ q → q < 1814 → V0 310 q = V0 309 q := fun q q0 q1 => by rw [V0_i]; exact cpK_in q0 q1
  have hAi : AB (V0 310) := by rw [V0_i]; exact AB_cp MIv_0.1.1 (fun k => by omega) _
  have i3 : V0 310 3 = 0 := (hq 3 (by decide) (by decide)).trans a3
  have ab : ∀ q : Nat, q < 326 → sh0 q ∉ ExS → AB (V0 q) := fun q h1 h2 k => by rw [z_V h1 h2]; omega
  have tb : ∀ q : Nat, q < 326 → sh0 q ∉ ExS → TRb (V0 q) := fun q h1 h2 k => Or.inl (z_V h1 h2 k)
  have v1 : V0 1 10 = 0 ∧ V0 139 10 = 0 ∧ V0 289 10 = -1 ∧ V0 289 11 = 0 ∧ V0 289 12 = 0 ∧ V0 297 7 = -1 ∧ V0 303 6 = -1 ∧ V0 303 7 = 0 := by decide +kernel
  obtain ⟨c1, c2, c3, c4, c5, c6, c7, c8⟩ := v1
  have v2 : V0 277 1 = V0 308 4 ∧ V0 308 4 = 0 ∧ V0 277 2 = V0 308 5 ∧ V0 277 3 = V0 308 6 ∧ V0 308 5 = -1 ∧ V0 308 6 = -1 ∧ V0 308 10 = 0 ∧ V0 308 11 = 0 := by decide +kernel
  obtain ⟨d1, d2, d3, d4, d5, d6, d7, d8⟩ := v2
  refine ⟨Stat_0, ⟨WSim_0 (Or.inl rfl), WB_0 (Or.inl rfl), MIv_0⟩, ⟨WSim_e hq MIv_0 (WSim_0 (Or.inr rfl)), WB_0 (Or.inr rfl), MIv_e hq hAi MIv_0⟩, by omega, fun T t0 t1 => by omega, fun T t0 t1 => by omega, fun k j e => ?_, fun k j e => ?_, ⟨ab 311 (by decide) (by decide), ab 313 (by decide) (by decide), ab 314 (by decide) (by decide), tb 316 (by decide) (by decide), tb 323 (by decide) (by decide)⟩, ⟨?_, d1, by omega, fun k => ?_, d3, d4⟩, ⟨?_, ?_⟩, by omega, by omega, ⟨fun _ z => by omega, ?_, ?_, Or.inl c5, by omega⟩, ⟨fun k => ?_, fun z => by omega, ?_, by omega⟩, ⟨fun k => ?_, fun k => ?_⟩, fun _ z => by omega, ⟨?_, ?_⟩, by omega⟩
  · rw [z_R (by decide) (by decide)] at e; cases e
  · rw [z_R (by decide) (by decide)] at e; cases e
  · funext k
    rw [z_V (by decide) (by decide), z_V (by decide) (by decide)]
  · rw [z_V (by decide) (by decide)]; omega
  · rw [d5]; exact inr (by decide)
  · rw [d6]; exact inr (by decide)
  · rw [c3]; exact inr (by decide)
  · rw [c4]; exact inr (by decide)
  · rw [z_V (by decide) (by decide)]; decide
  · rw [c6]; exact inr (by decide)
  · rw [z_V (by decide) (by decide)]; decide
  · rw [z_V (by decide) (by decide)]; decide
  · rw [c7]; exact inr (by decide)
  · rw [c8]; exact inr (by decide)
