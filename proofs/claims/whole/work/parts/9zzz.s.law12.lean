theorem INV_le {n : Int} {S : Stt} {V : Va} (h : INV n S V) : INV (n + 1) S V := by
  obtain ⟨a1, a2, a3, a4, a5, a6, a7, a8, a9, a10, a11, a12, a13, a14, a15, a16⟩ := h
  exact ⟨a1, a2, a3, a4, a5, a6, a7, a8, a9, a10, a11, a12, by omega, a14, a15, a16⟩
section LwL
variable {Γ : Ctx} {B : Bs} {nm : String} {b n : Nat} {xs : Nat → Int32} {S : Stt} {V : Va} {kc ks : Nat}
set_option maxRecDepth 100000 in
set_option maxHeartbeats 4000000 in
theorem law_body {N i : Int} (hc : Scp Γ B b n xs) (h : INV N S V) (hN : 0 ≤ N ∧ N ≤ 512) (hi : 0 ≤ i ∧ i + 6 ≤ n) (hkc : kc ≤ 5000 ∧ ks ≤ 1000000) (K : ∀ (S' : Stt) (V' : Va) (kc' ks' : Nat), INV (N + 1) S' V' → kc' ≤ kc + 6 → ks' ≤ ks + 428 → X Γ B RL nm cL_law 4 (some .boolean) 26 600000 7302250 1060 [some (.ref b), some (vR B 0), some (vR B 308), some (vI i)] [] kc' ks' S' V') : X Γ B RL nm cL_law 4 (some .boolean) 26 600000 7302250 27 [some (.ref b), some (vR B 0), some (vR B 308), some (vI i)] [] kc ks S V := by
  refine x_alS dL_law_27 (x_il3 dL_law_28 (x_sld hc (by omega) (by omega) dL_law_29 (x_bipush dL_law_30 (x_mask 5 (by decide) (by decide) dL_law_32 ?_))))
  have w0 : 0 ≤ xv xs i % ((2 ^ 5 : Nat) : Int) := by omega
  have w1 : xv xs i % ((2 ^ 5 : Nat) : Int) < 32 := by omega
  generalize xv xs i % ((2 ^ 5 : Nat) : Int) = w at w0 w1 ⊢
  rcases (show w = 0 ∨ w = 1 ∨ w = 2 ∨ w = 3 ∨ w = 4 ∨ w = 5 ∨ w = 6 ∨ w = 7 ∨ w = 8 ∨ w = 9 ∨ w = 10 ∨ w = 11 ∨ w = 12 ∨ w = 13 ∨ w = 14 ∨ w = 15 ∨ w = 16 ∨ w = 17 ∨ w = 18 ∨ w = 19 ∨ w = 20 ∨ w = 21 ∨ w = 22 ∨ w = 23 ∨ w = 24 ∨ w = 25 ∨ w = 26 ∨ w = 27 ∨ w = 28 ∨ w = 29 ∨ 30 ≤ w by omega) with e | e | e | e | e | e | e | e | e | e | e | e | e | e | e | e | e | e | e | e | e | e | e | e | e | e | e | e | e | e | e
  · exact x_tswIn dL_law_33 0 e (law_0 hc h hN hi hkc K)
  · exact x_tswIn dL_law_33 1 e (law_1 hc h hN hi hkc K)
  · exact x_tswIn dL_law_33 2 e (law_2 hc h hN hi hkc K)
  · exact x_tswIn dL_law_33 3 e (law_3 hc h hN hi hkc K)
  · exact x_tswIn dL_law_33 4 e (law_4 hc h hN hi hkc K)
  · exact x_tswIn dL_law_33 5 e (law_5 hc h hN hi hkc K)
  · exact x_tswIn dL_law_33 6 e (law_6 hc h hN hi hkc K)
  · exact x_tswIn dL_law_33 7 e (law_7 hc h hN hi hkc K)
  · exact x_tswIn dL_law_33 8 e (law_8 hc h hN hi hkc K)
  · exact x_tswIn dL_law_33 9 e (law_9 hc h hN hi hkc K)
  · exact x_tswIn dL_law_33 10 e (law_10 hc h hN hi hkc K)
  · exact x_tswIn dL_law_33 11 e (law_11 hc h hN hi hkc K)
  · exact x_tswIn dL_law_33 12 e (law_12 hc h hN hi hkc K)
  · exact x_tswIn dL_law_33 13 e (law_13 hc h hN hi hkc K)
  · exact x_tswIn dL_law_33 14 e (law_14 hc h hN hi hkc K)
  · exact x_tswIn dL_law_33 15 e (law_15 hc h hN hi hkc K)
  · exact x_tswIn dL_law_33 16 e (law_16 hc h hN hi hkc K)
  · exact x_tswIn dL_law_33 17 e (law_17 hc h hN hi hkc K)
  · exact x_tswIn dL_law_33 18 e (law_18 hc h hN hi hkc K)
  · exact x_tswIn dL_law_33 19 e (law_19 hc h hN hi hkc K)
  · exact x_tswIn dL_law_33 20 e (law_20 hc h hN hi hkc K)
  · exact x_tswIn dL_law_33 21 e (law_21 hc h hN hi hkc K)
  · exact x_tswIn dL_law_33 22 e (law_22 hc h hN hi hkc K)
  · exact x_tswIn dL_law_33 23 e (law_23 hc h hN hi hkc K)
  · exact x_tswIn dL_law_33 24 e (law_24 hc h hN hi hkc K)
  · exact x_tswIn dL_law_33 25 e (law_25 hc h hN hi hkc K)
  · exact x_tswIn dL_law_33 26 e (law_26 hc h hN hi hkc K)
  · exact x_tswIn dL_law_33 27 e (law_27 hc h hN hi hkc K)
  · exact x_tswIn dL_law_33 28 e (law_28 hc h hN hi hkc K)
  · exact x_tswIn dL_law_33 29 e (law_29 hc h hN hi hkc K)
  · exact x_tswOut dL_law_33 (inr (by omega)) (Or.inr (by omega)) (K _ _ _ _ (INV_le h) (by omega) (by omega))
theorem law_head {i : Int} (hc : Scp Γ B b n xs) (h0 : 0 ≤ i ∧ i ≤ 4000) (hn : n ≤ 3072) (E : X Γ B RL nm cL_law 4 (some .boolean) 26 600000 7302250 1066 [some (.ref b), some (vR B 0), some (vR B 308), some (vI i)] [] kc ks S V) (K : i + 6 ≤ n → X Γ B RL nm cL_law 4 (some .boolean) 26 600000 7302250 27 [some (.ref b), some (vR B 0), some (vR B 308), some (vI i)] [] kc ks S V) : X Γ B RL nm cL_law 4 (some .boolean) 26 600000 7302250 18 [some (.ref b), some (vR B 0), some (vR B 308), some (vI i)] [] kc ks S V := by
  refine x_il3 dL_law_18 (x_alS dL_law_19 (x_slen hc dL_law_20 (x_bipush dL_law_21 (x_isub dL_law_23 ?_))))
  exact x_icmp_gt (tgt := 1066) dL_law_24 (inr (by omega)) (inr (by omega)) (fun _ => E) (fun c => K (by omega))
theorem law_loop (hc : Scp Γ B b n xs) (hn : n ≤ 3072) (E : ∀ (S : Stt) (V : Va) (i : Int) (kc ks : Nat), kc ≤ 600000 → ks ≤ 7302250 → X Γ B RL nm cL_law 4 (some .boolean) 26 600000 7302250 1066 [some (.ref b), some (vR B 0), some (vR B 308), some (vI i)] [] kc ks S V) : ∀ (m : Nat) (N i : Int) (kc ks : Nat) (S : Stt) (V : Va), INV N S V → 0 ≤ N → i = 6 * N → i ≤ 3077 → (n : Int) - i ≤ m → kc ≤ 400 + 6 * N → ks ≤ 200000 + 428 * N → X Γ B RL nm cL_law 4 (some .boolean) 26 600000 7302250 18 [some (.ref b), some (vR B 0), some (vR B 308), some (vI i)] [] kc ks S V
  | 0, N, i, kc, ks, S, V, h, hN, hi, hi2, hm, h1, h2 => law_head hc (by omega) hn (E _ _ _ _ _ (by omega) (by omega)) (fun c => by omega)
  | m + 1, N, i, kc, ks, S, V, h, hN, hi, hi2, hm, h1, h2 => by
    refine law_head hc (by omega) hn (E _ _ _ _ _ (by omega) (by omega)) (fun c => ?_)
    refine law_body hc h (by omega) (by omega) (by omega) (fun S' V' kc' ks' h' k1 k2 => ?_)
    refine x_inc3 dL_law_1060 (x_goto (tgt := 18) dL_law_1063 ?_)
    exact law_loop hc hn E m (N + 1) (i + 6) kc' ks' S' V' h' (by omega) (by omega) (by omega) (by omega) (by omega) (by omega)
end LwL
