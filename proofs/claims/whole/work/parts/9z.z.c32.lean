set_option maxRecDepth 100000 in
set_option maxHeartbeats 4000000 in
theorem c_J0_coder0 {B : Bs} {S : Stt} {V : Va} : C B yJ0_coder_7d493 cJ0_coder_7d493 1 (some .byte) 1 0 0 [.ref (B.2.1 0)] S V (rI S V 0) := by
  refine C.of [some (.ref (B.2.1 0))] ?_
  intro Γ hQ
  refine x_getCS dJ0_coder_7d493_0 ?_
  refine x_if_eq (tgt := 13) dJ0_coder_7d493_3 (inr (by decide)) (fun c3_1 => ?_) (fun c3_1 => ?_)
  · exact absurd c3_1 (by decide)
  · -- 3 eq -> 6
    refine x_rl0 dJ0_coder_7d493_6 ?_
    refine x_getSC (by decide) dJ0_coder_7d493_7 ?_
    refine x_goto (tgt := 14) dJ0_coder_7d493_10 ?_
    exact x_nret hQ (rI.mk (by first | rfl | omega) rfl) (by decide) dJ0_coder_7d493_14
set_option maxRecDepth 100000 in
set_option maxHeartbeats 4000000 in
theorem c_J0_isLatin0 {B : Bs} {S : Stt} {V : Va} : C B yJ0_isLatin1_aae02 cJ0_isLatin1_aae02 1 (some .boolean) 1 0 0 [.ref (B.2.1 0)] S V (rI S V 1) := by
  refine C.of [some (.ref (B.2.1 0))] ?_
  intro Γ hQ
  refine x_getCS dJ0_isLatin1_aae02_0 ?_
  refine x_if_eq (tgt := 17) dJ0_isLatin1_aae02_3 (inr (by decide)) (fun c3_1 => ?_) (fun c3_1 => ?_)
  · exact absurd c3_1 (by decide)
  · -- 3 eq -> 6
    refine x_rl0 dJ0_isLatin1_aae02_6 ?_
    refine x_getSC (by decide) dJ0_isLatin1_aae02_7 ?_
    refine x_if_ne (tgt := 17) dJ0_isLatin1_aae02_10 (inr (by decide)) (fun c10_2 => ?_) (fun c10_2 => ?_)
    · exact absurd c10_2 (by decide)
    · -- 10 ne -> 13
      refine x_iconst dJ0_isLatin1_aae02_13 ?_
      refine x_goto (tgt := 18) dJ0_isLatin1_aae02_14 ?_
      exact x_zret hQ (rI.mk (by first | rfl | omega) rfl) (by decide) dJ0_isLatin1_aae02_18
set_option maxRecDepth 100000 in
set_option maxHeartbeats 4000000 in
theorem c_J0_length0 {B : Bs} {S : Stt} {V : Va} : C B yJ0_length_8abf5 cJ0_length_8abf5 1 (some .int) 2 0 0 [.ref (B.2.1 0)] S V (rI S V 11) := by
  refine C.of [some (.ref (B.2.1 0))] ?_
  intro Γ hQ
  refine x_rl0 dJ0_length_8abf5_0 ?_
  refine x_getSV (by decide) dJ0_length_8abf5_1 ?_
  refine x_alenS (n := 11) (by decide) rfl dJ0_length_8abf5_4 ?_
  refine x_topI (a' := 11) rfl ?_
  refine x_rl0 dJ0_length_8abf5_5 ?_
  refine x_cKi mm_J0_coder_7d493 ml_J0_335 dJ0_length_8abf5_6 (c_J0_coder0) (by decide) ?_
  refine x_ishr (inr (by decide)) (by decide) (by decide) dJ0_length_8abf5_9 ?_
  refine x_topI (a' := 11) (by decide) ?_
  exact x_iret hQ (rI.mk (by first | rfl | omega) rfl) dJ0_length_8abf5_10
set_option maxRecDepth 100000 in
set_option maxHeartbeats 4000000 in
theorem c_J0_coder1 {B : Bs} {S : Stt} {V : Va} : C B yJ0_coder_7d493 cJ0_coder_7d493 1 (some .byte) 1 0 0 [.ref (B.2.1 1)] S V (rI S V 0) := by
  refine C.of [some (.ref (B.2.1 1))] ?_
  intro Γ hQ
  refine x_getCS dJ0_coder_7d493_0 ?_
  refine x_if_eq (tgt := 13) dJ0_coder_7d493_3 (inr (by decide)) (fun c3_1 => ?_) (fun c3_1 => ?_)
  · exact absurd c3_1 (by decide)
  · -- 3 eq -> 6
    refine x_rl0 dJ0_coder_7d493_6 ?_
    refine x_getSC (by decide) dJ0_coder_7d493_7 ?_
    refine x_goto (tgt := 14) dJ0_coder_7d493_10 ?_
    exact x_nret hQ (rI.mk (by first | rfl | omega) rfl) (by decide) dJ0_coder_7d493_14
set_option maxRecDepth 100000 in
set_option maxHeartbeats 4000000 in
theorem c_J0_isLatin1 {B : Bs} {S : Stt} {V : Va} : C B yJ0_isLatin1_aae02 cJ0_isLatin1_aae02 1 (some .boolean) 1 0 0 [.ref (B.2.1 1)] S V (rI S V 1) := by
  refine C.of [some (.ref (B.2.1 1))] ?_
  intro Γ hQ
  refine x_getCS dJ0_isLatin1_aae02_0 ?_
  refine x_if_eq (tgt := 17) dJ0_isLatin1_aae02_3 (inr (by decide)) (fun c3_1 => ?_) (fun c3_1 => ?_)
  · exact absurd c3_1 (by decide)
  · -- 3 eq -> 6
    refine x_rl0 dJ0_isLatin1_aae02_6 ?_
    refine x_getSC (by decide) dJ0_isLatin1_aae02_7 ?_
    refine x_if_ne (tgt := 17) dJ0_isLatin1_aae02_10 (inr (by decide)) (fun c10_2 => ?_) (fun c10_2 => ?_)
    · exact absurd c10_2 (by decide)
    · -- 10 ne -> 13
      refine x_iconst dJ0_isLatin1_aae02_13 ?_
      refine x_goto (tgt := 18) dJ0_isLatin1_aae02_14 ?_
      exact x_zret hQ (rI.mk (by first | rfl | omega) rfl) (by decide) dJ0_isLatin1_aae02_18
set_option maxRecDepth 100000 in
set_option maxHeartbeats 4000000 in
theorem c_J0_length1 {B : Bs} {S : Stt} {V : Va} : C B yJ0_length_8abf5 cJ0_length_8abf5 1 (some .int) 2 0 0 [.ref (B.2.1 1)] S V (rI S V 125) := by
  refine C.of [some (.ref (B.2.1 1))] ?_
  intro Γ hQ
  refine x_rl0 dJ0_length_8abf5_0 ?_
  refine x_getSV (by decide) dJ0_length_8abf5_1 ?_
  refine x_alenS (n := 125) (by decide) rfl dJ0_length_8abf5_4 ?_
  refine x_topI (a' := 125) rfl ?_
  refine x_rl0 dJ0_length_8abf5_5 ?_
  refine x_cKi mm_J0_coder_7d493 ml_J0_335 dJ0_length_8abf5_6 (c_J0_coder1) (by decide) ?_
  refine x_ishr (inr (by decide)) (by decide) (by decide) dJ0_length_8abf5_9 ?_
  refine x_topI (a' := 125) (by decide) ?_
  exact x_iret hQ (rI.mk (by first | rfl | omega) rfl) dJ0_length_8abf5_10
set_option maxRecDepth 100000 in
set_option maxHeartbeats 4000000 in
theorem c_J3_checkN {B : Bs} {S : Stt} {V : Va} (a : Int) (n : Int) (h0 : 0 ≤ a ∧ a < n) (ha : InR a) (hn : InR n) : C B yJ3_checkIndex_8e157 cJ3_checkIndex_8e157 3 (some .int) 1 0 0 [vI a, vI n, .null] S V (rI S V a) := by
  refine C.of [some (vI a), some (vI n), some (.null)] ?_
  intro Γ hQ
  refine x_il0 dJ3_checkIndex_8e157_0 ?_
  refine x_if_lt (tgt := 9) dJ3_checkIndex_8e157_1 (inr (by omega)) (fun c1_1 => ?_) (fun c1_1 => ?_)
  · exact absurd c1_1 (by omega)
  · -- 1 lt -> 4
    refine x_il0 dJ3_checkIndex_8e157_4 ?_
    refine x_il1 dJ3_checkIndex_8e157_5 ?_
    refine x_icmp_lt (tgt := 16) dJ3_checkIndex_8e157_6 (inr (by omega)) (inr (by omega)) (fun c6_2 => ?_) (fun c6_2 => ?_)
    · -- 6 lt -> 16
      refine x_il0 dJ3_checkIndex_8e157_16 ?_
      exact x_iret hQ (rI.mk (by first | rfl | omega) rfl) dJ3_checkIndex_8e157_17
    · exact absurd c6_2 (by omega)
set_option maxRecDepth 100000 in
set_option maxHeartbeats 4000000 in
theorem c_J3_checkT {B : Bs} {S : Stt} {V : Va} (a : Int) (n : Int) (z : Nat) (h0 : 0 ≤ a ∧ a < n) (ha : InR a) (hn : InR n) : C B yJ3_checkIndex_8e157 cJ3_checkIndex_8e157 3 (some .int) 1 0 0 [vI a, vI n, .ref z] S V (rI S V a) := by
  refine C.of [some (vI a), some (vI n), some (.ref z)] ?_
  intro Γ hQ
  refine x_il0 dJ3_checkIndex_8e157_0 ?_
  refine x_if_lt (tgt := 9) dJ3_checkIndex_8e157_1 (inr (by omega)) (fun c1_1 => ?_) (fun c1_1 => ?_)
  · exact absurd c1_1 (by omega)
  · -- 1 lt -> 4
    refine x_il0 dJ3_checkIndex_8e157_4 ?_
    refine x_il1 dJ3_checkIndex_8e157_5 ?_
    refine x_icmp_lt (tgt := 16) dJ3_checkIndex_8e157_6 (inr (by omega)) (inr (by omega)) (fun c6_2 => ?_) (fun c6_2 => ?_)
    · -- 6 lt -> 16
      refine x_il0 dJ3_checkIndex_8e157_16 ?_
      exact x_iret hQ (rI.mk (by first | rfl | omega) rfl) dJ3_checkIndex_8e157_17
    · exact absurd c6_2 (by omega)
set_option maxRecDepth 100000 in
set_option maxHeartbeats 4000000 in
theorem c_J0_checkIndex_df160 {B : Bs} {S : Stt} {V : Va} (a : Int) (n : Int) (h0 : 0 ≤ a ∧ a < n) (ha : InR a) (hn : InR n) : C B yJ0_checkIndex_df160 cJ0_checkIndex_df160 2 none 2 0 0 [vI a, vI n] S V (rV S V) := by
  refine C.of [some (vI a), some (vI n)] ?_
  intro Γ hQ
  refine x_il0 dJ0_checkIndex_df160_0 ?_
  refine x_il1 dJ0_checkIndex_df160_1 ?_
  refine x_getSF2 dJ0_checkIndex_df160_2 ?_ (fun tq => ?_)
  · skip
    refine x_cSi mm_J3_checkIndex_8e157 ml_J0_1059 dJ0_checkIndex_df160_5 (c_J3_checkN a n (by omega) (inr (by omega)) (inr (by omega))) ?_
    refine x_pop dJ0_checkIndex_df160_8 ?_
    exact x_vret hQ (rV.mk rfl) dJ0_checkIndex_df160_9
  · skip
    refine x_cSi mm_J3_checkIndex_8e157 ml_J0_1059 dJ0_checkIndex_df160_5 (c_J3_checkT a n tq (by omega) (inr (by omega)) (inr (by omega))) ?_
    refine x_pop dJ0_checkIndex_df160_8 ?_
    exact x_vret hQ (rV.mk rfl) dJ0_checkIndex_df160_9
set_option maxRecDepth 100000 in
set_option maxHeartbeats 4000000 in
theorem c_J1_charAt_3b067 {B : Bs} {S : Stt} {V : Va} (a : Int) (h0 : 0 ≤ a ∧ a < 125) : C B yJ1_charAt_3b067 cJ1_charAt_3b067 2 (some .char) 3 0 0 [.ref (B.2.2 1), vI a] S V (rI S V (sB 1 a)) := by
  refine C.of [some (.ref (B.2.2 1)), some (vI a)] ?_
  intro Γ hQ
  refine x_il1 dJ1_charAt_3b067_0 ?_
  refine x_rl0 dJ1_charAt_3b067_1 ?_
  refine x_alenS (n := 125) (by decide) rfl dJ1_charAt_3b067_2 ?_
  refine x_topI (a' := 125) rfl ?_
  refine x_cSv mm_J0_checkIndex_df160 ml_J1_9 dJ1_charAt_3b067_3 (c_J0_checkIndex_df160 a 125 (by omega) (inr (by omega)) (inr (by decide))) ?_
  refine x_rl0 dJ1_charAt_3b067_6 ?_
  refine x_il1 dJ1_charAt_3b067_7 ?_
  refine x_baldS (n := 125) (by decide) rfl (by omega) (by omega) dJ1_charAt_3b067_8 ?_
  have hb := sB1_i (k := a) (by omega) (by omega)
  refine x_sipush dJ1_charAt_3b067_9 ?_
  refine x_and255 dJ1_charAt_3b067_12 ?_
  refine x_topI (a' := sB 1 a) (by omega) ?_
  refine x_i2c (by omega) (by omega) dJ1_charAt_3b067_13 ?_
  exact x_nret hQ (rI.mk (by first | rfl | omega) rfl) (nar_c (by omega) (by omega)) dJ1_charAt_3b067_14
set_option maxRecDepth 100000 in
set_option maxHeartbeats 4000000 in
theorem c_J0_charAt_5068e {B : Bs} {S : Stt} {V : Va} (a : Int) (h0 : 0 ≤ a ∧ a < 125) : C B yJ0_charAt_5068e cJ0_charAt_5068e 2 (some .char) 4 0 0 [.ref (B.2.1 1), vI a] S V (rI S V (sB 1 a)) := by
  refine C.of [some (.ref (B.2.1 1)), some (vI a)] ?_
  intro Γ hQ
  have hb := sB1_i h0.1 h0.2
  refine x_rl0 dJ0_charAt_5068e_0 ?_
  refine x_cKi mm_J0_isLatin1_aae02 ml_J0_492 dJ0_charAt_5068e_1 (c_J0_isLatin1) (by decide) ?_
  refine x_if_eq (tgt := 16) dJ0_charAt_5068e_4 (inr (by decide)) (fun c4_1 => ?_) (fun c4_1 => ?_)
  · exact absurd c4_1 (by decide)
  · -- 4 eq -> 7
    refine x_rl0 dJ0_charAt_5068e_7 ?_
    refine x_getSV (by decide) dJ0_charAt_5068e_8 ?_
    refine x_il1 dJ0_charAt_5068e_11 ?_
    refine x_cSi mm_J1_charAt_3b067 ml_J0_495 dJ0_charAt_5068e_12 (c_J1_charAt_3b067 a (by omega)) ?_
    exact x_nret hQ (rI.mk (by first | rfl | omega) rfl) (nar_c (by omega) (by omega)) dJ0_charAt_5068e_15
set_option maxRecDepth 100000 in
set_option maxHeartbeats 4000000 in
theorem c_J1_canEncode_9a6ad {B : Bs} {S : Stt} {V : Va} (c : Int) (h0 : 0 ≤ c ∧ c < 256) : C B yJ1_canEncode_9a6ad cJ1_canEncode_9a6ad 1 (some .boolean) 1 0 0 [vI c] S V (rI S V 1) := by
  refine C.of [some (vI c)] ?_
  intro Γ hQ
  refine x_il0 dJ1_canEncode_9a6ad_0 ?_
  refine x_if_lt (tgt := 15) dJ1_canEncode_9a6ad_1 (inr (by omega)) (fun c1_1 => ?_) (fun c1_1 => ?_)
  · exact absurd c1_1 (by omega)
  · -- 1 lt -> 4
    refine x_il0 dJ1_canEncode_9a6ad_4 ?_
    refine x_sipush dJ1_canEncode_9a6ad_5 ?_
    refine x_icmp_gt (tgt := 15) dJ1_canEncode_9a6ad_8 (inr (by omega)) (inr (by decide)) (fun c8_2 => ?_) (fun c8_2 => ?_)
    · exact absurd c8_2 (by omega)
    · -- 8 gt -> 11
      refine x_iconst dJ1_canEncode_9a6ad_11 ?_
      refine x_goto (tgt := 16) dJ1_canEncode_9a6ad_12 ?_
      exact x_zret hQ (rI.mk (by first | rfl | omega) rfl) (by decide) dJ1_canEncode_9a6ad_16
set_option maxRecDepth 100000 in
set_option maxHeartbeats 4000000 in
theorem c_J1_indexOfChar_4cfef {B : Bs} {S : Stt} {V : Va} (c : Int) (lo : Int) (hi : Int) (h0 : 0 ≤ c ∧ c < 256) (hl : lo = 0 ∧ hi = 11) : C B yJ1_indexOfChar_4cfef cJ1_indexOfChar_4cfef 6 (some .int) 1 0 0 [.ref (B.2.2 0), vI c, vI lo, vI hi] S V (rI S V (findT (fun zz => decide (sB 0 zz = c)) 11)) := by
  refine C.of [some (.ref (B.2.2 0)), some (vI c), some (vI lo), some (vI hi), none, none] ?_
  intro Γ hQ
  have hs8 : -128 ≤ sg8 c ∧ sg8 c < 128 ∧ (c < 128 → sg8 c = c) ∧ (128 ≤ c → sg8 c < 0) := by simp only [sg8]; split <;> omega
  refine x_il1 dJ1_indexOfChar_4cfef_0 ?_
  refine x_i2b (by omega) (by omega) dJ1_indexOfChar_4cfef_1 ?_
  refine x_is4 dJ1_indexOfChar_4cfef_2 ?_
  refine x_il2 dJ1_indexOfChar_4cfef_4 ?_
  refine x_is5 dJ1_indexOfChar_4cfef_5 ?_
  have lp7 : ∀ (N7 : Nat) (k : Int), (0 ≤ k ∧ k ≤ 11) → (∀ j, 0 ≤ j → j < k → ¬ sB 0 j = c) → (11 - k).toNat < N7 → X Γ B RJ1 "indexOfChar" cJ1_indexOfChar_4cfef 6 (some .int) 1 0 0 7 [some (.ref (B.2.2 0)), some (vI c), some (vI lo), some (vI hi), some (vI (sg8 c)), some (vI k)] [] 0 0 S V := by
    intro N7
    induction N7 with
    | zero => intro k hk hno hN; exact absurd hN (Nat.not_lt_zero _)
    | succ N7 ih7 =>
      intro k hk hno hN7
      refine x_il5 dJ1_indexOfChar_4cfef_7 ?_
      refine x_il3 dJ1_indexOfChar_4cfef_9 ?_
      refine x_icmp_ge (tgt := 31) dJ1_indexOfChar_4cfef_10 (inr (by omega)) (inr (by omega)) (fun c10_1 => ?_) (fun c10_1 => ?_)
      · -- 10 ge -> 31
        refine x_iconst dJ1_indexOfChar_4cfef_31 ?_
        exact x_iret hQ (rI.mk (findT_no (fun j j0 j1 => decide_eq_false (hno j j0 (by omega)))) rfl) dJ1_indexOfChar_4cfef_32
      · -- 10 ge -> 13
        refine x_rl0 dJ1_indexOfChar_4cfef_13 ?_
        refine x_il5 dJ1_indexOfChar_4cfef_14 ?_
        refine x_baldS (n := 11) (by decide) rfl (by omega) (by omega) dJ1_indexOfChar_4cfef_16 ?_
        have hb := sB0_i (k := k) (by omega) (by omega)
        refine x_il4 dJ1_indexOfChar_4cfef_17 ?_
        refine x_icmp_ne (tgt := 25) dJ1_indexOfChar_4cfef_19 (inr (by omega)) (inr (by omega)) (fun c19_2 => ?_) (fun c19_2 => ?_)
        · -- 19 ne -> 25
          refine x_inc5 dJ1_indexOfChar_4cfef_25 ?_
          refine x_goto (tgt := 7) dJ1_indexOfChar_4cfef_28 ?_
          exact x_fg (ih7 (k + 1) (by omega) (fun j j0 j1 => by by_cases e : j = k; (rw [e]; omega); exact hno j j0 (by omega)) (by omega)) (And.intro rfl (And.intro rfl (And.intro rfl (And.intro rfl (And.intro rfl (And.intro rfl trivial))))))
        · -- 19 ne -> 22
          refine x_il5 dJ1_indexOfChar_4cfef_22 ?_
          exact x_iret hQ (rI.mk (findT_at (k := k) (by omega) (by omega) (decide_eq_true (by omega)) (fun j j0 j1 => decide_eq_false (hno j j0 j1))) rfl) dJ1_indexOfChar_4cfef_24
  exact x_fg (lp7 _ lo (by omega) (fun j j0 j1 => by omega) (Nat.lt_succ_self _)) (And.intro rfl (And.intro rfl (And.intro rfl (And.intro rfl (And.intro rfl (And.intro rfl trivial))))))
set_option maxRecDepth 100000 in
set_option maxHeartbeats 4000000 in
theorem c_J1_indexOf_4cfef {B : Bs} {S : Stt} {V : Va} (c : Int) (lo : Int) (hi : Int) (h0 : 0 ≤ c ∧ c < 256) (hl : lo = 0 ∧ hi = 11) : C B yJ1_indexOf_4cfef cJ1_indexOf_4cfef 4 (some .int) 2 0 0 [.ref (B.2.2 0), vI c, vI lo, vI hi] S V (rI S V (findT (fun zz => decide (sB 0 zz = c)) 11)) := by
  refine C.of [some (.ref (B.2.2 0)), some (vI c), some (vI lo), some (vI hi)] ?_
  intro Γ hQ
  refine x_il1 dJ1_indexOf_4cfef_0 ?_
  refine x_cSi mm_J1_canEncode_9a6ad ml_J1_88 dJ1_indexOf_4cfef_1 (c_J1_canEncode_9a6ad c (by omega)) ?_
  refine x_if_ne (tgt := 9) dJ1_indexOf_4cfef_4 (inr (by decide)) (fun c4_1 => ?_) (fun c4_1 => ?_)
  · -- 4 ne -> 9
    refine x_il2 dJ1_indexOf_4cfef_9 ?_
    refine x_iconst dJ1_indexOf_4cfef_10 ?_
    refine x_mmax ml_J1_92 dJ1_indexOf_4cfef_11 (inr (by omega)) (inr (by decide)) ?_
    refine x_is2 dJ1_indexOf_4cfef_14 ?_
    refine x_il3 dJ1_indexOf_4cfef_15 ?_
    refine x_rl0 dJ1_indexOf_4cfef_16 ?_
    refine x_alenS (n := 11) (by decide) rfl dJ1_indexOf_4cfef_17 ?_
    refine x_topI (a' := 11) rfl ?_
    refine x_mmin ml_J1_38 dJ1_indexOf_4cfef_18 (inr (by omega)) (inr (by decide)) ?_
    refine x_is3 dJ1_indexOf_4cfef_21 ?_
    refine x_il2 dJ1_indexOf_4cfef_22 ?_
    refine x_il3 dJ1_indexOf_4cfef_23 ?_
    refine x_icmp_lt (tgt := 29) dJ1_indexOf_4cfef_24 (by split <;> exact inr (by omega)) (by split <;> exact inr (by omega)) (fun c24_2 => ?_) (fun c24_2 => ?_)
    · -- 24 lt -> 29
      refine x_rl0 dJ1_indexOf_4cfef_29 ?_
      refine x_il1 dJ1_indexOf_4cfef_30 ?_
      refine x_il2 dJ1_indexOf_4cfef_31 ?_
      refine x_il3 dJ1_indexOf_4cfef_32 ?_
      refine x_cSi mm_J1_indexOfChar_4cfef ml_J1_95 dJ1_indexOf_4cfef_33 (c_J1_indexOfChar_4cfef c (if lo < 0 then 0 else lo) (if 11 < hi then 11 else hi) (by omega) (by constructor <;> (repeat' split) <;> omega)) ?_
      exact x_iret hQ (rI.mk rfl rfl) dJ1_indexOf_4cfef_36
    · exfalso; (repeat' split at c24_2) <;> omega
  · exact absurd c4_1 (by decide)
set_option maxRecDepth 100000 in
set_option maxHeartbeats 4000000 in
theorem c_J0_indexOf_7cf53 {B : Bs} {S : Stt} {V : Va} (c : Int) (lo : Int) (h0 : 0 ≤ c ∧ c < 256) (hl : lo = 0) : C B yJ0_indexOf_7cf53 cJ0_indexOf_7cf53 3 (some .int) 3 0 0 [.ref (B.2.1 0), vI c, vI lo] S V (rI S V (findT (fun zz => decide (sB 0 zz = c)) 11)) := by
  refine C.of [some (.ref (B.2.1 0)), some (vI c), some (vI lo)] ?_
  intro Γ hQ
  refine x_rl0 dJ0_indexOf_7cf53_0 ?_
  refine x_cKi mm_J0_isLatin1_aae02 ml_J0_492 dJ0_indexOf_7cf53_1 (c_J0_isLatin0) (by decide) ?_
  refine x_if_eq (tgt := 23) dJ0_indexOf_7cf53_4 (inr (by decide)) (fun c4_1 => ?_) (fun c4_1 => ?_)
  · exact absurd c4_1 (by decide)
  · -- 4 eq -> 7
    refine x_rl0 dJ0_indexOf_7cf53_7 ?_
    refine x_getSV (by decide) dJ0_indexOf_7cf53_8 ?_
    refine x_il1 dJ0_indexOf_7cf53_11 ?_
    refine x_il2 dJ0_indexOf_7cf53_12 ?_
    refine x_rl0 dJ0_indexOf_7cf53_13 ?_
    refine x_cKi mm_J0_length_8abf5 ml_J0_505 dJ0_indexOf_7cf53_14 (c_J0_length0) (by decide) ?_
    refine x_cSi mm_J1_indexOf_4cfef ml_J0_637 dJ0_indexOf_7cf53_17 (c_J1_indexOf_4cfef c lo 11 (by omega) (by omega)) ?_
    refine x_goto (tgt := 36) dJ0_indexOf_7cf53_20 ?_
    exact x_iret hQ (rI.mk rfl rfl) dJ0_indexOf_7cf53_36
set_option maxRecDepth 100000 in
set_option maxHeartbeats 4000000 in
theorem c_J0_indexOf_0f7a4 {B : Bs} {S : Stt} {V : Va} (c : Int) (h0 : 0 ≤ c ∧ c < 256) : C B yJ0_indexOf_0f7a4 cJ0_indexOf_0f7a4 2 (some .int) 4 0 0 [.ref (B.2.1 0), vI c] S V (rI S V (findT (fun zz => decide (sB 0 zz = c)) 11)) := by
  refine C.of [some (.ref (B.2.1 0)), some (vI c)] ?_
  intro Γ hQ
  refine x_rl0 dJ0_indexOf_0f7a4_0 ?_
  refine x_il1 dJ0_indexOf_0f7a4_1 ?_
  refine x_iconst dJ0_indexOf_0f7a4_2 ?_
  refine x_cKi mm_J0_indexOf_7cf53 ml_J0_633 dJ0_indexOf_0f7a4_3 (c_J0_indexOf_7cf53 c 0 (by omega) (by omega)) (by decide) ?_
  exact x_iret hQ (rI.mk rfl rfl) dJ0_indexOf_0f7a4_6
