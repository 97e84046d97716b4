set_option maxRecDepth 100000 in
set_option maxHeartbeats 4000000 in
theorem c_X10_town {B : Bs} {S : Stt} {V : Va} (x : Int) (y : Int) (hS : Stat S) (h17 : 0 ≤ (V 1 7) ∧ (V 1 7) ≤ 10) (hch : 0 ≤ (V 1 10) ∧ (V 1 10) ≤ 1000000) (hx : InR x) (hy : InR y) : C B yX10_town cX10_town 3 (some .int) 3 0 0 [vR B 0, vI x, vI y] S V (rI S (cTownF V x y) (if cTownC V x y then (V 1 7) else -1)) := by
  refine C.of [some (vR B 0), some (vI x), some (vI y)] ?_
  intro Γ hQ
  refine x_al0 dX10_town_0 ?_
  refine x_getR fl_X10_12 (sh_0 hS) (lq_0 hS) (rf_0_0 hS) dX10_town_1 ?_
  refine x_il1 dX10_town_4 ?_
  refine x_il2 dX10_town_5 ?_
  refine x_cVi mm_X9_tellTown ml_X10_58 dX10_town_6 (c_X9_tellTown x y hS h17 hch (inr (by omega)) (inr (by omega))) (sh_1 hS) (lq_1 hS) ?_
  exact x_iret hQ (rI.mk rfl rfl) dX10_town_9
set_option maxRecDepth 100000 in
set_option maxHeartbeats 4000000 in
theorem c_X10_bone {B : Bs} {S : Stt} {V : Va} (kind : Int) (weight : Int) (owner : Int) (hS : Stat S) (h17 : 0 ≤ (V 1 7) ∧ (V 1 7) ≤ 10) (h55 : 0 ≤ (V 5 5) ∧ (V 5 5) ≤ 16) (hch : 0 ≤ (V 1 10) ∧ (V 1 10) ≤ 1000000) (hkind : InR kind) (hweight : InR weight) (howner : InR owner) : C B yX10_bone cX10_bone 4 (some .int) 3 0 0 [vR B 0, vI kind, vI weight, vI owner] S V (rI S (cBoneF V kind weight owner) (if cBoneC V kind weight owner then (V 5 5) else -1)) := by
  refine C.of [some (vR B 0), some (vI kind), some (vI weight), some (vI owner)] ?_
  intro Γ hQ
  refine x_al0 dX10_bone_0 ?_
  refine x_getR fl_X10_12 (sh_0 hS) (lq_0 hS) (rf_0_0 hS) dX10_bone_1 ?_
  refine x_il1 dX10_bone_4 ?_
  refine x_il2 dX10_bone_5 ?_
  refine x_il3 dX10_bone_6 ?_
  refine x_cVi mm_X9_tellBone ml_X10_62 dX10_bone_7 (c_X9_tellBone kind weight owner hS h17 h55 hch (inr (by omega)) (inr (by omega)) (inr (by omega))) (sh_1 hS) (lq_1 hS) ?_
  exact x_iret hQ (rI.mk rfl rfl) dX10_bone_10
set_option maxRecDepth 100000 in
set_option maxHeartbeats 4000000 in
theorem c_X10_prove {B : Bs} {S : Stt} {V : Va} (town : Int) (bone : Int) (hS : Stat S) (h17 : 0 ≤ (V 1 7) ∧ (V 1 7) ≤ 10) (h55 : 0 ≤ (V 5 5) ∧ (V 5 5) ≤ 16) (h11 : 0 ≤ (V 11 1) ∧ (V 11 1) < 20 ∧ 0 ≤ (V 11 2) ∧ (V 11 2) ≤ 20) (hch : 0 ≤ (V 1 10) ∧ (V 1 10) ≤ 1000000) (h10 : ∀ t, 0 ≤ (V 10) t ∧ (V 10) t < 65536) (htown : InR town) (hbone : InR bone) : C B yX10_prove cX10_prove 3 (some .boolean) 5 0 0 [vR B 0, vI town, vI bone] S V (rI S (cProveF V town bone) (if cProveC V town bone then 1 else 0)) := by
  refine C.of [some (vR B 0), some (vI town), some (vI bone)] ?_
  intro Γ hQ
  refine x_al0 dX10_prove_0 ?_
  refine x_getR fl_X10_12 (sh_0 hS) (lq_0 hS) (rf_0_0 hS) dX10_prove_1 ?_
  refine x_il1 dX10_prove_4 ?_
  refine x_il2 dX10_prove_5 ?_
  refine x_cVi mm_X9_tellProof ml_X10_66 dX10_prove_6 (c_X9_tellProof town bone hS h17 h55 h11 hch h10 (inr (by omega)) (inr (by omega))) (sh_1 hS) (lq_1 hS) ?_
  exact x_zret hQ (rI.mk rfl rfl) (ite_01 _) dX10_prove_9
set_option maxRecDepth 100000 in
set_option maxHeartbeats 4000000 in
theorem c_X10_by {B : Bs} {S : Stt} {V : Va} (text : Int) (hS : Stat S) (h18 : 0 ≤ (V 1 8) ∧ (V 1 8) ≤ 4) (hch : 0 ≤ (V 1 10) ∧ (V 1 10) ≤ 1000000) (htext : InR text) : C B yX10_by cX10_by 2 (some .boolean) 2 0 0 [vR B 0, vI text] S V (rI S (up V 1 (if -1 ≤ text ∧ text < (V 1 8) then ua (ua (V 1) 9 text) 10 ((V 1 10) + 1) else (V 1))) (if -1 ≤ text ∧ text < (V 1 8) then 1 else 0)) := by
  refine C.of [some (vR B 0), some (vI text)] ?_
  intro Γ hQ
  refine x_al0 dX10_by_0 ?_
  refine x_getR fl_X10_12 (sh_0 hS) (lq_0 hS) (rf_0_0 hS) dX10_by_1 ?_
  refine x_il1 dX10_by_4 ?_
  refine x_cVi mm_X9_ruleBy ml_X10_95 dX10_by_5 (c_X9_ruleBy text hS h18 hch (inr (by omega))) (sh_1 hS) (lq_1 hS) ?_
  exact x_zret hQ (rI.mk rfl rfl) (ite_01 _) dX10_by_8
set_option maxRecDepth 100000 in
set_option maxHeartbeats 4000000 in
theorem c_X10_lend {B : Bs} {S : Stt} {V : Va} (bone : Int) (town : Int) (years : Int) (hS : Stat S) (h17 : 0 ≤ (V 1 7) ∧ (V 1 7) ≤ 10) (h55 : 0 ≤ (V 5 5) ∧ (V 5 5) ≤ 16) (h56 : 0 ≤ (V 5 6) ∧ (V 5 6) ≤ 999) (h11 : 0 ≤ (V 11 1) ∧ (V 11 1) < 20 ∧ 0 ≤ (V 11 2) ∧ (V 11 2) ≤ 20) (hch : 0 ≤ (V 1 10) ∧ (V 1 10) ≤ 1000000) (hA7 : AB (V 7)) (hA8 : AB (V 8)) (hA9 : AB (V 9)) (hbone : InR bone) (htown : InR town) (hyears : InR years) : C B yX10_lend cX10_lend 4 (some .int) 5 0 0 [vR B 0, vI bone, vI town, vI years] S V (rI S (cLendF V bone town years) (if cLendC V bone town years then (V 5 6) + years else -1)) := by
  refine C.of [some (vR B 0), some (vI bone), some (vI town), some (vI years)] ?_
  intro Γ hQ
  refine x_al0 dX10_lend_0 ?_
  refine x_getR fl_X10_12 (sh_0 hS) (lq_0 hS) (rf_0_0 hS) dX10_lend_1 ?_
  refine x_il1 dX10_lend_4 ?_
  refine x_il2 dX10_lend_5 ?_
  refine x_il3 dX10_lend_6 ?_
  refine x_cVi mm_X9_lendTo ml_X10_99 dX10_lend_7 (c_X9_lendTo bone town years hS h17 h55 h56 h11 hch hA7 hA8 hA9 (inr (by omega)) (inr (by omega)) (inr (by omega))) (sh_1 hS) (lq_1 hS) ?_
  exact x_iret hQ (rI.mk rfl rfl) dX10_lend_10
set_option maxRecDepth 100000 in
set_option maxHeartbeats 4000000 in
theorem c_X10_swap {B : Bs} {S : Stt} {V : Va} (one : Int) (other : Int) (hS : Stat S) (h55 : 0 ≤ (V 5 5) ∧ (V 5 5) ≤ 16) (h11 : 0 ≤ (V 11 1) ∧ (V 11 1) < 20 ∧ 0 ≤ (V 11 2) ∧ (V 11 2) ≤ 20) (hch : 0 ≤ (V 1 10) ∧ (V 1 10) ≤ 1000000) (hA8 : AB (V 8)) (hone : InR one) (hother : InR other) : C B yX10_swap cX10_swap 3 (some .boolean) 5 0 0 [vR B 0, vI one, vI other] S V (rI S (cSwapF V one other) (if cSwapC V one other then 1 else 0)) := by
  refine C.of [some (vR B 0), some (vI one), some (vI other)] ?_
  intro Γ hQ
  refine x_al0 dX10_swap_0 ?_
  refine x_getR fl_X10_12 (sh_0 hS) (lq_0 hS) (rf_0_0 hS) dX10_swap_1 ?_
  refine x_il1 dX10_swap_4 ?_
  refine x_il2 dX10_swap_5 ?_
  refine x_cVi mm_X9_swapPlaces ml_X10_102 dX10_swap_6 (c_X9_swapPlaces one other hS h55 h11 hch hA8 (inr (by omega)) (inr (by omega))) (sh_1 hS) (lq_1 hS) ?_
  exact x_zret hQ (rI.mk rfl rfl) (ite_01 _) dX10_swap_9
set_option maxRecDepth 100000 in
set_option maxHeartbeats 4000000 in
theorem c_X10_steal {B : Bs} {S : Stt} {V : Va} (bone : Int) (town : Int) (hS : Stat S) (h17 : 0 ≤ (V 1 7) ∧ (V 1 7) ≤ 10) (h55 : 0 ≤ (V 5 5) ∧ (V 5 5) ≤ 16) (h11 : 0 ≤ (V 11 1) ∧ (V 11 1) < 20 ∧ 0 ≤ (V 11 2) ∧ (V 11 2) ≤ 20) (hch : 0 ≤ (V 1 10) ∧ (V 1 10) ≤ 1000000) (hA8 : AB (V 8)) (hbone : InR bone) (htown : InR town) : C B yX10_steal cX10_steal 3 (some .boolean) 5 0 0 [vR B 0, vI bone, vI town] S V (rI S (cStealF V bone town) (if cStealC V bone town then 1 else 0)) := by
  refine C.of [some (vR B 0), some (vI bone), some (vI town)] ?_
  intro Γ hQ
  refine x_al0 dX10_steal_0 ?_
  refine x_getR fl_X10_12 (sh_0 hS) (lq_0 hS) (rf_0_0 hS) dX10_steal_1 ?_
  refine x_il1 dX10_steal_4 ?_
  refine x_il2 dX10_steal_5 ?_
  refine x_cVi mm_X9_stealTo ml_X10_105 dX10_steal_6 (c_X9_stealTo bone town hS h17 h55 h11 hch hA8 (inr (by omega)) (inr (by omega))) (sh_1 hS) (lq_1 hS) ?_
  exact x_zret hQ (rI.mk rfl rfl) (ite_01 _) dX10_steal_9
set_option maxRecDepth 100000 in
set_option maxHeartbeats 4000000 in
theorem c_X10_burn {B : Bs} {S : Stt} {V : Va} (town : Int) (hS : Stat S) (h17 : 0 ≤ (V 1 7) ∧ (V 1 7) ≤ 10) (h55 : 0 ≤ (V 5 5) ∧ (V 5 5) ≤ 16) (h11 : 0 ≤ (V 11 1) ∧ (V 11 1) < 20 ∧ 0 ≤ (V 11 2) ∧ (V 11 2) ≤ 20) (hch : 0 ≤ (V 1 10) ∧ (V 1 10) ≤ 1000000) (h10 : ∀ t, 0 ≤ (V 10) t ∧ (V 10) t < 65536) (htown : InR town) : C B yX10_burn cX10_burn 2 (some .int) 5 0 0 [vR B 0, vI town] S V (rI S (cBurnF V town) (if cTownOk V town then bN ((V 10) town) 16 else -1)) := by
  refine C.of [some (vR B 0), some (vI town)] ?_
  intro Γ hQ
  refine x_al0 dX10_burn_0 ?_
  refine x_getR fl_X10_12 (sh_0 hS) (lq_0 hS) (rf_0_0 hS) dX10_burn_1 ?_
  refine x_il1 dX10_burn_4 ?_
  refine x_cVi mm_X9_burnProofs ml_X10_108 dX10_burn_5 (c_X9_burnProofs town hS h17 h55 h11 hch h10 (inr (by omega))) (sh_1 hS) (lq_1 hS) ?_
  exact x_iret hQ (rI.mk rfl rfl) dX10_burn_8
set_option maxRecDepth 100000 in
set_option maxHeartbeats 4000000 in
theorem c_X10_undo {B : Bs} {S : Stt} {V : Va} (hS : Stat S) (h11 : 0 ≤ (V 11 1) ∧ (V 11 1) < 20 ∧ 0 ≤ (V 11 2) ∧ (V 11 2) ≤ 20) (hch : 0 ≤ (V 1 10) ∧ (V 1 10) ≤ 1000000) (hrt : ∀ k : Nat, k < 20 → 0 ≤ (V (13 + 6 * k) 5) ∧ (V (13 + 6 * k) 5) ≤ 16) : C B yX10_undo cX10_undo 1 (some .int) 4 0 0 [vR B 0] S V (rI S (cUndoF V) (if (V 11 2) = 0 then -1 else (V 11 2) - 1)) := by
  refine C.of [some (vR B 0)] ?_
  intro Γ hQ
  refine x_al0 dX10_undo_0 ?_
  refine x_getR fl_X10_12 (sh_0 hS) (lq_0 hS) (rf_0_0 hS) dX10_undo_1 ?_
  refine x_cVi mm_X9_takeBack ml_X10_129 dX10_undo_4 (c_X9_takeBack hS h11 hch hrt) (sh_1 hS) (lq_1 hS) ?_
  exact x_iret hQ (rI.mk rfl rfl) dX10_undo_7
set_option maxRecDepth 100000 in
set_option maxHeartbeats 4000000 in
theorem c_X10_rules {B : Bs} {S : Stt} {V : Va} (loss : Int) (pace : Int) (hS : Stat S) (hch : 0 ≤ (V 1 10) ∧ (V 1 10) ≤ 1000000) (hloss : InR loss) (hpace : InR pace) : C B yX10_rules cX10_rules 3 (some .boolean) 3 0 0 [vR B 0, vI loss, vI pace] S V (rI S (up (up V 1 (if 0 ≤ loss ∧ loss ≤ 9 ∧ 1 ≤ pace ∧ pace ≤ 99 then ua (V 1) 10 ((V 1 10) + 1) else (V 1))) 134 (if 0 ≤ loss ∧ loss ≤ 9 ∧ 1 ≤ pace ∧ pace ≤ 99 then ua (ua (V 134) 5 loss) 6 pace else (V 134))) (if 0 ≤ loss ∧ loss ≤ 9 ∧ 1 ≤ pace ∧ pace ≤ 99 then 1 else 0)) := by
  refine C.of [some (vR B 0), some (vI loss), some (vI pace)] ?_
  intro Γ hQ
  refine x_al0 dX10_rules_0 ?_
  refine x_getR fl_X10_12 (sh_0 hS) (lq_0 hS) (rf_0_0 hS) dX10_rules_1 ?_
  refine x_il1 dX10_rules_4 ?_
  refine x_il2 dX10_rules_5 ?_
  refine x_cVi mm_X9_ruleSeen ml_X10_176 dX10_rules_6 (c_X9_ruleSeen loss pace hS hch (inr (by omega)) (inr (by omega))) (sh_1 hS) (lq_1 hS) ?_
  exact x_zret hQ (rI.mk rfl rfl) (ite_01 _) dX10_rules_9
set_option maxRecDepth 100000 in
set_option maxHeartbeats 4000000 in
theorem c_X10_seen {B : Bs} {S : Stt} {V : Va} (town : Int) (kind : Int) (weight : Int) (year : Int) (hS : Stat S) (h17 : 0 ≤ (V 1 7) ∧ (V 1 7) ≤ 10) (h134 : 0 ≤ (V 134 4) ∧ (V 134 4) ≤ 12 ∧ 0 ≤ (V 134 5) ∧ (V 134 5) ≤ 9 ∧ 1 ≤ (V 134 6) ∧ (V 134 6) ≤ 99) (hch : 0 ≤ (V 1 10) ∧ (V 1 10) ≤ 1000000) (htown : InR town) (hkind : InR kind) (hweight : InR weight) (hyear : InR year) : C B yX10_seen cX10_seen 5 (some .int) 3 0 0 [vR B 0, vI town, vI kind, vI weight, vI year] S V (rI S (cSeenF V town kind weight year) (if cSeenC V town kind weight year then (V 134 4) else -1)) := by
  refine C.of [some (vR B 0), some (vI town), some (vI kind), some (vI weight), some (vI year)] ?_
  intro Γ hQ
  refine x_al0 dX10_seen_0 ?_
  refine x_getR fl_X10_12 (sh_0 hS) (lq_0 hS) (rf_0_0 hS) dX10_seen_1 ?_
  refine x_il1 dX10_seen_4 ?_
  refine x_il2 dX10_seen_5 ?_
  refine x_il3 dX10_seen_6 ?_
  refine x_il4 dX10_seen_7 ?_
  refine x_cVi mm_X9_tellSeen ml_X10_179 dX10_seen_9 (c_X9_tellSeen town kind weight year hS h17 h134 hch (inr (by omega)) (inr (by omega)) (inr (by omega)) (inr (by omega))) (sh_1 hS) (lq_1 hS) ?_
  exact x_iret hQ (rI.mk rfl rfl) dX10_seen_12
set_option maxRecDepth 100000 in
set_option maxHeartbeats 4000000 in
theorem c_X10_forget {B : Bs} {S : Stt} {V : Va} (hS : Stat S) (hch : 0 ≤ (V 1 10) ∧ (V 1 10) ≤ 1000000) : C B yX10_forget cX10_forget 1 (some .int) 2 0 0 [vR B 0] S V (rI S (up (up V 1 (ua (V 1) 10 ((V 1 10) + 1))) 134 (ua (V 134) 4 0)) (V 134 4)) := by
  refine C.of [some (vR B 0)] ?_
  intro Γ hQ
  refine x_al0 dX10_forget_0 ?_
  refine x_getR fl_X10_12 (sh_0 hS) (lq_0 hS) (rf_0_0 hS) dX10_forget_1 ?_
  refine x_cVi mm_X9_forgetSeen ml_X10_183 dX10_forget_4 (c_X9_forgetSeen hS hch) (sh_1 hS) (lq_1 hS) ?_
  exact x_iret hQ (rI.mk (by first | rfl | omega | (rw [if_pos (by omega)]) | (rw [if_neg (by omega)])) rfl) dX10_forget_7
set_option maxRecDepth 100000 in
set_option maxHeartbeats 4000000 in
theorem c_X10_same {B : Bs} {S : Stt} {V : Va} (ahead : Int) (one : Int) (hS : Stat S) (h134 : 0 ≤ (V 134 4) ∧ (V 134 4) ≤ 12 ∧ 0 ≤ (V 134 5) ∧ (V 134 5) ≤ 9 ∧ 1 ≤ (V 134 6) ∧ (V 134 6) ≤ 99) (hA2 : AB (V 2)) (hA3 : AB (V 3)) (hA136 : AB (V 136)) (h138 : ∀ s, 0 ≤ (V 138) s ∧ (V 138) s ≤ 999) (h137 : ∀ s, 0 ≤ (V 137) s ∧ (V 137) s ≤ 999) (h135 : ∀ s, 0 ≤ s → s < (V 134 4) → 0 ≤ (V 135) s ∧ (V 135) s < 10) (hahead : InR ahead) (hone : InR one) : C B yX10_same cX10_same 3 (some .boolean) 3 0 0 [vR B 0, vI ahead, vI one] S V (rI S V (if cSame V ahead one then 1 else 0)) := by
  refine C.of [some (vR B 0), some (vI ahead), some (vI one)] ?_
  intro Γ hQ
  refine x_al0 dX10_same_0 ?_
  refine x_getR fl_X10_12 (sh_0 hS) (lq_0 hS) (rf_0_0 hS) dX10_same_1 ?_
  refine x_il1 dX10_same_4 ?_
  refine x_il2 dX10_same_5 ?_
  refine x_cVi mm_X9_canBeSame ml_X10_186 dX10_same_6 (c_X9_canBeSame ahead one hS h134 hA2 hA3 hA136 h138 h137 h135 (inr (by omega)) (inr (by omega))) (sh_1 hS) (lq_1 hS) ?_
  exact x_zret hQ (rI.mk rfl rfl) (ite_01 _) dX10_same_9
set_option maxRecDepth 100000 in
set_option maxHeartbeats 4000000 in
theorem c_X10_pass {B : Bs} {S : Stt} {V : Va} (years : Int) (a : Int → Int) (tx : Int → Int) (hS : Stat S) (hW : WSim V 1 a) (hB : WB V 1) (hM : MIv a) (hTx : TSim S V 133 a tx) (hch : 0 ≤ (V 1 10) ∧ (V 1 10) ≤ 1000000) (hyears : InR years) : C B yX10_pass cX10_pass 2 (some .int) 7 0 0 [vR B 0, vI years] S V (rIR S (if 0 ≤ years ∧ years ≤ 99 ∧ a 2 + years ≤ 999 then a 2 + years else -1) (fun VN => StpR (0 ≤ years ∧ years ≤ 99 ∧ a 2 + years ≤ 999) (mPassF a tx years) V VN)) := by
  refine C.of [some (vR B 0), some (vI years)] ?_
  intro Γ hQ
  refine x_al0 dX10_pass_0 ?_
  refine x_getR fl_X10_12 (sh_0 hS) (lq_0 hS) (rf_0_0 hS) dX10_pass_1 ?_
  refine x_il1 dX10_pass_4 ?_
  refine x_al0 dX10_pass_5 ?_
  refine x_getR fl_X10_31 (sh_0 hS) (lq_0 hS) (rf_0_3 hS) dX10_pass_6 ?_
  refine x_cViR mm_X9_passYears ml_X10_112 dX10_pass_9 (c_X9_passYears years a tx hS hW hB hM hTx hch (inr (by omega))) (sh_1 hS) (lq_1 hS) (fun W1 hw1 => ?_)
  exact x_iret hQ ⟨rfl, rfl, hw1⟩ dX10_pass_12
set_option maxRecDepth 100000 in
set_option maxHeartbeats 4000000 in
theorem c_X3_put {B : Bs} {S : Stt} {V : Va} (four : Int) (hS : Stat S) (hn : 0 ≤ (V 277 1) ∧ (V 277 1) ≤ 296) (hfour : InR four) : C B yX3_put cX3_put 3 none 1 0 0 [vR B 277, vI four] S V (rV S (up (up V 277 (ua (V 277) 1 ((V 277 1) + 1 + 1 + 1 + 1))) 278 (tape4 (V 278) (V 277 1) four))) := by
  refine C.of [some (vR B 277), some (vI four), none] ?_
  intro Γ hQ
  refine x_bipush dX3_put_0 ?_
  refine x_is2 dX3_put_2 ?_
  refine x_il2 dX3_put_3 ?_
  refine x_if_lt (tgt := 49) dX3_put_4 (inr (by decide)) (fun c4_1 => ?_) (fun c4_1 => ?_)
  · exact absurd c4_1 (by decide)
  · -- 4 lt -> 7
    refine x_al0 dX3_put_7 ?_
    refine x_getI fl_X3_46 (sh_277 hS) (lq_277 hS) dX3_put_8 ?_
    refine x_topI (a' := V 277 1) rfl ?_
    refine x_sipush dX3_put_11 ?_
    refine x_icmp_ge (tgt := 49) dX3_put_14 (inr (by omega)) (inr (by decide)) (fun c14_2 => ?_) (fun c14_2 => ?_)
    · exact absurd c14_2 (by omega)
    · -- 14 ge -> 17
      refine x_al0 dX3_put_17 ?_
      refine x_getR fl_X3_9 (sh_277 hS) (lq_277 hS) (rf_277_0 hS) dX3_put_18 ?_
      refine x_al0 dX3_put_21 ?_
      refine x_getI fl_X3_46 (sh_277 hS) (lq_277 hS) dX3_put_22 ?_
      refine x_topI (a' := V 277 1) rfl ?_
      refine x_il1 dX3_put_25 ?_
      refine x_il2 dX3_put_26 ?_
      refine x_ishr (inr (by omega)) (by decide) (by decide) dX3_put_27 ?_
      refine x_sipush dX3_put_28 ?_
      refine x_and255 dX3_put_31 ?_
      refine x_iast (sh_278 hS) (lq_278 hS) (by omega) (by omega) dX3_put_32 ?_
      refine x_mem (V' := (up V 278 (ua (V 278) (V 277 1) ((four / p2 24) % 256)))) rfl ?_
      refine x_al0 dX3_put_33 ?_
      refine x_dup dX3_put_34 ?_
      refine x_getI fl_X3_46 (sh_277 hS) (lq_277 hS) dX3_put_35 ?_
      refine x_topI (a' := V 277 1) rfl ?_
      refine x_iconst dX3_put_38 ?_
      refine x_iadd dX3_put_39 ?_
      refine x_putI fl_X3_46 (sh_277 hS) (lq_277 hS) dX3_put_40 ?_
      refine x_mem (V' := (up (up V 277 (ua (V 277) 1 ((V 277 1) + 1))) 278 (ua (V 278) (V 277 1) ((four / p2 24) % 256)))) (st2_c (by decide) rfl) ?_
      refine x_dec2 dX3_put_43 ?_
      refine x_goto (tgt := 3) dX3_put_46 ?_
      refine x_il2 dX3_put_3 ?_
      refine x_if_lt (tgt := 49) dX3_put_4 (inr (by omega)) (fun c4_3 => ?_) (fun c4_3 => ?_)
      · exact absurd c4_3 (by decide)
      · -- 4 lt -> 7
        refine x_al0 dX3_put_7 ?_
        refine x_getI fl_X3_46 (sh_277 hS) (lq_277 hS) dX3_put_8 ?_
        refine x_topI (a' := (V 277 1) + 1) (show (ua (V 277) 1 ((V 277 1) + 1)) 1 = (V 277 1) + 1 from (ua_same _ _ _)) ?_
        refine x_sipush dX3_put_11 ?_
        refine x_icmp_ge (tgt := 49) dX3_put_14 (inr (by omega)) (inr (by decide)) (fun c14_4 => ?_) (fun c14_4 => ?_)
        · exact absurd c14_4 (by omega)
        · -- 14 ge -> 17
          refine x_al0 dX3_put_17 ?_
          refine x_getR fl_X3_9 (sh_277 hS) (lq_277 hS) (rf_277_0 hS) dX3_put_18 ?_
          refine x_al0 dX3_put_21 ?_
          refine x_getI fl_X3_46 (sh_277 hS) (lq_277 hS) dX3_put_22 ?_
          refine x_topI (a' := (V 277 1) + 1) (show (ua (V 277) 1 ((V 277 1) + 1)) 1 = (V 277 1) + 1 from (ua_same _ _ _)) ?_
          refine x_il1 dX3_put_25 ?_
          refine x_il2 dX3_put_26 ?_
          refine x_ishr (inr (by omega)) (by omega) (by omega) dX3_put_27 ?_
          refine x_sipush dX3_put_28 ?_
          refine x_and255 dX3_put_31 ?_
          refine x_iast (sh_278 hS) (lq_278 hS) (by omega) (by omega) dX3_put_32 ?_
          refine x_mem (V' := (up (up V 277 (ua (V 277) 1 ((V 277 1) + 1))) 278 (ua (ua (V 278) (V 277 1) ((four / p2 24) % 256)) ((V 277 1) + 1) ((four / p2 (24 - 8)) % 256)))) (st2_up _ _ _ _ _) ?_
          refine x_al0 dX3_put_33 ?_
          refine x_dup dX3_put_34 ?_
          refine x_getI fl_X3_46 (sh_277 hS) (lq_277 hS) dX3_put_35 ?_
          refine x_topI (a' := (V 277 1) + 1) (show (ua (V 277) 1 ((V 277 1) + 1)) 1 = (V 277 1) + 1 from (ua_same _ _ _)) ?_
          refine x_iconst dX3_put_38 ?_
          refine x_iadd dX3_put_39 ?_
          refine x_putI fl_X3_46 (sh_277 hS) (lq_277 hS) dX3_put_40 ?_
          refine x_mem (V' := (up (up V 277 (ua (ua (V 277) 1 ((V 277 1) + 1)) 1 (((V 277 1) + 1) + 1))) 278 (ua (ua (V 278) (V 277 1) ((four / p2 24) % 256)) ((V 277 1) + 1) ((four / p2 (24 - 8)) % 256)))) (st2_c (by decide) (st2_up _ _ _ _ _)) ?_
          refine x_dec2 dX3_put_43 ?_
          refine x_goto (tgt := 3) dX3_put_46 ?_
          refine x_il2 dX3_put_3 ?_
          refine x_if_lt (tgt := 49) dX3_put_4 (inr (by omega)) (fun c4_5 => ?_) (fun c4_5 => ?_)
          · exact absurd c4_5 (by decide)
          · -- 4 lt -> 7
            refine x_al0 dX3_put_7 ?_
            refine x_getI fl_X3_46 (sh_277 hS) (lq_277 hS) dX3_put_8 ?_
            refine x_topI (a' := ((V 277 1) + 1) + 1) (show (ua (ua (V 277) 1 ((V 277 1) + 1)) 1 (((V 277 1) + 1) + 1)) 1 = ((V 277 1) + 1) + 1 from (ua_same _ _ _)) ?_
            refine x_sipush dX3_put_11 ?_
            refine x_icmp_ge (tgt := 49) dX3_put_14 (inr (by omega)) (inr (by decide)) (fun c14_6 => ?_) (fun c14_6 => ?_)
            · exact absurd c14_6 (by omega)
            · -- 14 ge -> 17
              refine x_al0 dX3_put_17 ?_
              refine x_getR fl_X3_9 (sh_277 hS) (lq_277 hS) (rf_277_0 hS) dX3_put_18 ?_
              refine x_al0 dX3_put_21 ?_
              refine x_getI fl_X3_46 (sh_277 hS) (lq_277 hS) dX3_put_22 ?_
              refine x_topI (a' := ((V 277 1) + 1) + 1) (show (ua (ua (V 277) 1 ((V 277 1) + 1)) 1 (((V 277 1) + 1) + 1)) 1 = ((V 277 1) + 1) + 1 from (ua_same _ _ _)) ?_
              refine x_il1 dX3_put_25 ?_
              refine x_il2 dX3_put_26 ?_
              refine x_ishr (inr (by omega)) (by omega) (by omega) dX3_put_27 ?_
              refine x_sipush dX3_put_28 ?_
              refine x_and255 dX3_put_31 ?_
              refine x_iast (sh_278 hS) (lq_278 hS) (by omega) (by omega) dX3_put_32 ?_
              refine x_mem (V' := (up (up V 277 (ua (ua (V 277) 1 ((V 277 1) + 1)) 1 (((V 277 1) + 1) + 1))) 278 (ua (ua (ua (V 278) (V 277 1) ((four / p2 24) % 256)) ((V 277 1) + 1) ((four / p2 (24 - 8)) % 256)) (((V 277 1) + 1) + 1) ((four / p2 ((24 - 8) - 8)) % 256)))) (st2_up _ _ _ _ _) ?_
              refine x_al0 dX3_put_33 ?_
              refine x_dup dX3_put_34 ?_
              refine x_getI fl_X3_46 (sh_277 hS) (lq_277 hS) dX3_put_35 ?_
              refine x_topI (a' := ((V 277 1) + 1) + 1) (show (ua (ua (V 277) 1 ((V 277 1) + 1)) 1 (((V 277 1) + 1) + 1)) 1 = ((V 277 1) + 1) + 1 from (ua_same _ _ _)) ?_
              refine x_iconst dX3_put_38 ?_
              refine x_iadd dX3_put_39 ?_
              refine x_putI fl_X3_46 (sh_277 hS) (lq_277 hS) dX3_put_40 ?_
              refine x_mem (V' := (up (up V 277 (ua (ua (ua (V 277) 1 ((V 277 1) + 1)) 1 (((V 277 1) + 1) + 1)) 1 ((((V 277 1) + 1) + 1) + 1))) 278 (ua (ua (ua (V 278) (V 277 1) ((four / p2 24) % 256)) ((V 277 1) + 1) ((four / p2 (24 - 8)) % 256)) (((V 277 1) + 1) + 1) ((four / p2 ((24 - 8) - 8)) % 256)))) (st2_c (by decide) (st2_up _ _ _ _ _)) ?_
              refine x_dec2 dX3_put_43 ?_
              refine x_goto (tgt := 3) dX3_put_46 ?_
              refine x_il2 dX3_put_3 ?_
              refine x_if_lt (tgt := 49) dX3_put_4 (inr (by omega)) (fun c4_7 => ?_) (fun c4_7 => ?_)
              · exact absurd c4_7 (by decide)
              · -- 4 lt -> 7
                refine x_al0 dX3_put_7 ?_
                refine x_getI fl_X3_46 (sh_277 hS) (lq_277 hS) dX3_put_8 ?_
                refine x_topI (a' := (((V 277 1) + 1) + 1) + 1) (show (ua (ua (ua (V 277) 1 ((V 277 1) + 1)) 1 (((V 277 1) + 1) + 1)) 1 ((((V 277 1) + 1) + 1) + 1)) 1 = (((V 277 1) + 1) + 1) + 1 from (ua_same _ _ _)) ?_
                refine x_sipush dX3_put_11 ?_
                refine x_icmp_ge (tgt := 49) dX3_put_14 (inr (by omega)) (inr (by decide)) (fun c14_8 => ?_) (fun c14_8 => ?_)
                · exact absurd c14_8 (by omega)
                · -- 14 ge -> 17
                  refine x_al0 dX3_put_17 ?_
                  refine x_getR fl_X3_9 (sh_277 hS) (lq_277 hS) (rf_277_0 hS) dX3_put_18 ?_
                  refine x_al0 dX3_put_21 ?_
                  refine x_getI fl_X3_46 (sh_277 hS) (lq_277 hS) dX3_put_22 ?_
                  refine x_topI (a' := (((V 277 1) + 1) + 1) + 1) (show (ua (ua (ua (V 277) 1 ((V 277 1) + 1)) 1 (((V 277 1) + 1) + 1)) 1 ((((V 277 1) + 1) + 1) + 1)) 1 = (((V 277 1) + 1) + 1) + 1 from (ua_same _ _ _)) ?_
                  refine x_il1 dX3_put_25 ?_
                  refine x_il2 dX3_put_26 ?_
                  refine x_ishr (inr (by omega)) (by omega) (by omega) dX3_put_27 ?_
                  refine x_sipush dX3_put_28 ?_
                  refine x_and255 dX3_put_31 ?_
                  refine x_iast (sh_278 hS) (lq_278 hS) (by omega) (by omega) dX3_put_32 ?_
                  refine x_mem (V' := (up (up V 277 (ua (ua (ua (V 277) 1 ((V 277 1) + 1)) 1 (((V 277 1) + 1) + 1)) 1 ((((V 277 1) + 1) + 1) + 1))) 278 (ua (ua (ua (ua (V 278) (V 277 1) ((four / p2 24) % 256)) ((V 277 1) + 1) ((four / p2 (24 - 8)) % 256)) (((V 277 1) + 1) + 1) ((four / p2 ((24 - 8) - 8)) % 256)) ((((V 277 1) + 1) + 1) + 1) ((four / p2 (((24 - 8) - 8) - 8)) % 256)))) (st2_up _ _ _ _ _) ?_
                  refine x_al0 dX3_put_33 ?_
                  refine x_dup dX3_put_34 ?_
                  refine x_getI fl_X3_46 (sh_277 hS) (lq_277 hS) dX3_put_35 ?_
                  refine x_topI (a' := (((V 277 1) + 1) + 1) + 1) (show (ua (ua (ua (V 277) 1 ((V 277 1) + 1)) 1 (((V 277 1) + 1) + 1)) 1 ((((V 277 1) + 1) + 1) + 1)) 1 = (((V 277 1) + 1) + 1) + 1 from (ua_same _ _ _)) ?_
                  refine x_iconst dX3_put_38 ?_
                  refine x_iadd dX3_put_39 ?_
                  refine x_putI fl_X3_46 (sh_277 hS) (lq_277 hS) dX3_put_40 ?_
                  refine x_mem (V' := (up (up V 277 (ua (ua (ua (ua (V 277) 1 ((V 277 1) + 1)) 1 (((V 277 1) + 1) + 1)) 1 ((((V 277 1) + 1) + 1) + 1)) 1 (((((V 277 1) + 1) + 1) + 1) + 1))) 278 (ua (ua (ua (ua (V 278) (V 277 1) ((four / p2 24) % 256)) ((V 277 1) + 1) ((four / p2 (24 - 8)) % 256)) (((V 277 1) + 1) + 1) ((four / p2 ((24 - 8) - 8)) % 256)) ((((V 277 1) + 1) + 1) + 1) ((four / p2 (((24 - 8) - 8) - 8)) % 256)))) (st2_c (by decide) (st2_up _ _ _ _ _)) ?_
                  refine x_dec2 dX3_put_43 ?_
                  refine x_goto (tgt := 3) dX3_put_46 ?_
                  refine x_il2 dX3_put_3 ?_
                  refine x_if_lt (tgt := 49) dX3_put_4 (inr (by omega)) (fun c4_9 => ?_) (fun c4_9 => ?_)
                  · -- 4 lt -> 49
                    exact x_vret hQ (rV.mk (upE (upE rfl (by simp only [ua_ua])) rfl)) dX3_put_49
                  · exact absurd c4_9 (by decide)
set_option maxRecDepth 100000 in
set_option maxHeartbeats 4000000 in
theorem c_X10_feed {B : Bs} {S : Stt} {V : Va} (a : Int) (b : Int) (c : Int) (d : Int) (e : Int) (hS : Stat S) (hsz : 0 ≤ (V 277 1) ∧ (V 277 1) ≤ 300) (ha : InR a) (hb : InR b) (hc : InR c) (hd : InR d) (he : InR e) : C B yX10_feed cX10_feed 6 (some .int) 2 0 0 [vR B 0, vI a, vI b, vI c, vI d, vI e] S V (rI S (up (up V 277 (if (V 277 1) + 20 ≤ 300 then ua (V 277) 1 ((V 277 1) + 20) else (V 277))) 278 (if (V 277 1) + 20 ≤ 300 then feedT (V 278) (V 277 1) a b c d e else (V 278))) (if (V 277 1) + 20 ≤ 300 then (V 277 1) + 20 else -1)) := by
  refine C.of [some (vR B 0), some (vI a), some (vI b), some (vI c), some (vI d), some (vI e)] ?_
  intro Γ hQ
  refine x_al0 dX10_feed_0 ?_
  refine x_getR fl_X10_22 (sh_0 hS) (lq_0 hS) (rf_0_2 hS) dX10_feed_1 ?_
  refine x_getI fl_X10_70 (sh_277 hS) (lq_277 hS) dX10_feed_4 ?_
  refine x_topI (a' := V 277 1) rfl ?_
  refine x_bipush dX10_feed_7 ?_
  refine x_iadd dX10_feed_9 ?_
  refine x_sipush dX10_feed_10 ?_
  refine x_icmp_le (tgt := 18) dX10_feed_13 (inr (by omega)) (inr (by decide)) (fun c13_1 => ?_) (fun c13_1 => ?_)
  · -- 13 le -> 18
    refine x_al0 dX10_feed_18 ?_
    refine x_getR fl_X10_22 (sh_0 hS) (lq_0 hS) (rf_0_2 hS) dX10_feed_19 ?_
    refine x_il1 dX10_feed_22 ?_
    refine x_cVv mm_X3_put ml_X10_74 dX10_feed_23 (c_X3_put a hS (by omega) (inr (by omega))) (sh_277 hS) (lq_277 hS) ?_
    refine x_al0 dX10_feed_26 ?_
    refine x_getR fl_X10_22 (sh_0 hS) (lq_0 hS) (rf_0_2 hS) dX10_feed_27 ?_
    refine x_il2 dX10_feed_30 ?_
    refine x_cVv mm_X3_put ml_X10_74 dX10_feed_31 (c_X3_put b hS (show 0 ≤ ((V 277 1) + 1 + 1 + 1 + 1) ∧ ((V 277 1) + 1 + 1 + 1 + 1) ≤ 296 from (by omega)) (inr (by omega))) (sh_277 hS) (lq_277 hS) ?_
    refine x_mem (V' := (up (up V 277 (ua (ua (V 277) 1 ((V 277 1) + 1 + 1 + 1 + 1)) 1 (((V 277 1) + 1 + 1 + 1 + 1) + 1 + 1 + 1 + 1))) 278 (tape4 (tape4 (V 278) (V 277 1) a) ((V 277 1) + 1 + 1 + 1 + 1) b))) (Eq.trans (congrArg (fun z => up z 278 _) (up_k (by decide) (up_up _ _ _ _))) (up_up _ _ _ _)) ?_
    refine x_al0 dX10_feed_34 ?_
    refine x_getR fl_X10_22 (sh_0 hS) (lq_0 hS) (rf_0_2 hS) dX10_feed_35 ?_
    refine x_il3 dX10_feed_38 ?_
    refine x_cVv mm_X3_put ml_X10_74 dX10_feed_39 (c_X3_put c hS (show 0 ≤ (((V 277 1) + 1 + 1 + 1 + 1) + 1 + 1 + 1 + 1) ∧ (((V 277 1) + 1 + 1 + 1 + 1) + 1 + 1 + 1 + 1) ≤ 296 from (by omega)) (inr (by omega))) (sh_277 hS) (lq_277 hS) ?_
    refine x_mem (V' := (up (up V 277 (ua (ua (ua (V 277) 1 ((V 277 1) + 1 + 1 + 1 + 1)) 1 (((V 277 1) + 1 + 1 + 1 + 1) + 1 + 1 + 1 + 1)) 1 ((((V 277 1) + 1 + 1 + 1 + 1) + 1 + 1 + 1 + 1) + 1 + 1 + 1 + 1))) 278 (tape4 (tape4 (tape4 (V 278) (V 277 1) a) ((V 277 1) + 1 + 1 + 1 + 1) b) (((V 277 1) + 1 + 1 + 1 + 1) + 1 + 1 + 1 + 1) c))) (Eq.trans (congrArg (fun z => up z 278 _) (up_k (by decide) (up_up _ _ _ _))) (up_up _ _ _ _)) ?_
    refine x_al0 dX10_feed_42 ?_
    refine x_getR fl_X10_22 (sh_0 hS) (lq_0 hS) (rf_0_2 hS) dX10_feed_43 ?_
    refine x_il4 dX10_feed_46 ?_
    refine x_cVv mm_X3_put ml_X10_74 dX10_feed_48 (c_X3_put d hS (show 0 ≤ ((((V 277 1) + 1 + 1 + 1 + 1) + 1 + 1 + 1 + 1) + 1 + 1 + 1 + 1) ∧ ((((V 277 1) + 1 + 1 + 1 + 1) + 1 + 1 + 1 + 1) + 1 + 1 + 1 + 1) ≤ 296 from (by omega)) (inr (by omega))) (sh_277 hS) (lq_277 hS) ?_
    refine x_mem (V' := (up (up V 277 (ua (ua (ua (ua (V 277) 1 ((V 277 1) + 1 + 1 + 1 + 1)) 1 (((V 277 1) + 1 + 1 + 1 + 1) + 1 + 1 + 1 + 1)) 1 ((((V 277 1) + 1 + 1 + 1 + 1) + 1 + 1 + 1 + 1) + 1 + 1 + 1 + 1)) 1 (((((V 277 1) + 1 + 1 + 1 + 1) + 1 + 1 + 1 + 1) + 1 + 1 + 1 + 1) + 1 + 1 + 1 + 1))) 278 (tape4 (tape4 (tape4 (tape4 (V 278) (V 277 1) a) ((V 277 1) + 1 + 1 + 1 + 1) b) (((V 277 1) + 1 + 1 + 1 + 1) + 1 + 1 + 1 + 1) c) ((((V 277 1) + 1 + 1 + 1 + 1) + 1 + 1 + 1 + 1) + 1 + 1 + 1 + 1) d))) (Eq.trans (congrArg (fun z => up z 278 _) (up_k (by decide) (up_up _ _ _ _))) (up_up _ _ _ _)) ?_
    refine x_al0 dX10_feed_51 ?_
    refine x_getR fl_X10_22 (sh_0 hS) (lq_0 hS) (rf_0_2 hS) dX10_feed_52 ?_
    refine x_il5 dX10_feed_55 ?_
    refine x_cVv mm_X3_put ml_X10_74 dX10_feed_57 (c_X3_put e hS (show 0 ≤ (((((V 277 1) + 1 + 1 + 1 + 1) + 1 + 1 + 1 + 1) + 1 + 1 + 1 + 1) + 1 + 1 + 1 + 1) ∧ (((((V 277 1) + 1 + 1 + 1 + 1) + 1 + 1 + 1 + 1) + 1 + 1 + 1 + 1) + 1 + 1 + 1 + 1) ≤ 296 from (by omega)) (inr (by omega))) (sh_277 hS) (lq_277 hS) ?_
    refine x_mem (V' := (up (up V 277 (ua (ua (ua (ua (ua (V 277) 1 ((V 277 1) + 1 + 1 + 1 + 1)) 1 (((V 277 1) + 1 + 1 + 1 + 1) + 1 + 1 + 1 + 1)) 1 ((((V 277 1) + 1 + 1 + 1 + 1) + 1 + 1 + 1 + 1) + 1 + 1 + 1 + 1)) 1 (((((V 277 1) + 1 + 1 + 1 + 1) + 1 + 1 + 1 + 1) + 1 + 1 + 1 + 1) + 1 + 1 + 1 + 1)) 1 ((((((V 277 1) + 1 + 1 + 1 + 1) + 1 + 1 + 1 + 1) + 1 + 1 + 1 + 1) + 1 + 1 + 1 + 1) + 1 + 1 + 1 + 1))) 278 (tape4 (tape4 (tape4 (tape4 (tape4 (V 278) (V 277 1) a) ((V 277 1) + 1 + 1 + 1 + 1) b) (((V 277 1) + 1 + 1 + 1 + 1) + 1 + 1 + 1 + 1) c) ((((V 277 1) + 1 + 1 + 1 + 1) + 1 + 1 + 1 + 1) + 1 + 1 + 1 + 1) d) (((((V 277 1) + 1 + 1 + 1 + 1) + 1 + 1 + 1 + 1) + 1 + 1 + 1 + 1) + 1 + 1 + 1 + 1) e))) (Eq.trans (congrArg (fun z => up z 278 _) (up_k (by decide) (up_up _ _ _ _))) (up_up _ _ _ _)) ?_
    refine x_al0 dX10_feed_60 ?_
    refine x_getR fl_X10_22 (sh_0 hS) (lq_0 hS) (rf_0_2 hS) dX10_feed_61 ?_
    refine x_getI fl_X10_70 (sh_277 hS) (lq_277 hS) dX10_feed_64 ?_
    refine x_topI (a' := (((((V 277 1) + 1 + 1 + 1 + 1) + 1 + 1 + 1 + 1) + 1 + 1 + 1 + 1) + 1 + 1 + 1 + 1) + 1 + 1 + 1 + 1) (show (ua (ua (ua (ua (ua (V 277) 1 ((V 277 1) + 1 + 1 + 1 + 1)) 1 (((V 277 1) + 1 + 1 + 1 + 1) + 1 + 1 + 1 + 1)) 1 ((((V 277 1) + 1 + 1 + 1 + 1) + 1 + 1 + 1 + 1) + 1 + 1 + 1 + 1)) 1 (((((V 277 1) + 1 + 1 + 1 + 1) + 1 + 1 + 1 + 1) + 1 + 1 + 1 + 1) + 1 + 1 + 1 + 1)) 1 ((((((V 277 1) + 1 + 1 + 1 + 1) + 1 + 1 + 1 + 1) + 1 + 1 + 1 + 1) + 1 + 1 + 1 + 1) + 1 + 1 + 1 + 1)) 1 = (((((V 277 1) + 1 + 1 + 1 + 1) + 1 + 1 + 1 + 1) + 1 + 1 + 1 + 1) + 1 + 1 + 1 + 1) + 1 + 1 + 1 + 1 from (ua_same _ _ _)) ?_
    exact x_iret hQ (rI.mk (by rw [if_pos (by omega)]; omega) (by rw [if_pos (by omega), if_pos (by omega)]; refine upE (upE rfl ?_) rfl; simp only [ua_ua]; congr 1; omega)) dX10_feed_67
  · -- 13 le -> 16
    refine x_iconst dX10_feed_16 ?_
    exact x_iret hQ (rI.mk (by rw [if_neg (by omega)]) (by rw [if_neg (by omega), if_neg (by omega), up_self, up_self])) dX10_feed_17
set_option maxRecDepth 100000 in
set_option maxHeartbeats 4000000 in
theorem c_X10_end {B : Bs} {S : Stt} {V : Va} (n : Int) (hS : Stat S) (hsz : 0 ≤ (V 277 1) ∧ (V 277 1) ≤ 300) (hn : InR n) : C B yX10_end cX10_end 2 (some .int) 1 0 0 [vR B 0, vI n] S V (rI S (up V 277 (if 0 ≤ n ∧ n ≤ (V 277 1) then ua (V 277) 1 n else (V 277))) (if 0 ≤ n ∧ n ≤ (V 277 1) then n else -1)) := by
  refine C.of [some (vR B 0), some (vI n)] ?_
  intro Γ hQ
  refine x_il1 dX10_end_0 ?_
  refine x_if_lt (tgt := 15) dX10_end_1 (inr (by omega)) (fun c1_1 => ?_) (fun c1_1 => ?_)
  · -- 1 lt -> 15
    refine x_iconst dX10_end_15 ?_
    exact x_iret hQ (rI.mk (by first | (rw [if_pos (by omega)]) | (rw [if_neg (by omega)])) (by first | (rw [if_pos (by omega)]) | (rw [if_neg (by omega), up_self]))) dX10_end_16
  · -- 1 lt -> 4
    refine x_il1 dX10_end_4 ?_
    refine x_al0 dX10_end_5 ?_
    refine x_getR fl_X10_22 (sh_0 hS) (lq_0 hS) (rf_0_2 hS) dX10_end_6 ?_
    refine x_getI fl_X10_70 (sh_277 hS) (lq_277 hS) dX10_end_9 ?_
    refine x_topI (a' := V 277 1) rfl ?_
    refine x_icmp_le (tgt := 17) dX10_end_12 (inr (by omega)) (inr (by omega)) (fun c12_2 => ?_) (fun c12_2 => ?_)
    · -- 12 le -> 17
      refine x_al0 dX10_end_17 ?_
      refine x_getR fl_X10_22 (sh_0 hS) (lq_0 hS) (rf_0_2 hS) dX10_end_18 ?_
      refine x_il1 dX10_end_21 ?_
      refine x_putI fl_X10_70 (sh_277 hS) (lq_277 hS) dX10_end_22 ?_
      refine x_mem (V' := (up V 277 (ua (V 277) 1 n))) rfl ?_
      refine x_il1 dX10_end_25 ?_
      exact x_iret hQ (rI.mk (by first | (rw [if_pos (by omega)]) | (rw [if_neg (by omega)])) (by first | (rw [if_pos (by omega)]) | (rw [if_neg (by omega), up_self]))) dX10_end_26
    · -- 12 le -> 15
      refine x_iconst dX10_end_15 ?_
      exact x_iret hQ (rI.mk (by first | (rw [if_pos (by omega)]) | (rw [if_neg (by omega)])) (by first | (rw [if_pos (by omega)]) | (rw [if_neg (by omega), up_self]))) dX10_end_16
set_option maxRecDepth 100000 in
set_option maxHeartbeats 4000000 in
theorem c_X10_fault {B : Bs} {S : Stt} {V : Va} (what : Int) (hS : Stat S) (hwhat : InR what) : C B yX10_fault cX10_fault 2 (some .int) 1 0 0 [vR B 0, vI what] S V (rI S V (if what = 0 then (V 277 2) else if what = 1 then (V 277 3) else -1)) := by
  refine C.of [some (vR B 0), some (vI what)] ?_
  intro Γ hQ
  refine x_il1 dX10_fault_0 ?_
  by_cases hs1 : what = 0
  · refine x_lsw (tgt := 28) (off := 27) dX10_fault_1 (inr (by omega)) (by rw [hs1]; rfl) ?_
    refine x_al0 dX10_fault_28 ?_
    refine x_getR fl_X10_22 (sh_0 hS) (lq_0 hS) (rf_0_2 hS) dX10_fault_29 ?_
    refine x_getI fl_X10_89 (sh_277 hS) (lq_277 hS) dX10_fault_32 ?_
    refine x_topI (a' := V 277 2) rfl ?_
    exact x_iret hQ (rI.mk (by first | (rw [if_pos (by omega)]) | (rw [if_neg (by omega), if_pos (by omega)]) | (rw [if_neg (by omega), if_neg (by omega)])) rfl) dX10_fault_35
  by_cases hs2 : what = 1
  · refine x_lsw (tgt := 36) (off := 35) dX10_fault_1 (inr (by omega)) (by rw [hs2]; rfl) ?_
    refine x_al0 dX10_fault_36 ?_
    refine x_getR fl_X10_22 (sh_0 hS) (lq_0 hS) (rf_0_2 hS) dX10_fault_37 ?_
    refine x_getI fl_X10_92 (sh_277 hS) (lq_277 hS) dX10_fault_40 ?_
    refine x_topI (a' := V 277 3) rfl ?_
    exact x_iret hQ (rI.mk (by first | (rw [if_pos (by omega)]) | (rw [if_neg (by omega), if_pos (by omega)]) | (rw [if_neg (by omega), if_neg (by omega)])) rfl) dX10_fault_43
  refine x_lsw (tgt := 44) (off := 43) dX10_fault_1 (inr (by omega)) (by simp [Op.lookupswitch.offset, Ne.symm hs1, hs1, Ne.symm hs2, hs2]) ?_
  refine x_iconst dX10_fault_44 ?_
  exact x_iret hQ (rI.mk (by first | (rw [if_pos (by omega)]) | (rw [if_neg (by omega), if_pos (by omega)]) | (rw [if_neg (by omega), if_neg (by omega)])) rfl) dX10_fault_45
set_option maxRecDepth 100000 in
set_option maxHeartbeats 4000000 in
theorem c_X10_nextDraw {B : Bs} {S : Stt} {V : Va} (x : Int) (hx : 0 ≤ x ∧ x < 70100) : C B yX10_nextDraw cX10_nextDraw 1 (some .int) 1 0 0 [vI x] S V (rI S V (drawN x)) := by
  refine C.of [some (vI x)] ?_
  intro Γ hQ
  refine x_il0 dX10_nextDraw_0 ?_
  refine x_sipush dX10_nextDraw_1 ?_
  refine x_imul dX10_nextDraw_4 ?_
  refine x_bipush dX10_nextDraw_5 ?_
  refine x_iadd dX10_nextDraw_7 ?_
  refine x_sipush dX10_nextDraw_8 ?_
  refine x_irem (inr (by omega)) (inr (by decide)) (by decide) dX10_nextDraw_11 ?_
  refine x_topI (a' := ((x * 173) + 41) % 30103) (Int.tmod_eq_emod_of_nonneg (by omega)) ?_
  exact x_iret hQ (rI.mk (by first | rfl | omega | (rw [if_pos (by omega)]) | (rw [if_neg (by omega)])) rfl) dX10_nextDraw_12
set_option maxRecDepth 100000 in
set_option maxHeartbeats 4000000 in
theorem c_X10_about {B : Bs} {S : Stt} {V : Va} (what : Int) (hS : Stat S) (h17 : 0 ≤ (V 1 7) ∧ (V 1 7) ≤ 10) (h55 : 0 ≤ (V 5 5) ∧ (V 5 5) ≤ 16) (h10 : ∀ t, 0 ≤ (V 10) t ∧ (V 10) t < 65536) (hA8 : AB (V 8)) (hwhat : InR what) : C B yX10_about cX10_about 2 (some .int) 3 0 0 [vR B 0, vI what] S V (rI S V (if 10 ≤ what then cAboutT V what else if what = 0 then (V 1 7) else if what = 1 then (V 5 5) else if what = 2 then (V 5 6) else if what = 3 then (V 1 8) else if what = 4 then (V 1 9) else if what = 5 then (V 11 2) else if what = 6 then (V 134 4) else if what = 7 then (V 134 5) else if what = 8 then (V 134 6) else if what = 9 then (V 277 1) else -2)) := by
  refine C.of [some (vR B 0), some (vI what)] ?_
  intro Γ hQ
  refine x_il1 dX10_about_0 ?_
  refine x_bipush dX10_about_1 ?_
  refine x_icmp_lt (tgt := 15) dX10_about_3 (inr (by omega)) (inr (by decide)) (fun c3_1 => ?_) (fun c3_1 => ?_)
  · -- 3 lt -> 15
    refine x_il1 dX10_about_15 ?_
    by_cases hs2 : what = 0
    · refine x_tswIn (tgt := 72) (off := 56) dX10_about_16 0 hs2 ?_
      refine x_al0 dX10_about_72 ?_
      refine x_getR fl_X10_12 (sh_0 hS) (lq_0 hS) (rf_0_0 hS) dX10_about_73 ?_
      refine x_getI fl_X10_236 (sh_1 hS) (lq_1 hS) dX10_about_76 ?_
      refine x_topI (a' := V 1 7) rfl ?_
      exact x_iret hQ (rI.mk (by rw [if_neg (show ¬ 10 ≤ what by omega), if_pos (show what = 0 by omega)]) rfl) dX10_about_79
    by_cases hs3 : what = 1
    · refine x_tswIn (tgt := 80) (off := 64) dX10_about_16 1 hs3 ?_
      refine x_al0 dX10_about_80 ?_
      refine x_getR fl_X10_12 (sh_0 hS) (lq_0 hS) (rf_0_0 hS) dX10_about_81 ?_
      refine x_getR fl_X10_140 (sh_1 hS) (lq_1 hS) (rf_1_3 hS) dX10_about_84 ?_
      refine x_getI fl_X10_251 (sh_5 hS) (lq_5 hS) dX10_about_87 ?_
      refine x_topI (a' := V 5 5) rfl ?_
      exact x_iret hQ (rI.mk (by rw [if_neg (show ¬ 10 ≤ what by omega), if_neg (show ¬ what = 0 by omega), if_pos (show what = 1 by omega)]) rfl) dX10_about_90
    by_cases hs4 : what = 2
    · refine x_tswIn (tgt := 91) (off := 75) dX10_about_16 2 hs4 ?_
      refine x_al0 dX10_about_91 ?_
      refine x_getR fl_X10_12 (sh_0 hS) (lq_0 hS) (rf_0_0 hS) dX10_about_92 ?_
      refine x_getR fl_X10_140 (sh_1 hS) (lq_1 hS) (rf_1_3 hS) dX10_about_95 ?_
      refine x_getI fl_X10_245 (sh_5 hS) (lq_5 hS) dX10_about_98 ?_
      refine x_topI (a' := V 5 6) rfl ?_
      exact x_iret hQ (rI.mk (by rw [if_neg (show ¬ 10 ≤ what by omega), if_neg (show ¬ what = 0 by omega), if_neg (show ¬ what = 1 by omega), if_pos (show what = 2 by omega)]) rfl) dX10_about_101
    by_cases hs5 : what = 3
    · refine x_tswIn (tgt := 102) (off := 86) dX10_about_16 3 hs5 ?_
      refine x_al0 dX10_about_102 ?_
      refine x_getR fl_X10_12 (sh_0 hS) (lq_0 hS) (rf_0_0 hS) dX10_about_103 ?_
      refine x_getI fl_X10_78 (sh_1 hS) (lq_1 hS) dX10_about_106 ?_
      refine x_topI (a' := V 1 8) rfl ?_
      exact x_iret hQ (rI.mk (by rw [if_neg (show ¬ 10 ≤ what by omega), if_neg (show ¬ what = 0 by omega), if_neg (show ¬ what = 1 by omega), if_neg (show ¬ what = 2 by omega), if_pos (show what = 3 by omega)]) rfl) dX10_about_109
    by_cases hs6 : what = 4
    · refine x_tswIn (tgt := 110) (off := 94) dX10_about_16 4 hs6 ?_
      refine x_al0 dX10_about_110 ?_
      refine x_getR fl_X10_12 (sh_0 hS) (lq_0 hS) (rf_0_0 hS) dX10_about_111 ?_
      refine x_getI fl_X10_254 (sh_1 hS) (lq_1 hS) dX10_about_114 ?_
      refine x_topI (a' := V 1 9) rfl ?_
      exact x_iret hQ (rI.mk (by rw [if_neg (show ¬ 10 ≤ what by omega), if_neg (show ¬ what = 0 by omega), if_neg (show ¬ what = 1 by omega), if_neg (show ¬ what = 2 by omega), if_neg (show ¬ what = 3 by omega), if_pos (show what = 4 by omega)]) rfl) dX10_about_117
    by_cases hs7 : what = 5
    · refine x_tswIn (tgt := 118) (off := 102) dX10_about_16 5 hs7 ?_
      refine x_al0 dX10_about_118 ?_
      refine x_getR fl_X10_12 (sh_0 hS) (lq_0 hS) (rf_0_0 hS) dX10_about_119 ?_
      refine x_getR fl_X10_257 (sh_1 hS) (lq_1 hS) (rf_1_4 hS) dX10_about_122 ?_
      refine x_getI fl_X10_261 (sh_11 hS) (lq_11 hS) dX10_about_125 ?_
      refine x_topI (a' := V 11 2) rfl ?_
      exact x_iret hQ (rI.mk (by rw [if_neg (show ¬ 10 ≤ what by omega), if_neg (show ¬ what = 0 by omega), if_neg (show ¬ what = 1 by omega), if_neg (show ¬ what = 2 by omega), if_neg (show ¬ what = 3 by omega), if_neg (show ¬ what = 4 by omega), if_pos (show what = 5 by omega)]) rfl) dX10_about_128
    by_cases hs8 : what = 6
    · refine x_tswIn (tgt := 129) (off := 113) dX10_about_16 6 hs8 ?_
      refine x_al0 dX10_about_129 ?_
      refine x_getR fl_X10_12 (sh_0 hS) (lq_0 hS) (rf_0_0 hS) dX10_about_130 ?_
      refine x_getR fl_X10_197 (sh_1 hS) (lq_1 hS) (rf_1_6 hS) dX10_about_133 ?_
      refine x_getI fl_X10_201 (sh_134 hS) (lq_134 hS) dX10_about_136 ?_
      refine x_topI (a' := V 134 4) rfl ?_
      exact x_iret hQ (rI.mk (by rw [if_neg (show ¬ 10 ≤ what by omega), if_neg (show ¬ what = 0 by omega), if_neg (show ¬ what = 1 by omega), if_neg (show ¬ what = 2 by omega), if_neg (show ¬ what = 3 by omega), if_neg (show ¬ what = 4 by omega), if_neg (show ¬ what = 5 by omega), if_pos (show what = 6 by omega)]) rfl) dX10_about_139
    by_cases hs9 : what = 7
    · refine x_tswIn (tgt := 140) (off := 124) dX10_about_16 7 hs9 ?_
      refine x_al0 dX10_about_140 ?_
      refine x_getR fl_X10_12 (sh_0 hS) (lq_0 hS) (rf_0_0 hS) dX10_about_141 ?_
      refine x_getR fl_X10_197 (sh_1 hS) (lq_1 hS) (rf_1_6 hS) dX10_about_144 ?_
      refine x_getI fl_X10_264 (sh_134 hS) (lq_134 hS) dX10_about_147 ?_
      refine x_topI (a' := V 134 5) rfl ?_
      exact x_iret hQ (rI.mk (by rw [if_neg (show ¬ 10 ≤ what by omega), if_neg (show ¬ what = 0 by omega), if_neg (show ¬ what = 1 by omega), if_neg (show ¬ what = 2 by omega), if_neg (show ¬ what = 3 by omega), if_neg (show ¬ what = 4 by omega), if_neg (show ¬ what = 5 by omega), if_neg (show ¬ what = 6 by omega), if_pos (show what = 7 by omega)]) rfl) dX10_about_150
    by_cases hs10 : what = 8
    · refine x_tswIn (tgt := 151) (off := 135) dX10_about_16 8 hs10 ?_
      refine x_al0 dX10_about_151 ?_
      refine x_getR fl_X10_12 (sh_0 hS) (lq_0 hS) (rf_0_0 hS) dX10_about_152 ?_
      refine x_getR fl_X10_197 (sh_1 hS) (lq_1 hS) (rf_1_6 hS) dX10_about_155 ?_
      refine x_getI fl_X10_267 (sh_134 hS) (lq_134 hS) dX10_about_158 ?_
      refine x_topI (a' := V 134 6) rfl ?_
      exact x_iret hQ (rI.mk (by rw [if_neg (show ¬ 10 ≤ what by omega), if_neg (show ¬ what = 0 by omega), if_neg (show ¬ what = 1 by omega), if_neg (show ¬ what = 2 by omega), if_neg (show ¬ what = 3 by omega), if_neg (show ¬ what = 4 by omega), if_neg (show ¬ what = 5 by omega), if_neg (show ¬ what = 6 by omega), if_neg (show ¬ what = 7 by omega), if_pos (show what = 8 by omega)]) rfl) dX10_about_161
    by_cases hs11 : what = 9
    · refine x_tswIn (tgt := 162) (off := 146) dX10_about_16 9 hs11 ?_
      refine x_al0 dX10_about_162 ?_
      refine x_getR fl_X10_22 (sh_0 hS) (lq_0 hS) (rf_0_2 hS) dX10_about_163 ?_
      refine x_getI fl_X10_70 (sh_277 hS) (lq_277 hS) dX10_about_166 ?_
      refine x_topI (a' := V 277 1) rfl ?_
      exact x_iret hQ (rI.mk (by rw [if_neg (show ¬ 10 ≤ what by omega), if_neg (show ¬ what = 0 by omega), if_neg (show ¬ what = 1 by omega), if_neg (show ¬ what = 2 by omega), if_neg (show ¬ what = 3 by omega), if_neg (show ¬ what = 4 by omega), if_neg (show ¬ what = 5 by omega), if_neg (show ¬ what = 6 by omega), if_neg (show ¬ what = 7 by omega), if_neg (show ¬ what = 8 by omega), if_pos (show what = 9 by omega)]) rfl) dX10_about_169
    refine x_tswOut (tgt := 170) dX10_about_16 (inr (by omega)) (by omega) ?_
    refine x_bipush dX10_about_170 ?_
    exact x_iret hQ (rI.mk (by rw [if_neg (show ¬ 10 ≤ what by omega), if_neg (show ¬ what = 0 by omega), if_neg (show ¬ what = 1 by omega), if_neg (show ¬ what = 2 by omega), if_neg (show ¬ what = 3 by omega), if_neg (show ¬ what = 4 by omega), if_neg (show ¬ what = 5 by omega), if_neg (show ¬ what = 6 by omega), if_neg (show ¬ what = 7 by omega), if_neg (show ¬ what = 8 by omega), if_neg (show ¬ what = 9 by omega)]) rfl) dX10_about_172
  · -- 3 lt -> 6
    refine x_al0 dX10_about_6 ?_
    refine x_getR fl_X10_12 (sh_0 hS) (lq_0 hS) (rf_0_0 hS) dX10_about_7 ?_
    refine x_il1 dX10_about_10 ?_
    refine x_cVi mm_X9_aboutTown ml_X10_248 dX10_about_11 (c_X9_aboutTown what hS h17 h55 h10 hA8 (by omega)) (sh_1 hS) (lq_1 hS) ?_
    exact x_iret hQ (rI.mk (by rw [if_pos (show 10 ≤ what by omega)]) rfl) dX10_about_14
