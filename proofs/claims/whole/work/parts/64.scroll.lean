theorem zcs {T : zT} {as : List zV} {M : zM} {f : zV → zM → Prop} (q : T as M (fun r M' => ∃ v, r = some v ∧ f v M')) : zcv T as M f := ⟨_, q, fun _ _ q => q⟩
theorem zcns {T : zT} {as : List zV} {M : zM} {f : zM → Prop} (q : T as M (fun r M' => r = none ∧ f M')) : zcn T as M f := ⟨_, q, fun _ _ q => q⟩
theorem zsh_30 : zshr 3 0 = 3 := by decide
theorem zsh_20 : zshr 2 0 = 2 := by decide
theorem zi2c_d : ∀ b : Fin 256, zi2c b.val = b.val := by decide +kernel
theorem zi2b_d : ∀ b : Fin 256, zi2b b.val = if b.val < 128 then (b.val : Int) else (b.val : Int) - 256 := by decide +kernel
theorem zi2c_at {b : Int} (h0 : 0 ≤ b) (h1 : b < 256) : zi2c b = b := by
  have := zi2c_d ⟨b.toNat, by omega⟩
  simpa [Int.toNat_of_nonneg h0] using this
theorem zi2b_at {b : Int} (h0 : 0 ≤ b) (h1 : b < 256) : (b < 128 ∧ zi2b b = b) ∨ (128 ≤ b ∧ zi2b b = b - 256) := by
  have := zi2b_d ⟨b.toNat, by omega⟩
  simp only [Int.toNat_of_nonneg h0] at this
  split at this <;> omega
set_option maxHeartbeats 4000000 in
theorem i_latin100 {M : zM} {f : zV → zM → Prop} : zcv (zv 99 tJ0_isLatin1_aae02) [.inr (.inr 100)] M f ↔ f (.inl 1) M := by
  refine Iff.trans (zcv_gv (F := fJ0) (V := vJ0_isLatin1_aae02) (cc := cJ0_isLatin1_aae02) (nL := 1) (show zrcv _ _ from rfl)) ?_
  show tJ0_isLatin1_aae02 _ _ _ ↔ _
  simp only [↓eJ0_isLatin1_aae02, ↓rJ0_isLatin1_aae02_0, ↓rJ0_isLatin1_aae02_3, ↓rJ0_isLatin1_aae02_6, ↓rJ0_isLatin1_aae02_7, ↓rJ0_isLatin1_aae02_10, ↓rJ0_isLatin1_aae02_13, ↓rJ0_isLatin1_aae02_14, ↓rJ0_isLatin1_aae02_18, ↓rJ0_isLatin1_aae02_17, ↓hg_fJ0_15_100, ↓hg_fJ0_15_101, ↓hs_fJ0_38, ↓reduceIte, zkeep_n, zkeep_i, zkeep_r, zkeep_l, zup_eq, zIR, zLR, List.length_cons, List.length_nil, Nat.reduceAdd, Nat.reduceLeDiff, Nat.reduceEqDiff, Nat.reduceSub, Int.reduceLE, Int.reduceLT, Int.reduceEq, Int.reduceNe, Int.reduceNeg, Int.reduceAdd, Int.reduceSub, Int.reduceMul, Int.reduceToNat, Nat.le_refl, Nat.zero_le, Nat.zero_add, Int.zero_add, Int.add_zero, and_true, true_and, and_false, false_and, not_true_eq_false, not_false_eq_true, eq_self, ne_eq, true_implies, false_implies, implies_true, or_true, true_or, or_false, false_or, reduceCtorEq, Option.some.injEq, Sum.inl.injEq, exists_eq_left', exists_eq_left, zite]
set_option maxHeartbeats 4000000 in
theorem i_coder100 {M : zM} {f : zV → zM → Prop} : zcv (zv 99 tJ0_coder_7d493) [.inr (.inr 100)] M f ↔ f (.inl 0) M := by
  refine Iff.trans (zcv_gv (F := fJ0) (V := vJ0_coder_7d493) (cc := cJ0_coder_7d493) (nL := 1) (show zrcv _ _ from rfl)) ?_
  show tJ0_coder_7d493 _ _ _ ↔ _
  simp only [↓eJ0_coder_7d493, ↓rJ0_coder_7d493_0, ↓rJ0_coder_7d493_3, ↓rJ0_coder_7d493_6, ↓rJ0_coder_7d493_7, ↓rJ0_coder_7d493_10, ↓rJ0_coder_7d493_14, ↓rJ0_coder_7d493_13, ↓hg_fJ0_15_100, ↓hg_fJ0_15_101, ↓hs_fJ0_38, ↓reduceIte, zkeep_n, zkeep_i, zkeep_r, zkeep_l, zup_eq, zIR, zLR, List.length_cons, List.length_nil, Nat.reduceAdd, Nat.reduceLeDiff, Nat.reduceEqDiff, Nat.reduceSub, Int.reduceLE, Int.reduceLT, Int.reduceEq, Int.reduceNe, Int.reduceNeg, Int.reduceAdd, Int.reduceSub, Int.reduceMul, Int.reduceToNat, Nat.le_refl, Nat.zero_le, Nat.zero_add, Int.zero_add, Int.add_zero, and_true, true_and, and_false, false_and, not_true_eq_false, not_false_eq_true, eq_self, ne_eq, true_implies, false_implies, implies_true, or_true, true_or, or_false, false_or, reduceCtorEq, Option.some.injEq, Sum.inl.injEq, exists_eq_left', exists_eq_left, zite]
set_option maxHeartbeats 4000000 in
theorem i_strlen100 {M : zM} {f : zV → zM → Prop} : zcv (zv 99 tJ0_length_8abf5) [.inr (.inr 100)] M f ↔ f (.inl 3) M := by
  refine Iff.trans (zcv_gv (F := fJ0) (V := vJ0_length_8abf5) (cc := cJ0_length_8abf5) (nL := 1) (show zrcv _ _ from rfl)) ?_
  show tJ0_length_8abf5 _ _ _ ↔ _
  simp only [↓eJ0_length_8abf5, ↓rJ0_length_8abf5_0, ↓rJ0_length_8abf5_1, ↓rJ0_length_8abf5_4, ↓rJ0_length_8abf5_5, ↓rJ0_length_8abf5_6, ↓rJ0_length_8abf5_9, ↓rJ0_length_8abf5_10, ↓hg_fJ0_9_100, ↓hg_fJ0_9_101, ↓hl_fJ0_110, ↓hl_fJ0_111, ↓hr_10, ↓hr_11, ↓hr_13, ↓hr_14, ↓hr_15, ↓hr_16, ↓hr_18, ↓hr_19, ↓hr_2, ↓hr_20, ↓hr_21, ↓hr_24, ↓hr_25, ↓hr_26, ↓hr_28, ↓hr_29, ↓hr_3, ↓hr_30, ↓hr_33, ↓hr_34, ↓hr_35, ↓hr_36, ↓hr_37, ↓hr_39, ↓hr_41, ↓hr_43, ↓hr_45, ↓hr_5, ↓hr_6, ↓hr_8, ↓hr_9, ↓hw_10, ↓hw_11, ↓hw_13, ↓hw_14, ↓hw_15, ↓hw_16, ↓hw_18, ↓hw_19, ↓hw_2, ↓hw_20, ↓hw_21, ↓hw_24, ↓hw_25, ↓hw_26, ↓hw_28, ↓hw_29, ↓hw_3, ↓hw_30, ↓hw_33, ↓hw_34, ↓hw_35, ↓hw_36, ↓hw_37, ↓hw_39, ↓hw_41, ↓hw_43, ↓hw_45, ↓hw_5, ↓hw_6, ↓hw_8, ↓hw_9, ↓reduceIte, ↓i_coder100, zkeep_n, zkeep_i, zkeep_r, zkeep_l, zup_eq, zIR, zLR, List.length_cons, List.length_nil, Nat.reduceAdd, Nat.reduceLeDiff, Nat.reduceEqDiff, Nat.reduceSub, Int.reduceLE, Int.reduceLT, Int.reduceEq, Int.reduceNe, Int.reduceNeg, Int.reduceAdd, Int.reduceSub, Int.reduceMul, Int.reduceToNat, Nat.le_refl, Nat.zero_le, Nat.zero_add, Int.zero_add, Int.add_zero, and_true, true_and, and_false, false_and, not_true_eq_false, not_false_eq_true, eq_self, ne_eq, true_implies, false_implies, implies_true, or_true, true_or, or_false, false_or, reduceCtorEq, Option.some.injEq, Sum.inl.injEq, exists_eq_left', exists_eq_left, zsh_30, zite]
set_option maxHeartbeats 4000000 in
theorem i_latin101 {M : zM} {f : zV → zM → Prop} : zcv (zv 99 tJ0_isLatin1_aae02) [.inr (.inr 101)] M f ↔ f (.inl 1) M := by
  refine Iff.trans (zcv_gv (F := fJ0) (V := vJ0_isLatin1_aae02) (cc := cJ0_isLatin1_aae02) (nL := 1) (show zrcv _ _ from rfl)) ?_
  show tJ0_isLatin1_aae02 _ _ _ ↔ _
  simp only [↓eJ0_isLatin1_aae02, ↓rJ0_isLatin1_aae02_0, ↓rJ0_isLatin1_aae02_3, ↓rJ0_isLatin1_aae02_6, ↓rJ0_isLatin1_aae02_7, ↓rJ0_isLatin1_aae02_10, ↓rJ0_isLatin1_aae02_13, ↓rJ0_isLatin1_aae02_14, ↓rJ0_isLatin1_aae02_18, ↓rJ0_isLatin1_aae02_17, ↓hg_fJ0_15_100, ↓hg_fJ0_15_101, ↓hs_fJ0_38, ↓reduceIte, zkeep_n, zkeep_i, zkeep_r, zkeep_l, zup_eq, zIR, zLR, List.length_cons, List.length_nil, Nat.reduceAdd, Nat.reduceLeDiff, Nat.reduceEqDiff, Nat.reduceSub, Int.reduceLE, Int.reduceLT, Int.reduceEq, Int.reduceNe, Int.reduceNeg, Int.reduceAdd, Int.reduceSub, Int.reduceMul, Int.reduceToNat, Nat.le_refl, Nat.zero_le, Nat.zero_add, Int.zero_add, Int.add_zero, and_true, true_and, and_false, false_and, not_true_eq_false, not_false_eq_true, eq_self, ne_eq, true_implies, false_implies, implies_true, or_true, true_or, or_false, false_or, reduceCtorEq, Option.some.injEq, Sum.inl.injEq, exists_eq_left', exists_eq_left, zite]
set_option maxHeartbeats 4000000 in
theorem i_coder101 {M : zM} {f : zV → zM → Prop} : zcv (zv 99 tJ0_coder_7d493) [.inr (.inr 101)] M f ↔ f (.inl 0) M := by
  refine Iff.trans (zcv_gv (F := fJ0) (V := vJ0_coder_7d493) (cc := cJ0_coder_7d493) (nL := 1) (show zrcv _ _ from rfl)) ?_
  show tJ0_coder_7d493 _ _ _ ↔ _
  simp only [↓eJ0_coder_7d493, ↓rJ0_coder_7d493_0, ↓rJ0_coder_7d493_3, ↓rJ0_coder_7d493_6, ↓rJ0_coder_7d493_7, ↓rJ0_coder_7d493_10, ↓rJ0_coder_7d493_14, ↓rJ0_coder_7d493_13, ↓hg_fJ0_15_100, ↓hg_fJ0_15_101, ↓hs_fJ0_38, ↓reduceIte, zkeep_n, zkeep_i, zkeep_r, zkeep_l, zup_eq, zIR, zLR, List.length_cons, List.length_nil, Nat.reduceAdd, Nat.reduceLeDiff, Nat.reduceEqDiff, Nat.reduceSub, Int.reduceLE, Int.reduceLT, Int.reduceEq, Int.reduceNe, Int.reduceNeg, Int.reduceAdd, Int.reduceSub, Int.reduceMul, Int.reduceToNat, Nat.le_refl, Nat.zero_le, Nat.zero_add, Int.zero_add, Int.add_zero, and_true, true_and, and_false, false_and, not_true_eq_false, not_false_eq_true, eq_self, ne_eq, true_implies, false_implies, implies_true, or_true, true_or, or_false, false_or, reduceCtorEq, Option.some.injEq, Sum.inl.injEq, exists_eq_left', exists_eq_left, zite]
set_option maxHeartbeats 4000000 in
theorem i_strlen101 {M : zM} {f : zV → zM → Prop} : zcv (zv 99 tJ0_length_8abf5) [.inr (.inr 101)] M f ↔ f (.inl 2) M := by
  refine Iff.trans (zcv_gv (F := fJ0) (V := vJ0_length_8abf5) (cc := cJ0_length_8abf5) (nL := 1) (show zrcv _ _ from rfl)) ?_
  show tJ0_length_8abf5 _ _ _ ↔ _
  simp only [↓eJ0_length_8abf5, ↓rJ0_length_8abf5_0, ↓rJ0_length_8abf5_1, ↓rJ0_length_8abf5_4, ↓rJ0_length_8abf5_5, ↓rJ0_length_8abf5_6, ↓rJ0_length_8abf5_9, ↓rJ0_length_8abf5_10, ↓hg_fJ0_9_100, ↓hg_fJ0_9_101, ↓hl_fJ0_110, ↓hl_fJ0_111, ↓hr_10, ↓hr_11, ↓hr_13, ↓hr_14, ↓hr_15, ↓hr_16, ↓hr_18, ↓hr_19, ↓hr_2, ↓hr_20, ↓hr_21, ↓hr_24, ↓hr_25, ↓hr_26, ↓hr_28, ↓hr_29, ↓hr_3, ↓hr_30, ↓hr_33, ↓hr_34, ↓hr_35, ↓hr_36, ↓hr_37, ↓hr_39, ↓hr_41, ↓hr_43, ↓hr_45, ↓hr_5, ↓hr_6, ↓hr_8, ↓hr_9, ↓hw_10, ↓hw_11, ↓hw_13, ↓hw_14, ↓hw_15, ↓hw_16, ↓hw_18, ↓hw_19, ↓hw_2, ↓hw_20, ↓hw_21, ↓hw_24, ↓hw_25, ↓hw_26, ↓hw_28, ↓hw_29, ↓hw_3, ↓hw_30, ↓hw_33, ↓hw_34, ↓hw_35, ↓hw_36, ↓hw_37, ↓hw_39, ↓hw_41, ↓hw_43, ↓hw_45, ↓hw_5, ↓hw_6, ↓hw_8, ↓hw_9, ↓reduceIte, ↓i_coder101, zkeep_n, zkeep_i, zkeep_r, zkeep_l, zup_eq, zIR, zLR, List.length_cons, List.length_nil, Nat.reduceAdd, Nat.reduceLeDiff, Nat.reduceEqDiff, Nat.reduceSub, Int.reduceLE, Int.reduceLT, Int.reduceEq, Int.reduceNe, Int.reduceNeg, Int.reduceAdd, Int.reduceSub, Int.reduceMul, Int.reduceToNat, Nat.le_refl, Nat.zero_le, Nat.zero_add, Int.zero_add, Int.add_zero, and_true, true_and, and_false, false_and, not_true_eq_false, not_false_eq_true, eq_self, ne_eq, true_implies, false_implies, implies_true, or_true, true_or, or_false, false_or, reduceCtorEq, Option.some.injEq, Sum.inl.injEq, exists_eq_left', exists_eq_left, zsh_20, zite]
set_option maxHeartbeats 4000000 in
theorem i_canEnc {b : Int} {M : zM} {f : zV → zM → Prop} (h0 : 0 ≤ b) (h1 : b < 256) : zcv tJ1_canEncode_9a6ad [.inl b] M f ↔ f (.inl 1) M := by
  have c1 : ¬ b < 0 := by omega
  have c2 : ¬ 255 < b := by omega
  have c3 : -2147483648 ≤ b ∧ b ≤ 2147483647 := by omega
  refine Iff.trans (zcv_go (F := fJ1) (V := vJ1_canEncode_9a6ad) (cc := cJ1_canEncode_9a6ad) (nL := 1)) ?_
  show tJ1_canEncode_9a6ad _ _ _ ↔ _
  simp only [↓eJ1_canEncode_9a6ad, ↓rJ1_canEncode_9a6ad_0, ↓rJ1_canEncode_9a6ad_1, ↓rJ1_canEncode_9a6ad_4, ↓rJ1_canEncode_9a6ad_5, ↓rJ1_canEncode_9a6ad_8, ↓rJ1_canEncode_9a6ad_11, ↓rJ1_canEncode_9a6ad_12, ↓rJ1_canEncode_9a6ad_16, ↓rJ1_canEncode_9a6ad_15, ↓reduceIte, zkeep_n, zkeep_i, zkeep_r, zkeep_l, zup_eq, zIR, zLR, List.length_cons, List.length_nil, Nat.reduceAdd, Nat.reduceLeDiff, Nat.reduceEqDiff, Nat.reduceSub, Int.reduceLE, Int.reduceLT, Int.reduceEq, Int.reduceNe, Int.reduceNeg, Int.reduceAdd, Int.reduceSub, Int.reduceMul, Int.reduceToNat, Nat.le_refl, Nat.zero_le, Nat.zero_add, Int.zero_add, Int.add_zero, and_true, true_and, and_false, false_and, not_true_eq_false, not_false_eq_true, eq_self, ne_eq, true_implies, false_implies, implies_true, or_true, true_or, or_false, false_or, reduceCtorEq, Option.some.injEq, Sum.inl.injEq, exists_eq_left', exists_eq_left, c1, c2, c3, and_self, zite]
set_option maxRecDepth 100000 in
set_option maxHeartbeats 4000000 in
theorem s_idxc100 {M : zM} {R : zP} {b : Int} (h0 : 0 ≤ b) (h1 : b < 256) (hR : R (some (.inl (qlet 0 b))) M) : tJ1_indexOfChar_4cfef [.inr (.inr 110), .inl b, .inl 0, .inl 3] M R := by
  have hb := zi2b_at h0 h1
  have fin : ∀ x : Int, x = qlet 0 b → R (some (.inl x)) M := fun x hx => by rw [hx]; exact hR
  unfold qlet at fin
  simp only [eq_self, if_true, Nat.reduceEqDiff, if_false] at fin
  simp only [↓eJ1_indexOfChar_4cfef, ↓rJ1_indexOfChar_4cfef_0, ↓rJ1_indexOfChar_4cfef_1, ↓rJ1_indexOfChar_4cfef_2, ↓rJ1_indexOfChar_4cfef_4, ↓rJ1_indexOfChar_4cfef_5, ↓rJ1_indexOfChar_4cfef_7, ↓rJ1_indexOfChar_4cfef_9, ↓rJ1_indexOfChar_4cfef_10, ↓rJ1_indexOfChar_4cfef_13, ↓rJ1_indexOfChar_4cfef_14, ↓rJ1_indexOfChar_4cfef_16, ↓rJ1_indexOfChar_4cfef_17, ↓rJ1_indexOfChar_4cfef_19, ↓rJ1_indexOfChar_4cfef_22, ↓rJ1_indexOfChar_4cfef_24, ↓rJ1_indexOfChar_4cfef_25, ↓rJ1_indexOfChar_4cfef_28, ↓rJ1_indexOfChar_4cfef_31, ↓rJ1_indexOfChar_4cfef_32, ↓hl_fJ1_110, ↓hl_fJ1_111, ↓hr_10, ↓hr_11, ↓hr_13, ↓hr_14, ↓hr_15, ↓hr_16, ↓hr_18, ↓hr_19, ↓hr_2, ↓hr_20, ↓hr_21, ↓hr_24, ↓hr_25, ↓hr_26, ↓hr_28, ↓hr_29, ↓hr_3, ↓hr_30, ↓hr_33, ↓hr_34, ↓hr_35, ↓hr_36, ↓hr_37, ↓hr_39, ↓hr_41, ↓hr_43, ↓hr_45, ↓hr_5, ↓hr_6, ↓hr_8, ↓hr_9, ↓hr_fJ1_110, ↓hr_fJ1_111, ↓hw_10, ↓hw_11, ↓hw_13, ↓hw_14, ↓hw_15, ↓hw_16, ↓hw_18, ↓hw_19, ↓hw_2, ↓hw_20, ↓hw_21, ↓hw_24, ↓hw_25, ↓hw_26, ↓hw_28, ↓hw_29, ↓hw_3, ↓hw_30, ↓hw_33, ↓hw_34, ↓hw_35, ↓hw_36, ↓hw_37, ↓hw_39, ↓hw_41, ↓hw_43, ↓hw_45, ↓hw_5, ↓hw_6, ↓hw_8, ↓hw_9, ↓reduceIte, zkeep_n, zkeep_i, zkeep_r, zkeep_l, zup_eq, zIR, zLR, List.length_cons, List.length_nil, Nat.reduceAdd, Nat.reduceLeDiff, Nat.reduceEqDiff, Nat.reduceSub, Int.reduceLE, Int.reduceLT, Int.reduceEq, Int.reduceNe, Int.reduceNeg, Int.reduceAdd, Int.reduceSub, Int.reduceMul, Int.reduceToNat, Nat.le_refl, Nat.zero_le, Nat.zero_add, Int.zero_add, Int.add_zero, and_true, true_and, and_false, false_and, not_true_eq_false, not_false_eq_true, eq_self, ne_eq, true_implies, false_implies, implies_true, or_true, true_or, or_false, false_or, reduceCtorEq, Option.some.injEq, Sum.inl.injEq, exists_eq_left', exists_eq_left, zk110, zite]
  repeat' (first | with_reducible apply And.intro | with_reducible intro _)
  all_goals first | omega | (refine fin _ ?_; (repeat' split) <;> omega)
set_option maxRecDepth 100000 in
set_option maxHeartbeats 4000000 in
theorem s_idxc101 {M : zM} {R : zP} {b : Int} (h0 : 0 ≤ b) (h1 : b < 256) (hR : R (some (.inl (qlet 1 b))) M) : tJ1_indexOfChar_4cfef [.inr (.inr 111), .inl b, .inl 0, .inl 2] M R := by
  have hb := zi2b_at h0 h1
  have fin : ∀ x : Int, x = qlet 1 b → R (some (.inl x)) M := fun x hx => by rw [hx]; exact hR
  unfold qlet at fin
  simp only [eq_self, if_true, Nat.reduceEqDiff, if_false] at fin
  simp only [↓eJ1_indexOfChar_4cfef, ↓rJ1_indexOfChar_4cfef_0, ↓rJ1_indexOfChar_4cfef_1, ↓rJ1_indexOfChar_4cfef_2, ↓rJ1_indexOfChar_4cfef_4, ↓rJ1_indexOfChar_4cfef_5, ↓rJ1_indexOfChar_4cfef_7, ↓rJ1_indexOfChar_4cfef_9, ↓rJ1_indexOfChar_4cfef_10, ↓rJ1_indexOfChar_4cfef_13, ↓rJ1_indexOfChar_4cfef_14, ↓rJ1_indexOfChar_4cfef_16, ↓rJ1_indexOfChar_4cfef_17, ↓rJ1_indexOfChar_4cfef_19, ↓rJ1_indexOfChar_4cfef_22, ↓rJ1_indexOfChar_4cfef_24, ↓rJ1_indexOfChar_4cfef_25, ↓rJ1_indexOfChar_4cfef_28, ↓rJ1_indexOfChar_4cfef_31, ↓rJ1_indexOfChar_4cfef_32, ↓hl_fJ1_110, ↓hl_fJ1_111, ↓hr_10, ↓hr_11, ↓hr_13, ↓hr_14, ↓hr_15, ↓hr_16, ↓hr_18, ↓hr_19, ↓hr_2, ↓hr_20, ↓hr_21, ↓hr_24, ↓hr_25, ↓hr_26, ↓hr_28, ↓hr_29, ↓hr_3, ↓hr_30, ↓hr_33, ↓hr_34, ↓hr_35, ↓hr_36, ↓hr_37, ↓hr_39, ↓hr_41, ↓hr_43, ↓hr_45, ↓hr_5, ↓hr_6, ↓hr_8, ↓hr_9, ↓hr_fJ1_110, ↓hr_fJ1_111, ↓hw_10, ↓hw_11, ↓hw_13, ↓hw_14, ↓hw_15, ↓hw_16, ↓hw_18, ↓hw_19, ↓hw_2, ↓hw_20, ↓hw_21, ↓hw_24, ↓hw_25, ↓hw_26, ↓hw_28, ↓hw_29, ↓hw_3, ↓hw_30, ↓hw_33, ↓hw_34, ↓hw_35, ↓hw_36, ↓hw_37, ↓hw_39, ↓hw_41, ↓hw_43, ↓hw_45, ↓hw_5, ↓hw_6, ↓hw_8, ↓hw_9, ↓reduceIte, zkeep_n, zkeep_i, zkeep_r, zkeep_l, zup_eq, zIR, zLR, List.length_cons, List.length_nil, Nat.reduceAdd, Nat.reduceLeDiff, Nat.reduceEqDiff, Nat.reduceSub, Int.reduceLE, Int.reduceLT, Int.reduceEq, Int.reduceNe, Int.reduceNeg, Int.reduceAdd, Int.reduceSub, Int.reduceMul, Int.reduceToNat, Nat.le_refl, Nat.zero_le, Nat.zero_add, Int.zero_add, Int.add_zero, and_true, true_and, and_false, false_and, not_true_eq_false, not_false_eq_true, eq_self, ne_eq, true_implies, false_implies, implies_true, or_true, true_or, or_false, false_or, reduceCtorEq, Option.some.injEq, Sum.inl.injEq, exists_eq_left', exists_eq_left, zk111, zite]
  repeat' (first | with_reducible apply And.intro | with_reducible intro _)
  all_goals first | omega | (refine fin _ ?_; (repeat' split) <;> omega)
set_option maxRecDepth 100000 in
set_option maxHeartbeats 4000000 in
theorem s_idx100 {M : zM} {f : zV → zM → Prop} {b : Int} (h0 : 0 ≤ b) (h1 : b < 256) (hR : f (.inl (qlet 0 b)) M) : zcv (zv 99 tJ0_indexOf_0f7a4) [.inr (.inr 100), .inl b] M f := by
  refine zcvv rfl ?_
  simp only [↓eJ0_indexOf_0f7a4, ↓rJ0_indexOf_0f7a4_0, ↓rJ0_indexOf_0f7a4_1, ↓rJ0_indexOf_0f7a4_2, ↓rJ0_indexOf_0f7a4_3, ↓reduceIte, zkeep_n, zkeep_i, zkeep_r, zkeep_l, zup_eq, zIR, zLR, List.length_cons, List.length_nil, Nat.reduceAdd, Nat.reduceLeDiff, Nat.reduceEqDiff, Nat.reduceSub, Int.reduceLE, Int.reduceLT, Int.reduceEq, Int.reduceNe, Int.reduceNeg, Int.reduceAdd, Int.reduceSub, Int.reduceMul, Int.reduceToNat, Nat.le_refl, Nat.zero_le, Nat.zero_add, Int.zero_add, Int.add_zero, and_true, true_and, and_false, false_and, not_true_eq_false, not_false_eq_true, eq_self, ne_eq, true_implies, false_implies, implies_true, or_true, true_or, or_false, false_or, reduceCtorEq, Option.some.injEq, Sum.inl.injEq, exists_eq_left', exists_eq_left, zite]
  refine zcvv rfl ?_
  simp only [↓eJ0_indexOf_7cf53, ↓rJ0_indexOf_7cf53_0, ↓rJ0_indexOf_7cf53_1, ↓rJ0_indexOf_7cf53_4, ↓rJ0_indexOf_7cf53_7, ↓rJ0_indexOf_7cf53_8, ↓rJ0_indexOf_7cf53_11, ↓rJ0_indexOf_7cf53_12, ↓rJ0_indexOf_7cf53_13, ↓rJ0_indexOf_7cf53_14, ↓hg_fJ0_9_100, ↓hg_fJ0_9_101, ↓reduceIte, ↓i_latin100, ↓i_strlen100, zkeep_n, zkeep_i, zkeep_r, zkeep_l, zup_eq, zIR, zLR, List.length_cons, List.length_nil, Nat.reduceAdd, Nat.reduceLeDiff, Nat.reduceEqDiff, Nat.reduceSub, Int.reduceLE, Int.reduceLT, Int.reduceEq, Int.reduceNe, Int.reduceNeg, Int.reduceAdd, Int.reduceSub, Int.reduceMul, Int.reduceToNat, Nat.le_refl, Nat.zero_le, Nat.zero_add, Int.zero_add, Int.add_zero, and_true, true_and, and_false, false_and, not_true_eq_false, not_false_eq_true, eq_self, ne_eq, true_implies, false_implies, implies_true, or_true, true_or, or_false, false_or, reduceCtorEq, Option.some.injEq, Sum.inl.injEq, exists_eq_left', exists_eq_left, zite]
  simp only [↓rJ0_indexOf_7cf53_17, ↓reduceIte, zkeep_n, zkeep_i, zkeep_r, zkeep_l, zup_eq, zIR, zLR, List.length_cons, List.length_nil, Nat.reduceAdd, Nat.reduceLeDiff, Nat.reduceEqDiff, Nat.reduceSub, Int.reduceLE, Int.reduceLT, Int.reduceEq, Int.reduceNe, Int.reduceNeg, Int.reduceAdd, Int.reduceSub, Int.reduceMul, Int.reduceToNat, Nat.le_refl, Nat.zero_le, Nat.zero_add, Int.zero_add, Int.add_zero, and_true, true_and, and_false, false_and, not_true_eq_false, not_false_eq_true, eq_self, ne_eq, true_implies, false_implies, implies_true, or_true, true_or, or_false, false_or, reduceCtorEq, Option.some.injEq, Sum.inl.injEq, exists_eq_left', exists_eq_left, zite]
  refine zcs ?_
  have ce := fun f => i_canEnc (b := b) (M := M) (f := f) h0 h1
  simp only [↓eJ1_indexOf_4cfef, ↓rJ1_indexOf_4cfef_0, ↓rJ1_indexOf_4cfef_1, ↓rJ1_indexOf_4cfef_4, ↓rJ1_indexOf_4cfef_7, ↓rJ1_indexOf_4cfef_8, ↓rJ1_indexOf_4cfef_9, ↓rJ1_indexOf_4cfef_10, ↓rJ1_indexOf_4cfef_11, ↓rJ1_indexOf_4cfef_14, ↓rJ1_indexOf_4cfef_15, ↓rJ1_indexOf_4cfef_16, ↓rJ1_indexOf_4cfef_17, ↓rJ1_indexOf_4cfef_18, ↓rJ1_indexOf_4cfef_21, ↓rJ1_indexOf_4cfef_22, ↓rJ1_indexOf_4cfef_23, ↓rJ1_indexOf_4cfef_24, ↓rJ1_indexOf_4cfef_27, ↓rJ1_indexOf_4cfef_28, ↓rJ1_indexOf_4cfef_29, ↓rJ1_indexOf_4cfef_30, ↓rJ1_indexOf_4cfef_31, ↓rJ1_indexOf_4cfef_32, ↓hl_fJ1_110, ↓hl_fJ1_111, ↓hr_10, ↓hr_11, ↓hr_13, ↓hr_14, ↓hr_15, ↓hr_16, ↓hr_18, ↓hr_19, ↓hr_2, ↓hr_20, ↓hr_21, ↓hr_24, ↓hr_25, ↓hr_26, ↓hr_28, ↓hr_29, ↓hr_3, ↓hr_30, ↓hr_33, ↓hr_34, ↓hr_35, ↓hr_36, ↓hr_37, ↓hr_39, ↓hr_41, ↓hr_43, ↓hr_45, ↓hr_5, ↓hr_6, ↓hr_8, ↓hr_9, ↓hr_fJ1_110, ↓hr_fJ1_111, ↓hw_10, ↓hw_11, ↓hw_13, ↓hw_14, ↓hw_15, ↓hw_16, ↓hw_18, ↓hw_19, ↓hw_2, ↓hw_20, ↓hw_21, ↓hw_24, ↓hw_25, ↓hw_26, ↓hw_28, ↓hw_29, ↓hw_3, ↓hw_30, ↓hw_33, ↓hw_34, ↓hw_35, ↓hw_36, ↓hw_37, ↓hw_39, ↓hw_41, ↓hw_43, ↓hw_45, ↓hw_5, ↓hw_6, ↓hw_8, ↓hw_9, ↓i_max, ↓i_min, ↓reduceIte, ↓ce, zkeep_n, zkeep_i, zkeep_r, zkeep_l, zup_eq, zIR, zLR, List.length_cons, List.length_nil, Nat.reduceAdd, Nat.reduceLeDiff, Nat.reduceEqDiff, Nat.reduceSub, Int.reduceLE, Int.reduceLT, Int.reduceEq, Int.reduceNe, Int.reduceNeg, Int.reduceAdd, Int.reduceSub, Int.reduceMul, Int.reduceToNat, Nat.le_refl, Nat.zero_le, Nat.zero_add, Int.zero_add, Int.add_zero, and_true, true_and, and_false, false_and, not_true_eq_false, not_false_eq_true, eq_self, ne_eq, true_implies, false_implies, implies_true, or_true, true_or, or_false, false_or, reduceCtorEq, Option.some.injEq, Sum.inl.injEq, exists_eq_left', exists_eq_left, zite]
  simp only [↓rJ1_indexOf_4cfef_33, ↓reduceIte, zkeep_n, zkeep_i, zkeep_r, zkeep_l, zup_eq, zIR, zLR, List.length_cons, List.length_nil, Nat.reduceAdd, Nat.reduceLeDiff, Nat.reduceEqDiff, Nat.reduceSub, Int.reduceLE, Int.reduceLT, Int.reduceEq, Int.reduceNe, Int.reduceNeg, Int.reduceAdd, Int.reduceSub, Int.reduceMul, Int.reduceToNat, Nat.le_refl, Nat.zero_le, Nat.zero_add, Int.zero_add, Int.add_zero, and_true, true_and, and_false, false_and, not_true_eq_false, not_false_eq_true, eq_self, ne_eq, true_implies, false_implies, implies_true, or_true, true_or, or_false, false_or, reduceCtorEq, Option.some.injEq, Sum.inl.injEq, exists_eq_left', exists_eq_left, zite]
  refine zcs (s_idxc100 h0 h1 ⟨_, rfl, ?_⟩)
  simp only [↓rJ1_indexOf_4cfef_36, ↓reduceIte, zkeep_n, zkeep_i, zkeep_r, zkeep_l, zup_eq, zIR, zLR, List.length_cons, List.length_nil, Nat.reduceAdd, Nat.reduceLeDiff, Nat.reduceEqDiff, Nat.reduceSub, Int.reduceLE, Int.reduceLT, Int.reduceEq, Int.reduceNe, Int.reduceNeg, Int.reduceAdd, Int.reduceSub, Int.reduceMul, Int.reduceToNat, Nat.le_refl, Nat.zero_le, Nat.zero_add, Int.zero_add, Int.add_zero, and_true, true_and, and_false, false_and, not_true_eq_false, not_false_eq_true, eq_self, ne_eq, true_implies, false_implies, implies_true, or_true, true_or, or_false, false_or, reduceCtorEq, Option.some.injEq, Sum.inl.injEq, exists_eq_left', exists_eq_left, zite]
  simp only [↓rJ0_indexOf_7cf53_20, ↓rJ0_indexOf_7cf53_36, ↓reduceIte, zkeep_n, zkeep_i, zkeep_r, zkeep_l, zup_eq, zIR, zLR, List.length_cons, List.length_nil, Nat.reduceAdd, Nat.reduceLeDiff, Nat.reduceEqDiff, Nat.reduceSub, Int.reduceLE, Int.reduceLT, Int.reduceEq, Int.reduceNe, Int.reduceNeg, Int.reduceAdd, Int.reduceSub, Int.reduceMul, Int.reduceToNat, Nat.le_refl, Nat.zero_le, Nat.zero_add, Int.zero_add, Int.add_zero, and_true, true_and, and_false, false_and, not_true_eq_false, not_false_eq_true, eq_self, ne_eq, true_implies, false_implies, implies_true, or_true, true_or, or_false, false_or, reduceCtorEq, Option.some.injEq, Sum.inl.injEq, exists_eq_left', exists_eq_left, zite]
  simp only [↓rJ0_indexOf_0f7a4_6, ↓reduceIte, zkeep_n, zkeep_i, zkeep_r, zkeep_l, zup_eq, zIR, zLR, List.length_cons, List.length_nil, Nat.reduceAdd, Nat.reduceLeDiff, Nat.reduceEqDiff, Nat.reduceSub, Int.reduceLE, Int.reduceLT, Int.reduceEq, Int.reduceNe, Int.reduceNeg, Int.reduceAdd, Int.reduceSub, Int.reduceMul, Int.reduceToNat, Nat.le_refl, Nat.zero_le, Nat.zero_add, Int.zero_add, Int.add_zero, and_true, true_and, and_false, false_and, not_true_eq_false, not_false_eq_true, eq_self, ne_eq, true_implies, false_implies, implies_true, or_true, true_or, or_false, false_or, reduceCtorEq, Option.some.injEq, Sum.inl.injEq, exists_eq_left', exists_eq_left, zite]
  exact hR
set_option maxRecDepth 100000 in
set_option maxHeartbeats 4000000 in
theorem s_idx101 {M : zM} {f : zV → zM → Prop} {b : Int} (h0 : 0 ≤ b) (h1 : b < 256) (hR : f (.inl (qlet 1 b)) M) : zcv (zv 99 tJ0_indexOf_0f7a4) [.inr (.inr 101), .inl b] M f := by
  refine zcvv rfl ?_
  simp only [↓eJ0_indexOf_0f7a4, ↓rJ0_indexOf_0f7a4_0, ↓rJ0_indexOf_0f7a4_1, ↓rJ0_indexOf_0f7a4_2, ↓rJ0_indexOf_0f7a4_3, ↓reduceIte, zkeep_n, zkeep_i, zkeep_r, zkeep_l, zup_eq, zIR, zLR, List.length_cons, List.length_nil, Nat.reduceAdd, Nat.reduceLeDiff, Nat.reduceEqDiff, Nat.reduceSub, Int.reduceLE, Int.reduceLT, Int.reduceEq, Int.reduceNe, Int.reduceNeg, Int.reduceAdd, Int.reduceSub, Int.reduceMul, Int.reduceToNat, Nat.le_refl, Nat.zero_le, Nat.zero_add, Int.zero_add, Int.add_zero, and_true, true_and, and_false, false_and, not_true_eq_false, not_false_eq_true, eq_self, ne_eq, true_implies, false_implies, implies_true, or_true, true_or, or_false, false_or, reduceCtorEq, Option.some.injEq, Sum.inl.injEq, exists_eq_left', exists_eq_left, zite]
  refine zcvv rfl ?_
  simp only [↓eJ0_indexOf_7cf53, ↓rJ0_indexOf_7cf53_0, ↓rJ0_indexOf_7cf53_1, ↓rJ0_indexOf_7cf53_4, ↓rJ0_indexOf_7cf53_7, ↓rJ0_indexOf_7cf53_8, ↓rJ0_indexOf_7cf53_11, ↓rJ0_indexOf_7cf53_12, ↓rJ0_indexOf_7cf53_13, ↓rJ0_indexOf_7cf53_14, ↓hg_fJ0_9_100, ↓hg_fJ0_9_101, ↓reduceIte, ↓i_latin101, ↓i_strlen101, zkeep_n, zkeep_i, zkeep_r, zkeep_l, zup_eq, zIR, zLR, List.length_cons, List.length_nil, Nat.reduceAdd, Nat.reduceLeDiff, Nat.reduceEqDiff, Nat.reduceSub, Int.reduceLE, Int.reduceLT, Int.reduceEq, Int.reduceNe, Int.reduceNeg, Int.reduceAdd, Int.reduceSub, Int.reduceMul, Int.reduceToNat, Nat.le_refl, Nat.zero_le, Nat.zero_add, Int.zero_add, Int.add_zero, and_true, true_and, and_false, false_and, not_true_eq_false, not_false_eq_true, eq_self, ne_eq, true_implies, false_implies, implies_true, or_true, true_or, or_false, false_or, reduceCtorEq, Option.some.injEq, Sum.inl.injEq, exists_eq_left', exists_eq_left, zite]
  simp only [↓rJ0_indexOf_7cf53_17, ↓reduceIte, zkeep_n, zkeep_i, zkeep_r, zkeep_l, zup_eq, zIR, zLR, List.length_cons, List.length_nil, Nat.reduceAdd, Nat.reduceLeDiff, Nat.reduceEqDiff, Nat.reduceSub, Int.reduceLE, Int.reduceLT, Int.reduceEq, Int.reduceNe, Int.reduceNeg, Int.reduceAdd, Int.reduceSub, Int.reduceMul, Int.reduceToNat, Nat.le_refl, Nat.zero_le, Nat.zero_add, Int.zero_add, Int.add_zero, and_true, true_and, and_false, false_and, not_true_eq_false, not_false_eq_true, eq_self, ne_eq, true_implies, false_implies, implies_true, or_true, true_or, or_false, false_or, reduceCtorEq, Option.some.injEq, Sum.inl.injEq, exists_eq_left', exists_eq_left, zite]
  refine zcs ?_
  have ce := fun f => i_canEnc (b := b) (M := M) (f := f) h0 h1
  simp only [↓eJ1_indexOf_4cfef, ↓rJ1_indexOf_4cfef_0, ↓rJ1_indexOf_4cfef_1, ↓rJ1_indexOf_4cfef_4, ↓rJ1_indexOf_4cfef_7, ↓rJ1_indexOf_4cfef_8, ↓rJ1_indexOf_4cfef_9, ↓rJ1_indexOf_4cfef_10, ↓rJ1_indexOf_4cfef_11, ↓rJ1_indexOf_4cfef_14, ↓rJ1_indexOf_4cfef_15, ↓rJ1_indexOf_4cfef_16, ↓rJ1_indexOf_4cfef_17, ↓rJ1_indexOf_4cfef_18, ↓rJ1_indexOf_4cfef_21, ↓rJ1_indexOf_4cfef_22, ↓rJ1_indexOf_4cfef_23, ↓rJ1_indexOf_4cfef_24, ↓rJ1_indexOf_4cfef_27, ↓rJ1_indexOf_4cfef_28, ↓rJ1_indexOf_4cfef_29, ↓rJ1_indexOf_4cfef_30, ↓rJ1_indexOf_4cfef_31, ↓rJ1_indexOf_4cfef_32, ↓hl_fJ1_110, ↓hl_fJ1_111, ↓hr_10, ↓hr_11, ↓hr_13, ↓hr_14, ↓hr_15, ↓hr_16, ↓hr_18, ↓hr_19, ↓hr_2, ↓hr_20, ↓hr_21, ↓hr_24, ↓hr_25, ↓hr_26, ↓hr_28, ↓hr_29, ↓hr_3, ↓hr_30, ↓hr_33, ↓hr_34, ↓hr_35, ↓hr_36, ↓hr_37, ↓hr_39, ↓hr_41, ↓hr_43, ↓hr_45, ↓hr_5, ↓hr_6, ↓hr_8, ↓hr_9, ↓hr_fJ1_110, ↓hr_fJ1_111, ↓hw_10, ↓hw_11, ↓hw_13, ↓hw_14, ↓hw_15, ↓hw_16, ↓hw_18, ↓hw_19, ↓hw_2, ↓hw_20, ↓hw_21, ↓hw_24, ↓hw_25, ↓hw_26, ↓hw_28, ↓hw_29, ↓hw_3, ↓hw_30, ↓hw_33, ↓hw_34, ↓hw_35, ↓hw_36, ↓hw_37, ↓hw_39, ↓hw_41, ↓hw_43, ↓hw_45, ↓hw_5, ↓hw_6, ↓hw_8, ↓hw_9, ↓i_max, ↓i_min, ↓reduceIte, ↓ce, zkeep_n, zkeep_i, zkeep_r, zkeep_l, zup_eq, zIR, zLR, List.length_cons, List.length_nil, Nat.reduceAdd, Nat.reduceLeDiff, Nat.reduceEqDiff, Nat.reduceSub, Int.reduceLE, Int.reduceLT, Int.reduceEq, Int.reduceNe, Int.reduceNeg, Int.reduceAdd, Int.reduceSub, Int.reduceMul, Int.reduceToNat, Nat.le_refl, Nat.zero_le, Nat.zero_add, Int.zero_add, Int.add_zero, and_true, true_and, and_false, false_and, not_true_eq_false, not_false_eq_true, eq_self, ne_eq, true_implies, false_implies, implies_true, or_true, true_or, or_false, false_or, reduceCtorEq, Option.some.injEq, Sum.inl.injEq, exists_eq_left', exists_eq_left, zite]
  simp only [↓rJ1_indexOf_4cfef_33, ↓reduceIte, zkeep_n, zkeep_i, zkeep_r, zkeep_l, zup_eq, zIR, zLR, List.length_cons, List.length_nil, Nat.reduceAdd, Nat.reduceLeDiff, Nat.reduceEqDiff, Nat.reduceSub, Int.reduceLE, Int.reduceLT, Int.reduceEq, Int.reduceNe, Int.reduceNeg, Int.reduceAdd, Int.reduceSub, Int.reduceMul, Int.reduceToNat, Nat.le_refl, Nat.zero_le, Nat.zero_add, Int.zero_add, Int.add_zero, and_true, true_and, and_false, false_and, not_true_eq_false, not_false_eq_true, eq_self, ne_eq, true_implies, false_implies, implies_true, or_true, true_or, or_false, false_or, reduceCtorEq, Option.some.injEq, Sum.inl.injEq, exists_eq_left', exists_eq_left, zite]
  refine zcs (s_idxc101 h0 h1 ⟨_, rfl, ?_⟩)
  simp only [↓rJ1_indexOf_4cfef_36, ↓reduceIte, zkeep_n, zkeep_i, zkeep_r, zkeep_l, zup_eq, zIR, zLR, List.length_cons, List.length_nil, Nat.reduceAdd, Nat.reduceLeDiff, Nat.reduceEqDiff, Nat.reduceSub, Int.reduceLE, Int.reduceLT, Int.reduceEq, Int.reduceNe, Int.reduceNeg, Int.reduceAdd, Int.reduceSub, Int.reduceMul, Int.reduceToNat, Nat.le_refl, Nat.zero_le, Nat.zero_add, Int.zero_add, Int.add_zero, and_true, true_and, and_false, false_and, not_true_eq_false, not_false_eq_true, eq_self, ne_eq, true_implies, false_implies, implies_true, or_true, true_or, or_false, false_or, reduceCtorEq, Option.some.injEq, Sum.inl.injEq, exists_eq_left', exists_eq_left, zite]
  simp only [↓rJ0_indexOf_7cf53_20, ↓rJ0_indexOf_7cf53_36, ↓reduceIte, zkeep_n, zkeep_i, zkeep_r, zkeep_l, zup_eq, zIR, zLR, List.length_cons, List.length_nil, Nat.reduceAdd, Nat.reduceLeDiff, Nat.reduceEqDiff, Nat.reduceSub, Int.reduceLE, Int.reduceLT, Int.reduceEq, Int.reduceNe, Int.reduceNeg, Int.reduceAdd, Int.reduceSub, Int.reduceMul, Int.reduceToNat, Nat.le_refl, Nat.zero_le, Nat.zero_add, Int.zero_add, Int.add_zero, and_true, true_and, and_false, false_and, not_true_eq_false, not_false_eq_true, eq_self, ne_eq, true_implies, false_implies, implies_true, or_true, true_or, or_false, false_or, reduceCtorEq, Option.some.injEq, Sum.inl.injEq, exists_eq_left', exists_eq_left, zite]
  simp only [↓rJ0_indexOf_0f7a4_6, ↓reduceIte, zkeep_n, zkeep_i, zkeep_r, zkeep_l, zup_eq, zIR, zLR, List.length_cons, List.length_nil, Nat.reduceAdd, Nat.reduceLeDiff, Nat.reduceEqDiff, Nat.reduceSub, Int.reduceLE, Int.reduceLT, Int.reduceEq, Int.reduceNe, Int.reduceNeg, Int.reduceAdd, Int.reduceSub, Int.reduceMul, Int.reduceToNat, Nat.le_refl, Nat.zero_le, Nat.zero_add, Int.zero_add, Int.add_zero, and_true, true_and, and_false, false_and, not_true_eq_false, not_false_eq_true, eq_self, ne_eq, true_implies, false_implies, implies_true, or_true, true_or, or_false, false_or, reduceCtorEq, Option.some.injEq, Sum.inl.injEq, exists_eq_left', exists_eq_left, zite]
  exact hR
set_option maxRecDepth 100000 in
set_option maxHeartbeats 4000000 in
theorem s_fits1 {M : zM} {f : zV → zM → Prop} {pl b : Int} (hp : 0 ≤ pl ∧ pl < 6) (h0 : 0 ≤ b) (h1 : b < 256) (hy : qfits 0 pl b → f (.inl 1) M) (hn : ¬ qfits 0 pl b → f (.inl 0) M) : zcv (zv 5 tX5_fits) [.inr (.inr 1), .inl pl, .inl b] M f := by
  refine zcvv rfl ?_
  have hc := zi2c_at h0 h1
  have hql : -1 ≤ qlet 0 b ∧ qlet 0 b ≤ 2 := by
    unfold qlet
    (repeat' split) <;> omega
  have idx : pl = 0 → zcv (zv 99 tJ0_indexOf_0f7a4) [.inr (.inr 100), .inl b] M (fun v M' => uX5_fits (fun r M' => ∃ v, r = some v ∧ f v M') 13 [some (.inr (.inr 1)), some (.inl pl), some (.inl b)] [v] M') := by
    intro h
    subst h
    refine s_idx100 h0 h1 ?_
    unfold qfits at hy hn
    rw [if_pos rfl] at hy hn
    simp only [↓rX5_fits_13, ↓rX5_fits_16, ↓rX5_fits_17, ↓rX5_fits_21, ↓rX5_fits_20, ↓reduceIte, zkeep_n, zkeep_i, zkeep_r, zkeep_l, zup_eq, zIR, zLR, List.length_cons, List.length_nil, Nat.reduceAdd, Nat.reduceLeDiff, Nat.reduceEqDiff, Nat.reduceSub, Int.reduceLE, Int.reduceLT, Int.reduceEq, Int.reduceNe, Int.reduceNeg, Int.reduceAdd, Int.reduceSub, Int.reduceMul, Int.reduceToNat, Nat.le_refl, Nat.zero_le, Nat.zero_add, Int.zero_add, Int.add_zero, and_true, true_and, and_false, false_and, not_true_eq_false, not_false_eq_true, eq_self, ne_eq, true_implies, false_implies, implies_true, or_true, true_or, or_false, false_or, reduceCtorEq, Option.some.injEq, Sum.inl.injEq, exists_eq_left', exists_eq_left, zite]
    repeat' (first | with_reducible apply And.intro | with_reducible intro _)
    all_goals first | omega | (exact hn (by omega)) | (exact hy (by omega))
  have n1 : pl ≠ 0 → (qfits 0 pl b ↔ if pl < 5 then (48 ≤ b ∧ b ≤ 57) else b = 59) := fun h => by unfold qfits; rw [if_neg h]
  simp only [↓eX5_fits, ↓rX5_fits_0, ↓rX5_fits_1, ↓rX5_fits_4, ↓rX5_fits_5, ↓rX5_fits_8, ↓rX5_fits_9, ↓rX5_fits_10, ↓rX5_fits_22, ↓rX5_fits_23, ↓rX5_fits_24, ↓rX5_fits_27, ↓rX5_fits_28, ↓rX5_fits_30, ↓rX5_fits_33, ↓rX5_fits_34, ↓rX5_fits_36, ↓rX5_fits_39, ↓rX5_fits_40, ↓rX5_fits_58, ↓rX5_fits_43, ↓rX5_fits_44, ↓rX5_fits_47, ↓rX5_fits_48, ↓rX5_fits_50, ↓rX5_fits_53, ↓rX5_fits_54, ↓rX5_fits_57, ↓hg_fX5_28_1, ↓hg_fX5_28_4, ↓reduceIte, zkeep_n, zkeep_i, zkeep_r, zkeep_l, zup_eq, zIR, zLR, List.length_cons, List.length_nil, Nat.reduceAdd, Nat.reduceLeDiff, Nat.reduceEqDiff, Nat.reduceSub, Int.reduceLE, Int.reduceLT, Int.reduceEq, Int.reduceNe, Int.reduceNeg, Int.reduceAdd, Int.reduceSub, Int.reduceMul, Int.reduceToNat, Nat.le_refl, Nat.zero_le, Nat.zero_add, Int.zero_add, Int.add_zero, and_true, true_and, and_false, false_and, not_true_eq_false, not_false_eq_true, eq_self, ne_eq, true_implies, false_implies, implies_true, or_true, true_or, or_false, false_or, reduceCtorEq, Option.some.injEq, Sum.inl.injEq, exists_eq_left', exists_eq_left, hc, zite]
  repeat' (first | with_reducible apply And.intro | with_reducible intro _)
  all_goals first | omega | (exact idx (by omega)) | (refine hn (fun q => ?_); rw [n1 (by omega)] at q; split at q <;> omega) | (refine hy ((n1 (by omega)).mpr ?_); split <;> omega)
set_option maxRecDepth 100000 in
set_option maxHeartbeats 4000000 in
theorem s_fits4 {M : zM} {f : zV → zM → Prop} {pl b : Int} (hp : 0 ≤ pl ∧ pl < 6) (h0 : 0 ≤ b) (h1 : b < 256) (hy : qfits 1 pl b → f (.inl 1) M) (hn : ¬ qfits 1 pl b → f (.inl 0) M) : zcv (zv 5 tX5_fits) [.inr (.inr 4), .inl pl, .inl b] M f := by
  refine zcvv rfl ?_
  have hc := zi2c_at h0 h1
  have hql : -1 ≤ qlet 1 b ∧ qlet 1 b ≤ 2 := by
    unfold qlet
    (repeat' split) <;> omega
  have idx : pl = 0 → zcv (zv 99 tJ0_indexOf_0f7a4) [.inr (.inr 101), .inl b] M (fun v M' => uX5_fits (fun r M' => ∃ v, r = some v ∧ f v M') 13 [some (.inr (.inr 4)), some (.inl pl), some (.inl b)] [v] M') := by
    intro h
    subst h
    refine s_idx101 h0 h1 ?_
    unfold qfits at hy hn
    rw [if_pos rfl] at hy hn
    simp only [↓rX5_fits_13, ↓rX5_fits_16, ↓rX5_fits_17, ↓rX5_fits_21, ↓rX5_fits_20, ↓reduceIte, zkeep_n, zkeep_i, zkeep_r, zkeep_l, zup_eq, zIR, zLR, List.length_cons, List.length_nil, Nat.reduceAdd, Nat.reduceLeDiff, Nat.reduceEqDiff, Nat.reduceSub, Int.reduceLE, Int.reduceLT, Int.reduceEq, Int.reduceNe, Int.reduceNeg, Int.reduceAdd, Int.reduceSub, Int.reduceMul, Int.reduceToNat, Nat.le_refl, Nat.zero_le, Nat.zero_add, Int.zero_add, Int.add_zero, and_true, true_and, and_false, false_and, not_true_eq_false, not_false_eq_true, eq_self, ne_eq, true_implies, false_implies, implies_true, or_true, true_or, or_false, false_or, reduceCtorEq, Option.some.injEq, Sum.inl.injEq, exists_eq_left', exists_eq_left, zite]
    repeat' (first | with_reducible apply And.intro | with_reducible intro _)
    all_goals first | omega | (exact hn (by omega)) | (exact hy (by omega))
  have n1 : pl ≠ 0 → (qfits 1 pl b ↔ if pl < 5 then (48 ≤ b ∧ b ≤ 57) else b = 59) := fun h => by unfold qfits; rw [if_neg h]
  simp only [↓eX5_fits, ↓rX5_fits_0, ↓rX5_fits_1, ↓rX5_fits_4, ↓rX5_fits_5, ↓rX5_fits_8, ↓rX5_fits_9, ↓rX5_fits_10, ↓rX5_fits_22, ↓rX5_fits_23, ↓rX5_fits_24, ↓rX5_fits_27, ↓rX5_fits_28, ↓rX5_fits_30, ↓rX5_fits_33, ↓rX5_fits_34, ↓rX5_fits_36, ↓rX5_fits_39, ↓rX5_fits_40, ↓rX5_fits_58, ↓rX5_fits_43, ↓rX5_fits_44, ↓rX5_fits_47, ↓rX5_fits_48, ↓rX5_fits_50, ↓rX5_fits_53, ↓rX5_fits_54, ↓rX5_fits_57, ↓hg_fX5_28_1, ↓hg_fX5_28_4, ↓reduceIte, zkeep_n, zkeep_i, zkeep_r, zkeep_l, zup_eq, zIR, zLR, List.length_cons, List.length_nil, Nat.reduceAdd, Nat.reduceLeDiff, Nat.reduceEqDiff, Nat.reduceSub, Int.reduceLE, Int.reduceLT, Int.reduceEq, Int.reduceNe, Int.reduceNeg, Int.reduceAdd, Int.reduceSub, Int.reduceMul, Int.reduceToNat, Nat.le_refl, Nat.zero_le, Nat.zero_add, Int.zero_add, Int.add_zero, and_true, true_and, and_false, false_and, not_true_eq_false, not_false_eq_true, eq_self, ne_eq, true_implies, false_implies, implies_true, or_true, true_or, or_false, false_or, reduceCtorEq, Option.some.injEq, Sum.inl.injEq, exists_eq_left', exists_eq_left, hc, zite]
  repeat' (first | with_reducible apply And.intro | with_reducible intro _)
  all_goals first | omega | (exact idx (by omega)) | (refine hn (fun q => ?_); rw [n1 (by omega)] at q; split at q <;> omega) | (refine hy ((n1 (by omega)).mpr ?_); split <;> omega)
theorem qfirst_at {p : Int → Bool} : ∀ (n m : Nat) (a : Int), m ≤ n → (∀ j : Int, a ≤ j → j < a + m → p j = true) → (m < n → p (a + m) = false) → qfirst p n a = a + m
  | 0, m, a, hm, _, _ => by
    have : m = 0 := by omega
    subst this
    show a = a + 0
    omega
  | n + 1, 0, a, _, _, h2 => by
    have := h2 (by omega)
    rw [Int.natCast_zero, Int.add_zero] at this ⊢
    unfold qfirst
    rw [this]
    rfl
  | n + 1, m + 1, a, hm, h1, h2 => by
    unfold qfirst
    rw [h1 a (by omega) (by omega), if_pos rfl, qfirst_at n m (a + 1) (by omega) (fun j q1 q2 => h1 j (by omega) (by omega)) (fun q => by
      have := h2 (by omega)
      rw [show a + ((m + 1 : Nat) : Int) = a + 1 + m by omega] at this
      exact this)]
    omega
theorem qfirst_ge {p : Int → Bool} : ∀ (n : Nat) (a : Int), a + n ≤ qfirst p n a → ∀ j : Int, a ≤ j → j < a + n → p j = true
  | 0, a, _, j, h1, h2 => by omega
  | n + 1, a, h, j, h1, h2 => by
    unfold qfirst at h
    by_cases e : p a = true
    · rw [if_pos e] at h
      by_cases ej : j = a
      · rw [ej]; exact e
      · exact qfirst_ge n (a + 1) (by omega) j (by omega) (by omega)
    · rw [if_neg e] at h
      omega
theorem qfirst_lo {p : Int → Bool} : ∀ (n : Nat) (a : Int), a ≤ qfirst p n a
  | 0, a => Int.le_refl _
  | n + 1, a => by
    unfold qfirst
    split
    · have := qfirst_lo (p := p) n (a + 1)
      omega
    · exact Int.le_refl _
theorem qfit_all {S : zM} {k : Nat} (h0 : 0 ≤ S 0 k) (h : qflaw S k = -1) : ∀ i, 0 ≤ i → i < S 0 k → qfits k (i % 6) (S (1 + k) i) := by
  have lo : 0 ≤ qend S k := qfirst_lo _ _
  unfold qflaw at h
  split at h
  · omega
  · rename_i hc
    intro i i0 i1
    have := qfirst_ge (p := fun i => decide (qfits k (i % 6) (S (1 + k) i))) (S 0 k).toNat 0 (by
      have : (((S 0 k).toNat : Nat) : Int) = S 0 k := Int.toNat_of_nonneg h0
      rw [this, Int.zero_add]
      unfold qend at hc
      omega) i i0 (by omega)
    simpa using this
theorem VT_QR {S : zM} (h : VT S) : QR S := by
  intro k hk
  obtain ⟨hl, hb⟩ := h k hk
  have hn : 0 ≤ qn S k ∧ qn S k ≤ 8 := by
    unfold qn
    split <;> omega
  refine ⟨hn, fun i i0 i1 => ?_⟩
  have hfl : qflaw S k = -1 := by
    unfold qn at i1
    split at i1
    · assumption
    · omega
  have hal := qfit_all hl.1 hfl
  unfold qn at i1
  rw [if_pos hfl] at i1
  have hql : qlet k (S (1 + k) (6 * i)) ≤ 2 ∧ (k = 1 → qlet k (S (1 + k) (6 * i)) ≤ 1) := by
    unfold qlet
    (repeat' split) <;> omega
  refine ⟨?_, ?_, fun j j0 j1 => ?_⟩
  · have := hal (6 * i) (by omega) (by omega)
    unfold qfits at this
    rw [if_pos (by omega)] at this
    unfold qfact
    rw [if_pos rfl]
    exact ⟨this, hql.1⟩
  · intro e
    unfold qfact
    rw [if_pos rfl]
    exact hql.2 e
  · have := hal (6 * i + j) (by omega) (by omega)
    unfold qfits at this
    rw [if_neg (by omega), if_pos (by omega)] at this
    unfold qfact
    rw [if_neg (by omega)]
    omega
