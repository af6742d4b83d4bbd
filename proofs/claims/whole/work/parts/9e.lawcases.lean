theorem RX_cell {S M M' : zM} (h : RX S M) (hf : ∀ k i, k < 46 → M' k i = M k i) : RX S M' := by
  obtain ⟨h1, h2, h3, h4, h5, h6, h7, h8⟩ := h
  refine ⟨h1, ⟨(hf _ _ (by decide)).trans h2.1, fun i a b => (hf _ _ (by decide)).trans (h2.2.1 i a b), (hf _ _ (by decide)).trans h2.2.2⟩, ⟨(hf _ _ (by decide)).trans h3.1, fun i a b => (hf _ _ (by decide)).trans (h3.2.1 i a b), (hf _ _ (by decide)).trans h3.2.2⟩, CW_fr h4 (fun k i hk => hf k i (by omega)), ⟨h5.1, FR_fr h5.2 (fun k i a b => hf k i (by omega))⟩, SR_fr h6 (fun k i a b => hf k i (by omega)), LR_fr h7 (fun k i a b => hf k i (by omega)), (hf _ _ (by decide)).trans h8.1, h8.2⟩
theorem RM_cell {S M M' : zM} (h : RM S M) (hf : ∀ k i, 46 ≤ k → M' k i = M k i) : RM S M' := by
  rw [RM_iff] at h ⊢
  obtain ⟨h1, h2, h3, h4, h5⟩ := h
  exact ⟨PT_fr h1 (fun k i a => rfl) (fun k i a b => hf k i (by omega)), PG_fr h2 (fun k i a b => rfl) (hf _ _ (by decide)) (fun k i a b => hf k i (by omega)), PE_fr h3 (fun k i a b => rfl) (hf _ _ (by decide)) (fun k i a b => hf k i (by omega)), PL_fr h4 (fun k i a b => rfl) (fun k i a b => hf k i (by omega)), (hf _ _ (by decide)).trans h5⟩
theorem zI64 (x : Int64) : -9223372036854775808 ≤ x.toInt ∧ x.toInt ≤ 9223372036854775807 := ⟨x.minValue_le_toInt, x.toInt_le⟩
set_option maxRecDepth 100000 in
set_option maxHeartbeats 4000000 in
theorem law_type {L : Nat} {xs : Int → Int} {R : zP} {S M : zM} {i : Int} (hxs : ∀ j, zIR (xs j)) (hi : 0 ≤ i ∧ i + 6 ≤ L) (hX : RX S M) (hM : RM S M) (nx : ∀ S' M', RX S' M' → RM S' M' → uL L xs R 1366 [some (.inr (.inr 105)), some (.inr (.inr 0)), some (.inr (.inr 46)), some (.inl i)] [] M') : uL L xs R 188 [some (.inr (.inr 105)), some (.inr (.inr 0)), some (.inr (.inr 46)), some (.inl i)] [] M := by
  have c2 : ∀ (A : Int) (M1 : zM), RX (mType S (xs (i + 1)) (xs (i + 2))) M1 → RM S M1 → A = aType S (xs (i + 1)) (xs (i + 2)) → zcv (zv 8 (znm tX8_type)) [.inr (.inr 46), .inl (xs (i + 1)), .inl (xs (i + 2))] M1 (fun v M' => uL L xs R 216 [some (.inr (.inr 105)), some (.inr (.inr 0)), some (.inr (.inr 46)), some (.inl i)] [v, .inl (Int32.ofInt A).toInt] M') := by
    intro A M1 h1 h2 hA
    subst hA
    refine zcvn rfl (y_type ⟨M, hX⟩ h2 (hxs _) (hxs _) (fun M2 k1 k2 => ⟨_, rfl, ?_⟩))
    have n := nx _ M2 (RX_cell h1 k2) (k1)
    have z := zI32 (Int32.ofInt (aType S (xs (i + 1)) (xs (i + 2))))
    generalize (Int32.ofInt (aType S (xs (i + 1)) (xs (i + 2)))).toInt = w at *
    show uL L xs R 216 [some (.inr (.inr 105)), some (.inr (.inr 0)), some (.inr (.inr 46)), some (.inl i)] [.inl w, .inl w] M2
    simp only [↓rL_216, ↓rL_219, ↓rL_220, ↓hL_r, ↓hL_l, ↓reduceIte, zkeep_n, zkeep_i, zkeep_r, zkeep_l, zIR, zLR, List.length_cons, List.length_nil, Nat.reduceAdd, Nat.reduceLeDiff, Nat.reduceEqDiff, Nat.reduceSub, Int.reduceLE, Int.reduceLT, Int.reduceEq, Int.reduceNe, Int.reduceNeg, Int.reduceAdd, Int.reduceSub, Int.reduceMul, Int.reduceToNat, Nat.le_refl, Nat.zero_le, Nat.zero_add, Int.zero_add, Int.add_zero, and_true, true_and, and_false, false_and, not_true_eq_false, not_false_eq_true, eq_self, ne_eq, true_implies, false_implies, implies_true, or_true, true_or, or_false, false_or, reduceCtorEq, Option.some.injEq, Sum.inl.injEq, exists_eq_left', exists_eq_left, zite]
    repeat' (first | with_reducible apply And.intro | with_reducible intro _)
    all_goals first | omega | (exact n) | (exact z.1) | (exact z.2)
  have c1 : zcv (zv 7 (znm tX7_type)) [.inr (.inr 0), .inl (xs (i + 1)), .inl (xs (i + 2))] M (fun v M' => uL L xs R 202 [some (.inr (.inr 105)), some (.inr (.inr 0)), some (.inr (.inr 46)), some (.inl i)] [v] M') := by
    refine zcvn rfl (x_type hX (hxs _) (hxs _) (fun M1 h1 h2 => ⟨_, rfl, ?_⟩))
    have c := c2 _ M1 h1 (RM_cell hM h2) rfl
    simp only [↓rL_202, ↓rL_203, ↓rL_204, ↓rL_205, ↓rL_206, ↓rL_207, ↓rL_208, ↓rL_209, ↓rL_210, ↓rL_211, ↓rL_212, ↓rL_213, ↓hL_r, ↓hL_l, ↓reduceIte, zkeep_n, zkeep_i, zkeep_r, zkeep_l, zIR, zLR, List.length_cons, List.length_nil, Nat.reduceAdd, Nat.reduceLeDiff, Nat.reduceEqDiff, Nat.reduceSub, Int.reduceLE, Int.reduceLT, Int.reduceEq, Int.reduceNe, Int.reduceNeg, Int.reduceAdd, Int.reduceSub, Int.reduceMul, Int.reduceToNat, Nat.le_refl, Nat.zero_le, Nat.zero_add, Int.zero_add, Int.add_zero, and_true, true_and, and_false, false_and, not_true_eq_false, not_false_eq_true, eq_self, ne_eq, true_implies, false_implies, implies_true, or_true, true_or, or_false, false_or, reduceCtorEq, Option.some.injEq, Sum.inl.injEq, exists_eq_left', exists_eq_left, zite]
    repeat' (first | with_reducible apply And.intro | with_reducible intro _)
    all_goals first | omega | (exact c)
  simp only [↓rL_188, ↓rL_189, ↓rL_190, ↓rL_191, ↓rL_192, ↓rL_193, ↓rL_194, ↓rL_195, ↓rL_196, ↓rL_197, ↓rL_198, ↓rL_199, ↓hL_r, ↓hL_l, ↓reduceIte, zkeep_n, zkeep_i, zkeep_r, zkeep_l, zIR, zLR, List.length_cons, List.length_nil, Nat.reduceAdd, Nat.reduceLeDiff, Nat.reduceEqDiff, Nat.reduceSub, Int.reduceLE, Int.reduceLT, Int.reduceEq, Int.reduceNe, Int.reduceNeg, Int.reduceAdd, Int.reduceSub, Int.reduceMul, Int.reduceToNat, Nat.le_refl, Nat.zero_le, Nat.zero_add, Int.zero_add, Int.add_zero, and_true, true_and, and_false, false_and, not_true_eq_false, not_false_eq_true, eq_self, ne_eq, true_implies, false_implies, implies_true, or_true, true_or, or_false, false_or, reduceCtorEq, Option.some.injEq, Sum.inl.injEq, exists_eq_left', exists_eq_left, zite]
  repeat' (first | with_reducible apply And.intro | with_reducible intro _)
  all_goals first | omega | (exact c1)
set_option maxRecDepth 100000 in
set_option maxHeartbeats 4000000 in
theorem law_wipe {L : Nat} {xs : Int → Int} {R : zP} {S M : zM} {i : Int} (hxs : ∀ j, zIR (xs j)) (hi : 0 ≤ i ∧ i + 6 ≤ L) (hX : RX S M) (hM : RM S M) (nx : ∀ S' M', RX S' M' → RM S' M' → uL L xs R 1366 [some (.inr (.inr 105)), some (.inr (.inr 0)), some (.inr (.inr 46)), some (.inl i)] [] M') : uL L xs R 221 [some (.inr (.inr 105)), some (.inr (.inr 0)), some (.inr (.inr 46)), some (.inl i)] [] M := by
  have c2 : ∀ (A : Int) (M1 : zM), RX (mWipe S (xs (i + 1))) M1 → RM S M1 → A = aWipe S (xs (i + 1)) → zcv (zv 8 (znm tX8_wipe)) [.inr (.inr 46), .inl (xs (i + 1))] M1 (fun v M' => uL L xs R 239 [some (.inr (.inr 105)), some (.inr (.inr 0)), some (.inr (.inr 46)), some (.inl i)] [v, .inl (Int32.ofInt A).toInt] M') := by
    intro A M1 h1 h2 hA
    subst hA
    refine zcvn rfl (y_wipe ⟨M, hX⟩ h2 (hxs _) (fun M2 k1 k2 => ⟨_, rfl, ?_⟩))
    have n := nx _ M2 (RX_cell h1 k2) (k1)
    have z := zI32 (Int32.ofInt (aWipe S (xs (i + 1))))
    generalize (Int32.ofInt (aWipe S (xs (i + 1)))).toInt = w at *
    show uL L xs R 239 [some (.inr (.inr 105)), some (.inr (.inr 0)), some (.inr (.inr 46)), some (.inl i)] [.inl w, .inl w] M2
    simp only [↓rL_239, ↓rL_242, ↓rL_243, ↓hL_r, ↓hL_l, ↓reduceIte, zkeep_n, zkeep_i, zkeep_r, zkeep_l, zIR, zLR, List.length_cons, List.length_nil, Nat.reduceAdd, Nat.reduceLeDiff, Nat.reduceEqDiff, Nat.reduceSub, Int.reduceLE, Int.reduceLT, Int.reduceEq, Int.reduceNe, Int.reduceNeg, Int.reduceAdd, Int.reduceSub, Int.reduceMul, Int.reduceToNat, Nat.le_refl, Nat.zero_le, Nat.zero_add, Int.zero_add, Int.add_zero, and_true, true_and, and_false, false_and, not_true_eq_false, not_false_eq_true, eq_self, ne_eq, true_implies, false_implies, implies_true, or_true, true_or, or_false, false_or, reduceCtorEq, Option.some.injEq, Sum.inl.injEq, exists_eq_left', exists_eq_left, zite]
    repeat' (first | with_reducible apply And.intro | with_reducible intro _)
    all_goals first | omega | (exact n) | (exact z.1) | (exact z.2)
  have c1 : zcv (zv 7 (znm tX7_wipe)) [.inr (.inr 0), .inl (xs (i + 1))] M (fun v M' => uL L xs R 230 [some (.inr (.inr 105)), some (.inr (.inr 0)), some (.inr (.inr 46)), some (.inl i)] [v] M') := by
    refine zcvn rfl (x_wipe hX (hxs _) (fun M1 h1 h2 => ⟨_, rfl, ?_⟩))
    have c := c2 _ M1 h1 (RM_cell hM h2) rfl
    simp only [↓rL_230, ↓rL_231, ↓rL_232, ↓rL_233, ↓rL_234, ↓rL_235, ↓rL_236, ↓hL_r, ↓hL_l, ↓reduceIte, zkeep_n, zkeep_i, zkeep_r, zkeep_l, zIR, zLR, List.length_cons, List.length_nil, Nat.reduceAdd, Nat.reduceLeDiff, Nat.reduceEqDiff, Nat.reduceSub, Int.reduceLE, Int.reduceLT, Int.reduceEq, Int.reduceNe, Int.reduceNeg, Int.reduceAdd, Int.reduceSub, Int.reduceMul, Int.reduceToNat, Nat.le_refl, Nat.zero_le, Nat.zero_add, Int.zero_add, Int.add_zero, and_true, true_and, and_false, false_and, not_true_eq_false, not_false_eq_true, eq_self, ne_eq, true_implies, false_implies, implies_true, or_true, true_or, or_false, false_or, reduceCtorEq, Option.some.injEq, Sum.inl.injEq, exists_eq_left', exists_eq_left, zite]
    repeat' (first | with_reducible apply And.intro | with_reducible intro _)
    all_goals first | omega | (exact c)
  simp only [↓rL_221, ↓rL_222, ↓rL_223, ↓rL_224, ↓rL_225, ↓rL_226, ↓rL_227, ↓hL_r, ↓hL_l, ↓reduceIte, zkeep_n, zkeep_i, zkeep_r, zkeep_l, zIR, zLR, List.length_cons, List.length_nil, Nat.reduceAdd, Nat.reduceLeDiff, Nat.reduceEqDiff, Nat.reduceSub, Int.reduceLE, Int.reduceLT, Int.reduceEq, Int.reduceNe, Int.reduceNeg, Int.reduceAdd, Int.reduceSub, Int.reduceMul, Int.reduceToNat, Nat.le_refl, Nat.zero_le, Nat.zero_add, Int.zero_add, Int.add_zero, and_true, true_and, and_false, false_and, not_true_eq_false, not_false_eq_true, eq_self, ne_eq, true_implies, false_implies, implies_true, or_true, true_or, or_false, false_or, reduceCtorEq, Option.some.injEq, Sum.inl.injEq, exists_eq_left', exists_eq_left, zite]
  repeat' (first | with_reducible apply And.intro | with_reducible intro _)
  all_goals first | omega | (exact c1)
set_option maxRecDepth 100000 in
set_option maxHeartbeats 4000000 in
theorem law_undo {L : Nat} {xs : Int → Int} {R : zP} {S M : zM} {i : Int} (hxs : ∀ j, zIR (xs j)) (hi : 0 ≤ i ∧ i + 6 ≤ L) (hX : RX S M) (hM : RM S M) (nx : ∀ S' M', RX S' M' → RM S' M' → uL L xs R 1366 [some (.inr (.inr 105)), some (.inr (.inr 0)), some (.inr (.inr 46)), some (.inl i)] [] M') : uL L xs R 244 [some (.inr (.inr 105)), some (.inr (.inr 0)), some (.inr (.inr 46)), some (.inl i)] [] M := by
  have c2 : ∀ (A : Int) (M1 : zM), RX (mUndo S (xs (i + 1))) M1 → RM S M1 → A = aUndo S (xs (i + 1)) → zcv (zv 8 (znm tX8_undo)) [.inr (.inr 46), .inl (xs (i + 1))] M1 (fun v M' => uL L xs R 262 [some (.inr (.inr 105)), some (.inr (.inr 0)), some (.inr (.inr 46)), some (.inl i)] [v, .inl (Int32.ofInt A).toInt] M') := by
    intro A M1 h1 h2 hA
    subst hA
    refine zcvn rfl (y_undo ⟨M, hX⟩ h2 (hxs _) (fun M2 k1 k2 => ⟨_, rfl, ?_⟩))
    have n := nx _ M2 (RX_cell h1 k2) (k1)
    have z := zI32 (Int32.ofInt (aUndo S (xs (i + 1))))
    generalize (Int32.ofInt (aUndo S (xs (i + 1)))).toInt = w at *
    show uL L xs R 262 [some (.inr (.inr 105)), some (.inr (.inr 0)), some (.inr (.inr 46)), some (.inl i)] [.inl w, .inl w] M2
    simp only [↓rL_262, ↓rL_265, ↓rL_266, ↓hL_r, ↓hL_l, ↓reduceIte, zkeep_n, zkeep_i, zkeep_r, zkeep_l, zIR, zLR, List.length_cons, List.length_nil, Nat.reduceAdd, Nat.reduceLeDiff, Nat.reduceEqDiff, Nat.reduceSub, Int.reduceLE, Int.reduceLT, Int.reduceEq, Int.reduceNe, Int.reduceNeg, Int.reduceAdd, Int.reduceSub, Int.reduceMul, Int.reduceToNat, Nat.le_refl, Nat.zero_le, Nat.zero_add, Int.zero_add, Int.add_zero, and_true, true_and, and_false, false_and, not_true_eq_false, not_false_eq_true, eq_self, ne_eq, true_implies, false_implies, implies_true, or_true, true_or, or_false, false_or, reduceCtorEq, Option.some.injEq, Sum.inl.injEq, exists_eq_left', exists_eq_left, zite]
    repeat' (first | with_reducible apply And.intro | with_reducible intro _)
    all_goals first | omega | (exact n) | (exact z.1) | (exact z.2)
  have c1 : zcv (zv 7 (znm tX7_undo)) [.inr (.inr 0), .inl (xs (i + 1))] M (fun v M' => uL L xs R 253 [some (.inr (.inr 105)), some (.inr (.inr 0)), some (.inr (.inr 46)), some (.inl i)] [v] M') := by
    refine zcvn rfl (x_undo hX (hxs _) (fun M1 h1 h2 => ⟨_, rfl, ?_⟩))
    have c := c2 _ M1 h1 (RM_cell hM h2) rfl
    simp only [↓rL_253, ↓rL_254, ↓rL_255, ↓rL_256, ↓rL_257, ↓rL_258, ↓rL_259, ↓hL_r, ↓hL_l, ↓reduceIte, zkeep_n, zkeep_i, zkeep_r, zkeep_l, zIR, zLR, List.length_cons, List.length_nil, Nat.reduceAdd, Nat.reduceLeDiff, Nat.reduceEqDiff, Nat.reduceSub, Int.reduceLE, Int.reduceLT, Int.reduceEq, Int.reduceNe, Int.reduceNeg, Int.reduceAdd, Int.reduceSub, Int.reduceMul, Int.reduceToNat, Nat.le_refl, Nat.zero_le, Nat.zero_add, Int.zero_add, Int.add_zero, and_true, true_and, and_false, false_and, not_true_eq_false, not_false_eq_true, eq_self, ne_eq, true_implies, false_implies, implies_true, or_true, true_or, or_false, false_or, reduceCtorEq, Option.some.injEq, Sum.inl.injEq, exists_eq_left', exists_eq_left, zite]
    repeat' (first | with_reducible apply And.intro | with_reducible intro _)
    all_goals first | omega | (exact c)
  simp only [↓rL_244, ↓rL_245, ↓rL_246, ↓rL_247, ↓rL_248, ↓rL_249, ↓rL_250, ↓hL_r, ↓hL_l, ↓reduceIte, zkeep_n, zkeep_i, zkeep_r, zkeep_l, zIR, zLR, List.length_cons, List.length_nil, Nat.reduceAdd, Nat.reduceLeDiff, Nat.reduceEqDiff, Nat.reduceSub, Int.reduceLE, Int.reduceLT, Int.reduceEq, Int.reduceNe, Int.reduceNeg, Int.reduceAdd, Int.reduceSub, Int.reduceMul, Int.reduceToNat, Nat.le_refl, Nat.zero_le, Nat.zero_add, Int.zero_add, Int.add_zero, and_true, true_and, and_false, false_and, not_true_eq_false, not_false_eq_true, eq_self, ne_eq, true_implies, false_implies, implies_true, or_true, true_or, or_false, false_or, reduceCtorEq, Option.some.injEq, Sum.inl.injEq, exists_eq_left', exists_eq_left, zite]
  repeat' (first | with_reducible apply And.intro | with_reducible intro _)
  all_goals first | omega | (exact c1)
set_option maxRecDepth 100000 in
set_option maxHeartbeats 4000000 in
theorem law_fault {L : Nat} {xs : Int → Int} {R : zP} {S M : zM} {i : Int} (hxs : ∀ j, zIR (xs j)) (hi : 0 ≤ i ∧ i + 6 ≤ L) (hX : RX S M) (hM : RM S M) (nx : ∀ S' M', RX S' M' → RM S' M' → uL L xs R 1366 [some (.inr (.inr 105)), some (.inr (.inr 0)), some (.inr (.inr 46)), some (.inl i)] [] M') : uL L xs R 267 [some (.inr (.inr 105)), some (.inr (.inr 0)), some (.inr (.inr 46)), some (.inl i)] [] M := by
  have c2 : ∀ (A : Int) (M1 : zM), RX (S) M1 → RM S M1 → A = aFault S (xs (i + 1)) → zcv (zv 8 (znm tX8_fault)) [.inr (.inr 46), .inl (xs (i + 1))] M1 (fun v M' => uL L xs R 285 [some (.inr (.inr 105)), some (.inr (.inr 0)), some (.inr (.inr 46)), some (.inl i)] [v, .inl (Int32.ofInt A).toInt] M') := by
    intro A M1 h1 h2 hA
    subst hA
    refine zcvn rfl (y_fault ⟨M, hX⟩ h2 (hxs _) (fun M2 k1 => ⟨_, rfl, ?_⟩))
    have n := nx _ M2 (RX_cell h1 k1.yf) (RM_yq h2 k1)
    have z := zI32 (Int32.ofInt (aFault S (xs (i + 1))))
    generalize (Int32.ofInt (aFault S (xs (i + 1)))).toInt = w at *
    show uL L xs R 285 [some (.inr (.inr 105)), some (.inr (.inr 0)), some (.inr (.inr 46)), some (.inl i)] [.inl w, .inl w] M2
    simp only [↓rL_285, ↓rL_288, ↓rL_289, ↓hL_r, ↓hL_l, ↓reduceIte, zkeep_n, zkeep_i, zkeep_r, zkeep_l, zIR, zLR, List.length_cons, List.length_nil, Nat.reduceAdd, Nat.reduceLeDiff, Nat.reduceEqDiff, Nat.reduceSub, Int.reduceLE, Int.reduceLT, Int.reduceEq, Int.reduceNe, Int.reduceNeg, Int.reduceAdd, Int.reduceSub, Int.reduceMul, Int.reduceToNat, Nat.le_refl, Nat.zero_le, Nat.zero_add, Int.zero_add, Int.add_zero, and_true, true_and, and_false, false_and, not_true_eq_false, not_false_eq_true, eq_self, ne_eq, true_implies, false_implies, implies_true, or_true, true_or, or_false, false_or, reduceCtorEq, Option.some.injEq, Sum.inl.injEq, exists_eq_left', exists_eq_left, zite]
    repeat' (first | with_reducible apply And.intro | with_reducible intro _)
    all_goals first | omega | (exact n) | (exact z.1) | (exact z.2)
  have c1 : zcv (zv 7 (znm tX7_fault)) [.inr (.inr 0), .inl (xs (i + 1))] M (fun v M' => uL L xs R 276 [some (.inr (.inr 105)), some (.inr (.inr 0)), some (.inr (.inr 46)), some (.inl i)] [v] M') := by
    refine zcvn rfl (x_fault hX (hxs _) ⟨_, rfl, ?_⟩)
    have c := c2 _ M hX hM rfl
    simp only [↓rL_276, ↓rL_277, ↓rL_278, ↓rL_279, ↓rL_280, ↓rL_281, ↓rL_282, ↓hL_r, ↓hL_l, ↓reduceIte, zkeep_n, zkeep_i, zkeep_r, zkeep_l, zIR, zLR, List.length_cons, List.length_nil, Nat.reduceAdd, Nat.reduceLeDiff, Nat.reduceEqDiff, Nat.reduceSub, Int.reduceLE, Int.reduceLT, Int.reduceEq, Int.reduceNe, Int.reduceNeg, Int.reduceAdd, Int.reduceSub, Int.reduceMul, Int.reduceToNat, Nat.le_refl, Nat.zero_le, Nat.zero_add, Int.zero_add, Int.add_zero, and_true, true_and, and_false, false_and, not_true_eq_false, not_false_eq_true, eq_self, ne_eq, true_implies, false_implies, implies_true, or_true, true_or, or_false, false_or, reduceCtorEq, Option.some.injEq, Sum.inl.injEq, exists_eq_left', exists_eq_left, zite]
    repeat' (first | with_reducible apply And.intro | with_reducible intro _)
    all_goals first | omega | (exact c)
  simp only [↓rL_267, ↓rL_268, ↓rL_269, ↓rL_270, ↓rL_271, ↓rL_272, ↓rL_273, ↓hL_r, ↓hL_l, ↓reduceIte, zkeep_n, zkeep_i, zkeep_r, zkeep_l, zIR, zLR, List.length_cons, List.length_nil, Nat.reduceAdd, Nat.reduceLeDiff, Nat.reduceEqDiff, Nat.reduceSub, Int.reduceLE, Int.reduceLT, Int.reduceEq, Int.reduceNe, Int.reduceNeg, Int.reduceAdd, Int.reduceSub, Int.reduceMul, Int.reduceToNat, Nat.le_refl, Nat.zero_le, Nat.zero_add, Int.zero_add, Int.add_zero, and_true, true_and, and_false, false_and, not_true_eq_false, not_false_eq_true, eq_self, ne_eq, true_implies, false_implies, implies_true, or_true, true_or, or_false, false_or, reduceCtorEq, Option.some.injEq, Sum.inl.injEq, exists_eq_left', exists_eq_left, zite]
  repeat' (first | with_reducible apply And.intro | with_reducible intro _)
  all_goals first | omega | (exact c1)
set_option maxRecDepth 100000 in
set_option maxHeartbeats 4000000 in
theorem law_member {L : Nat} {xs : Int → Int} {R : zP} {S M : zM} {i : Int} (hxs : ∀ j, zIR (xs j)) (hi : 0 ≤ i ∧ i + 6 ≤ L) (hX : RX S M) (hM : RM S M) (nx : ∀ S' M', RX S' M' → RM S' M' → uL L xs R 1366 [some (.inr (.inr 105)), some (.inr (.inr 0)), some (.inr (.inr 46)), some (.inl i)] [] M') : uL L xs R 290 [some (.inr (.inr 105)), some (.inr (.inr 0)), some (.inr (.inr 46)), some (.inl i)] [] M := by
  have c2 : ∀ (A : Int) (M1 : zM), RX (S) M1 → RM S M1 → A = aMember S (xs (i + 1)) (xs (i + 2)) → zcv (zv 8 (znm tX8_member)) [.inr (.inr 46), .inl (xs (i + 1)), .inl (xs (i + 2))] M1 (fun v M' => uL L xs R 318 [some (.inr (.inr 105)), some (.inr (.inr 0)), some (.inr (.inr 46)), some (.inl i)] [v, .inl (Int32.ofInt A).toInt] M') := by
    intro A M1 h1 h2 hA
    subst hA
    refine zcvn rfl (y_member ⟨M, hX⟩ h2 (hxs _) (hxs _) (fun M2 k1 => ⟨_, rfl, ?_⟩))
    have n := nx _ M2 (RX_cell h1 k1.yf) (RM_yq h2 k1)
    have z := zI32 (Int32.ofInt (aMember S (xs (i + 1)) (xs (i + 2))))
    generalize (Int32.ofInt (aMember S (xs (i + 1)) (xs (i + 2)))).toInt = w at *
    show uL L xs R 318 [some (.inr (.inr 105)), some (.inr (.inr 0)), some (.inr (.inr 46)), some (.inl i)] [.inl w, .inl w] M2
    simp only [↓rL_318, ↓rL_321, ↓rL_322, ↓hL_r, ↓hL_l, ↓reduceIte, zkeep_n, zkeep_i, zkeep_r, zkeep_l, zIR, zLR, List.length_cons, List.length_nil, Nat.reduceAdd, Nat.reduceLeDiff, Nat.reduceEqDiff, Nat.reduceSub, Int.reduceLE, Int.reduceLT, Int.reduceEq, Int.reduceNe, Int.reduceNeg, Int.reduceAdd, Int.reduceSub, Int.reduceMul, Int.reduceToNat, Nat.le_refl, Nat.zero_le, Nat.zero_add, Int.zero_add, Int.add_zero, and_true, true_and, and_false, false_and, not_true_eq_false, not_false_eq_true, eq_self, ne_eq, true_implies, false_implies, implies_true, or_true, true_or, or_false, false_or, reduceCtorEq, Option.some.injEq, Sum.inl.injEq, exists_eq_left', exists_eq_left, zite]
    repeat' (first | with_reducible apply And.intro | with_reducible intro _)
    all_goals first | omega | (exact n) | (exact z.1) | (exact z.2)
  have c1 : zcv (zv 7 (znm tX7_member)) [.inr (.inr 0), .inl (xs (i + 1)), .inl (xs (i + 2))] M (fun v M' => uL L xs R 304 [some (.inr (.inr 105)), some (.inr (.inr 0)), some (.inr (.inr 46)), some (.inl i)] [v] M') := by
    refine zcvn rfl (x_member hX (hxs _) (hxs _) ⟨_, rfl, ?_⟩)
    have c := c2 _ M hX hM rfl
    simp only [↓rL_304, ↓rL_305, ↓rL_306, ↓rL_307, ↓rL_308, ↓rL_309, ↓rL_310, ↓rL_311, ↓rL_312, ↓rL_313, ↓rL_314, ↓rL_315, ↓hL_r, ↓hL_l, ↓reduceIte, zkeep_n, zkeep_i, zkeep_r, zkeep_l, zIR, zLR, List.length_cons, List.length_nil, Nat.reduceAdd, Nat.reduceLeDiff, Nat.reduceEqDiff, Nat.reduceSub, Int.reduceLE, Int.reduceLT, Int.reduceEq, Int.reduceNe, Int.reduceNeg, Int.reduceAdd, Int.reduceSub, Int.reduceMul, Int.reduceToNat, Nat.le_refl, Nat.zero_le, Nat.zero_add, Int.zero_add, Int.add_zero, and_true, true_and, and_false, false_and, not_true_eq_false, not_false_eq_true, eq_self, ne_eq, true_implies, false_implies, implies_true, or_true, true_or, or_false, false_or, reduceCtorEq, Option.some.injEq, Sum.inl.injEq, exists_eq_left', exists_eq_left, zite]
    repeat' (first | with_reducible apply And.intro | with_reducible intro _)
    all_goals first | omega | (exact c)
  simp only [↓rL_290, ↓rL_291, ↓rL_292, ↓rL_293, ↓rL_294, ↓rL_295, ↓rL_296, ↓rL_297, ↓rL_298, ↓rL_299, ↓rL_300, ↓rL_301, ↓hL_r, ↓hL_l, ↓reduceIte, zkeep_n, zkeep_i, zkeep_r, zkeep_l, zIR, zLR, List.length_cons, List.length_nil, Nat.reduceAdd, Nat.reduceLeDiff, Nat.reduceEqDiff, Nat.reduceSub, Int.reduceLE, Int.reduceLT, Int.reduceEq, Int.reduceNe, Int.reduceNeg, Int.reduceAdd, Int.reduceSub, Int.reduceMul, Int.reduceToNat, Nat.le_refl, Nat.zero_le, Nat.zero_add, Int.zero_add, Int.add_zero, and_true, true_and, and_false, false_and, not_true_eq_false, not_false_eq_true, eq_self, ne_eq, true_implies, false_implies, implies_true, or_true, true_or, or_false, false_or, reduceCtorEq, Option.some.injEq, Sum.inl.injEq, exists_eq_left', exists_eq_left, zite]
  repeat' (first | with_reducible apply And.intro | with_reducible intro _)
  all_goals first | omega | (exact c1)
set_option maxRecDepth 100000 in
set_option maxHeartbeats 4000000 in
theorem law_cow {L : Nat} {xs : Int → Int} {R : zP} {S M : zM} {i : Int} (hxs : ∀ j, zIR (xs j)) (hi : 0 ≤ i ∧ i + 6 ≤ L) (hX : RX S M) (hM : RM S M) (nx : ∀ S' M', RX S' M' → RM S' M' → uL L xs R 1366 [some (.inr (.inr 105)), some (.inr (.inr 0)), some (.inr (.inr 46)), some (.inl i)] [] M') : uL L xs R 323 [some (.inr (.inr 105)), some (.inr (.inr 0)), some (.inr (.inr 46)), some (.inl i)] [] M := by
  have c2 : ∀ (A : Int) (M1 : zM), RX (S) M1 → RM S M1 → A = aCow S (xs (i + 1)) (xs (i + 2)) → zcv (zv 8 (znm tX8_cow)) [.inr (.inr 46), .inl (xs (i + 1)), .inl (xs (i + 2))] M1 (fun v M' => uL L xs R 351 [some (.inr (.inr 105)), some (.inr (.inr 0)), some (.inr (.inr 46)), some (.inl i)] [v, .inl (Int32.ofInt A).toInt] M') := by
    intro A M1 h1 h2 hA
    subst hA
    refine zcvn rfl (y_cow ⟨M, hX⟩ h2 (hxs _) (hxs _) (fun M2 k1 => ⟨_, rfl, ?_⟩))
    have n := nx _ M2 (RX_cell h1 k1.yf) (RM_yq h2 k1)
    have z := zI32 (Int32.ofInt (aCow S (xs (i + 1)) (xs (i + 2))))
    generalize (Int32.ofInt (aCow S (xs (i + 1)) (xs (i + 2)))).toInt = w at *
    show uL L xs R 351 [some (.inr (.inr 105)), some (.inr (.inr 0)), some (.inr (.inr 46)), some (.inl i)] [.inl w, .inl w] M2
    simp only [↓rL_351, ↓rL_354, ↓rL_355, ↓hL_r, ↓hL_l, ↓reduceIte, zkeep_n, zkeep_i, zkeep_r, zkeep_l, zIR, zLR, List.length_cons, List.length_nil, Nat.reduceAdd, Nat.reduceLeDiff, Nat.reduceEqDiff, Nat.reduceSub, Int.reduceLE, Int.reduceLT, Int.reduceEq, Int.reduceNe, Int.reduceNeg, Int.reduceAdd, Int.reduceSub, Int.reduceMul, Int.reduceToNat, Nat.le_refl, Nat.zero_le, Nat.zero_add, Int.zero_add, Int.add_zero, and_true, true_and, and_false, false_and, not_true_eq_false, not_false_eq_true, eq_self, ne_eq, true_implies, false_implies, implies_true, or_true, true_or, or_false, false_or, reduceCtorEq, Option.some.injEq, Sum.inl.injEq, exists_eq_left', exists_eq_left, zite]
    repeat' (first | with_reducible apply And.intro | with_reducible intro _)
    all_goals first | omega | (exact n) | (exact z.1) | (exact z.2)
  have c1 : zcv (zv 7 (znm tX7_cow)) [.inr (.inr 0), .inl (xs (i + 1)), .inl (xs (i + 2))] M (fun v M' => uL L xs R 337 [some (.inr (.inr 105)), some (.inr (.inr 0)), some (.inr (.inr 46)), some (.inl i)] [v] M') := by
    refine zcvn rfl (x_cow hX (hxs _) (hxs _) ⟨_, rfl, ?_⟩)
    have c := c2 _ M hX hM rfl
    simp only [↓rL_337, ↓rL_338, ↓rL_339, ↓rL_340, ↓rL_341, ↓rL_342, ↓rL_343, ↓rL_344, ↓rL_345, ↓rL_346, ↓rL_347, ↓rL_348, ↓hL_r, ↓hL_l, ↓reduceIte, zkeep_n, zkeep_i, zkeep_r, zkeep_l, zIR, zLR, List.length_cons, List.length_nil, Nat.reduceAdd, Nat.reduceLeDiff, Nat.reduceEqDiff, Nat.reduceSub, Int.reduceLE, Int.reduceLT, Int.reduceEq, Int.reduceNe, Int.reduceNeg, Int.reduceAdd, Int.reduceSub, Int.reduceMul, Int.reduceToNat, Nat.le_refl, Nat.zero_le, Nat.zero_add, Int.zero_add, Int.add_zero, and_true, true_and, and_false, false_and, not_true_eq_false, not_false_eq_true, eq_self, ne_eq, true_implies, false_implies, implies_true, or_true, true_or, or_false, false_or, reduceCtorEq, Option.some.injEq, Sum.inl.injEq, exists_eq_left', exists_eq_left, zite]
    repeat' (first | with_reducible apply And.intro | with_reducible intro _)
    all_goals first | omega | (exact c)
  simp only [↓rL_323, ↓rL_324, ↓rL_325, ↓rL_326, ↓rL_327, ↓rL_328, ↓rL_329, ↓rL_330, ↓rL_331, ↓rL_332, ↓rL_333, ↓rL_334, ↓hL_r, ↓hL_l, ↓reduceIte, zkeep_n, zkeep_i, zkeep_r, zkeep_l, zIR, zLR, List.length_cons, List.length_nil, Nat.reduceAdd, Nat.reduceLeDiff, Nat.reduceEqDiff, Nat.reduceSub, Int.reduceLE, Int.reduceLT, Int.reduceEq, Int.reduceNe, Int.reduceNeg, Int.reduceAdd, Int.reduceSub, Int.reduceMul, Int.reduceToNat, Nat.le_refl, Nat.zero_le, Nat.zero_add, Int.zero_add, Int.add_zero, and_true, true_and, and_false, false_and, not_true_eq_false, not_false_eq_true, eq_self, ne_eq, true_implies, false_implies, implies_true, or_true, true_or, or_false, false_or, reduceCtorEq, Option.some.injEq, Sum.inl.injEq, exists_eq_left', exists_eq_left, zite]
  repeat' (first | with_reducible apply And.intro | with_reducible intro _)
  all_goals first | omega | (exact c1)
set_option maxRecDepth 100000 in
set_option maxHeartbeats 4000000 in
theorem law_feed {L : Nat} {xs : Int → Int} {R : zP} {S M : zM} {i : Int} (hxs : ∀ j, zIR (xs j)) (hi : 0 ≤ i ∧ i + 6 ≤ L) (hX : RX S M) (hM : RM S M) (nx : ∀ S' M', RX S' M' → RM S' M' → uL L xs R 1366 [some (.inr (.inr 105)), some (.inr (.inr 0)), some (.inr (.inr 46)), some (.inl i)] [] M') : uL L xs R 356 [some (.inr (.inr 105)), some (.inr (.inr 0)), some (.inr (.inr 46)), some (.inl i)] [] M := by
  have c2 : ∀ (A : Int) (M1 : zM), RX (mFeed S (xs (i + 1)) (xs (i + 2)) (xs (i + 3))) M1 → RM S M1 → A = aFeed S (xs (i + 1)) (xs (i + 2)) (xs (i + 3)) → zcv (zv 8 (znm tX8_feed)) [.inr (.inr 46), .inl (xs (i + 1)), .inl (xs (i + 2)), .inl (xs (i + 3))] M1 (fun v M' => uL L xs R 394 [some (.inr (.inr 105)), some (.inr (.inr 0)), some (.inr (.inr 46)), some (.inl i)] [v, .inl (Int32.ofInt A).toInt] M') := by
    intro A M1 h1 h2 hA
    subst hA
    refine zcvn rfl (y_feed hX.2.2.2.2.1.1 h2 (hxs _) (hxs _) (hxs _) (fun M2 k1 k2 => ⟨_, rfl, ?_⟩))
    have n := nx _ M2 (RX_cell h1 (fun k j hk => k2 k j (by omega) (fun e => by omega))) (k1)
    have z := zI32 (Int32.ofInt (aFeed S (xs (i + 1)) (xs (i + 2)) (xs (i + 3))))
    generalize (Int32.ofInt (aFeed S (xs (i + 1)) (xs (i + 2)) (xs (i + 3)))).toInt = w at *
    show uL L xs R 394 [some (.inr (.inr 105)), some (.inr (.inr 0)), some (.inr (.inr 46)), some (.inl i)] [.inl w, .inl w] M2
    simp only [↓rL_394, ↓rL_397, ↓rL_398, ↓hL_r, ↓hL_l, ↓reduceIte, zkeep_n, zkeep_i, zkeep_r, zkeep_l, zIR, zLR, List.length_cons, List.length_nil, Nat.reduceAdd, Nat.reduceLeDiff, Nat.reduceEqDiff, Nat.reduceSub, Int.reduceLE, Int.reduceLT, Int.reduceEq, Int.reduceNe, Int.reduceNeg, Int.reduceAdd, Int.reduceSub, Int.reduceMul, Int.reduceToNat, Nat.le_refl, Nat.zero_le, Nat.zero_add, Int.zero_add, Int.add_zero, and_true, true_and, and_false, false_and, not_true_eq_false, not_false_eq_true, eq_self, ne_eq, true_implies, false_implies, implies_true, or_true, true_or, or_false, false_or, reduceCtorEq, Option.some.injEq, Sum.inl.injEq, exists_eq_left', exists_eq_left, zite]
    repeat' (first | with_reducible apply And.intro | with_reducible intro _)
    all_goals first | omega | (exact n) | (exact z.1) | (exact z.2)
  have c1 : zcv (zv 7 (znm tX7_feed)) [.inr (.inr 0), .inl (xs (i + 1)), .inl (xs (i + 2)), .inl (xs (i + 3))] M (fun v M' => uL L xs R 375 [some (.inr (.inr 105)), some (.inr (.inr 0)), some (.inr (.inr 46)), some (.inl i)] [v] M') := by
    refine zcvn rfl (x_feed hX (hxs _) (hxs _) (hxs _) (fun M1 h1 h2 => ⟨_, rfl, ?_⟩))
    have c := c2 _ M1 h1 (RM_cell hM (fun k j hk => h2 k j (by omega))) rfl
    simp only [↓rL_375, ↓rL_376, ↓rL_377, ↓rL_378, ↓rL_379, ↓rL_380, ↓rL_381, ↓rL_382, ↓rL_383, ↓rL_384, ↓rL_385, ↓rL_386, ↓rL_387, ↓rL_388, ↓rL_389, ↓rL_390, ↓rL_391, ↓hL_r, ↓hL_l, ↓reduceIte, zkeep_n, zkeep_i, zkeep_r, zkeep_l, zIR, zLR, List.length_cons, List.length_nil, Nat.reduceAdd, Nat.reduceLeDiff, Nat.reduceEqDiff, Nat.reduceSub, Int.reduceLE, Int.reduceLT, Int.reduceEq, Int.reduceNe, Int.reduceNeg, Int.reduceAdd, Int.reduceSub, Int.reduceMul, Int.reduceToNat, Nat.le_refl, Nat.zero_le, Nat.zero_add, Int.zero_add, Int.add_zero, and_true, true_and, and_false, false_and, not_true_eq_false, not_false_eq_true, eq_self, ne_eq, true_implies, false_implies, implies_true, or_true, true_or, or_false, false_or, reduceCtorEq, Option.some.injEq, Sum.inl.injEq, exists_eq_left', exists_eq_left, zite]
    repeat' (first | with_reducible apply And.intro | with_reducible intro _)
    all_goals first | omega | (exact c)
  simp only [↓rL_356, ↓rL_357, ↓rL_358, ↓rL_359, ↓rL_360, ↓rL_361, ↓rL_362, ↓rL_363, ↓rL_364, ↓rL_365, ↓rL_366, ↓rL_367, ↓rL_368, ↓rL_369, ↓rL_370, ↓rL_371, ↓rL_372, ↓hL_r, ↓hL_l, ↓reduceIte, zkeep_n, zkeep_i, zkeep_r, zkeep_l, zIR, zLR, List.length_cons, List.length_nil, Nat.reduceAdd, Nat.reduceLeDiff, Nat.reduceEqDiff, Nat.reduceSub, Int.reduceLE, Int.reduceLT, Int.reduceEq, Int.reduceNe, Int.reduceNeg, Int.reduceAdd, Int.reduceSub, Int.reduceMul, Int.reduceToNat, Nat.le_refl, Nat.zero_le, Nat.zero_add, Int.zero_add, Int.add_zero, and_true, true_and, and_false, false_and, not_true_eq_false, not_false_eq_true, eq_self, ne_eq, true_implies, false_implies, implies_true, or_true, true_or, or_false, false_or, reduceCtorEq, Option.some.injEq, Sum.inl.injEq, exists_eq_left', exists_eq_left, zite]
  repeat' (first | with_reducible apply And.intro | with_reducible intro _)
  all_goals first | omega | (exact c1)
set_option maxRecDepth 100000 in
set_option maxHeartbeats 4000000 in
theorem law_back {L : Nat} {xs : Int → Int} {R : zP} {S M : zM} {i : Int} (hxs : ∀ j, zIR (xs j)) (hi : 0 ≤ i ∧ i + 6 ≤ L) (hX : RX S M) (hM : RM S M) (nx : ∀ S' M', RX S' M' → RM S' M' → uL L xs R 1366 [some (.inr (.inr 105)), some (.inr (.inr 0)), some (.inr (.inr 46)), some (.inl i)] [] M') : uL L xs R 399 [some (.inr (.inr 105)), some (.inr (.inr 0)), some (.inr (.inr 46)), some (.inl i)] [] M := by
  have c2 : ∀ (A : Int) (M1 : zM), RX (mBack S) M1 → RM S M1 → A = aBack S  → zcv (zv 8 (znm tX8_back)) [.inr (.inr 46)] M1 (fun v M' => uL L xs R 407 [some (.inr (.inr 105)), some (.inr (.inr 0)), some (.inr (.inr 46)), some (.inl i)] [v, .inl (Int32.ofInt A).toInt] M') := by
    intro A M1 h1 h2 hA
    subst hA
    refine zcvn rfl (y_back ⟨M, hX⟩ h2  (fun M2 k1 k2 => ⟨_, rfl, ?_⟩))
    have n := nx _ M2 (RX_cell h1 k2) (k1)
    have z := zI32 (Int32.ofInt (aBack S ))
    generalize (Int32.ofInt (aBack S )).toInt = w at *
    show uL L xs R 407 [some (.inr (.inr 105)), some (.inr (.inr 0)), some (.inr (.inr 46)), some (.inl i)] [.inl w, .inl w] M2
    simp only [↓rL_407, ↓rL_410, ↓rL_411, ↓hL_r, ↓hL_l, ↓reduceIte, zkeep_n, zkeep_i, zkeep_r, zkeep_l, zIR, zLR, List.length_cons, List.length_nil, Nat.reduceAdd, Nat.reduceLeDiff, Nat.reduceEqDiff, Nat.reduceSub, Int.reduceLE, Int.reduceLT, Int.reduceEq, Int.reduceNe, Int.reduceNeg, Int.reduceAdd, Int.reduceSub, Int.reduceMul, Int.reduceToNat, Nat.le_refl, Nat.zero_le, Nat.zero_add, Int.zero_add, Int.add_zero, and_true, true_and, and_false, false_and, not_true_eq_false, not_false_eq_true, eq_self, ne_eq, true_implies, false_implies, implies_true, or_true, true_or, or_false, false_or, reduceCtorEq, Option.some.injEq, Sum.inl.injEq, exists_eq_left', exists_eq_left, zite]
    repeat' (first | with_reducible apply And.intro | with_reducible intro _)
    all_goals first | omega | (exact n) | (exact z.1) | (exact z.2)
  have c1 : zcv (zv 7 (znm tX7_back)) [.inr (.inr 0)] M (fun v M' => uL L xs R 403 [some (.inr (.inr 105)), some (.inr (.inr 0)), some (.inr (.inr 46)), some (.inl i)] [v] M') := by
    refine zcvn rfl (x_back hX  (fun M1 h1 h2 => ⟨_, rfl, ?_⟩))
    have c := c2 _ M1 h1 (RM_cell hM h2) rfl
    simp only [↓rL_403, ↓rL_404, ↓hL_r, ↓hL_l, ↓reduceIte, zkeep_n, zkeep_i, zkeep_r, zkeep_l, zIR, zLR, List.length_cons, List.length_nil, Nat.reduceAdd, Nat.reduceLeDiff, Nat.reduceEqDiff, Nat.reduceSub, Int.reduceLE, Int.reduceLT, Int.reduceEq, Int.reduceNe, Int.reduceNeg, Int.reduceAdd, Int.reduceSub, Int.reduceMul, Int.reduceToNat, Nat.le_refl, Nat.zero_le, Nat.zero_add, Int.zero_add, Int.add_zero, and_true, true_and, and_false, false_and, not_true_eq_false, not_false_eq_true, eq_self, ne_eq, true_implies, false_implies, implies_true, or_true, true_or, or_false, false_or, reduceCtorEq, Option.some.injEq, Sum.inl.injEq, exists_eq_left', exists_eq_left, zite]
    repeat' (first | with_reducible apply And.intro | with_reducible intro _)
    all_goals first | omega | (exact c)
  simp only [↓rL_399, ↓rL_400, ↓hL_r, ↓hL_l, ↓reduceIte, zkeep_n, zkeep_i, zkeep_r, zkeep_l, zIR, zLR, List.length_cons, List.length_nil, Nat.reduceAdd, Nat.reduceLeDiff, Nat.reduceEqDiff, Nat.reduceSub, Int.reduceLE, Int.reduceLT, Int.reduceEq, Int.reduceNe, Int.reduceNeg, Int.reduceAdd, Int.reduceSub, Int.reduceMul, Int.reduceToNat, Nat.le_refl, Nat.zero_le, Nat.zero_add, Int.zero_add, Int.add_zero, and_true, true_and, and_false, false_and, not_true_eq_false, not_false_eq_true, eq_self, ne_eq, true_implies, false_implies, implies_true, or_true, true_or, or_false, false_or, reduceCtorEq, Option.some.injEq, Sum.inl.injEq, exists_eq_left', exists_eq_left, zite]
  repeat' (first | with_reducible apply And.intro | with_reducible intro _)
  all_goals first | omega | (exact c1)
set_option maxRecDepth 100000 in
set_option maxHeartbeats 4000000 in
theorem law_read {L : Nat} {xs : Int → Int} {R : zP} {S M : zM} {i : Int} (hxs : ∀ j, zIR (xs j)) (hi : 0 ≤ i ∧ i + 6 ≤ L) (hX : RX S M) (hM : RM S M) (nx : ∀ S' M', RX S' M' → RM S' M' → uL L xs R 1366 [some (.inr (.inr 105)), some (.inr (.inr 0)), some (.inr (.inr 46)), some (.inl i)] [] M') : uL L xs R 412 [some (.inr (.inr 105)), some (.inr (.inr 0)), some (.inr (.inr 46)), some (.inl i)] [] M := by
  have c2 : ∀ (A : Int) (M1 : zM), RX (mRead S (xs (i + 1))) M1 → RM S M1 → A = aRead S (xs (i + 1)) → zcv (zv 8 (znm tX8_read)) [.inr (.inr 46), .inl (xs (i + 1))] M1 (fun v M' => uL L xs R 430 [some (.inr (.inr 105)), some (.inr (.inr 0)), some (.inr (.inr 46)), some (.inl i)] [v, .inl (Int32.ofInt A).toInt] M') := by
    intro A M1 h1 h2 hA
    subst hA
    refine zcvn rfl (y_read ⟨M, hX⟩ h2 (hxs _) (fun M2 k1 k2 => ⟨_, rfl, ?_⟩))
    have n := nx _ M2 (RX_cell h1 k2) (k1)
    have z := zI32 (Int32.ofInt (aRead S (xs (i + 1))))
    generalize (Int32.ofInt (aRead S (xs (i + 1)))).toInt = w at *
    show uL L xs R 430 [some (.inr (.inr 105)), some (.inr (.inr 0)), some (.inr (.inr 46)), some (.inl i)] [.inl w, .inl w] M2
    simp only [↓rL_430, ↓rL_433, ↓rL_434, ↓hL_r, ↓hL_l, ↓reduceIte, zkeep_n, zkeep_i, zkeep_r, zkeep_l, zIR, zLR, List.length_cons, List.length_nil, Nat.reduceAdd, Nat.reduceLeDiff, Nat.reduceEqDiff, Nat.reduceSub, Int.reduceLE, Int.reduceLT, Int.reduceEq, Int.reduceNe, Int.reduceNeg, Int.reduceAdd, Int.reduceSub, Int.reduceMul, Int.reduceToNat, Nat.le_refl, Nat.zero_le, Nat.zero_add, Int.zero_add, Int.add_zero, and_true, true_and, and_false, false_and, not_true_eq_false, not_false_eq_true, eq_self, ne_eq, true_implies, false_implies, implies_true, or_true, true_or, or_false, false_or, reduceCtorEq, Option.some.injEq, Sum.inl.injEq, exists_eq_left', exists_eq_left, zite]
    repeat' (first | with_reducible apply And.intro | with_reducible intro _)
    all_goals first | omega | (exact n) | (exact z.1) | (exact z.2)
  have c1 : zcv (zv 7 (znm tX7_read)) [.inr (.inr 0), .inl (xs (i + 1))] M (fun v M' => uL L xs R 421 [some (.inr (.inr 105)), some (.inr (.inr 0)), some (.inr (.inr 46)), some (.inl i)] [v] M') := by
    refine zcvn rfl (x_read hX (hxs _) (fun M1 h1 h2 => ⟨_, rfl, ?_⟩))
    have c := c2 _ M1 h1 (RM_cell hM h2) rfl
    simp only [↓rL_421, ↓rL_422, ↓rL_423, ↓rL_424, ↓rL_425, ↓rL_426, ↓rL_427, ↓hL_r, ↓hL_l, ↓reduceIte, zkeep_n, zkeep_i, zkeep_r, zkeep_l, zIR, zLR, List.length_cons, List.length_nil, Nat.reduceAdd, Nat.reduceLeDiff, Nat.reduceEqDiff, Nat.reduceSub, Int.reduceLE, Int.reduceLT, Int.reduceEq, Int.reduceNe, Int.reduceNeg, Int.reduceAdd, Int.reduceSub, Int.reduceMul, Int.reduceToNat, Nat.le_refl, Nat.zero_le, Nat.zero_add, Int.zero_add, Int.add_zero, and_true, true_and, and_false, false_and, not_true_eq_false, not_false_eq_true, eq_self, ne_eq, true_implies, false_implies, implies_true, or_true, true_or, or_false, false_or, reduceCtorEq, Option.some.injEq, Sum.inl.injEq, exists_eq_left', exists_eq_left, zite]
    repeat' (first | with_reducible apply And.intro | with_reducible intro _)
    all_goals first | omega | (exact c)
  simp only [↓rL_412, ↓rL_413, ↓rL_414, ↓rL_415, ↓rL_416, ↓rL_417, ↓rL_418, ↓hL_r, ↓hL_l, ↓reduceIte, zkeep_n, zkeep_i, zkeep_r, zkeep_l, zIR, zLR, List.length_cons, List.length_nil, Nat.reduceAdd, Nat.reduceLeDiff, Nat.reduceEqDiff, Nat.reduceSub, Int.reduceLE, Int.reduceLT, Int.reduceEq, Int.reduceNe, Int.reduceNeg, Int.reduceAdd, Int.reduceSub, Int.reduceMul, Int.reduceToNat, Nat.le_refl, Nat.zero_le, Nat.zero_add, Int.zero_add, Int.add_zero, and_true, true_and, and_false, false_and, not_true_eq_false, not_false_eq_true, eq_self, ne_eq, true_implies, false_implies, implies_true, or_true, true_or, or_false, false_or, reduceCtorEq, Option.some.injEq, Sum.inl.injEq, exists_eq_left', exists_eq_left, zite]
  repeat' (first | with_reducible apply And.intro | with_reducible intro _)
  all_goals first | omega | (exact c1)
set_option maxRecDepth 100000 in
set_option maxHeartbeats 4000000 in
theorem law_at {L : Nat} {xs : Int → Int} {R : zP} {S M : zM} {i : Int} (hxs : ∀ j, zIR (xs j)) (hi : 0 ≤ i ∧ i + 6 ≤ L) (hX : RX S M) (hM : RM S M) (nx : ∀ S' M', RX S' M' → RM S' M' → uL L xs R 1366 [some (.inr (.inr 105)), some (.inr (.inr 0)), some (.inr (.inr 46)), some (.inl i)] [] M') : uL L xs R 435 [some (.inr (.inr 105)), some (.inr (.inr 0)), some (.inr (.inr 46)), some (.inl i)] [] M := by
  have c2 : ∀ (A : Int) (M1 : zM), RX (S) M1 → RM S M1 → A = aAt S (xs (i + 1)) (xs (i + 2)) (xs (i + 3)) (xs (i + 4)) → zcv (zv 8 (znm tX8_at)) [.inr (.inr 46), .inl (xs (i + 1)), .inl (xs (i + 2)), .inl (xs (i + 3)), .inl (xs (i + 4))] M1 (fun v M' => uL L xs R 483 [some (.inr (.inr 105)), some (.inr (.inr 0)), some (.inr (.inr 46)), some (.inl i)] [v, .inl (Int32.ofInt A).toInt] M') := by
    intro A M1 h1 h2 hA
    subst hA
    refine zcvn rfl (y_at ⟨M, hX⟩ h2 (hxs _) (hxs _) (hxs _) (hxs _) (fun M2 k1 => ⟨_, rfl, ?_⟩))
    have n := nx _ M2 (RX_cell h1 k1.yf) (RM_yq h2 k1)
    have z := zI32 (Int32.ofInt (aAt S (xs (i + 1)) (xs (i + 2)) (xs (i + 3)) (xs (i + 4))))
    generalize (Int32.ofInt (aAt S (xs (i + 1)) (xs (i + 2)) (xs (i + 3)) (xs (i + 4)))).toInt = w at *
    show uL L xs R 483 [some (.inr (.inr 105)), some (.inr (.inr 0)), some (.inr (.inr 46)), some (.inl i)] [.inl w, .inl w] M2
    simp only [↓rL_483, ↓rL_486, ↓rL_487, ↓hL_r, ↓hL_l, ↓reduceIte, zkeep_n, zkeep_i, zkeep_r, zkeep_l, zIR, zLR, List.length_cons, List.length_nil, Nat.reduceAdd, Nat.reduceLeDiff, Nat.reduceEqDiff, Nat.reduceSub, Int.reduceLE, Int.reduceLT, Int.reduceEq, Int.reduceNe, Int.reduceNeg, Int.reduceAdd, Int.reduceSub, Int.reduceMul, Int.reduceToNat, Nat.le_refl, Nat.zero_le, Nat.zero_add, Int.zero_add, Int.add_zero, and_true, true_and, and_false, false_and, not_true_eq_false, not_false_eq_true, eq_self, ne_eq, true_implies, false_implies, implies_true, or_true, true_or, or_false, false_or, reduceCtorEq, Option.some.injEq, Sum.inl.injEq, exists_eq_left', exists_eq_left, zite]
    repeat' (first | with_reducible apply And.intro | with_reducible intro _)
    all_goals first | omega | (exact n) | (exact z.1) | (exact z.2)
  have c1 : zcv (zv 7 (znm tX7_at)) [.inr (.inr 0), .inl (xs (i + 1)), .inl (xs (i + 2)), .inl (xs (i + 3)), .inl (xs (i + 4))] M (fun v M' => uL L xs R 459 [some (.inr (.inr 105)), some (.inr (.inr 0)), some (.inr (.inr 46)), some (.inl i)] [v] M') := by
    refine zcvn rfl (x_at hX (hxs _) (hxs _) (hxs _) (hxs _) (fun M1 h1 => ⟨_, rfl, ?_⟩))
    have c := c2 _ M1 (RX_qf hX h1) (RM_cell hM h1.xf) rfl
    simp only [↓rL_459, ↓rL_460, ↓rL_461, ↓rL_462, ↓rL_463, ↓rL_464, ↓rL_465, ↓rL_466, ↓rL_467, ↓rL_468, ↓rL_469, ↓rL_470, ↓rL_471, ↓rL_472, ↓rL_473, ↓rL_474, ↓rL_475, ↓rL_476, ↓rL_477, ↓rL_478, ↓rL_479, ↓rL_480, ↓hL_r, ↓hL_l, ↓reduceIte, zkeep_n, zkeep_i, zkeep_r, zkeep_l, zIR, zLR, List.length_cons, List.length_nil, Nat.reduceAdd, Nat.reduceLeDiff, Nat.reduceEqDiff, Nat.reduceSub, Int.reduceLE, Int.reduceLT, Int.reduceEq, Int.reduceNe, Int.reduceNeg, Int.reduceAdd, Int.reduceSub, Int.reduceMul, Int.reduceToNat, Nat.le_refl, Nat.zero_le, Nat.zero_add, Int.zero_add, Int.add_zero, and_true, true_and, and_false, false_and, not_true_eq_false, not_false_eq_true, eq_self, ne_eq, true_implies, false_implies, implies_true, or_true, true_or, or_false, false_or, reduceCtorEq, Option.some.injEq, Sum.inl.injEq, exists_eq_left', exists_eq_left, zite]
    repeat' (first | with_reducible apply And.intro | with_reducible intro _)
    all_goals first | omega | (exact c)
  simp only [↓rL_435, ↓rL_436, ↓rL_437, ↓rL_438, ↓rL_439, ↓rL_440, ↓rL_441, ↓rL_442, ↓rL_443, ↓rL_444, ↓rL_445, ↓rL_446, ↓rL_447, ↓rL_448, ↓rL_449, ↓rL_450, ↓rL_451, ↓rL_452, ↓rL_453, ↓rL_454, ↓rL_455, ↓rL_456, ↓hL_r, ↓hL_l, ↓reduceIte, zkeep_n, zkeep_i, zkeep_r, zkeep_l, zIR, zLR, List.length_cons, List.length_nil, Nat.reduceAdd, Nat.reduceLeDiff, Nat.reduceEqDiff, Nat.reduceSub, Int.reduceLE, Int.reduceLT, Int.reduceEq, Int.reduceNe, Int.reduceNeg, Int.reduceAdd, Int.reduceSub, Int.reduceMul, Int.reduceToNat, Nat.le_refl, Nat.zero_le, Nat.zero_add, Int.zero_add, Int.add_zero, and_true, true_and, and_false, false_and, not_true_eq_false, not_false_eq_true, eq_self, ne_eq, true_implies, false_implies, implies_true, or_true, true_or, or_false, false_or, reduceCtorEq, Option.some.injEq, Sum.inl.injEq, exists_eq_left', exists_eq_left, zite]
  repeat' (first | with_reducible apply And.intro | with_reducible intro _)
  all_goals first | omega | (exact c1)
set_option maxRecDepth 100000 in
set_option maxHeartbeats 4000000 in
theorem law_able {L : Nat} {xs : Int → Int} {R : zP} {S M : zM} {i : Int} (hxs : ∀ j, zIR (xs j)) (hi : 0 ≤ i ∧ i + 6 ≤ L) (hX : RX S M) (hM : RM S M) (nx : ∀ S' M', RX S' M' → RM S' M' → uL L xs R 1366 [some (.inr (.inr 105)), some (.inr (.inr 0)), some (.inr (.inr 46)), some (.inl i)] [] M') : uL L xs R 488 [some (.inr (.inr 105)), some (.inr (.inr 0)), some (.inr (.inr 46)), some (.inl i)] [] M := by
  have c2 : ∀ (A : Int) (M1 : zM), RX (S) M1 → RM S M1 → A = aAble S (xs (i + 1)) (xs (i + 2)) (xs (i + 3)) → zcv (zv 8 (znm tX8_able)) [.inr (.inr 46), .inl (xs (i + 1)), .inl (xs (i + 2)), .inl (xs (i + 3))] M1 (fun v M' => uL L xs R 526 [some (.inr (.inr 105)), some (.inr (.inr 0)), some (.inr (.inr 46)), some (.inl i)] [v, .inl (Int32.ofInt A).toInt] M') := by
    intro A M1 h1 h2 hA
    subst hA
    refine zcvn rfl (y_able ⟨M, hX⟩ h2 (hxs _) (hxs _) (hxs _) (fun M2 k1 => ⟨_, rfl, ?_⟩))
    have n := nx _ M2 (RX_cell h1 k1.yf) (RM_yq h2 k1)
    have z := zI32 (Int32.ofInt (aAble S (xs (i + 1)) (xs (i + 2)) (xs (i + 3))))
    generalize (Int32.ofInt (aAble S (xs (i + 1)) (xs (i + 2)) (xs (i + 3)))).toInt = w at *
    show uL L xs R 526 [some (.inr (.inr 105)), some (.inr (.inr 0)), some (.inr (.inr 46)), some (.inl i)] [.inl w, .inl w] M2
    simp only [↓rL_526, ↓rL_529, ↓rL_530, ↓hL_r, ↓hL_l, ↓reduceIte, zkeep_n, zkeep_i, zkeep_r, zkeep_l, zIR, zLR, List.length_cons, List.length_nil, Nat.reduceAdd, Nat.reduceLeDiff, Nat.reduceEqDiff, Nat.reduceSub, Int.reduceLE, Int.reduceLT, Int.reduceEq, Int.reduceNe, Int.reduceNeg, Int.reduceAdd, Int.reduceSub, Int.reduceMul, Int.reduceToNat, Nat.le_refl, Nat.zero_le, Nat.zero_add, Int.zero_add, Int.add_zero, and_true, true_and, and_false, false_and, not_true_eq_false, not_false_eq_true, eq_self, ne_eq, true_implies, false_implies, implies_true, or_true, true_or, or_false, false_or, reduceCtorEq, Option.some.injEq, Sum.inl.injEq, exists_eq_left', exists_eq_left, zite]
    repeat' (first | with_reducible apply And.intro | with_reducible intro _)
    all_goals first | omega | (exact n) | (exact z.1) | (exact z.2)
  have c1 : zcv (zv 7 (znm tX7_able)) [.inr (.inr 0), .inl (xs (i + 1)), .inl (xs (i + 2)), .inl (xs (i + 3))] M (fun v M' => uL L xs R 507 [some (.inr (.inr 105)), some (.inr (.inr 0)), some (.inr (.inr 46)), some (.inl i)] [v] M') := by
    refine zcvn rfl (x_able hX (hxs _) (hxs _) (hxs _) (fun M1 h1 => ⟨_, rfl, ?_⟩))
    have c := c2 _ M1 (RX_qf hX h1) (RM_cell hM h1.xf) rfl
    simp only [↓rL_507, ↓rL_508, ↓rL_509, ↓rL_510, ↓rL_511, ↓rL_512, ↓rL_513, ↓rL_514, ↓rL_515, ↓rL_516, ↓rL_517, ↓rL_518, ↓rL_519, ↓rL_520, ↓rL_521, ↓rL_522, ↓rL_523, ↓hL_r, ↓hL_l, ↓reduceIte, zkeep_n, zkeep_i, zkeep_r, zkeep_l, zIR, zLR, List.length_cons, List.length_nil, Nat.reduceAdd, Nat.reduceLeDiff, Nat.reduceEqDiff, Nat.reduceSub, Int.reduceLE, Int.reduceLT, Int.reduceEq, Int.reduceNe, Int.reduceNeg, Int.reduceAdd, Int.reduceSub, Int.reduceMul, Int.reduceToNat, Nat.le_refl, Nat.zero_le, Nat.zero_add, Int.zero_add, Int.add_zero, and_true, true_and, and_false, false_and, not_true_eq_false, not_false_eq_true, eq_self, ne_eq, true_implies, false_implies, implies_true, or_true, true_or, or_false, false_or, reduceCtorEq, Option.some.injEq, Sum.inl.injEq, exists_eq_left', exists_eq_left, zite]
    repeat' (first | with_reducible apply And.intro | with_reducible intro _)
    all_goals first | omega | (exact c)
  simp only [↓rL_488, ↓rL_489, ↓rL_490, ↓rL_491, ↓rL_492, ↓rL_493, ↓rL_494, ↓rL_495, ↓rL_496, ↓rL_497, ↓rL_498, ↓rL_499, ↓rL_500, ↓rL_501, ↓rL_502, ↓rL_503, ↓rL_504, ↓hL_r, ↓hL_l, ↓reduceIte, zkeep_n, zkeep_i, zkeep_r, zkeep_l, zIR, zLR, List.length_cons, List.length_nil, Nat.reduceAdd, Nat.reduceLeDiff, Nat.reduceEqDiff, Nat.reduceSub, Int.reduceLE, Int.reduceLT, Int.reduceEq, Int.reduceNe, Int.reduceNeg, Int.reduceAdd, Int.reduceSub, Int.reduceMul, Int.reduceToNat, Nat.le_refl, Nat.zero_le, Nat.zero_add, Int.zero_add, Int.add_zero, and_true, true_and, and_false, false_and, not_true_eq_false, not_false_eq_true, eq_self, ne_eq, true_implies, false_implies, implies_true, or_true, true_or, or_false, false_or, reduceCtorEq, Option.some.injEq, Sum.inl.injEq, exists_eq_left', exists_eq_left, zite]
  repeat' (first | with_reducible apply And.intro | with_reducible intro _)
  all_goals first | omega | (exact c1)
set_option maxRecDepth 100000 in
set_option maxHeartbeats 4000000 in
theorem law_house {L : Nat} {xs : Int → Int} {R : zP} {S M : zM} {i : Int} (hxs : ∀ j, zIR (xs j)) (hi : 0 ≤ i ∧ i + 6 ≤ L) (hX : RX S M) (hM : RM S M) (nx : ∀ S' M', RX S' M' → RM S' M' → uL L xs R 1366 [some (.inr (.inr 105)), some (.inr (.inr 0)), some (.inr (.inr 46)), some (.inl i)] [] M') : uL L xs R 531 [some (.inr (.inr 105)), some (.inr (.inr 0)), some (.inr (.inr 46)), some (.inl i)] [] M := by
  have c2 : ∀ (A : Int) (M1 : zM), RX (S) M1 → RM S M1 → A = aHouse S (xs (i + 1)) (xs (i + 2)) (xs (i + 3)) → zcv (zv 8 (znm tX8_house)) [.inr (.inr 46), .inl (xs (i + 1)), .inl (xs (i + 2)), .inl (xs (i + 3))] M1 (fun v M' => uL L xs R 569 [some (.inr (.inr 105)), some (.inr (.inr 0)), some (.inr (.inr 46)), some (.inl i)] [v, .inl (Int32.ofInt A).toInt] M') := by
    intro A M1 h1 h2 hA
    subst hA
    refine zcvn rfl (y_house ⟨M, hX⟩ h2 (hxs _) (hxs _) (hxs _) (fun M2 k1 => ⟨_, rfl, ?_⟩))
    have n := nx _ M2 (RX_cell h1 k1.yf) (RM_yq h2 k1)
    have z := zI32 (Int32.ofInt (aHouse S (xs (i + 1)) (xs (i + 2)) (xs (i + 3))))
    generalize (Int32.ofInt (aHouse S (xs (i + 1)) (xs (i + 2)) (xs (i + 3)))).toInt = w at *
    show uL L xs R 569 [some (.inr (.inr 105)), some (.inr (.inr 0)), some (.inr (.inr 46)), some (.inl i)] [.inl w, .inl w] M2
    simp only [↓rL_569, ↓rL_572, ↓rL_573, ↓hL_r, ↓hL_l, ↓reduceIte, zkeep_n, zkeep_i, zkeep_r, zkeep_l, zIR, zLR, List.length_cons, List.length_nil, Nat.reduceAdd, Nat.reduceLeDiff, Nat.reduceEqDiff, Nat.reduceSub, Int.reduceLE, Int.reduceLT, Int.reduceEq, Int.reduceNe, Int.reduceNeg, Int.reduceAdd, Int.reduceSub, Int.reduceMul, Int.reduceToNat, Nat.le_refl, Nat.zero_le, Nat.zero_add, Int.zero_add, Int.add_zero, and_true, true_and, and_false, false_and, not_true_eq_false, not_false_eq_true, eq_self, ne_eq, true_implies, false_implies, implies_true, or_true, true_or, or_false, false_or, reduceCtorEq, Option.some.injEq, Sum.inl.injEq, exists_eq_left', exists_eq_left, zite]
    repeat' (first | with_reducible apply And.intro | with_reducible intro _)
    all_goals first | omega | (exact n) | (exact z.1) | (exact z.2)
  have c1 : zcv (zv 7 (znm tX7_house)) [.inr (.inr 0), .inl (xs (i + 1)), .inl (xs (i + 2)), .inl (xs (i + 3))] M (fun v M' => uL L xs R 550 [some (.inr (.inr 105)), some (.inr (.inr 0)), some (.inr (.inr 46)), some (.inl i)] [v] M') := by
    refine zcvn rfl (x_house hX (hxs _) (hxs _) (hxs _) (fun M1 h1 => ⟨_, rfl, ?_⟩))
    have c := c2 _ M1 (RX_qf hX h1) (RM_cell hM h1.xf) rfl
    simp only [↓rL_550, ↓rL_551, ↓rL_552, ↓rL_553, ↓rL_554, ↓rL_555, ↓rL_556, ↓rL_557, ↓rL_558, ↓rL_559, ↓rL_560, ↓rL_561, ↓rL_562, ↓rL_563, ↓rL_564, ↓rL_565, ↓rL_566, ↓hL_r, ↓hL_l, ↓reduceIte, zkeep_n, zkeep_i, zkeep_r, zkeep_l, zIR, zLR, List.length_cons, List.length_nil, Nat.reduceAdd, Nat.reduceLeDiff, Nat.reduceEqDiff, Nat.reduceSub, Int.reduceLE, Int.reduceLT, Int.reduceEq, Int.reduceNe, Int.reduceNeg, Int.reduceAdd, Int.reduceSub, Int.reduceMul, Int.reduceToNat, Nat.le_refl, Nat.zero_le, Nat.zero_add, Int.zero_add, Int.add_zero, and_true, true_and, and_false, false_and, not_true_eq_false, not_false_eq_true, eq_self, ne_eq, true_implies, false_implies, implies_true, or_true, true_or, or_false, false_or, reduceCtorEq, Option.some.injEq, Sum.inl.injEq, exists_eq_left', exists_eq_left, zite]
    repeat' (first | with_reducible apply And.intro | with_reducible intro _)
    all_goals first | omega | (exact c)
  simp only [↓rL_531, ↓rL_532, ↓rL_533, ↓rL_534, ↓rL_535, ↓rL_536, ↓rL_537, ↓rL_538, ↓rL_539, ↓rL_540, ↓rL_541, ↓rL_542, ↓rL_543, ↓rL_544, ↓rL_545, ↓rL_546, ↓rL_547, ↓hL_r, ↓hL_l, ↓reduceIte, zkeep_n, zkeep_i, zkeep_r, zkeep_l, zIR, zLR, List.length_cons, List.length_nil, Nat.reduceAdd, Nat.reduceLeDiff, Nat.reduceEqDiff, Nat.reduceSub, Int.reduceLE, Int.reduceLT, Int.reduceEq, Int.reduceNe, Int.reduceNeg, Int.reduceAdd, Int.reduceSub, Int.reduceMul, Int.reduceToNat, Nat.le_refl, Nat.zero_le, Nat.zero_add, Int.zero_add, Int.add_zero, and_true, true_and, and_false, false_and, not_true_eq_false, not_false_eq_true, eq_self, ne_eq, true_implies, false_implies, implies_true, or_true, true_or, or_false, false_or, reduceCtorEq, Option.some.injEq, Sum.inl.injEq, exists_eq_left', exists_eq_left, zite]
  repeat' (first | with_reducible apply And.intro | with_reducible intro _)
  all_goals first | omega | (exact c1)
set_option maxRecDepth 100000 in
set_option maxHeartbeats 4000000 in
theorem law_pusey {L : Nat} {xs : Int → Int} {R : zP} {S M : zM} {i : Int} (hxs : ∀ j, zIR (xs j)) (hi : 0 ≤ i ∧ i + 6 ≤ L) (hX : RX S M) (hM : RM S M) (nx : ∀ S' M', RX S' M' → RM S' M' → uL L xs R 1366 [some (.inr (.inr 105)), some (.inr (.inr 0)), some (.inr (.inr 46)), some (.inl i)] [] M') : uL L xs R 574 [some (.inr (.inr 105)), some (.inr (.inr 0)), some (.inr (.inr 46)), some (.inl i)] [] M := by
  have c2 : ∀ (A : Int) (M1 : zM), RX (S) M1 → RM S M1 → A = aPusey S (xs (i + 1)) → zcv (zv 8 (znm tX8_pusey)) [.inr (.inr 46), .inl (xs (i + 1))] M1 (fun v M' => uL L xs R 592 [some (.inr (.inr 105)), some (.inr (.inr 0)), some (.inr (.inr 46)), some (.inl i)] [v, .inl (Int32.ofInt A).toInt] M') := by
    intro A M1 h1 h2 hA
    subst hA
    refine zcvn rfl (y_pusey ⟨M, hX⟩ h2 (hxs _) (fun M2 k1 => ⟨_, rfl, ?_⟩))
    have n := nx _ M2 (RX_cell h1 k1.yf) (RM_yq h2 k1)
    have z := zI32 (Int32.ofInt (aPusey S (xs (i + 1))))
    generalize (Int32.ofInt (aPusey S (xs (i + 1)))).toInt = w at *
    show uL L xs R 592 [some (.inr (.inr 105)), some (.inr (.inr 0)), some (.inr (.inr 46)), some (.inl i)] [.inl w, .inl w] M2
    simp only [↓rL_592, ↓rL_595, ↓rL_596, ↓hL_r, ↓hL_l, ↓reduceIte, zkeep_n, zkeep_i, zkeep_r, zkeep_l, zIR, zLR, List.length_cons, List.length_nil, Nat.reduceAdd, Nat.reduceLeDiff, Nat.reduceEqDiff, Nat.reduceSub, Int.reduceLE, Int.reduceLT, Int.reduceEq, Int.reduceNe, Int.reduceNeg, Int.reduceAdd, Int.reduceSub, Int.reduceMul, Int.reduceToNat, Nat.le_refl, Nat.zero_le, Nat.zero_add, Int.zero_add, Int.add_zero, and_true, true_and, and_false, false_and, not_true_eq_false, not_false_eq_true, eq_self, ne_eq, true_implies, false_implies, implies_true, or_true, true_or, or_false, false_or, reduceCtorEq, Option.some.injEq, Sum.inl.injEq, exists_eq_left', exists_eq_left, zite]
    repeat' (first | with_reducible apply And.intro | with_reducible intro _)
    all_goals first | omega | (exact n) | (exact z.1) | (exact z.2)
  have c1 : zcv (zv 7 (znm tX7_pusey)) [.inr (.inr 0), .inl (xs (i + 1))] M (fun v M' => uL L xs R 583 [some (.inr (.inr 105)), some (.inr (.inr 0)), some (.inr (.inr 46)), some (.inl i)] [v] M') := by
    refine zcvn rfl (x_pusey hX (hxs _) (fun M1 h1 => ⟨_, rfl, ?_⟩))
    have c := c2 _ M1 (RX_qf hX h1) (RM_cell hM h1.xf) rfl
    simp only [↓rL_583, ↓rL_584, ↓rL_585, ↓rL_586, ↓rL_587, ↓rL_588, ↓rL_589, ↓hL_r, ↓hL_l, ↓reduceIte, zkeep_n, zkeep_i, zkeep_r, zkeep_l, zIR, zLR, List.length_cons, List.length_nil, Nat.reduceAdd, Nat.reduceLeDiff, Nat.reduceEqDiff, Nat.reduceSub, Int.reduceLE, Int.reduceLT, Int.reduceEq, Int.reduceNe, Int.reduceNeg, Int.reduceAdd, Int.reduceSub, Int.reduceMul, Int.reduceToNat, Nat.le_refl, Nat.zero_le, Nat.zero_add, Int.zero_add, Int.add_zero, and_true, true_and, and_false, false_and, not_true_eq_false, not_false_eq_true, eq_self, ne_eq, true_implies, false_implies, implies_true, or_true, true_or, or_false, false_or, reduceCtorEq, Option.some.injEq, Sum.inl.injEq, exists_eq_left', exists_eq_left, zite]
    repeat' (first | with_reducible apply And.intro | with_reducible intro _)
    all_goals first | omega | (exact c)
  simp only [↓rL_574, ↓rL_575, ↓rL_576, ↓rL_577, ↓rL_578, ↓rL_579, ↓rL_580, ↓hL_r, ↓hL_l, ↓reduceIte, zkeep_n, zkeep_i, zkeep_r, zkeep_l, zIR, zLR, List.length_cons, List.length_nil, Nat.reduceAdd, Nat.reduceLeDiff, Nat.reduceEqDiff, Nat.reduceSub, Int.reduceLE, Int.reduceLT, Int.reduceEq, Int.reduceNe, Int.reduceNeg, Int.reduceAdd, Int.reduceSub, Int.reduceMul, Int.reduceToNat, Nat.le_refl, Nat.zero_le, Nat.zero_add, Int.zero_add, Int.add_zero, and_true, true_and, and_false, false_and, not_true_eq_false, not_false_eq_true, eq_self, ne_eq, true_implies, false_implies, implies_true, or_true, true_or, or_false, false_or, reduceCtorEq, Option.some.injEq, Sum.inl.injEq, exists_eq_left', exists_eq_left, zite]
  repeat' (first | with_reducible apply And.intro | with_reducible intro _)
  all_goals first | omega | (exact c1)
set_option maxRecDepth 100000 in
set_option maxHeartbeats 4000000 in
theorem law_weaned {L : Nat} {xs : Int → Int} {R : zP} {S M : zM} {i : Int} (hxs : ∀ j, zIR (xs j)) (hi : 0 ≤ i ∧ i + 6 ≤ L) (hX : RX S M) (hM : RM S M) (nx : ∀ S' M', RX S' M' → RM S' M' → uL L xs R 1366 [some (.inr (.inr 105)), some (.inr (.inr 0)), some (.inr (.inr 46)), some (.inl i)] [] M') : uL L xs R 597 [some (.inr (.inr 105)), some (.inr (.inr 0)), some (.inr (.inr 46)), some (.inl i)] [] M := by
  have c2 : ∀ (A : Int) (M1 : zM), RX (S) M1 → RM S M1 → A = aWeaned S  → zcv (zv 8 (znm tX8_weaned)) [.inr (.inr 46)] M1 (fun v M' => uL L xs R 605 [some (.inr (.inr 105)), some (.inr (.inr 0)), some (.inr (.inr 46)), some (.inl i)] [v, .inl (Int32.ofInt A).toInt] M') := by
    intro A M1 h1 h2 hA
    subst hA
    refine zcvn rfl (y_weaned ⟨M, hX⟩ h2  (fun M2 k1 => ⟨_, rfl, ?_⟩))
    have n := nx _ M2 (RX_cell h1 k1.yf) (RM_yq h2 k1)
    have z := zI32 (Int32.ofInt (aWeaned S ))
    generalize (Int32.ofInt (aWeaned S )).toInt = w at *
    show uL L xs R 605 [some (.inr (.inr 105)), some (.inr (.inr 0)), some (.inr (.inr 46)), some (.inl i)] [.inl w, .inl w] M2
    simp only [↓rL_605, ↓rL_608, ↓rL_609, ↓hL_r, ↓hL_l, ↓reduceIte, zkeep_n, zkeep_i, zkeep_r, zkeep_l, zIR, zLR, List.length_cons, List.length_nil, Nat.reduceAdd, Nat.reduceLeDiff, Nat.reduceEqDiff, Nat.reduceSub, Int.reduceLE, Int.reduceLT, Int.reduceEq, Int.reduceNe, Int.reduceNeg, Int.reduceAdd, Int.reduceSub, Int.reduceMul, Int.reduceToNat, Nat.le_refl, Nat.zero_le, Nat.zero_add, Int.zero_add, Int.add_zero, and_true, true_and, and_false, false_and, not_true_eq_false, not_false_eq_true, eq_self, ne_eq, true_implies, false_implies, implies_true, or_true, true_or, or_false, false_or, reduceCtorEq, Option.some.injEq, Sum.inl.injEq, exists_eq_left', exists_eq_left, zite]
    repeat' (first | with_reducible apply And.intro | with_reducible intro _)
    all_goals first | omega | (exact n) | (exact z.1) | (exact z.2)
  have c1 : zcv (zv 7 (znm tX7_weaned)) [.inr (.inr 0)] M (fun v M' => uL L xs R 601 [some (.inr (.inr 105)), some (.inr (.inr 0)), some (.inr (.inr 46)), some (.inl i)] [v] M') := by
    refine zcvn rfl (x_weaned hX  (fun M1 h1 => ⟨_, rfl, ?_⟩))
    have c := c2 _ M1 (RX_qf hX h1) (RM_cell hM h1.xf) rfl
    simp only [↓rL_601, ↓rL_602, ↓hL_r, ↓hL_l, ↓reduceIte, zkeep_n, zkeep_i, zkeep_r, zkeep_l, zIR, zLR, List.length_cons, List.length_nil, Nat.reduceAdd, Nat.reduceLeDiff, Nat.reduceEqDiff, Nat.reduceSub, Int.reduceLE, Int.reduceLT, Int.reduceEq, Int.reduceNe, Int.reduceNeg, Int.reduceAdd, Int.reduceSub, Int.reduceMul, Int.reduceToNat, Nat.le_refl, Nat.zero_le, Nat.zero_add, Int.zero_add, Int.add_zero, and_true, true_and, and_false, false_and, not_true_eq_false, not_false_eq_true, eq_self, ne_eq, true_implies, false_implies, implies_true, or_true, true_or, or_false, false_or, reduceCtorEq, Option.some.injEq, Sum.inl.injEq, exists_eq_left', exists_eq_left, zite]
    repeat' (first | with_reducible apply And.intro | with_reducible intro _)
    all_goals first | omega | (exact c)
  simp only [↓rL_597, ↓rL_598, ↓hL_r, ↓hL_l, ↓reduceIte, zkeep_n, zkeep_i, zkeep_r, zkeep_l, zIR, zLR, List.length_cons, List.length_nil, Nat.reduceAdd, Nat.reduceLeDiff, Nat.reduceEqDiff, Nat.reduceSub, Int.reduceLE, Int.reduceLT, Int.reduceEq, Int.reduceNe, Int.reduceNeg, Int.reduceAdd, Int.reduceSub, Int.reduceMul, Int.reduceToNat, Nat.le_refl, Nat.zero_le, Nat.zero_add, Int.zero_add, Int.add_zero, and_true, true_and, and_false, false_and, not_true_eq_false, not_false_eq_true, eq_self, ne_eq, true_implies, false_implies, implies_true, or_true, true_or, or_false, false_or, reduceCtorEq, Option.some.injEq, Sum.inl.injEq, exists_eq_left', exists_eq_left, zite]
  repeat' (first | with_reducible apply And.intro | with_reducible intro _)
  all_goals first | omega | (exact c1)
set_option maxRecDepth 100000 in
set_option maxHeartbeats 4000000 in
theorem law_says {L : Nat} {xs : Int → Int} {R : zP} {S M : zM} {i : Int} (hxs : ∀ j, zIR (xs j)) (hi : 0 ≤ i ∧ i + 6 ≤ L) (hX : RX S M) (hM : RM S M) (nx : ∀ S' M', RX S' M' → RM S' M' → uL L xs R 1366 [some (.inr (.inr 105)), some (.inr (.inr 0)), some (.inr (.inr 46)), some (.inl i)] [] M') : uL L xs R 610 [some (.inr (.inr 105)), some (.inr (.inr 0)), some (.inr (.inr 46)), some (.inl i)] [] M := by
  have c2 : ∀ (A : Int) (M1 : zM), RX (S) M1 → RM S M1 → A = aSays S (xs (i + 1)) → zcv (zv 8 (znm tX8_says)) [.inr (.inr 46), .inl (xs (i + 1))] M1 (fun v M' => uL L xs R 628 [some (.inr (.inr 105)), some (.inr (.inr 0)), some (.inr (.inr 46)), some (.inl i)] [v, .inl (Int32.ofInt A).toInt] M') := by
    intro A M1 h1 h2 hA
    subst hA
    refine zcvn rfl (y_says ⟨M, hX⟩ h2 (hxs _) (fun M2 k1 => ⟨_, rfl, ?_⟩))
    have n := nx _ M2 (RX_cell h1 k1.yf) (RM_yq h2 k1)
    have z := zI32 (Int32.ofInt (aSays S (xs (i + 1))))
    generalize (Int32.ofInt (aSays S (xs (i + 1)))).toInt = w at *
    show uL L xs R 628 [some (.inr (.inr 105)), some (.inr (.inr 0)), some (.inr (.inr 46)), some (.inl i)] [.inl w, .inl w] M2
    simp only [↓rL_628, ↓rL_631, ↓rL_632, ↓hL_r, ↓hL_l, ↓reduceIte, zkeep_n, zkeep_i, zkeep_r, zkeep_l, zIR, zLR, List.length_cons, List.length_nil, Nat.reduceAdd, Nat.reduceLeDiff, Nat.reduceEqDiff, Nat.reduceSub, Int.reduceLE, Int.reduceLT, Int.reduceEq, Int.reduceNe, Int.reduceNeg, Int.reduceAdd, Int.reduceSub, Int.reduceMul, Int.reduceToNat, Nat.le_refl, Nat.zero_le, Nat.zero_add, Int.zero_add, Int.add_zero, and_true, true_and, and_false, false_and, not_true_eq_false, not_false_eq_true, eq_self, ne_eq, true_implies, false_implies, implies_true, or_true, true_or, or_false, false_or, reduceCtorEq, Option.some.injEq, Sum.inl.injEq, exists_eq_left', exists_eq_left, zite]
    repeat' (first | with_reducible apply And.intro | with_reducible intro _)
    all_goals first | omega | (exact n) | (exact z.1) | (exact z.2)
  have c1 : zcv (zv 7 (znm tX7_says)) [.inr (.inr 0), .inl (xs (i + 1))] M (fun v M' => uL L xs R 619 [some (.inr (.inr 105)), some (.inr (.inr 0)), some (.inr (.inr 46)), some (.inl i)] [v] M') := by
    refine zcvn rfl (x_says hX (hxs _) (fun M1 h1 => ⟨_, rfl, ?_⟩))
    have c := c2 _ M1 (RX_qf hX h1) (RM_cell hM h1.xf) rfl
    simp only [↓rL_619, ↓rL_620, ↓rL_621, ↓rL_622, ↓rL_623, ↓rL_624, ↓rL_625, ↓hL_r, ↓hL_l, ↓reduceIte, zkeep_n, zkeep_i, zkeep_r, zkeep_l, zIR, zLR, List.length_cons, List.length_nil, Nat.reduceAdd, Nat.reduceLeDiff, Nat.reduceEqDiff, Nat.reduceSub, Int.reduceLE, Int.reduceLT, Int.reduceEq, Int.reduceNe, Int.reduceNeg, Int.reduceAdd, Int.reduceSub, Int.reduceMul, Int.reduceToNat, Nat.le_refl, Nat.zero_le, Nat.zero_add, Int.zero_add, Int.add_zero, and_true, true_and, and_false, false_and, not_true_eq_false, not_false_eq_true, eq_self, ne_eq, true_implies, false_implies, implies_true, or_true, true_or, or_false, false_or, reduceCtorEq, Option.some.injEq, Sum.inl.injEq, exists_eq_left', exists_eq_left, zite]
    repeat' (first | with_reducible apply And.intro | with_reducible intro _)
    all_goals first | omega | (exact c)
  simp only [↓rL_610, ↓rL_611, ↓rL_612, ↓rL_613, ↓rL_614, ↓rL_615, ↓rL_616, ↓hL_r, ↓hL_l, ↓reduceIte, zkeep_n, zkeep_i, zkeep_r, zkeep_l, zIR, zLR, List.length_cons, List.length_nil, Nat.reduceAdd, Nat.reduceLeDiff, Nat.reduceEqDiff, Nat.reduceSub, Int.reduceLE, Int.reduceLT, Int.reduceEq, Int.reduceNe, Int.reduceNeg, Int.reduceAdd, Int.reduceSub, Int.reduceMul, Int.reduceToNat, Nat.le_refl, Nat.zero_le, Nat.zero_add, Int.zero_add, Int.add_zero, and_true, true_and, and_false, false_and, not_true_eq_false, not_false_eq_true, eq_self, ne_eq, true_implies, false_implies, implies_true, or_true, true_or, or_false, false_or, reduceCtorEq, Option.some.injEq, Sum.inl.injEq, exists_eq_left', exists_eq_left, zite]
  repeat' (first | with_reducible apply And.intro | with_reducible intro _)
  all_goals first | omega | (exact c1)
set_option maxRecDepth 100000 in
set_option maxHeartbeats 4000000 in
theorem law_power {L : Nat} {xs : Int → Int} {R : zP} {S M : zM} {i : Int} (hxs : ∀ j, zIR (xs j)) (hi : 0 ≤ i ∧ i + 6 ≤ L) (hX : RX S M) (hM : RM S M) (nx : ∀ S' M', RX S' M' → RM S' M' → uL L xs R 1366 [some (.inr (.inr 105)), some (.inr (.inr 0)), some (.inr (.inr 46)), some (.inl i)] [] M') : uL L xs R 633 [some (.inr (.inr 105)), some (.inr (.inr 0)), some (.inr (.inr 46)), some (.inl i)] [] M := by
  have c2 : ∀ (A : Int) (M1 : zM), RX (S) M1 → RM S M1 → A = aPower S (xs (i + 1)) (xs (i + 2)) (xs (i + 3)) → zcv (zv 8 (znm tX8_power)) [.inr (.inr 46), .inl (xs (i + 1)), .inl (xs (i + 2)), .inl (xs (i + 3))] M1 (fun v M' => uL L xs R 671 [some (.inr (.inr 105)), some (.inr (.inr 0)), some (.inr (.inr 46)), some (.inl i)] [v, .inr (.inl (Int64.ofInt A).toInt)] M') := by
    intro A M1 h1 h2 hA
    subst hA
    refine zcvn rfl (y_power ⟨M, hX⟩ h2 (hxs _) (hxs _) (hxs _) (fun M2 k1 => ⟨_, rfl, ?_⟩))
    have n := nx _ M2 (RX_cell h1 k1.yf) (RM_yq h2 k1)
    have z := zI64 (Int64.ofInt (aPower S (xs (i + 1)) (xs (i + 2)) (xs (i + 3))))
    generalize (Int64.ofInt (aPower S (xs (i + 1)) (xs (i + 2)) (xs (i + 3)))).toInt = w at *
    have ez : zcmp w w = 0 := by unfold zcmp; rw [if_neg (by omega), if_pos rfl]
    show uL L xs R 671 [some (.inr (.inr 105)), some (.inr (.inr 0)), some (.inr (.inr 46)), some (.inl i)] [.inr (.inl w), .inr (.inl w)] M2
    simp only [↓rL_671, ↓rL_672, ↓rL_675, ↓rL_676, ↓hL_r, ↓hL_l, ↓reduceIte, zkeep_n, zkeep_i, zkeep_r, zkeep_l, zIR, zLR, List.length_cons, List.length_nil, Nat.reduceAdd, Nat.reduceLeDiff, Nat.reduceEqDiff, Nat.reduceSub, Int.reduceLE, Int.reduceLT, Int.reduceEq, Int.reduceNe, Int.reduceNeg, Int.reduceAdd, Int.reduceSub, Int.reduceMul, Int.reduceToNat, Nat.le_refl, Nat.zero_le, Nat.zero_add, Int.zero_add, Int.add_zero, and_true, true_and, and_false, false_and, not_true_eq_false, not_false_eq_true, eq_self, ne_eq, true_implies, false_implies, implies_true, or_true, true_or, or_false, false_or, reduceCtorEq, Option.some.injEq, Sum.inl.injEq, exists_eq_left', exists_eq_left, ez, zite]
    repeat' (first | with_reducible apply And.intro | with_reducible intro _)
    all_goals first | omega | (exact n) | (exact z.1) | (exact z.2)
  have c1 : zcv (zv 7 (znm tX7_power)) [.inr (.inr 0), .inl (xs (i + 1)), .inl (xs (i + 2)), .inl (xs (i + 3))] M (fun v M' => uL L xs R 652 [some (.inr (.inr 105)), some (.inr (.inr 0)), some (.inr (.inr 46)), some (.inl i)] [v] M') := by
    refine zcvn rfl (x_power hX (hxs _) (hxs _) (hxs _) (fun M1 h1 => ⟨_, rfl, ?_⟩))
    have c := c2 _ M1 (RX_qf hX h1) (RM_cell hM h1.xf) rfl
    simp only [↓rL_652, ↓rL_653, ↓rL_654, ↓rL_655, ↓rL_656, ↓rL_657, ↓rL_658, ↓rL_659, ↓rL_660, ↓rL_661, ↓rL_662, ↓rL_663, ↓rL_664, ↓rL_665, ↓rL_666, ↓rL_667, ↓rL_668, ↓hL_r, ↓hL_l, ↓reduceIte, zkeep_n, zkeep_i, zkeep_r, zkeep_l, zIR, zLR, List.length_cons, List.length_nil, Nat.reduceAdd, Nat.reduceLeDiff, Nat.reduceEqDiff, Nat.reduceSub, Int.reduceLE, Int.reduceLT, Int.reduceEq, Int.reduceNe, Int.reduceNeg, Int.reduceAdd, Int.reduceSub, Int.reduceMul, Int.reduceToNat, Nat.le_refl, Nat.zero_le, Nat.zero_add, Int.zero_add, Int.add_zero, and_true, true_and, and_false, false_and, not_true_eq_false, not_false_eq_true, eq_self, ne_eq, true_implies, false_implies, implies_true, or_true, true_or, or_false, false_or, reduceCtorEq, Option.some.injEq, Sum.inl.injEq, exists_eq_left', exists_eq_left, zite]
    repeat' (first | with_reducible apply And.intro | with_reducible intro _)
    all_goals first | omega | (exact c)
  simp only [↓rL_633, ↓rL_634, ↓rL_635, ↓rL_636, ↓rL_637, ↓rL_638, ↓rL_639, ↓rL_640, ↓rL_641, ↓rL_642, ↓rL_643, ↓rL_644, ↓rL_645, ↓rL_646, ↓rL_647, ↓rL_648, ↓rL_649, ↓hL_r, ↓hL_l, ↓reduceIte, zkeep_n, zkeep_i, zkeep_r, zkeep_l, zIR, zLR, List.length_cons, List.length_nil, Nat.reduceAdd, Nat.reduceLeDiff, Nat.reduceEqDiff, Nat.reduceSub, Int.reduceLE, Int.reduceLT, Int.reduceEq, Int.reduceNe, Int.reduceNeg, Int.reduceAdd, Int.reduceSub, Int.reduceMul, Int.reduceToNat, Nat.le_refl, Nat.zero_le, Nat.zero_add, Int.zero_add, Int.add_zero, and_true, true_and, and_false, false_and, not_true_eq_false, not_false_eq_true, eq_self, ne_eq, true_implies, false_implies, implies_true, or_true, true_or, or_false, false_or, reduceCtorEq, Option.some.injEq, Sum.inl.injEq, exists_eq_left', exists_eq_left, zite]
  repeat' (first | with_reducible apply And.intro | with_reducible intro _)
  all_goals first | omega | (exact c1)
set_option maxRecDepth 100000 in
set_option maxHeartbeats 4000000 in
theorem law_rear {L : Nat} {xs : Int → Int} {R : zP} {S M : zM} {i : Int} (hxs : ∀ j, zIR (xs j)) (hi : 0 ≤ i ∧ i + 6 ≤ L) (hX : RX S M) (hM : RM S M) (nx : ∀ S' M', RX S' M' → RM S' M' → uL L xs R 1366 [some (.inr (.inr 105)), some (.inr (.inr 0)), some (.inr (.inr 46)), some (.inl i)] [] M') : uL L xs R 677 [some (.inr (.inr 105)), some (.inr (.inr 0)), some (.inr (.inr 46)), some (.inl i)] [] M := by
  have c2 : ∀ (A : Int) (M1 : zM), RX (S) M1 → RM S M1 → A = aRear S (xs (i + 1)) (xs (i + 2)) (xs (i + 3)) (xs (i + 4)) → zcv (zv 8 (znm tX8_rear)) [.inr (.inr 46), .inl (xs (i + 1)), .inl (xs (i + 2)), .inl (xs (i + 3)), .inl (xs (i + 4))] M1 (fun v M' => uL L xs R 725 [some (.inr (.inr 105)), some (.inr (.inr 0)), some (.inr (.inr 46)), some (.inl i)] [v, .inl (Int32.ofInt A).toInt] M') := by
    intro A M1 h1 h2 hA
    subst hA
    refine zcvn rfl (y_rear ⟨M, hX⟩ h2 (hxs _) (hxs _) (hxs _) (hxs _) (fun M2 k1 => ⟨_, rfl, ?_⟩))
    have n := nx _ M2 (RX_cell h1 k1.yf) (RM_yq h2 k1)
    have z := zI32 (Int32.ofInt (aRear S (xs (i + 1)) (xs (i + 2)) (xs (i + 3)) (xs (i + 4))))
    generalize (Int32.ofInt (aRear S (xs (i + 1)) (xs (i + 2)) (xs (i + 3)) (xs (i + 4)))).toInt = w at *
    show uL L xs R 725 [some (.inr (.inr 105)), some (.inr (.inr 0)), some (.inr (.inr 46)), some (.inl i)] [.inl w, .inl w] M2
    simp only [↓rL_725, ↓rL_728, ↓rL_729, ↓hL_r, ↓hL_l, ↓reduceIte, zkeep_n, zkeep_i, zkeep_r, zkeep_l, zIR, zLR, List.length_cons, List.length_nil, Nat.reduceAdd, Nat.reduceLeDiff, Nat.reduceEqDiff, Nat.reduceSub, Int.reduceLE, Int.reduceLT, Int.reduceEq, Int.reduceNe, Int.reduceNeg, Int.reduceAdd, Int.reduceSub, Int.reduceMul, Int.reduceToNat, Nat.le_refl, Nat.zero_le, Nat.zero_add, Int.zero_add, Int.add_zero, and_true, true_and, and_false, false_and, not_true_eq_false, not_false_eq_true, eq_self, ne_eq, true_implies, false_implies, implies_true, or_true, true_or, or_false, false_or, reduceCtorEq, Option.some.injEq, Sum.inl.injEq, exists_eq_left', exists_eq_left, zite]
    repeat' (first | with_reducible apply And.intro | with_reducible intro _)
    all_goals first | omega | (exact n) | (exact z.1) | (exact z.2)
  have c1 : zcv (zv 7 (znm tX7_rear)) [.inr (.inr 0), .inl (xs (i + 1)), .inl (xs (i + 2)), .inl (xs (i + 3)), .inl (xs (i + 4))] M (fun v M' => uL L xs R 701 [some (.inr (.inr 105)), some (.inr (.inr 0)), some (.inr (.inr 46)), some (.inl i)] [v] M') := by
    refine zcvn rfl (x_rear hX (hxs _) (hxs _) (hxs _) (hxs _) (fun M1 h1 => ⟨_, rfl, ?_⟩))
    have c := c2 _ M1 (RX_qf hX h1) (RM_cell hM h1.xf) rfl
    simp only [↓rL_701, ↓rL_702, ↓rL_703, ↓rL_704, ↓rL_705, ↓rL_706, ↓rL_707, ↓rL_708, ↓rL_709, ↓rL_710, ↓rL_711, ↓rL_712, ↓rL_713, ↓rL_714, ↓rL_715, ↓rL_716, ↓rL_717, ↓rL_718, ↓rL_719, ↓rL_720, ↓rL_721, ↓rL_722, ↓hL_r, ↓hL_l, ↓reduceIte, zkeep_n, zkeep_i, zkeep_r, zkeep_l, zIR, zLR, List.length_cons, List.length_nil, Nat.reduceAdd, Nat.reduceLeDiff, Nat.reduceEqDiff, Nat.reduceSub, Int.reduceLE, Int.reduceLT, Int.reduceEq, Int.reduceNe, Int.reduceNeg, Int.reduceAdd, Int.reduceSub, Int.reduceMul, Int.reduceToNat, Nat.le_refl, Nat.zero_le, Nat.zero_add, Int.zero_add, Int.add_zero, and_true, true_and, and_false, false_and, not_true_eq_false, not_false_eq_true, eq_self, ne_eq, true_implies, false_implies, implies_true, or_true, true_or, or_false, false_or, reduceCtorEq, Option.some.injEq, Sum.inl.injEq, exists_eq_left', exists_eq_left, zite]
    repeat' (first | with_reducible apply And.intro | with_reducible intro _)
    all_goals first | omega | (exact c)
  simp only [↓rL_677, ↓rL_678, ↓rL_679, ↓rL_680, ↓rL_681, ↓rL_682, ↓rL_683, ↓rL_684, ↓rL_685, ↓rL_686, ↓rL_687, ↓rL_688, ↓rL_689, ↓rL_690, ↓rL_691, ↓rL_692, ↓rL_693, ↓rL_694, ↓rL_695, ↓rL_696, ↓rL_697, ↓rL_698, ↓hL_r, ↓hL_l, ↓reduceIte, zkeep_n, zkeep_i, zkeep_r, zkeep_l, zIR, zLR, List.length_cons, List.length_nil, Nat.reduceAdd, Nat.reduceLeDiff, Nat.reduceEqDiff, Nat.reduceSub, Int.reduceLE, Int.reduceLT, Int.reduceEq, Int.reduceNe, Int.reduceNeg, Int.reduceAdd, Int.reduceSub, Int.reduceMul, Int.reduceToNat, Nat.le_refl, Nat.zero_le, Nat.zero_add, Int.zero_add, Int.add_zero, and_true, true_and, and_false, false_and, not_true_eq_false, not_false_eq_true, eq_self, ne_eq, true_implies, false_implies, implies_true, or_true, true_or, or_false, false_or, reduceCtorEq, Option.some.injEq, Sum.inl.injEq, exists_eq_left', exists_eq_left, zite]
  repeat' (first | with_reducible apply And.intro | with_reducible intro _)
  all_goals first | omega | (exact c1)
set_option maxRecDepth 100000 in
set_option maxHeartbeats 4000000 in
theorem law_carry {L : Nat} {xs : Int → Int} {R : zP} {S M : zM} {i : Int} (hxs : ∀ j, zIR (xs j)) (hi : 0 ≤ i ∧ i + 6 ≤ L) (hX : RX S M) (hM : RM S M) (nx : ∀ S' M', RX S' M' → RM S' M' → uL L xs R 1366 [some (.inr (.inr 105)), some (.inr (.inr 0)), some (.inr (.inr 46)), some (.inl i)] [] M') : uL L xs R 730 [some (.inr (.inr 105)), some (.inr (.inr 0)), some (.inr (.inr 46)), some (.inl i)] [] M := by
  have c2 : ∀ (A : Int) (M1 : zM), RX (S) M1 → RM S M1 → A = aCarry S (xs (i + 1)) (xs (i + 2)) (xs (i + 3)) → zcv (zv 8 (znm tX8_carry)) [.inr (.inr 46), .inl (xs (i + 1)), .inl (xs (i + 2)), .inl (xs (i + 3))] M1 (fun v M' => uL L xs R 768 [some (.inr (.inr 105)), some (.inr (.inr 0)), some (.inr (.inr 46)), some (.inl i)] [v, .inl (Int32.ofInt A).toInt] M') := by
    intro A M1 h1 h2 hA
    subst hA
    refine zcvn rfl (y_carry ⟨M, hX⟩ h2 (hxs _) (hxs _) (hxs _) (fun M2 k1 => ⟨_, rfl, ?_⟩))
    have n := nx _ M2 (RX_cell h1 k1.yf) (RM_yq h2 k1)
    have z := zI32 (Int32.ofInt (aCarry S (xs (i + 1)) (xs (i + 2)) (xs (i + 3))))
    generalize (Int32.ofInt (aCarry S (xs (i + 1)) (xs (i + 2)) (xs (i + 3)))).toInt = w at *
    show uL L xs R 768 [some (.inr (.inr 105)), some (.inr (.inr 0)), some (.inr (.inr 46)), some (.inl i)] [.inl w, .inl w] M2
    simp only [↓rL_768, ↓rL_771, ↓rL_772, ↓hL_r, ↓hL_l, ↓reduceIte, zkeep_n, zkeep_i, zkeep_r, zkeep_l, zIR, zLR, List.length_cons, List.length_nil, Nat.reduceAdd, Nat.reduceLeDiff, Nat.reduceEqDiff, Nat.reduceSub, Int.reduceLE, Int.reduceLT, Int.reduceEq, Int.reduceNe, Int.reduceNeg, Int.reduceAdd, Int.reduceSub, Int.reduceMul, Int.reduceToNat, Nat.le_refl, Nat.zero_le, Nat.zero_add, Int.zero_add, Int.add_zero, and_true, true_and, and_false, false_and, not_true_eq_false, not_false_eq_true, eq_self, ne_eq, true_implies, false_implies, implies_true, or_true, true_or, or_false, false_or, reduceCtorEq, Option.some.injEq, Sum.inl.injEq, exists_eq_left', exists_eq_left, zite]
    repeat' (first | with_reducible apply And.intro | with_reducible intro _)
    all_goals first | omega | (exact n) | (exact z.1) | (exact z.2)
  have c1 : zcv (zv 7 (znm tX7_carry)) [.inr (.inr 0), .inl (xs (i + 1)), .inl (xs (i + 2)), .inl (xs (i + 3))] M (fun v M' => uL L xs R 749 [some (.inr (.inr 105)), some (.inr (.inr 0)), some (.inr (.inr 46)), some (.inl i)] [v] M') := by
    refine zcvn rfl (x_carry hX (hxs _) (hxs _) (hxs _) (fun M1 h1 => ⟨_, rfl, ?_⟩))
    have c := c2 _ M1 (RX_qf hX h1) (RM_cell hM h1.xf) rfl
    simp only [↓rL_749, ↓rL_750, ↓rL_751, ↓rL_752, ↓rL_753, ↓rL_754, ↓rL_755, ↓rL_756, ↓rL_757, ↓rL_758, ↓rL_759, ↓rL_760, ↓rL_761, ↓rL_762, ↓rL_763, ↓rL_764, ↓rL_765, ↓hL_r, ↓hL_l, ↓reduceIte, zkeep_n, zkeep_i, zkeep_r, zkeep_l, zIR, zLR, List.length_cons, List.length_nil, Nat.reduceAdd, Nat.reduceLeDiff, Nat.reduceEqDiff, Nat.reduceSub, Int.reduceLE, Int.reduceLT, Int.reduceEq, Int.reduceNe, Int.reduceNeg, Int.reduceAdd, Int.reduceSub, Int.reduceMul, Int.reduceToNat, Nat.le_refl, Nat.zero_le, Nat.zero_add, Int.zero_add, Int.add_zero, and_true, true_and, and_false, false_and, not_true_eq_false, not_false_eq_true, eq_self, ne_eq, true_implies, false_implies, implies_true, or_true, true_or, or_false, false_or, reduceCtorEq, Option.some.injEq, Sum.inl.injEq, exists_eq_left', exists_eq_left, zite]
    repeat' (first | with_reducible apply And.intro | with_reducible intro _)
    all_goals first | omega | (exact c)
  simp only [↓rL_730, ↓rL_731, ↓rL_732, ↓rL_733, ↓rL_734, ↓rL_735, ↓rL_736, ↓rL_737, ↓rL_738, ↓rL_739, ↓rL_740, ↓rL_741, ↓rL_742, ↓rL_743, ↓rL_744, ↓rL_745, ↓rL_746, ↓hL_r, ↓hL_l, ↓reduceIte, zkeep_n, zkeep_i, zkeep_r, zkeep_l, zIR, zLR, List.length_cons, List.length_nil, Nat.reduceAdd, Nat.reduceLeDiff, Nat.reduceEqDiff, Nat.reduceSub, Int.reduceLE, Int.reduceLT, Int.reduceEq, Int.reduceNe, Int.reduceNeg, Int.reduceAdd, Int.reduceSub, Int.reduceMul, Int.reduceToNat, Nat.le_refl, Nat.zero_le, Nat.zero_add, Int.zero_add, Int.add_zero, and_true, true_and, and_false, false_and, not_true_eq_false, not_false_eq_true, eq_self, ne_eq, true_implies, false_implies, implies_true, or_true, true_or, or_false, false_or, reduceCtorEq, Option.some.injEq, Sum.inl.injEq, exists_eq_left', exists_eq_left, zite]
  repeat' (first | with_reducible apply And.intro | with_reducible intro _)
  all_goals first | omega | (exact c1)
set_option maxRecDepth 100000 in
set_option maxHeartbeats 4000000 in
theorem law_spare {L : Nat} {xs : Int → Int} {R : zP} {S M : zM} {i : Int} (hxs : ∀ j, zIR (xs j)) (hi : 0 ≤ i ∧ i + 6 ≤ L) (hX : RX S M) (hM : RM S M) (nx : ∀ S' M', RX S' M' → RM S' M' → uL L xs R 1366 [some (.inr (.inr 105)), some (.inr (.inr 0)), some (.inr (.inr 46)), some (.inl i)] [] M') : uL L xs R 773 [some (.inr (.inr 105)), some (.inr (.inr 0)), some (.inr (.inr 46)), some (.inl i)] [] M := by
  have c2 : ∀ (A : Int) (M1 : zM), RX (S) M1 → RM S M1 → A = aSpare S (xs (i + 1)) → zcv (zv 8 (znm tX8_spare)) [.inr (.inr 46), .inl (xs (i + 1))] M1 (fun v M' => uL L xs R 791 [some (.inr (.inr 105)), some (.inr (.inr 0)), some (.inr (.inr 46)), some (.inl i)] [v, .inl (Int32.ofInt A).toInt] M') := by
    intro A M1 h1 h2 hA
    subst hA
    refine zcvn rfl (y_spare ⟨M, hX⟩ h2 (hxs _) (fun M2 k1 => ⟨_, rfl, ?_⟩))
    have n := nx _ M2 (RX_cell h1 k1.yf) (RM_yq h2 k1)
    have z := zI32 (Int32.ofInt (aSpare S (xs (i + 1))))
    generalize (Int32.ofInt (aSpare S (xs (i + 1)))).toInt = w at *
    show uL L xs R 791 [some (.inr (.inr 105)), some (.inr (.inr 0)), some (.inr (.inr 46)), some (.inl i)] [.inl w, .inl w] M2
    simp only [↓rL_791, ↓rL_794, ↓rL_795, ↓hL_r, ↓hL_l, ↓reduceIte, zkeep_n, zkeep_i, zkeep_r, zkeep_l, zIR, zLR, List.length_cons, List.length_nil, Nat.reduceAdd, Nat.reduceLeDiff, Nat.reduceEqDiff, Nat.reduceSub, Int.reduceLE, Int.reduceLT, Int.reduceEq, Int.reduceNe, Int.reduceNeg, Int.reduceAdd, Int.reduceSub, Int.reduceMul, Int.reduceToNat, Nat.le_refl, Nat.zero_le, Nat.zero_add, Int.zero_add, Int.add_zero, and_true, true_and, and_false, false_and, not_true_eq_false, not_false_eq_true, eq_self, ne_eq, true_implies, false_implies, implies_true, or_true, true_or, or_false, false_or, reduceCtorEq, Option.some.injEq, Sum.inl.injEq, exists_eq_left', exists_eq_left, zite]
    repeat' (first | with_reducible apply And.intro | with_reducible intro _)
    all_goals first | omega | (exact n) | (exact z.1) | (exact z.2)
  have c1 : zcv (zv 7 (znm tX7_spare)) [.inr (.inr 0), .inl (xs (i + 1))] M (fun v M' => uL L xs R 782 [some (.inr (.inr 105)), some (.inr (.inr 0)), some (.inr (.inr 46)), some (.inl i)] [v] M') := by
    refine zcvn rfl (x_spare hX (hxs _) (fun M1 h1 => ⟨_, rfl, ?_⟩))
    have c := c2 _ M1 (RX_qf hX h1) (RM_cell hM h1.xf) rfl
    simp only [↓rL_782, ↓rL_783, ↓rL_784, ↓rL_785, ↓rL_786, ↓rL_787, ↓rL_788, ↓hL_r, ↓hL_l, ↓reduceIte, zkeep_n, zkeep_i, zkeep_r, zkeep_l, zIR, zLR, List.length_cons, List.length_nil, Nat.reduceAdd, Nat.reduceLeDiff, Nat.reduceEqDiff, Nat.reduceSub, Int.reduceLE, Int.reduceLT, Int.reduceEq, Int.reduceNe, Int.reduceNeg, Int.reduceAdd, Int.reduceSub, Int.reduceMul, Int.reduceToNat, Nat.le_refl, Nat.zero_le, Nat.zero_add, Int.zero_add, Int.add_zero, and_true, true_and, and_false, false_and, not_true_eq_false, not_false_eq_true, eq_self, ne_eq, true_implies, false_implies, implies_true, or_true, true_or, or_false, false_or, reduceCtorEq, Option.some.injEq, Sum.inl.injEq, exists_eq_left', exists_eq_left, zite]
    repeat' (first | with_reducible apply And.intro | with_reducible intro _)
    all_goals first | omega | (exact c)
  simp only [↓rL_773, ↓rL_774, ↓rL_775, ↓rL_776, ↓rL_777, ↓rL_778, ↓rL_779, ↓hL_r, ↓hL_l, ↓reduceIte, zkeep_n, zkeep_i, zkeep_r, zkeep_l, zIR, zLR, List.length_cons, List.length_nil, Nat.reduceAdd, Nat.reduceLeDiff, Nat.reduceEqDiff, Nat.reduceSub, Int.reduceLE, Int.reduceLT, Int.reduceEq, Int.reduceNe, Int.reduceNeg, Int.reduceAdd, Int.reduceSub, Int.reduceMul, Int.reduceToNat, Nat.le_refl, Nat.zero_le, Nat.zero_add, Int.zero_add, Int.add_zero, and_true, true_and, and_false, false_and, not_true_eq_false, not_false_eq_true, eq_self, ne_eq, true_implies, false_implies, implies_true, or_true, true_or, or_false, false_or, reduceCtorEq, Option.some.injEq, Sum.inl.injEq, exists_eq_left', exists_eq_left, zite]
  repeat' (first | with_reducible apply And.intro | with_reducible intro _)
  all_goals first | omega | (exact c1)
set_option maxRecDepth 100000 in
set_option maxHeartbeats 4000000 in
theorem law_seen {L : Nat} {xs : Int → Int} {R : zP} {S M : zM} {i : Int} (hxs : ∀ j, zIR (xs j)) (hi : 0 ≤ i ∧ i + 6 ≤ L) (hX : RX S M) (hM : RM S M) (nx : ∀ S' M', RX S' M' → RM S' M' → uL L xs R 1366 [some (.inr (.inr 105)), some (.inr (.inr 0)), some (.inr (.inr 46)), some (.inl i)] [] M') : uL L xs R 796 [some (.inr (.inr 105)), some (.inr (.inr 0)), some (.inr (.inr 46)), some (.inl i)] [] M := by
  have c2 : ∀ (A : Int) (M1 : zM), RX (mSeen S (xs (i + 1)) (xs (i + 2)) (xs (i + 3)) (xs (i + 4))) M1 → RM S M1 → A = aSeen S (xs (i + 1)) (xs (i + 2)) (xs (i + 3)) (xs (i + 4)) → zcv (zv 8 (znm tX8_seen)) [.inr (.inr 46), .inl (xs (i + 1)), .inl (xs (i + 2)), .inl (xs (i + 3)), .inl (xs (i + 4))] M1 (fun v M' => uL L xs R 844 [some (.inr (.inr 105)), some (.inr (.inr 0)), some (.inr (.inr 46)), some (.inl i)] [v, .inl (Int32.ofInt A).toInt] M') := by
    intro A M1 h1 h2 hA
    subst hA
    refine zcvn rfl (y_seen ⟨M, hX⟩ h2 (hxs _) (hxs _) (hxs _) (hxs _) (fun M2 k1 k2 => ⟨_, rfl, ?_⟩))
    have n := nx _ M2 (RX_cell h1 k2) (k1)
    have z := zI32 (Int32.ofInt (aSeen S (xs (i + 1)) (xs (i + 2)) (xs (i + 3)) (xs (i + 4))))
    generalize (Int32.ofInt (aSeen S (xs (i + 1)) (xs (i + 2)) (xs (i + 3)) (xs (i + 4)))).toInt = w at *
    show uL L xs R 844 [some (.inr (.inr 105)), some (.inr (.inr 0)), some (.inr (.inr 46)), some (.inl i)] [.inl w, .inl w] M2
    simp only [↓rL_844, ↓rL_847, ↓rL_848, ↓hL_r, ↓hL_l, ↓reduceIte, zkeep_n, zkeep_i, zkeep_r, zkeep_l, zIR, zLR, List.length_cons, List.length_nil, Nat.reduceAdd, Nat.reduceLeDiff, Nat.reduceEqDiff, Nat.reduceSub, Int.reduceLE, Int.reduceLT, Int.reduceEq, Int.reduceNe, Int.reduceNeg, Int.reduceAdd, Int.reduceSub, Int.reduceMul, Int.reduceToNat, Nat.le_refl, Nat.zero_le, Nat.zero_add, Int.zero_add, Int.add_zero, and_true, true_and, and_false, false_and, not_true_eq_false, not_false_eq_true, eq_self, ne_eq, true_implies, false_implies, implies_true, or_true, true_or, or_false, false_or, reduceCtorEq, Option.some.injEq, Sum.inl.injEq, exists_eq_left', exists_eq_left, zite]
    repeat' (first | with_reducible apply And.intro | with_reducible intro _)
    all_goals first | omega | (exact n) | (exact z.1) | (exact z.2)
  have c1 : zcv (zv 7 (znm tX7_seen)) [.inr (.inr 0), .inl (xs (i + 1)), .inl (xs (i + 2)), .inl (xs (i + 3)), .inl (xs (i + 4))] M (fun v M' => uL L xs R 820 [some (.inr (.inr 105)), some (.inr (.inr 0)), some (.inr (.inr 46)), some (.inl i)] [v] M') := by
    refine zcvn rfl (x_seen hX (hxs _) (hxs _) (hxs _) (hxs _) (fun M1 h1 h2 => ⟨_, rfl, ?_⟩))
    have c := c2 _ M1 h1 (RM_cell hM h2) rfl
    simp only [↓rL_820, ↓rL_821, ↓rL_822, ↓rL_823, ↓rL_824, ↓rL_825, ↓rL_826, ↓rL_827, ↓rL_828, ↓rL_829, ↓rL_830, ↓rL_831, ↓rL_832, ↓rL_833, ↓rL_834, ↓rL_835, ↓rL_836, ↓rL_837, ↓rL_838, ↓rL_839, ↓rL_840, ↓rL_841, ↓hL_r, ↓hL_l, ↓reduceIte, zkeep_n, zkeep_i, zkeep_r, zkeep_l, zIR, zLR, List.length_cons, List.length_nil, Nat.reduceAdd, Nat.reduceLeDiff, Nat.reduceEqDiff, Nat.reduceSub, Int.reduceLE, Int.reduceLT, Int.reduceEq, Int.reduceNe, Int.reduceNeg, Int.reduceAdd, Int.reduceSub, Int.reduceMul, Int.reduceToNat, Nat.le_refl, Nat.zero_le, Nat.zero_add, Int.zero_add, Int.add_zero, and_true, true_and, and_false, false_and, not_true_eq_false, not_false_eq_true, eq_self, ne_eq, true_implies, false_implies, implies_true, or_true, true_or, or_false, false_or, reduceCtorEq, Option.some.injEq, Sum.inl.injEq, exists_eq_left', exists_eq_left, zite]
    repeat' (first | with_reducible apply And.intro | with_reducible intro _)
    all_goals first | omega | (exact c)
  simp only [↓rL_796, ↓rL_797, ↓rL_798, ↓rL_799, ↓rL_800, ↓rL_801, ↓rL_802, ↓rL_803, ↓rL_804, ↓rL_805, ↓rL_806, ↓rL_807, ↓rL_808, ↓rL_809, ↓rL_810, ↓rL_811, ↓rL_812, ↓rL_813, ↓rL_814, ↓rL_815, ↓rL_816, ↓rL_817, ↓hL_r, ↓hL_l, ↓reduceIte, zkeep_n, zkeep_i, zkeep_r, zkeep_l, zIR, zLR, List.length_cons, List.length_nil, Nat.reduceAdd, Nat.reduceLeDiff, Nat.reduceEqDiff, Nat.reduceSub, Int.reduceLE, Int.reduceLT, Int.reduceEq, Int.reduceNe, Int.reduceNeg, Int.reduceAdd, Int.reduceSub, Int.reduceMul, Int.reduceToNat, Nat.le_refl, Nat.zero_le, Nat.zero_add, Int.zero_add, Int.add_zero, and_true, true_and, and_false, false_and, not_true_eq_false, not_false_eq_true, eq_self, ne_eq, true_implies, false_implies, implies_true, or_true, true_or, or_false, false_or, reduceCtorEq, Option.some.injEq, Sum.inl.injEq, exists_eq_left', exists_eq_left, zite]
  repeat' (first | with_reducible apply And.intro | with_reducible intro _)
  all_goals first | omega | (exact c1)
set_option maxRecDepth 100000 in
set_option maxHeartbeats 4000000 in
theorem law_forget {L : Nat} {xs : Int → Int} {R : zP} {S M : zM} {i : Int} (hxs : ∀ j, zIR (xs j)) (hi : 0 ≤ i ∧ i + 6 ≤ L) (hX : RX S M) (hM : RM S M) (nx : ∀ S' M', RX S' M' → RM S' M' → uL L xs R 1366 [some (.inr (.inr 105)), some (.inr (.inr 0)), some (.inr (.inr 46)), some (.inl i)] [] M') : uL L xs R 849 [some (.inr (.inr 105)), some (.inr (.inr 0)), some (.inr (.inr 46)), some (.inl i)] [] M := by
  have c2 : ∀ (A : Int) (M1 : zM), RX (zup S 7 0 0) M1 → RM S M1 → A = S 7 0 → zcv (zv 8 (znm tX8_forget)) [.inr (.inr 46)] M1 (fun v M' => uL L xs R 857 [some (.inr (.inr 105)), some (.inr (.inr 0)), some (.inr (.inr 46)), some (.inl i)] [v, .inl (Int32.ofInt A).toInt] M') := by
    intro A M1 h1 h2 hA
    subst hA
    refine zcvn rfl (y_forget h2 (fun M2 k1 k2 => ⟨_, rfl, ?_⟩))
    have n := nx _ M2 (RX_cell h1 k2) (k1)
    have z := zI32 (Int32.ofInt (S 7 0))
    generalize (Int32.ofInt (S 7 0)).toInt = w at *
    show uL L xs R 857 [some (.inr (.inr 105)), some (.inr (.inr 0)), some (.inr (.inr 46)), some (.inl i)] [.inl w, .inl w] M2
    simp only [↓rL_857, ↓rL_860, ↓rL_861, ↓hL_r, ↓hL_l, ↓reduceIte, zkeep_n, zkeep_i, zkeep_r, zkeep_l, zIR, zLR, List.length_cons, List.length_nil, Nat.reduceAdd, Nat.reduceLeDiff, Nat.reduceEqDiff, Nat.reduceSub, Int.reduceLE, Int.reduceLT, Int.reduceEq, Int.reduceNe, Int.reduceNeg, Int.reduceAdd, Int.reduceSub, Int.reduceMul, Int.reduceToNat, Nat.le_refl, Nat.zero_le, Nat.zero_add, Int.zero_add, Int.add_zero, and_true, true_and, and_false, false_and, not_true_eq_false, not_false_eq_true, eq_self, ne_eq, true_implies, false_implies, implies_true, or_true, true_or, or_false, false_or, reduceCtorEq, Option.some.injEq, Sum.inl.injEq, exists_eq_left', exists_eq_left, zite]
    repeat' (first | with_reducible apply And.intro | with_reducible intro _)
    all_goals first | omega | (exact n) | (exact z.1) | (exact z.2)
  have c1 : zcv (zv 7 (znm tX7_forget)) [.inr (.inr 0)] M (fun v M' => uL L xs R 853 [some (.inr (.inr 105)), some (.inr (.inr 0)), some (.inr (.inr 46)), some (.inl i)] [v] M') := by
    refine zcvn rfl (x_forget hX  (fun M1 h1 h2 => ⟨_, rfl, ?_⟩))
    have c := c2 _ M1 h1 (RM_cell hM h2) rfl
    simp only [↓rL_853, ↓rL_854, ↓hL_r, ↓hL_l, ↓reduceIte, zkeep_n, zkeep_i, zkeep_r, zkeep_l, zIR, zLR, List.length_cons, List.length_nil, Nat.reduceAdd, Nat.reduceLeDiff, Nat.reduceEqDiff, Nat.reduceSub, Int.reduceLE, Int.reduceLT, Int.reduceEq, Int.reduceNe, Int.reduceNeg, Int.reduceAdd, Int.reduceSub, Int.reduceMul, Int.reduceToNat, Nat.le_refl, Nat.zero_le, Nat.zero_add, Int.zero_add, Int.add_zero, and_true, true_and, and_false, false_and, not_true_eq_false, not_false_eq_true, eq_self, ne_eq, true_implies, false_implies, implies_true, or_true, true_or, or_false, false_or, reduceCtorEq, Option.some.injEq, Sum.inl.injEq, exists_eq_left', exists_eq_left, zite]
    repeat' (first | with_reducible apply And.intro | with_reducible intro _)
    all_goals first | omega | (exact c)
  simp only [↓rL_849, ↓rL_850, ↓hL_r, ↓hL_l, ↓reduceIte, zkeep_n, zkeep_i, zkeep_r, zkeep_l, zIR, zLR, List.length_cons, List.length_nil, Nat.reduceAdd, Nat.reduceLeDiff, Nat.reduceEqDiff, Nat.reduceSub, Int.reduceLE, Int.reduceLT, Int.reduceEq, Int.reduceNe, Int.reduceNeg, Int.reduceAdd, Int.reduceSub, Int.reduceMul, Int.reduceToNat, Nat.le_refl, Nat.zero_le, Nat.zero_add, Int.zero_add, Int.add_zero, and_true, true_and, and_false, false_and, not_true_eq_false, not_false_eq_true, eq_self, ne_eq, true_implies, false_implies, implies_true, or_true, true_or, or_false, false_or, reduceCtorEq, Option.some.injEq, Sum.inl.injEq, exists_eq_left', exists_eq_left, zite]
  repeat' (first | with_reducible apply And.intro | with_reducible intro _)
  all_goals first | omega | (exact c1)
set_option maxRecDepth 100000 in
set_option maxHeartbeats 4000000 in
theorem law_never {L : Nat} {xs : Int → Int} {R : zP} {S M : zM} {i : Int} (hxs : ∀ j, zIR (xs j)) (hi : 0 ≤ i ∧ i + 6 ≤ L) (hX : RX S M) (hM : RM S M) (nx : ∀ S' M', RX S' M' → RM S' M' → uL L xs R 1366 [some (.inr (.inr 105)), some (.inr (.inr 0)), some (.inr (.inr 46)), some (.inl i)] [] M') : uL L xs R 862 [some (.inr (.inr 105)), some (.inr (.inr 0)), some (.inr (.inr 46)), some (.inl i)] [] M := by
  have c2 : ∀ (A : Int) (M1 : zM), RX (S) M1 → RM S M1 → A = aNever S  → zcv (zv 8 (znm tX8_never)) [.inr (.inr 46)] M1 (fun v M' => uL L xs R 870 [some (.inr (.inr 105)), some (.inr (.inr 0)), some (.inr (.inr 46)), some (.inl i)] [v, .inl (Int32.ofInt A).toInt] M') := by
    intro A M1 h1 h2 hA
    subst hA
    refine zcvn rfl (y_never ⟨M, hX⟩ h2  (fun M2 k1 => ⟨_, rfl, ?_⟩))
    have n := nx _ M2 (RX_cell h1 k1.yf) (RM_yq h2 k1)
    have z := zI32 (Int32.ofInt (aNever S ))
    generalize (Int32.ofInt (aNever S )).toInt = w at *
    show uL L xs R 870 [some (.inr (.inr 105)), some (.inr (.inr 0)), some (.inr (.inr 46)), some (.inl i)] [.inl w, .inl w] M2
    simp only [↓rL_870, ↓rL_873, ↓rL_874, ↓hL_r, ↓hL_l, ↓reduceIte, zkeep_n, zkeep_i, zkeep_r, zkeep_l, zIR, zLR, List.length_cons, List.length_nil, Nat.reduceAdd, Nat.reduceLeDiff, Nat.reduceEqDiff, Nat.reduceSub, Int.reduceLE, Int.reduceLT, Int.reduceEq, Int.reduceNe, Int.reduceNeg, Int.reduceAdd, Int.reduceSub, Int.reduceMul, Int.reduceToNat, Nat.le_refl, Nat.zero_le, Nat.zero_add, Int.zero_add, Int.add_zero, and_true, true_and, and_false, false_and, not_true_eq_false, not_false_eq_true, eq_self, ne_eq, true_implies, false_implies, implies_true, or_true, true_or, or_false, false_or, reduceCtorEq, Option.some.injEq, Sum.inl.injEq, exists_eq_left', exists_eq_left, zite]
    repeat' (first | with_reducible apply And.intro | with_reducible intro _)
    all_goals first | omega | (exact n) | (exact z.1) | (exact z.2)
  have c1 : zcv (zv 7 (znm tX7_never)) [.inr (.inr 0)] M (fun v M' => uL L xs R 866 [some (.inr (.inr 105)), some (.inr (.inr 0)), some (.inr (.inr 46)), some (.inl i)] [v] M') := by
    refine zcvn rfl (x_never hX  (fun M1 h1 => ⟨_, rfl, ?_⟩))
    have c := c2 _ M1 (RX_qf hX h1) (RM_cell hM h1.xf) rfl
    simp only [↓rL_866, ↓rL_867, ↓hL_r, ↓hL_l, ↓reduceIte, zkeep_n, zkeep_i, zkeep_r, zkeep_l, zIR, zLR, List.length_cons, List.length_nil, Nat.reduceAdd, Nat.reduceLeDiff, Nat.reduceEqDiff, Nat.reduceSub, Int.reduceLE, Int.reduceLT, Int.reduceEq, Int.reduceNe, Int.reduceNeg, Int.reduceAdd, Int.reduceSub, Int.reduceMul, Int.reduceToNat, Nat.le_refl, Nat.zero_le, Nat.zero_add, Int.zero_add, Int.add_zero, and_true, true_and, and_false, false_and, not_true_eq_false, not_false_eq_true, eq_self, ne_eq, true_implies, false_implies, implies_true, or_true, true_or, or_false, false_or, reduceCtorEq, Option.some.injEq, Sum.inl.injEq, exists_eq_left', exists_eq_left, zite]
    repeat' (first | with_reducible apply And.intro | with_reducible intro _)
    all_goals first | omega | (exact c)
  simp only [↓rL_862, ↓rL_863, ↓hL_r, ↓hL_l, ↓reduceIte, zkeep_n, zkeep_i, zkeep_r, zkeep_l, zIR, zLR, List.length_cons, List.length_nil, Nat.reduceAdd, Nat.reduceLeDiff, Nat.reduceEqDiff, Nat.reduceSub, Int.reduceLE, Int.reduceLT, Int.reduceEq, Int.reduceNe, Int.reduceNeg, Int.reduceAdd, Int.reduceSub, Int.reduceMul, Int.reduceToNat, Nat.le_refl, Nat.zero_le, Nat.zero_add, Int.zero_add, Int.add_zero, and_true, true_and, and_false, false_and, not_true_eq_false, not_false_eq_true, eq_self, ne_eq, true_implies, false_implies, implies_true, or_true, true_or, or_false, false_or, reduceCtorEq, Option.some.injEq, Sum.inl.injEq, exists_eq_left', exists_eq_left, zite]
  repeat' (first | with_reducible apply And.intro | with_reducible intro _)
  all_goals first | omega | (exact c1)
set_option maxRecDepth 100000 in
set_option maxHeartbeats 4000000 in
theorem law_sort {L : Nat} {xs : Int → Int} {R : zP} {S M : zM} {i : Int} (hxs : ∀ j, zIR (xs j)) (hi : 0 ≤ i ∧ i + 6 ≤ L) (hX : RX S M) (hM : RM S M) (nx : ∀ S' M', RX S' M' → RM S' M' → uL L xs R 1366 [some (.inr (.inr 105)), some (.inr (.inr 0)), some (.inr (.inr 46)), some (.inl i)] [] M') : uL L xs R 875 [some (.inr (.inr 105)), some (.inr (.inr 0)), some (.inr (.inr 46)), some (.inl i)] [] M := by
  have c2 : ∀ (A : Int) (M1 : zM), RX (S) M1 → RM S M1 → A = aSort S (xs (i + 1)) → zcv (zv 8 (znm tX8_sort)) [.inr (.inr 46), .inl (xs (i + 1))] M1 (fun v M' => uL L xs R 893 [some (.inr (.inr 105)), some (.inr (.inr 0)), some (.inr (.inr 46)), some (.inl i)] [v, .inl (Int32.ofInt A).toInt] M') := by
    intro A M1 h1 h2 hA
    subst hA
    refine zcvn rfl (y_sort ⟨M, hX⟩ h2 (hxs _) (fun M2 k1 => ⟨_, rfl, ?_⟩))
    have n := nx _ M2 (RX_cell h1 k1.yf) (RM_yq h2 k1)
    have z := zI32 (Int32.ofInt (aSort S (xs (i + 1))))
    generalize (Int32.ofInt (aSort S (xs (i + 1)))).toInt = w at *
    show uL L xs R 893 [some (.inr (.inr 105)), some (.inr (.inr 0)), some (.inr (.inr 46)), some (.inl i)] [.inl w, .inl w] M2
    simp only [↓rL_893, ↓rL_896, ↓rL_897, ↓hL_r, ↓hL_l, ↓reduceIte, zkeep_n, zkeep_i, zkeep_r, zkeep_l, zIR, zLR, List.length_cons, List.length_nil, Nat.reduceAdd, Nat.reduceLeDiff, Nat.reduceEqDiff, Nat.reduceSub, Int.reduceLE, Int.reduceLT, Int.reduceEq, Int.reduceNe, Int.reduceNeg, Int.reduceAdd, Int.reduceSub, Int.reduceMul, Int.reduceToNat, Nat.le_refl, Nat.zero_le, Nat.zero_add, Int.zero_add, Int.add_zero, and_true, true_and, and_false, false_and, not_true_eq_false, not_false_eq_true, eq_self, ne_eq, true_implies, false_implies, implies_true, or_true, true_or, or_false, false_or, reduceCtorEq, Option.some.injEq, Sum.inl.injEq, exists_eq_left', exists_eq_left, zite]
    repeat' (first | with_reducible apply And.intro | with_reducible intro _)
    all_goals first | omega | (exact n) | (exact z.1) | (exact z.2)
  have c1 : zcv (zv 7 (znm tX7_sort)) [.inr (.inr 0), .inl (xs (i + 1))] M (fun v M' => uL L xs R 884 [some (.inr (.inr 105)), some (.inr (.inr 0)), some (.inr (.inr 46)), some (.inl i)] [v] M') := by
    refine zcvn rfl (x_sort hX (hxs _) (fun M1 h1 => ⟨_, rfl, ?_⟩))
    have c := c2 _ M1 (RX_qf hX h1) (RM_cell hM h1.xf) rfl
    simp only [↓rL_884, ↓rL_885, ↓rL_886, ↓rL_887, ↓rL_888, ↓rL_889, ↓rL_890, ↓hL_r, ↓hL_l, ↓reduceIte, zkeep_n, zkeep_i, zkeep_r, zkeep_l, zIR, zLR, List.length_cons, List.length_nil, Nat.reduceAdd, Nat.reduceLeDiff, Nat.reduceEqDiff, Nat.reduceSub, Int.reduceLE, Int.reduceLT, Int.reduceEq, Int.reduceNe, Int.reduceNeg, Int.reduceAdd, Int.reduceSub, Int.reduceMul, Int.reduceToNat, Nat.le_refl, Nat.zero_le, Nat.zero_add, Int.zero_add, Int.add_zero, and_true, true_and, and_false, false_and, not_true_eq_false, not_false_eq_true, eq_self, ne_eq, true_implies, false_implies, implies_true, or_true, true_or, or_false, false_or, reduceCtorEq, Option.some.injEq, Sum.inl.injEq, exists_eq_left', exists_eq_left, zite]
    repeat' (first | with_reducible apply And.intro | with_reducible intro _)
    all_goals first | omega | (exact c)
  simp only [↓rL_875, ↓rL_876, ↓rL_877, ↓rL_878, ↓rL_879, ↓rL_880, ↓rL_881, ↓hL_r, ↓hL_l, ↓reduceIte, zkeep_n, zkeep_i, zkeep_r, zkeep_l, zIR, zLR, List.length_cons, List.length_nil, Nat.reduceAdd, Nat.reduceLeDiff, Nat.reduceEqDiff, Nat.reduceSub, Int.reduceLE, Int.reduceLT, Int.reduceEq, Int.reduceNe, Int.reduceNeg, Int.reduceAdd, Int.reduceSub, Int.reduceMul, Int.reduceToNat, Nat.le_refl, Nat.zero_le, Nat.zero_add, Int.zero_add, Int.add_zero, and_true, true_and, and_false, false_and, not_true_eq_false, not_false_eq_true, eq_self, ne_eq, true_implies, false_implies, implies_true, or_true, true_or, or_false, false_or, reduceCtorEq, Option.some.injEq, Sum.inl.injEq, exists_eq_left', exists_eq_left, zite]
  repeat' (first | with_reducible apply And.intro | with_reducible intro _)
  all_goals first | omega | (exact c1)
set_option maxRecDepth 100000 in
set_option maxHeartbeats 4000000 in
theorem law_first {L : Nat} {xs : Int → Int} {R : zP} {S M : zM} {i : Int} (hxs : ∀ j, zIR (xs j)) (hi : 0 ≤ i ∧ i + 6 ≤ L) (hX : RX S M) (hM : RM S M) (nx : ∀ S' M', RX S' M' → RM S' M' → uL L xs R 1366 [some (.inr (.inr 105)), some (.inr (.inr 0)), some (.inr (.inr 46)), some (.inl i)] [] M') : uL L xs R 898 [some (.inr (.inr 105)), some (.inr (.inr 0)), some (.inr (.inr 46)), some (.inl i)] [] M := by
  have c2 : ∀ (A : Int) (M1 : zM), RX (S) M1 → RM S M1 → A = aFirst S (xs (i + 1)) (xs (i + 2)) → zcv (zv 8 (znm tX8_first)) [.inr (.inr 46), .inl (xs (i + 1)), .inl (xs (i + 2))] M1 (fun v M' => uL L xs R 926 [some (.inr (.inr 105)), some (.inr (.inr 0)), some (.inr (.inr 46)), some (.inl i)] [v, .inl (Int32.ofInt A).toInt] M') := by
    intro A M1 h1 h2 hA
    subst hA
    refine zcvn rfl (y_first ⟨M, hX⟩ h2 (hxs _) (hxs _) (fun M2 k1 => ⟨_, rfl, ?_⟩))
    have n := nx _ M2 (RX_cell h1 k1.yf) (RM_yq h2 k1)
    have z := zI32 (Int32.ofInt (aFirst S (xs (i + 1)) (xs (i + 2))))
    generalize (Int32.ofInt (aFirst S (xs (i + 1)) (xs (i + 2)))).toInt = w at *
    show uL L xs R 926 [some (.inr (.inr 105)), some (.inr (.inr 0)), some (.inr (.inr 46)), some (.inl i)] [.inl w, .inl w] M2
    simp only [↓rL_926, ↓rL_929, ↓rL_930, ↓hL_r, ↓hL_l, ↓reduceIte, zkeep_n, zkeep_i, zkeep_r, zkeep_l, zIR, zLR, List.length_cons, List.length_nil, Nat.reduceAdd, Nat.reduceLeDiff, Nat.reduceEqDiff, Nat.reduceSub, Int.reduceLE, Int.reduceLT, Int.reduceEq, Int.reduceNe, Int.reduceNeg, Int.reduceAdd, Int.reduceSub, Int.reduceMul, Int.reduceToNat, Nat.le_refl, Nat.zero_le, Nat.zero_add, Int.zero_add, Int.add_zero, and_true, true_and, and_false, false_and, not_true_eq_false, not_false_eq_true, eq_self, ne_eq, true_implies, false_implies, implies_true, or_true, true_or, or_false, false_or, reduceCtorEq, Option.some.injEq, Sum.inl.injEq, exists_eq_left', exists_eq_left, zite]
    repeat' (first | with_reducible apply And.intro | with_reducible intro _)
    all_goals first | omega | (exact n) | (exact z.1) | (exact z.2)
  have c1 : zcv (zv 7 (znm tX7_first)) [.inr (.inr 0), .inl (xs (i + 1)), .inl (xs (i + 2))] M (fun v M' => uL L xs R 912 [some (.inr (.inr 105)), some (.inr (.inr 0)), some (.inr (.inr 46)), some (.inl i)] [v] M') := by
    refine zcvn rfl (x_first hX (hxs _) (hxs _) (fun M1 h1 => ⟨_, rfl, ?_⟩))
    have c := c2 _ M1 (RX_qf hX h1) (RM_cell hM h1.xf) rfl
    simp only [↓rL_912, ↓rL_913, ↓rL_914, ↓rL_915, ↓rL_916, ↓rL_917, ↓rL_918, ↓rL_919, ↓rL_920, ↓rL_921, ↓rL_922, ↓rL_923, ↓hL_r, ↓hL_l, ↓reduceIte, zkeep_n, zkeep_i, zkeep_r, zkeep_l, zIR, zLR, List.length_cons, List.length_nil, Nat.reduceAdd, Nat.reduceLeDiff, Nat.reduceEqDiff, Nat.reduceSub, Int.reduceLE, Int.reduceLT, Int.reduceEq, Int.reduceNe, Int.reduceNeg, Int.reduceAdd, Int.reduceSub, Int.reduceMul, Int.reduceToNat, Nat.le_refl, Nat.zero_le, Nat.zero_add, Int.zero_add, Int.add_zero, and_true, true_and, and_false, false_and, not_true_eq_false, not_false_eq_true, eq_self, ne_eq, true_implies, false_implies, implies_true, or_true, true_or, or_false, false_or, reduceCtorEq, Option.some.injEq, Sum.inl.injEq, exists_eq_left', exists_eq_left, zite]
    repeat' (first | with_reducible apply And.intro | with_reducible intro _)
    all_goals first | omega | (exact c)
  simp only [↓rL_898, ↓rL_899, ↓rL_900, ↓rL_901, ↓rL_902, ↓rL_903, ↓rL_904, ↓rL_905, ↓rL_906, ↓rL_907, ↓rL_908, ↓rL_909, ↓hL_r, ↓hL_l, ↓reduceIte, zkeep_n, zkeep_i, zkeep_r, zkeep_l, zIR, zLR, List.length_cons, List.length_nil, Nat.reduceAdd, Nat.reduceLeDiff, Nat.reduceEqDiff, Nat.reduceSub, Int.reduceLE, Int.reduceLT, Int.reduceEq, Int.reduceNe, Int.reduceNeg, Int.reduceAdd, Int.reduceSub, Int.reduceMul, Int.reduceToNat, Nat.le_refl, Nat.zero_le, Nat.zero_add, Int.zero_add, Int.add_zero, and_true, true_and, and_false, false_and, not_true_eq_false, not_false_eq_true, eq_self, ne_eq, true_implies, false_implies, implies_true, or_true, true_or, or_false, false_or, reduceCtorEq, Option.some.injEq, Sum.inl.injEq, exists_eq_left', exists_eq_left, zite]
  repeat' (first | with_reducible apply And.intro | with_reducible intro _)
  all_goals first | omega | (exact c1)
set_option maxRecDepth 100000 in
set_option maxHeartbeats 4000000 in
theorem law_ask {L : Nat} {xs : Int → Int} {R : zP} {S M : zM} {i : Int} (hxs : ∀ j, zIR (xs j)) (hi : 0 ≤ i ∧ i + 6 ≤ L) (hX : RX S M) (hM : RM S M) (nx : ∀ S' M', RX S' M' → RM S' M' → uL L xs R 1366 [some (.inr (.inr 105)), some (.inr (.inr 0)), some (.inr (.inr 46)), some (.inl i)] [] M') : uL L xs R 931 [some (.inr (.inr 105)), some (.inr (.inr 0)), some (.inr (.inr 46)), some (.inl i)] [] M := by
  have c2 : ∀ (A : Int) (M1 : zM), RX (S) M1 → RM S M1 → A = aAsk S (xs (i + 1)) (xs (i + 2)) → zcv (zv 8 (znm tX8_ask)) [.inr (.inr 46), .inl (xs (i + 1)), .inl (xs (i + 2))] M1 (fun v M' => uL L xs R 959 [some (.inr (.inr 105)), some (.inr (.inr 0)), some (.inr (.inr 46)), some (.inl i)] [v, .inl (Int32.ofInt A).toInt] M') := by
    intro A M1 h1 h2 hA
    subst hA
    refine zcvn rfl (y_ask ⟨M, hX⟩ h2 (hxs _) (hxs _) (fun M2 k1 => ⟨_, rfl, ?_⟩))
    have n := nx _ M2 (RX_cell h1 k1.yf) (RM_yq h2 k1)
    have z := zI32 (Int32.ofInt (aAsk S (xs (i + 1)) (xs (i + 2))))
    generalize (Int32.ofInt (aAsk S (xs (i + 1)) (xs (i + 2)))).toInt = w at *
    show uL L xs R 959 [some (.inr (.inr 105)), some (.inr (.inr 0)), some (.inr (.inr 46)), some (.inl i)] [.inl w, .inl w] M2
    simp only [↓rL_959, ↓rL_962, ↓rL_963, ↓hL_r, ↓hL_l, ↓reduceIte, zkeep_n, zkeep_i, zkeep_r, zkeep_l, zIR, zLR, List.length_cons, List.length_nil, Nat.reduceAdd, Nat.reduceLeDiff, Nat.reduceEqDiff, Nat.reduceSub, Int.reduceLE, Int.reduceLT, Int.reduceEq, Int.reduceNe, Int.reduceNeg, Int.reduceAdd, Int.reduceSub, Int.reduceMul, Int.reduceToNat, Nat.le_refl, Nat.zero_le, Nat.zero_add, Int.zero_add, Int.add_zero, and_true, true_and, and_false, false_and, not_true_eq_false, not_false_eq_true, eq_self, ne_eq, true_implies, false_implies, implies_true, or_true, true_or, or_false, false_or, reduceCtorEq, Option.some.injEq, Sum.inl.injEq, exists_eq_left', exists_eq_left, zite]
    repeat' (first | with_reducible apply And.intro | with_reducible intro _)
    all_goals first | omega | (exact n) | (exact z.1) | (exact z.2)
  have c1 : zcv (zv 7 (znm tX7_ask)) [.inr (.inr 0), .inl (xs (i + 1)), .inl (xs (i + 2))] M (fun v M' => uL L xs R 945 [some (.inr (.inr 105)), some (.inr (.inr 0)), some (.inr (.inr 46)), some (.inl i)] [v] M') := by
    refine zcvn rfl (x_ask hX (hxs _) (hxs _) (fun M1 h1 => ⟨_, rfl, ?_⟩))
    have c := c2 _ M1 (RX_qf hX h1) (RM_cell hM h1.xf) rfl
    simp only [↓rL_945, ↓rL_946, ↓rL_947, ↓rL_948, ↓rL_949, ↓rL_950, ↓rL_951, ↓rL_952, ↓rL_953, ↓rL_954, ↓rL_955, ↓rL_956, ↓hL_r, ↓hL_l, ↓reduceIte, zkeep_n, zkeep_i, zkeep_r, zkeep_l, zIR, zLR, List.length_cons, List.length_nil, Nat.reduceAdd, Nat.reduceLeDiff, Nat.reduceEqDiff, Nat.reduceSub, Int.reduceLE, Int.reduceLT, Int.reduceEq, Int.reduceNe, Int.reduceNeg, Int.reduceAdd, Int.reduceSub, Int.reduceMul, Int.reduceToNat, Nat.le_refl, Nat.zero_le, Nat.zero_add, Int.zero_add, Int.add_zero, and_true, true_and, and_false, false_and, not_true_eq_false, not_false_eq_true, eq_self, ne_eq, true_implies, false_implies, implies_true, or_true, true_or, or_false, false_or, reduceCtorEq, Option.some.injEq, Sum.inl.injEq, exists_eq_left', exists_eq_left, zite]
    repeat' (first | with_reducible apply And.intro | with_reducible intro _)
    all_goals first | omega | (exact c)
  simp only [↓rL_931, ↓rL_932, ↓rL_933, ↓rL_934, ↓rL_935, ↓rL_936, ↓rL_937, ↓rL_938, ↓rL_939, ↓rL_940, ↓rL_941, ↓rL_942, ↓hL_r, ↓hL_l, ↓reduceIte, zkeep_n, zkeep_i, zkeep_r, zkeep_l, zIR, zLR, List.length_cons, List.length_nil, Nat.reduceAdd, Nat.reduceLeDiff, Nat.reduceEqDiff, Nat.reduceSub, Int.reduceLE, Int.reduceLT, Int.reduceEq, Int.reduceNe, Int.reduceNeg, Int.reduceAdd, Int.reduceSub, Int.reduceMul, Int.reduceToNat, Nat.le_refl, Nat.zero_le, Nat.zero_add, Int.zero_add, Int.add_zero, and_true, true_and, and_false, false_and, not_true_eq_false, not_false_eq_true, eq_self, ne_eq, true_implies, false_implies, implies_true, or_true, true_or, or_false, false_or, reduceCtorEq, Option.some.injEq, Sum.inl.injEq, exists_eq_left', exists_eq_left, zite]
  repeat' (first | with_reducible apply And.intro | with_reducible intro _)
  all_goals first | omega | (exact c1)
set_option maxRecDepth 100000 in
set_option maxHeartbeats 4000000 in
theorem law_cream {L : Nat} {xs : Int → Int} {R : zP} {S M : zM} {i : Int} (hxs : ∀ j, zIR (xs j)) (hi : 0 ≤ i ∧ i + 6 ≤ L) (hX : RX S M) (hM : RM S M) (nx : ∀ S' M', RX S' M' → RM S' M' → uL L xs R 1366 [some (.inr (.inr 105)), some (.inr (.inr 0)), some (.inr (.inr 46)), some (.inl i)] [] M') : uL L xs R 964 [some (.inr (.inr 105)), some (.inr (.inr 0)), some (.inr (.inr 46)), some (.inl i)] [] M := by
  have c2 : ∀ (A : Int) (M1 : zM), RX (S) M1 → RM S M1 → A = aCream S (xs (i + 1)) (xs (i + 2)) (xs (i + 3)) (xs (i + 4)) → zcv (zv 8 (znm tX8_cream)) [.inr (.inr 46), .inl (xs (i + 1)), .inl (xs (i + 2)), .inl (xs (i + 3)), .inl (xs (i + 4))] M1 (fun v M' => uL L xs R 1012 [some (.inr (.inr 105)), some (.inr (.inr 0)), some (.inr (.inr 46)), some (.inl i)] [v, .inr (.inl (Int64.ofInt A).toInt)] M') := by
    intro A M1 h1 h2 hA
    subst hA
    refine zcvn rfl (y_cream ⟨M, hX⟩ h2 (hxs _) (hxs _) (hxs _) (hxs _) (fun M2 k1 => ⟨_, rfl, ?_⟩))
    have n := nx _ M2 (RX_cell h1 k1.yf) (RM_yq h2 k1)
    have z := zI64 (Int64.ofInt (aCream S (xs (i + 1)) (xs (i + 2)) (xs (i + 3)) (xs (i + 4))))
    generalize (Int64.ofInt (aCream S (xs (i + 1)) (xs (i + 2)) (xs (i + 3)) (xs (i + 4)))).toInt = w at *
    have ez : zcmp w w = 0 := by unfold zcmp; rw [if_neg (by omega), if_pos rfl]
    show uL L xs R 1012 [some (.inr (.inr 105)), some (.inr (.inr 0)), some (.inr (.inr 46)), some (.inl i)] [.inr (.inl w), .inr (.inl w)] M2
    simp only [↓rL_1012, ↓rL_1013, ↓rL_1016, ↓rL_1017, ↓hL_r, ↓hL_l, ↓reduceIte, zkeep_n, zkeep_i, zkeep_r, zkeep_l, zIR, zLR, List.length_cons, List.length_nil, Nat.reduceAdd, Nat.reduceLeDiff, Nat.reduceEqDiff, Nat.reduceSub, Int.reduceLE, Int.reduceLT, Int.reduceEq, Int.reduceNe, Int.reduceNeg, Int.reduceAdd, Int.reduceSub, Int.reduceMul, Int.reduceToNat, Nat.le_refl, Nat.zero_le, Nat.zero_add, Int.zero_add, Int.add_zero, and_true, true_and, and_false, false_and, not_true_eq_false, not_false_eq_true, eq_self, ne_eq, true_implies, false_implies, implies_true, or_true, true_or, or_false, false_or, reduceCtorEq, Option.some.injEq, Sum.inl.injEq, exists_eq_left', exists_eq_left, ez, zite]
    repeat' (first | with_reducible apply And.intro | with_reducible intro _)
    all_goals first | omega | (exact n) | (exact z.1) | (exact z.2)
  have c1 : zcv (zv 7 (znm tX7_cream)) [.inr (.inr 0), .inl (xs (i + 1)), .inl (xs (i + 2)), .inl (xs (i + 3)), .inl (xs (i + 4))] M (fun v M' => uL L xs R 988 [some (.inr (.inr 105)), some (.inr (.inr 0)), some (.inr (.inr 46)), some (.inl i)] [v] M') := by
    refine zcvn rfl (x_cream hX (hxs _) (hxs _) (hxs _) (hxs _) (fun M1 h1 => ⟨_, rfl, ?_⟩))
    have c := c2 _ M1 (RX_qf hX h1) (RM_cell hM h1.xf) rfl
    simp only [↓rL_988, ↓rL_989, ↓rL_990, ↓rL_991, ↓rL_992, ↓rL_993, ↓rL_994, ↓rL_995, ↓rL_996, ↓rL_997, ↓rL_998, ↓rL_999, ↓rL_1000, ↓rL_1001, ↓rL_1002, ↓rL_1003, ↓rL_1004, ↓rL_1005, ↓rL_1006, ↓rL_1007, ↓rL_1008, ↓rL_1009, ↓hL_r, ↓hL_l, ↓reduceIte, zkeep_n, zkeep_i, zkeep_r, zkeep_l, zIR, zLR, List.length_cons, List.length_nil, Nat.reduceAdd, Nat.reduceLeDiff, Nat.reduceEqDiff, Nat.reduceSub, Int.reduceLE, Int.reduceLT, Int.reduceEq, Int.reduceNe, Int.reduceNeg, Int.reduceAdd, Int.reduceSub, Int.reduceMul, Int.reduceToNat, Nat.le_refl, Nat.zero_le, Nat.zero_add, Int.zero_add, Int.add_zero, and_true, true_and, and_false, false_and, not_true_eq_false, not_false_eq_true, eq_self, ne_eq, true_implies, false_implies, implies_true, or_true, true_or, or_false, false_or, reduceCtorEq, Option.some.injEq, Sum.inl.injEq, exists_eq_left', exists_eq_left, zite]
    repeat' (first | with_reducible apply And.intro | with_reducible intro _)
    all_goals first | omega | (exact c)
  simp only [↓rL_964, ↓rL_965, ↓rL_966, ↓rL_967, ↓rL_968, ↓rL_969, ↓rL_970, ↓rL_971, ↓rL_972, ↓rL_973, ↓rL_974, ↓rL_975, ↓rL_976, ↓rL_977, ↓rL_978, ↓rL_979, ↓rL_980, ↓rL_981, ↓rL_982, ↓rL_983, ↓rL_984, ↓rL_985, ↓hL_r, ↓hL_l, ↓reduceIte, zkeep_n, zkeep_i, zkeep_r, zkeep_l, zIR, zLR, List.length_cons, List.length_nil, Nat.reduceAdd, Nat.reduceLeDiff, Nat.reduceEqDiff, Nat.reduceSub, Int.reduceLE, Int.reduceLT, Int.reduceEq, Int.reduceNe, Int.reduceNeg, Int.reduceAdd, Int.reduceSub, Int.reduceMul, Int.reduceToNat, Nat.le_refl, Nat.zero_le, Nat.zero_add, Int.zero_add, Int.add_zero, and_true, true_and, and_false, false_and, not_true_eq_false, not_false_eq_true, eq_self, ne_eq, true_implies, false_implies, implies_true, or_true, true_or, or_false, false_or, reduceCtorEq, Option.some.injEq, Sum.inl.injEq, exists_eq_left', exists_eq_left, zite]
  repeat' (first | with_reducible apply And.intro | with_reducible intro _)
  all_goals first | omega | (exact c1)
set_option maxRecDepth 100000 in
set_option maxHeartbeats 4000000 in
theorem law_years {L : Nat} {xs : Int → Int} {R : zP} {S M : zM} {i : Int} (hxs : ∀ j, zIR (xs j)) (hi : 0 ≤ i ∧ i + 6 ≤ L) (hX : RX S M) (hM : RM S M) (nx : ∀ S' M', RX S' M' → RM S' M' → uL L xs R 1366 [some (.inr (.inr 105)), some (.inr (.inr 0)), some (.inr (.inr 46)), some (.inl i)] [] M') : uL L xs R 1018 [some (.inr (.inr 105)), some (.inr (.inr 0)), some (.inr (.inr 46)), some (.inl i)] [] M := by
  have c2 : ∀ (A : Int) (M1 : zM), RX (S) M1 → RM S M1 → A = aYears S (xs (i + 1)) (xs (i + 2)) (xs (i + 3)) → zcv (zv 8 (znm tX8_years)) [.inr (.inr 46), .inl (xs (i + 1)), .inl (xs (i + 2)), .inl (xs (i + 3))] M1 (fun v M' => uL L xs R 1056 [some (.inr (.inr 105)), some (.inr (.inr 0)), some (.inr (.inr 46)), some (.inl i)] [v, .inl (Int32.ofInt A).toInt] M') := by
    intro A M1 h1 h2 hA
    subst hA
    refine zcvn rfl (y_years ⟨M, hX⟩ h2 (hxs _) (hxs _) (hxs _) (fun M2 k1 => ⟨_, rfl, ?_⟩))
    have n := nx _ M2 (RX_cell h1 k1.yf) (RM_yq h2 k1)
    have z := zI32 (Int32.ofInt (aYears S (xs (i + 1)) (xs (i + 2)) (xs (i + 3))))
    generalize (Int32.ofInt (aYears S (xs (i + 1)) (xs (i + 2)) (xs (i + 3)))).toInt = w at *
    show uL L xs R 1056 [some (.inr (.inr 105)), some (.inr (.inr 0)), some (.inr (.inr 46)), some (.inl i)] [.inl w, .inl w] M2
    simp only [↓rL_1056, ↓rL_1059, ↓rL_1060, ↓hL_r, ↓hL_l, ↓reduceIte, zkeep_n, zkeep_i, zkeep_r, zkeep_l, zIR, zLR, List.length_cons, List.length_nil, Nat.reduceAdd, Nat.reduceLeDiff, Nat.reduceEqDiff, Nat.reduceSub, Int.reduceLE, Int.reduceLT, Int.reduceEq, Int.reduceNe, Int.reduceNeg, Int.reduceAdd, Int.reduceSub, Int.reduceMul, Int.reduceToNat, Nat.le_refl, Nat.zero_le, Nat.zero_add, Int.zero_add, Int.add_zero, and_true, true_and, and_false, false_and, not_true_eq_false, not_false_eq_true, eq_self, ne_eq, true_implies, false_implies, implies_true, or_true, true_or, or_false, false_or, reduceCtorEq, Option.some.injEq, Sum.inl.injEq, exists_eq_left', exists_eq_left, zite]
    repeat' (first | with_reducible apply And.intro | with_reducible intro _)
    all_goals first | omega | (exact n) | (exact z.1) | (exact z.2)
  have c1 : zcv (zv 7 (znm tX7_years)) [.inr (.inr 0), .inl (xs (i + 1)), .inl (xs (i + 2)), .inl (xs (i + 3))] M (fun v M' => uL L xs R 1037 [some (.inr (.inr 105)), some (.inr (.inr 0)), some (.inr (.inr 46)), some (.inl i)] [v] M') := by
    refine zcvn rfl (x_years hX (hxs _) (hxs _) (hxs _) (fun M1 h1 => ⟨_, rfl, ?_⟩))
    have c := c2 _ M1 (RX_qf hX h1) (RM_cell hM h1.xf) rfl
    simp only [↓rL_1037, ↓rL_1038, ↓rL_1039, ↓rL_1040, ↓rL_1041, ↓rL_1042, ↓rL_1043, ↓rL_1044, ↓rL_1045, ↓rL_1046, ↓rL_1047, ↓rL_1048, ↓rL_1049, ↓rL_1050, ↓rL_1051, ↓rL_1052, ↓rL_1053, ↓hL_r, ↓hL_l, ↓reduceIte, zkeep_n, zkeep_i, zkeep_r, zkeep_l, zIR, zLR, List.length_cons, List.length_nil, Nat.reduceAdd, Nat.reduceLeDiff, Nat.reduceEqDiff, Nat.reduceSub, Int.reduceLE, Int.reduceLT, Int.reduceEq, Int.reduceNe, Int.reduceNeg, Int.reduceAdd, Int.reduceSub, Int.reduceMul, Int.reduceToNat, Nat.le_refl, Nat.zero_le, Nat.zero_add, Int.zero_add, Int.add_zero, and_true, true_and, and_false, false_and, not_true_eq_false, not_false_eq_true, eq_self, ne_eq, true_implies, false_implies, implies_true, or_true, true_or, or_false, false_or, reduceCtorEq, Option.some.injEq, Sum.inl.injEq, exists_eq_left', exists_eq_left, zite]
    repeat' (first | with_reducible apply And.intro | with_reducible intro _)
    all_goals first | omega | (exact c)
  simp only [↓rL_1018, ↓rL_1019, ↓rL_1020, ↓rL_1021, ↓rL_1022, ↓rL_1023, ↓rL_1024, ↓rL_1025, ↓rL_1026, ↓rL_1027, ↓rL_1028, ↓rL_1029, ↓rL_1030, ↓rL_1031, ↓rL_1032, ↓rL_1033, ↓rL_1034, ↓hL_r, ↓hL_l, ↓reduceIte, zkeep_n, zkeep_i, zkeep_r, zkeep_l, zIR, zLR, List.length_cons, List.length_nil, Nat.reduceAdd, Nat.reduceLeDiff, Nat.reduceEqDiff, Nat.reduceSub, Int.reduceLE, Int.reduceLT, Int.reduceEq, Int.reduceNe, Int.reduceNeg, Int.reduceAdd, Int.reduceSub, Int.reduceMul, Int.reduceToNat, Nat.le_refl, Nat.zero_le, Nat.zero_add, Int.zero_add, Int.add_zero, and_true, true_and, and_false, false_and, not_true_eq_false, not_false_eq_true, eq_self, ne_eq, true_implies, false_implies, implies_true, or_true, true_or, or_false, false_or, reduceCtorEq, Option.some.injEq, Sum.inl.injEq, exists_eq_left', exists_eq_left, zite]
  repeat' (first | with_reducible apply And.intro | with_reducible intro _)
  all_goals first | omega | (exact c1)
set_option maxRecDepth 100000 in
set_option maxHeartbeats 4000000 in
theorem law_sheet {L : Nat} {xs : Int → Int} {R : zP} {S M : zM} {i : Int} (hxs : ∀ j, zIR (xs j)) (hi : 0 ≤ i ∧ i + 6 ≤ L) (hX : RX S M) (hM : RM S M) (nx : ∀ S' M', RX S' M' → RM S' M' → uL L xs R 1366 [some (.inr (.inr 105)), some (.inr (.inr 0)), some (.inr (.inr 46)), some (.inl i)] [] M') : uL L xs R 1061 [some (.inr (.inr 105)), some (.inr (.inr 0)), some (.inr (.inr 46)), some (.inl i)] [] M := by
  have c2 : ∀ (A : Int) (M1 : zM), RX (mSheet S (xs (i + 1)) (xs (i + 2)) (xs (i + 3))) M1 → RM S M1 → A = aSheet S (xs (i + 1)) (xs (i + 2)) (xs (i + 3)) → zcv (zv 8 (znm tX8_sheet)) [.inr (.inr 46), .inl (xs (i + 1)), .inl (xs (i + 2)), .inl (xs (i + 3))] M1 (fun v M' => uL L xs R 1099 [some (.inr (.inr 105)), some (.inr (.inr 0)), some (.inr (.inr 46)), some (.inl i)] [v, .inl (Int32.ofInt A).toInt] M') := by
    intro A M1 h1 h2 hA
    subst hA
    refine zcvn rfl (y_sheet ⟨M, hX⟩ h2 (hxs _) (hxs _) (hxs _) (fun M2 k1 k2 => ⟨_, rfl, ?_⟩))
    have n := nx _ M2 (RX_cell h1 k2) (k1)
    have z := zI32 (Int32.ofInt (aSheet S (xs (i + 1)) (xs (i + 2)) (xs (i + 3))))
    generalize (Int32.ofInt (aSheet S (xs (i + 1)) (xs (i + 2)) (xs (i + 3)))).toInt = w at *
    show uL L xs R 1099 [some (.inr (.inr 105)), some (.inr (.inr 0)), some (.inr (.inr 46)), some (.inl i)] [.inl w, .inl w] M2
    simp only [↓rL_1099, ↓rL_1102, ↓rL_1103, ↓hL_r, ↓hL_l, ↓reduceIte, zkeep_n, zkeep_i, zkeep_r, zkeep_l, zIR, zLR, List.length_cons, List.length_nil, Nat.reduceAdd, Nat.reduceLeDiff, Nat.reduceEqDiff, Nat.reduceSub, Int.reduceLE, Int.reduceLT, Int.reduceEq, Int.reduceNe, Int.reduceNeg, Int.reduceAdd, Int.reduceSub, Int.reduceMul, Int.reduceToNat, Nat.le_refl, Nat.zero_le, Nat.zero_add, Int.zero_add, Int.add_zero, and_true, true_and, and_false, false_and, not_true_eq_false, not_false_eq_true, eq_self, ne_eq, true_implies, false_implies, implies_true, or_true, true_or, or_false, false_or, reduceCtorEq, Option.some.injEq, Sum.inl.injEq, exists_eq_left', exists_eq_left, zite]
    repeat' (first | with_reducible apply And.intro | with_reducible intro _)
    all_goals first | omega | (exact n) | (exact z.1) | (exact z.2)
  have c1 : zcv (zv 7 (znm tX7_sheet)) [.inr (.inr 0), .inl (xs (i + 1)), .inl (xs (i + 2)), .inl (xs (i + 3))] M (fun v M' => uL L xs R 1080 [some (.inr (.inr 105)), some (.inr (.inr 0)), some (.inr (.inr 46)), some (.inl i)] [v] M') := by
    refine zcvn rfl (x_sheet hX (hxs _) (hxs _) (hxs _) (fun M1 h1 h2 => ⟨_, rfl, ?_⟩))
    have c := c2 _ M1 h1 (RM_cell hM h2) rfl
    simp only [↓rL_1080, ↓rL_1081, ↓rL_1082, ↓rL_1083, ↓rL_1084, ↓rL_1085, ↓rL_1086, ↓rL_1087, ↓rL_1088, ↓rL_1089, ↓rL_1090, ↓rL_1091, ↓rL_1092, ↓rL_1093, ↓rL_1094, ↓rL_1095, ↓rL_1096, ↓hL_r, ↓hL_l, ↓reduceIte, zkeep_n, zkeep_i, zkeep_r, zkeep_l, zIR, zLR, List.length_cons, List.length_nil, Nat.reduceAdd, Nat.reduceLeDiff, Nat.reduceEqDiff, Nat.reduceSub, Int.reduceLE, Int.reduceLT, Int.reduceEq, Int.reduceNe, Int.reduceNeg, Int.reduceAdd, Int.reduceSub, Int.reduceMul, Int.reduceToNat, Nat.le_refl, Nat.zero_le, Nat.zero_add, Int.zero_add, Int.add_zero, and_true, true_and, and_false, false_and, not_true_eq_false, not_false_eq_true, eq_self, ne_eq, true_implies, false_implies, implies_true, or_true, true_or, or_false, false_or, reduceCtorEq, Option.some.injEq, Sum.inl.injEq, exists_eq_left', exists_eq_left, zite]
    repeat' (first | with_reducible apply And.intro | with_reducible intro _)
    all_goals first | omega | (exact c)
  simp only [↓rL_1061, ↓rL_1062, ↓rL_1063, ↓rL_1064, ↓rL_1065, ↓rL_1066, ↓rL_1067, ↓rL_1068, ↓rL_1069, ↓rL_1070, ↓rL_1071, ↓rL_1072, ↓rL_1073, ↓rL_1074, ↓rL_1075, ↓rL_1076, ↓rL_1077, ↓hL_r, ↓hL_l, ↓reduceIte, zkeep_n, zkeep_i, zkeep_r, zkeep_l, zIR, zLR, List.length_cons, List.length_nil, Nat.reduceAdd, Nat.reduceLeDiff, Nat.reduceEqDiff, Nat.reduceSub, Int.reduceLE, Int.reduceLT, Int.reduceEq, Int.reduceNe, Int.reduceNeg, Int.reduceAdd, Int.reduceSub, Int.reduceMul, Int.reduceToNat, Nat.le_refl, Nat.zero_le, Nat.zero_add, Int.zero_add, Int.add_zero, and_true, true_and, and_false, false_and, not_true_eq_false, not_false_eq_true, eq_self, ne_eq, true_implies, false_implies, implies_true, or_true, true_or, or_false, false_or, reduceCtorEq, Option.some.injEq, Sum.inl.injEq, exists_eq_left', exists_eq_left, zite]
  repeat' (first | with_reducible apply And.intro | with_reducible intro _)
  all_goals first | omega | (exact c1)
set_option maxRecDepth 100000 in
set_option maxHeartbeats 4000000 in
theorem law_lose {L : Nat} {xs : Int → Int} {R : zP} {S M : zM} {i : Int} (hxs : ∀ j, zIR (xs j)) (hi : 0 ≤ i ∧ i + 6 ≤ L) (hX : RX S M) (hM : RM S M) (nx : ∀ S' M', RX S' M' → RM S' M' → uL L xs R 1366 [some (.inr (.inr 105)), some (.inr (.inr 0)), some (.inr (.inr 46)), some (.inl i)] [] M') : uL L xs R 1104 [some (.inr (.inr 105)), some (.inr (.inr 0)), some (.inr (.inr 46)), some (.inl i)] [] M := by
  have c2 : ∀ (A : Int) (M1 : zM), RX (mLose S (xs (i + 1))) M1 → RM S M1 → A = aLose S (xs (i + 1)) → zcv (zv 8 (znm tX8_lose)) [.inr (.inr 46), .inl (xs (i + 1))] M1 (fun v M' => uL L xs R 1122 [some (.inr (.inr 105)), some (.inr (.inr 0)), some (.inr (.inr 46)), some (.inl i)] [v, .inl (Int32.ofInt A).toInt] M') := by
    intro A M1 h1 h2 hA
    subst hA
    refine zcvn rfl (y_lose ⟨M, hX⟩ h2 (hxs _) (fun M2 k1 k2 => ⟨_, rfl, ?_⟩))
    have n := nx _ M2 (RX_cell h1 k2) (k1)
    have z := zI32 (Int32.ofInt (aLose S (xs (i + 1))))
    generalize (Int32.ofInt (aLose S (xs (i + 1)))).toInt = w at *
    show uL L xs R 1122 [some (.inr (.inr 105)), some (.inr (.inr 0)), some (.inr (.inr 46)), some (.inl i)] [.inl w, .inl w] M2
    simp only [↓rL_1122, ↓rL_1125, ↓rL_1126, ↓hL_r, ↓hL_l, ↓reduceIte, zkeep_n, zkeep_i, zkeep_r, zkeep_l, zIR, zLR, List.length_cons, List.length_nil, Nat.reduceAdd, Nat.reduceLeDiff, Nat.reduceEqDiff, Nat.reduceSub, Int.reduceLE, Int.reduceLT, Int.reduceEq, Int.reduceNe, Int.reduceNeg, Int.reduceAdd, Int.reduceSub, Int.reduceMul, Int.reduceToNat, Nat.le_refl, Nat.zero_le, Nat.zero_add, Int.zero_add, Int.add_zero, and_true, true_and, and_false, false_and, not_true_eq_false, not_false_eq_true, eq_self, ne_eq, true_implies, false_implies, implies_true, or_true, true_or, or_false, false_or, reduceCtorEq, Option.some.injEq, Sum.inl.injEq, exists_eq_left', exists_eq_left, zite]
    repeat' (first | with_reducible apply And.intro | with_reducible intro _)
    all_goals first | omega | (exact n) | (exact z.1) | (exact z.2)
  have c1 : zcv (zv 7 (znm tX7_lose)) [.inr (.inr 0), .inl (xs (i + 1))] M (fun v M' => uL L xs R 1113 [some (.inr (.inr 105)), some (.inr (.inr 0)), some (.inr (.inr 46)), some (.inl i)] [v] M') := by
    refine zcvn rfl (x_lose hX (hxs _) (fun M1 h1 h2 => ⟨_, rfl, ?_⟩))
    have c := c2 _ M1 h1 (RM_cell hM h2) rfl
    simp only [↓rL_1113, ↓rL_1114, ↓rL_1115, ↓rL_1116, ↓rL_1117, ↓rL_1118, ↓rL_1119, ↓hL_r, ↓hL_l, ↓reduceIte, zkeep_n, zkeep_i, zkeep_r, zkeep_l, zIR, zLR, List.length_cons, List.length_nil, Nat.reduceAdd, Nat.reduceLeDiff, Nat.reduceEqDiff, Nat.reduceSub, Int.reduceLE, Int.reduceLT, Int.reduceEq, Int.reduceNe, Int.reduceNeg, Int.reduceAdd, Int.reduceSub, Int.reduceMul, Int.reduceToNat, Nat.le_refl, Nat.zero_le, Nat.zero_add, Int.zero_add, Int.add_zero, and_true, true_and, and_false, false_and, not_true_eq_false, not_false_eq_true, eq_self, ne_eq, true_implies, false_implies, implies_true, or_true, true_or, or_false, false_or, reduceCtorEq, Option.some.injEq, Sum.inl.injEq, exists_eq_left', exists_eq_left, zite]
    repeat' (first | with_reducible apply And.intro | with_reducible intro _)
    all_goals first | omega | (exact c)
  simp only [↓rL_1104, ↓rL_1105, ↓rL_1106, ↓rL_1107, ↓rL_1108, ↓rL_1109, ↓rL_1110, ↓hL_r, ↓hL_l, ↓reduceIte, zkeep_n, zkeep_i, zkeep_r, zkeep_l, zIR, zLR, List.length_cons, List.length_nil, Nat.reduceAdd, Nat.reduceLeDiff, Nat.reduceEqDiff, Nat.reduceSub, Int.reduceLE, Int.reduceLT, Int.reduceEq, Int.reduceNe, Int.reduceNeg, Int.reduceAdd, Int.reduceSub, Int.reduceMul, Int.reduceToNat, Nat.le_refl, Nat.zero_le, Nat.zero_add, Int.zero_add, Int.add_zero, and_true, true_and, and_false, false_and, not_true_eq_false, not_false_eq_true, eq_self, ne_eq, true_implies, false_implies, implies_true, or_true, true_or, or_false, false_or, reduceCtorEq, Option.some.injEq, Sum.inl.injEq, exists_eq_left', exists_eq_left, zite]
  repeat' (first | with_reducible apply And.intro | with_reducible intro _)
  all_goals first | omega | (exact c1)
set_option maxRecDepth 100000 in
set_option maxHeartbeats 4000000 in
theorem law_put {L : Nat} {xs : Int → Int} {R : zP} {S M : zM} {i : Int} (hxs : ∀ j, zIR (xs j)) (hi : 0 ≤ i ∧ i + 6 ≤ L) (hX : RX S M) (hM : RM S M) (nx : ∀ S' M', RX S' M' → RM S' M' → uL L xs R 1366 [some (.inr (.inr 105)), some (.inr (.inr 0)), some (.inr (.inr 46)), some (.inl i)] [] M') : uL L xs R 1127 [some (.inr (.inr 105)), some (.inr (.inr 0)), some (.inr (.inr 46)), some (.inl i)] [] M := by
  have c2 : ∀ (A : Int) (M1 : zM), RX (mPut S (xs (i + 1)) (xs (i + 2)) (xs (i + 3)) (xs (i + 4))) M1 → RM S M1 → A = aPut S (xs (i + 1)) (xs (i + 2)) (xs (i + 3)) → zcv (zv 8 (znm tX8_put)) [.inr (.inr 46), .inl (xs (i + 1)), .inl (xs (i + 2)), .inl (xs (i + 3)), .inl (xs (i + 4))] M1 (fun v M' => uL L xs R 1175 [some (.inr (.inr 105)), some (.inr (.inr 0)), some (.inr (.inr 46)), some (.inl i)] [v, .inl (Int32.ofInt A).toInt] M') := by
    intro A M1 h1 h2 hA
    subst hA
    refine zcvn rfl (y_put ⟨M, hX⟩ h2 (hxs _) (hxs _) (hxs _) (hxs _) (fun M2 k1 k2 => ⟨_, rfl, ?_⟩))
    have n := nx _ M2 (RX_cell h1 k2) (k1)
    have z := zI32 (Int32.ofInt (aPut S (xs (i + 1)) (xs (i + 2)) (xs (i + 3))))
    generalize (Int32.ofInt (aPut S (xs (i + 1)) (xs (i + 2)) (xs (i + 3)))).toInt = w at *
    show uL L xs R 1175 [some (.inr (.inr 105)), some (.inr (.inr 0)), some (.inr (.inr 46)), some (.inl i)] [.inl w, .inl w] M2
    simp only [↓rL_1175, ↓rL_1178, ↓rL_1179, ↓hL_r, ↓hL_l, ↓reduceIte, zkeep_n, zkeep_i, zkeep_r, zkeep_l, zIR, zLR, List.length_cons, List.length_nil, Nat.reduceAdd, Nat.reduceLeDiff, Nat.reduceEqDiff, Nat.reduceSub, Int.reduceLE, Int.reduceLT, Int.reduceEq, Int.reduceNe, Int.reduceNeg, Int.reduceAdd, Int.reduceSub, Int.reduceMul, Int.reduceToNat, Nat.le_refl, Nat.zero_le, Nat.zero_add, Int.zero_add, Int.add_zero, and_true, true_and, and_false, false_and, not_true_eq_false, not_false_eq_true, eq_self, ne_eq, true_implies, false_implies, implies_true, or_true, true_or, or_false, false_or, reduceCtorEq, Option.some.injEq, Sum.inl.injEq, exists_eq_left', exists_eq_left, zite]
    repeat' (first | with_reducible apply And.intro | with_reducible intro _)
    all_goals first | omega | (exact n) | (exact z.1) | (exact z.2)
  have c1 : zcv (zv 7 (znm tX7_put)) [.inr (.inr 0), .inl (xs (i + 1)), .inl (xs (i + 2)), .inl (xs (i + 3)), .inl (xs (i + 4))] M (fun v M' => uL L xs R 1151 [some (.inr (.inr 105)), some (.inr (.inr 0)), some (.inr (.inr 46)), some (.inl i)] [v] M') := by
    refine zcvn rfl (x_put hX (hxs _) (hxs _) (hxs _) (hxs _) (fun M1 h1 h2 => ⟨_, rfl, ?_⟩))
    have c := c2 _ M1 h1 (RM_cell hM h2) rfl
    simp only [↓rL_1151, ↓rL_1152, ↓rL_1153, ↓rL_1154, ↓rL_1155, ↓rL_1156, ↓rL_1157, ↓rL_1158, ↓rL_1159, ↓rL_1160, ↓rL_1161, ↓rL_1162, ↓rL_1163, ↓rL_1164, ↓rL_1165, ↓rL_1166, ↓rL_1167, ↓rL_1168, ↓rL_1169, ↓rL_1170, ↓rL_1171, ↓rL_1172, ↓hL_r, ↓hL_l, ↓reduceIte, zkeep_n, zkeep_i, zkeep_r, zkeep_l, zIR, zLR, List.length_cons, List.length_nil, Nat.reduceAdd, Nat.reduceLeDiff, Nat.reduceEqDiff, Nat.reduceSub, Int.reduceLE, Int.reduceLT, Int.reduceEq, Int.reduceNe, Int.reduceNeg, Int.reduceAdd, Int.reduceSub, Int.reduceMul, Int.reduceToNat, Nat.le_refl, Nat.zero_le, Nat.zero_add, Int.zero_add, Int.add_zero, and_true, true_and, and_false, false_and, not_true_eq_false, not_false_eq_true, eq_self, ne_eq, true_implies, false_implies, implies_true, or_true, true_or, or_false, false_or, reduceCtorEq, Option.some.injEq, Sum.inl.injEq, exists_eq_left', exists_eq_left, zite]
    repeat' (first | with_reducible apply And.intro | with_reducible intro _)
    all_goals first | omega | (exact c)
  simp only [↓rL_1127, ↓rL_1128, ↓rL_1129, ↓rL_1130, ↓rL_1131, ↓rL_1132, ↓rL_1133, ↓rL_1134, ↓rL_1135, ↓rL_1136, ↓rL_1137, ↓rL_1138, ↓rL_1139, ↓rL_1140, ↓rL_1141, ↓rL_1142, ↓rL_1143, ↓rL_1144, ↓rL_1145, ↓rL_1146, ↓rL_1147, ↓rL_1148, ↓hL_r, ↓hL_l, ↓reduceIte, zkeep_n, zkeep_i, zkeep_r, zkeep_l, zIR, zLR, List.length_cons, List.length_nil, Nat.reduceAdd, Nat.reduceLeDiff, Nat.reduceEqDiff, Nat.reduceSub, Int.reduceLE, Int.reduceLT, Int.reduceEq, Int.reduceNe, Int.reduceNeg, Int.reduceAdd, Int.reduceSub, Int.reduceMul, Int.reduceToNat, Nat.le_refl, Nat.zero_le, Nat.zero_add, Int.zero_add, Int.add_zero, and_true, true_and, and_false, false_and, not_true_eq_false, not_false_eq_true, eq_self, ne_eq, true_implies, false_implies, implies_true, or_true, true_or, or_false, false_or, reduceCtorEq, Option.some.injEq, Sum.inl.injEq, exists_eq_left', exists_eq_left, zite]
  repeat' (first | with_reducible apply And.intro | with_reducible intro _)
  all_goals first | omega | (exact c1)
set_option maxRecDepth 100000 in
set_option maxHeartbeats 4000000 in
theorem law_get {L : Nat} {xs : Int → Int} {R : zP} {S M : zM} {i : Int} (hxs : ∀ j, zIR (xs j)) (hi : 0 ≤ i ∧ i + 6 ≤ L) (hX : RX S M) (hM : RM S M) (nx : ∀ S' M', RX S' M' → RM S' M' → uL L xs R 1366 [some (.inr (.inr 105)), some (.inr (.inr 0)), some (.inr (.inr 46)), some (.inl i)] [] M') : uL L xs R 1180 [some (.inr (.inr 105)), some (.inr (.inr 0)), some (.inr (.inr 46)), some (.inl i)] [] M := by
  have c2 : ∀ (A : Int) (M1 : zM), RX (mGet S (xs (i + 1)) (xs (i + 2)) (xs (i + 3))) M1 → RM S M1 → A = aGet S (xs (i + 1)) (xs (i + 2)) (xs (i + 3)) → zcv (zv 8 (znm tX8_get)) [.inr (.inr 46), .inl (xs (i + 1)), .inl (xs (i + 2)), .inl (xs (i + 3))] M1 (fun v M' => uL L xs R 1218 [some (.inr (.inr 105)), some (.inr (.inr 0)), some (.inr (.inr 46)), some (.inl i)] [v, .inl (Int32.ofInt A).toInt] M') := by
    intro A M1 h1 h2 hA
    subst hA
    refine zcvn rfl (y_get ⟨M, hX⟩ h2 (hxs _) (hxs _) (hxs _) (fun M2 k1 k2 => ⟨_, rfl, ?_⟩))
    have n := nx _ M2 (RX_cell h1 k2) (k1)
    have z := zI32 (Int32.ofInt (aGet S (xs (i + 1)) (xs (i + 2)) (xs (i + 3))))
    generalize (Int32.ofInt (aGet S (xs (i + 1)) (xs (i + 2)) (xs (i + 3)))).toInt = w at *
    show uL L xs R 1218 [some (.inr (.inr 105)), some (.inr (.inr 0)), some (.inr (.inr 46)), some (.inl i)] [.inl w, .inl w] M2
    simp only [↓rL_1218, ↓rL_1221, ↓rL_1222, ↓hL_r, ↓hL_l, ↓reduceIte, zkeep_n, zkeep_i, zkeep_r, zkeep_l, zIR, zLR, List.length_cons, List.length_nil, Nat.reduceAdd, Nat.reduceLeDiff, Nat.reduceEqDiff, Nat.reduceSub, Int.reduceLE, Int.reduceLT, Int.reduceEq, Int.reduceNe, Int.reduceNeg, Int.reduceAdd, Int.reduceSub, Int.reduceMul, Int.reduceToNat, Nat.le_refl, Nat.zero_le, Nat.zero_add, Int.zero_add, Int.add_zero, and_true, true_and, and_false, false_and, not_true_eq_false, not_false_eq_true, eq_self, ne_eq, true_implies, false_implies, implies_true, or_true, true_or, or_false, false_or, reduceCtorEq, Option.some.injEq, Sum.inl.injEq, exists_eq_left', exists_eq_left, zite]
    repeat' (first | with_reducible apply And.intro | with_reducible intro _)
    all_goals first | omega | (exact n) | (exact z.1) | (exact z.2)
  have c1 : zcv (zv 7 (znm tX7_get)) [.inr (.inr 0), .inl (xs (i + 1)), .inl (xs (i + 2)), .inl (xs (i + 3))] M (fun v M' => uL L xs R 1199 [some (.inr (.inr 105)), some (.inr (.inr 0)), some (.inr (.inr 46)), some (.inl i)] [v] M') := by
    refine zcvn rfl (x_get hX (hxs _) (hxs _) (hxs _) (fun M1 h1 h2 => ⟨_, rfl, ?_⟩))
    have c := c2 _ M1 h1 (RM_cell hM h2) rfl
    simp only [↓rL_1199, ↓rL_1200, ↓rL_1201, ↓rL_1202, ↓rL_1203, ↓rL_1204, ↓rL_1205, ↓rL_1206, ↓rL_1207, ↓rL_1208, ↓rL_1209, ↓rL_1210, ↓rL_1211, ↓rL_1212, ↓rL_1213, ↓rL_1214, ↓rL_1215, ↓hL_r, ↓hL_l, ↓reduceIte, zkeep_n, zkeep_i, zkeep_r, zkeep_l, zIR, zLR, List.length_cons, List.length_nil, Nat.reduceAdd, Nat.reduceLeDiff, Nat.reduceEqDiff, Nat.reduceSub, Int.reduceLE, Int.reduceLT, Int.reduceEq, Int.reduceNe, Int.reduceNeg, Int.reduceAdd, Int.reduceSub, Int.reduceMul, Int.reduceToNat, Nat.le_refl, Nat.zero_le, Nat.zero_add, Int.zero_add, Int.add_zero, and_true, true_and, and_false, false_and, not_true_eq_false, not_false_eq_true, eq_self, ne_eq, true_implies, false_implies, implies_true, or_true, true_or, or_false, false_or, reduceCtorEq, Option.some.injEq, Sum.inl.injEq, exists_eq_left', exists_eq_left, zite]
    repeat' (first | with_reducible apply And.intro | with_reducible intro _)
    all_goals first | omega | (exact c)
  simp only [↓rL_1180, ↓rL_1181, ↓rL_1182, ↓rL_1183, ↓rL_1184, ↓rL_1185, ↓rL_1186, ↓rL_1187, ↓rL_1188, ↓rL_1189, ↓rL_1190, ↓rL_1191, ↓rL_1192, ↓rL_1193, ↓rL_1194, ↓rL_1195, ↓rL_1196, ↓hL_r, ↓hL_l, ↓reduceIte, zkeep_n, zkeep_i, zkeep_r, zkeep_l, zIR, zLR, List.length_cons, List.length_nil, Nat.reduceAdd, Nat.reduceLeDiff, Nat.reduceEqDiff, Nat.reduceSub, Int.reduceLE, Int.reduceLT, Int.reduceEq, Int.reduceNe, Int.reduceNeg, Int.reduceAdd, Int.reduceSub, Int.reduceMul, Int.reduceToNat, Nat.le_refl, Nat.zero_le, Nat.zero_add, Int.zero_add, Int.add_zero, and_true, true_and, and_false, false_and, not_true_eq_false, not_false_eq_true, eq_self, ne_eq, true_implies, false_implies, implies_true, or_true, true_or, or_false, false_or, reduceCtorEq, Option.some.injEq, Sum.inl.injEq, exists_eq_left', exists_eq_left, zite]
  repeat' (first | with_reducible apply And.intro | with_reducible intro _)
  all_goals first | omega | (exact c1)
set_option maxRecDepth 100000 in
set_option maxHeartbeats 4000000 in
theorem law_copy {L : Nat} {xs : Int → Int} {R : zP} {S M : zM} {i : Int} (hxs : ∀ j, zIR (xs j)) (hi : 0 ≤ i ∧ i + 6 ≤ L) (hX : RX S M) (hM : RM S M) (nx : ∀ S' M', RX S' M' → RM S' M' → uL L xs R 1366 [some (.inr (.inr 105)), some (.inr (.inr 0)), some (.inr (.inr 46)), some (.inl i)] [] M') : uL L xs R 1223 [some (.inr (.inr 105)), some (.inr (.inr 0)), some (.inr (.inr 46)), some (.inl i)] [] M := by
  have c2 : ∀ (A : Int) (M1 : zM), RX (mCopy S (xs (i + 1)) (xs (i + 2)) (xs (i + 3)) (xs (i + 4)) (xs (i + 5))) M1 → RM S M1 → A = aCopy S (xs (i + 1)) (xs (i + 2)) (xs (i + 3)) (xs (i + 4)) (xs (i + 5)) → zcv (zv 8 (znm tX8_copy)) [.inr (.inr 46), .inl (xs (i + 1)), .inl (xs (i + 2)), .inl (xs (i + 3)), .inl (xs (i + 4)), .inl (xs (i + 5))] M1 (fun v M' => uL L xs R 1281 [some (.inr (.inr 105)), some (.inr (.inr 0)), some (.inr (.inr 46)), some (.inl i)] [v, .inl (Int32.ofInt A).toInt] M') := by
    intro A M1 h1 h2 hA
    subst hA
    refine zcvn rfl (y_copy ⟨M, hX⟩ h2 (hxs _) (hxs _) (hxs _) (hxs _) (hxs _) (fun M2 k1 k2 => ⟨_, rfl, ?_⟩))
    have n := nx _ M2 (RX_cell h1 k2) (k1)
    have z := zI32 (Int32.ofInt (aCopy S (xs (i + 1)) (xs (i + 2)) (xs (i + 3)) (xs (i + 4)) (xs (i + 5))))
    generalize (Int32.ofInt (aCopy S (xs (i + 1)) (xs (i + 2)) (xs (i + 3)) (xs (i + 4)) (xs (i + 5)))).toInt = w at *
    show uL L xs R 1281 [some (.inr (.inr 105)), some (.inr (.inr 0)), some (.inr (.inr 46)), some (.inl i)] [.inl w, .inl w] M2
    simp only [↓rL_1281, ↓rL_1284, ↓rL_1285, ↓hL_r, ↓hL_l, ↓reduceIte, zkeep_n, zkeep_i, zkeep_r, zkeep_l, zIR, zLR, List.length_cons, List.length_nil, Nat.reduceAdd, Nat.reduceLeDiff, Nat.reduceEqDiff, Nat.reduceSub, Int.reduceLE, Int.reduceLT, Int.reduceEq, Int.reduceNe, Int.reduceNeg, Int.reduceAdd, Int.reduceSub, Int.reduceMul, Int.reduceToNat, Nat.le_refl, Nat.zero_le, Nat.zero_add, Int.zero_add, Int.add_zero, and_true, true_and, and_false, false_and, not_true_eq_false, not_false_eq_true, eq_self, ne_eq, true_implies, false_implies, implies_true, or_true, true_or, or_false, false_or, reduceCtorEq, Option.some.injEq, Sum.inl.injEq, exists_eq_left', exists_eq_left, zite]
    repeat' (first | with_reducible apply And.intro | with_reducible intro _)
    all_goals first | omega | (exact n) | (exact z.1) | (exact z.2)
  have c1 : zcv (zv 7 (znm tX7_copy)) [.inr (.inr 0), .inl (xs (i + 1)), .inl (xs (i + 2)), .inl (xs (i + 3)), .inl (xs (i + 4)), .inl (xs (i + 5))] M (fun v M' => uL L xs R 1252 [some (.inr (.inr 105)), some (.inr (.inr 0)), some (.inr (.inr 46)), some (.inl i)] [v] M') := by
    refine zcvn rfl (x_copy hX (hxs _) (hxs _) (hxs _) (hxs _) (hxs _) (fun M1 h1 h2 => ⟨_, rfl, ?_⟩))
    have c := c2 _ M1 h1 (RM_cell hM h2) rfl
    simp only [↓rL_1252, ↓rL_1253, ↓rL_1254, ↓rL_1255, ↓rL_1256, ↓rL_1257, ↓rL_1258, ↓rL_1259, ↓rL_1260, ↓rL_1261, ↓rL_1262, ↓rL_1263, ↓rL_1264, ↓rL_1265, ↓rL_1266, ↓rL_1267, ↓rL_1268, ↓rL_1269, ↓rL_1270, ↓rL_1271, ↓rL_1272, ↓rL_1273, ↓rL_1274, ↓rL_1275, ↓rL_1276, ↓rL_1277, ↓rL_1278, ↓hL_r, ↓hL_l, ↓reduceIte, zkeep_n, zkeep_i, zkeep_r, zkeep_l, zIR, zLR, List.length_cons, List.length_nil, Nat.reduceAdd, Nat.reduceLeDiff, Nat.reduceEqDiff, Nat.reduceSub, Int.reduceLE, Int.reduceLT, Int.reduceEq, Int.reduceNe, Int.reduceNeg, Int.reduceAdd, Int.reduceSub, Int.reduceMul, Int.reduceToNat, Nat.le_refl, Nat.zero_le, Nat.zero_add, Int.zero_add, Int.add_zero, and_true, true_and, and_false, false_and, not_true_eq_false, not_false_eq_true, eq_self, ne_eq, true_implies, false_implies, implies_true, or_true, true_or, or_false, false_or, reduceCtorEq, Option.some.injEq, Sum.inl.injEq, exists_eq_left', exists_eq_left, zite]
    repeat' (first | with_reducible apply And.intro | with_reducible intro _)
    all_goals first | omega | (exact c)
  simp only [↓rL_1223, ↓rL_1224, ↓rL_1225, ↓rL_1226, ↓rL_1227, ↓rL_1228, ↓rL_1229, ↓rL_1230, ↓rL_1231, ↓rL_1232, ↓rL_1233, ↓rL_1234, ↓rL_1235, ↓rL_1236, ↓rL_1237, ↓rL_1238, ↓rL_1239, ↓rL_1240, ↓rL_1241, ↓rL_1242, ↓rL_1243, ↓rL_1244, ↓rL_1245, ↓rL_1246, ↓rL_1247, ↓rL_1248, ↓rL_1249, ↓hL_r, ↓hL_l, ↓reduceIte, zkeep_n, zkeep_i, zkeep_r, zkeep_l, zIR, zLR, List.length_cons, List.length_nil, Nat.reduceAdd, Nat.reduceLeDiff, Nat.reduceEqDiff, Nat.reduceSub, Int.reduceLE, Int.reduceLT, Int.reduceEq, Int.reduceNe, Int.reduceNeg, Int.reduceAdd, Int.reduceSub, Int.reduceMul, Int.reduceToNat, Nat.le_refl, Nat.zero_le, Nat.zero_add, Int.zero_add, Int.add_zero, and_true, true_and, and_false, false_and, not_true_eq_false, not_false_eq_true, eq_self, ne_eq, true_implies, false_implies, implies_true, or_true, true_or, or_false, false_or, reduceCtorEq, Option.some.injEq, Sum.inl.injEq, exists_eq_left', exists_eq_left, zite]
  repeat' (first | with_reducible apply And.intro | with_reducible intro _)
  all_goals first | omega | (exact c1)
set_option maxRecDepth 100000 in
set_option maxHeartbeats 4000000 in
theorem law_write {L : Nat} {xs : Int → Int} {R : zP} {S M : zM} {i : Int} (hxs : ∀ j, zIR (xs j)) (hi : 0 ≤ i ∧ i + 6 ≤ L) (hX : RX S M) (hM : RM S M) (nx : ∀ S' M', RX S' M' → RM S' M' → uL L xs R 1366 [some (.inr (.inr 105)), some (.inr (.inr 0)), some (.inr (.inr 46)), some (.inl i)] [] M') : uL L xs R 1286 [some (.inr (.inr 105)), some (.inr (.inr 0)), some (.inr (.inr 46)), some (.inl i)] [] M := by
  have c2 : ∀ (A : Int) (M1 : zM), RX (mWrite S (xs (i + 1)) (xs (i + 2)) (xs (i + 3))) M1 → RM S M1 → A = aWrite S (xs (i + 1)) (xs (i + 2)) (xs (i + 3)) → zcv (zv 8 (znm tX8_write)) [.inr (.inr 46), .inl (xs (i + 1)), .inl (xs (i + 2)), .inl (xs (i + 3))] M1 (fun v M' => uL L xs R 1324 [some (.inr (.inr 105)), some (.inr (.inr 0)), some (.inr (.inr 46)), some (.inl i)] [v, .inl (Int32.ofInt A).toInt] M') := by
    intro A M1 h1 h2 hA
    subst hA
    refine zcvn rfl (y_write ⟨M, hX⟩ h2 (hxs _) (hxs _) (hxs _) (fun M2 k1 k2 => ⟨_, rfl, ?_⟩))
    have n := nx _ M2 (RX_cell h1 k2) (k1)
    have z := zI32 (Int32.ofInt (aWrite S (xs (i + 1)) (xs (i + 2)) (xs (i + 3))))
    generalize (Int32.ofInt (aWrite S (xs (i + 1)) (xs (i + 2)) (xs (i + 3)))).toInt = w at *
    show uL L xs R 1324 [some (.inr (.inr 105)), some (.inr (.inr 0)), some (.inr (.inr 46)), some (.inl i)] [.inl w, .inl w] M2
    simp only [↓rL_1324, ↓rL_1327, ↓rL_1328, ↓hL_r, ↓hL_l, ↓reduceIte, zkeep_n, zkeep_i, zkeep_r, zkeep_l, zIR, zLR, List.length_cons, List.length_nil, Nat.reduceAdd, Nat.reduceLeDiff, Nat.reduceEqDiff, Nat.reduceSub, Int.reduceLE, Int.reduceLT, Int.reduceEq, Int.reduceNe, Int.reduceNeg, Int.reduceAdd, Int.reduceSub, Int.reduceMul, Int.reduceToNat, Nat.le_refl, Nat.zero_le, Nat.zero_add, Int.zero_add, Int.add_zero, and_true, true_and, and_false, false_and, not_true_eq_false, not_false_eq_true, eq_self, ne_eq, true_implies, false_implies, implies_true, or_true, true_or, or_false, false_or, reduceCtorEq, Option.some.injEq, Sum.inl.injEq, exists_eq_left', exists_eq_left, zite]
    repeat' (first | with_reducible apply And.intro | with_reducible intro _)
    all_goals first | omega | (exact n) | (exact z.1) | (exact z.2)
  have c1 : zcv (zv 7 (znm tX7_write)) [.inr (.inr 0), .inl (xs (i + 1)), .inl (xs (i + 2)), .inl (xs (i + 3))] M (fun v M' => uL L xs R 1305 [some (.inr (.inr 105)), some (.inr (.inr 0)), some (.inr (.inr 46)), some (.inl i)] [v] M') := by
    refine zcvn rfl (x_write hX (hxs _) (hxs _) (hxs _) (fun M1 h1 h2 => ⟨_, rfl, ?_⟩))
    have c := c2 _ M1 h1 (RM_cell hM h2) rfl
    simp only [↓rL_1305, ↓rL_1306, ↓rL_1307, ↓rL_1308, ↓rL_1309, ↓rL_1310, ↓rL_1311, ↓rL_1312, ↓rL_1313, ↓rL_1314, ↓rL_1315, ↓rL_1316, ↓rL_1317, ↓rL_1318, ↓rL_1319, ↓rL_1320, ↓rL_1321, ↓hL_r, ↓hL_l, ↓reduceIte, zkeep_n, zkeep_i, zkeep_r, zkeep_l, zIR, zLR, List.length_cons, List.length_nil, Nat.reduceAdd, Nat.reduceLeDiff, Nat.reduceEqDiff, Nat.reduceSub, Int.reduceLE, Int.reduceLT, Int.reduceEq, Int.reduceNe, Int.reduceNeg, Int.reduceAdd, Int.reduceSub, Int.reduceMul, Int.reduceToNat, Nat.le_refl, Nat.zero_le, Nat.zero_add, Int.zero_add, Int.add_zero, and_true, true_and, and_false, false_and, not_true_eq_false, not_false_eq_true, eq_self, ne_eq, true_implies, false_implies, implies_true, or_true, true_or, or_false, false_or, reduceCtorEq, Option.some.injEq, Sum.inl.injEq, exists_eq_left', exists_eq_left, zite]
    repeat' (first | with_reducible apply And.intro | with_reducible intro _)
    all_goals first | omega | (exact c)
  simp only [↓rL_1286, ↓rL_1287, ↓rL_1288, ↓rL_1289, ↓rL_1290, ↓rL_1291, ↓rL_1292, ↓rL_1293, ↓rL_1294, ↓rL_1295, ↓rL_1296, ↓rL_1297, ↓rL_1298, ↓rL_1299, ↓rL_1300, ↓rL_1301, ↓rL_1302, ↓hL_r, ↓hL_l, ↓reduceIte, zkeep_n, zkeep_i, zkeep_r, zkeep_l, zIR, zLR, List.length_cons, List.length_nil, Nat.reduceAdd, Nat.reduceLeDiff, Nat.reduceEqDiff, Nat.reduceSub, Int.reduceLE, Int.reduceLT, Int.reduceEq, Int.reduceNe, Int.reduceNeg, Int.reduceAdd, Int.reduceSub, Int.reduceMul, Int.reduceToNat, Nat.le_refl, Nat.zero_le, Nat.zero_add, Int.zero_add, Int.add_zero, and_true, true_and, and_false, false_and, not_true_eq_false, not_false_eq_true, eq_self, ne_eq, true_implies, false_implies, implies_true, or_true, true_or, or_false, false_or, reduceCtorEq, Option.some.injEq, Sum.inl.injEq, exists_eq_left', exists_eq_left, zite]
  repeat' (first | with_reducible apply And.intro | with_reducible intro _)
  all_goals first | omega | (exact c1)
set_option maxRecDepth 100000 in
set_option maxHeartbeats 4000000 in
theorem law_count {L : Nat} {xs : Int → Int} {R : zP} {S M : zM} {i : Int} (hxs : ∀ j, zIR (xs j)) (hi : 0 ≤ i ∧ i + 6 ≤ L) (hX : RX S M) (hM : RM S M) (nx : ∀ S' M', RX S' M' → RM S' M' → uL L xs R 1366 [some (.inr (.inr 105)), some (.inr (.inr 0)), some (.inr (.inr 46)), some (.inl i)] [] M') : uL L xs R 1329 [some (.inr (.inr 105)), some (.inr (.inr 0)), some (.inr (.inr 46)), some (.inl i)] [] M := by
  have c2 : ∀ (A : Int) (M1 : zM), RX (S) M1 → RM S M1 → A = aCount S (xs (i + 1)) → zcv (zv 8 (znm tX8_count)) [.inr (.inr 46), .inl (xs (i + 1))] M1 (fun v M' => uL L xs R 1347 [some (.inr (.inr 105)), some (.inr (.inr 0)), some (.inr (.inr 46)), some (.inl i)] [v, .inl (Int32.ofInt A).toInt] M') := by
    intro A M1 h1 h2 hA
    subst hA
    refine zcvn rfl (y_count ⟨M, hX⟩ h2 (hxs _) (fun M2 k1 => ⟨_, rfl, ?_⟩))
    have n := nx _ M2 (RX_cell h1 k1.yf) (RM_yq h2 k1)
    have z := zI32 (Int32.ofInt (aCount S (xs (i + 1))))
    generalize (Int32.ofInt (aCount S (xs (i + 1)))).toInt = w at *
    show uL L xs R 1347 [some (.inr (.inr 105)), some (.inr (.inr 0)), some (.inr (.inr 46)), some (.inl i)] [.inl w, .inl w] M2
    simp only [↓rL_1347, ↓rL_1350, ↓rL_1351, ↓hL_r, ↓hL_l, ↓reduceIte, zkeep_n, zkeep_i, zkeep_r, zkeep_l, zIR, zLR, List.length_cons, List.length_nil, Nat.reduceAdd, Nat.reduceLeDiff, Nat.reduceEqDiff, Nat.reduceSub, Int.reduceLE, Int.reduceLT, Int.reduceEq, Int.reduceNe, Int.reduceNeg, Int.reduceAdd, Int.reduceSub, Int.reduceMul, Int.reduceToNat, Nat.le_refl, Nat.zero_le, Nat.zero_add, Int.zero_add, Int.add_zero, and_true, true_and, and_false, false_and, not_true_eq_false, not_false_eq_true, eq_self, ne_eq, true_implies, false_implies, implies_true, or_true, true_or, or_false, false_or, reduceCtorEq, Option.some.injEq, Sum.inl.injEq, exists_eq_left', exists_eq_left, zite]
    repeat' (first | with_reducible apply And.intro | with_reducible intro _)
    all_goals first | omega | (exact n) | (exact z.1) | (exact z.2)
  have c1 : zcv (zv 7 (znm tX7_count)) [.inr (.inr 0), .inl (xs (i + 1))] M (fun v M' => uL L xs R 1338 [some (.inr (.inr 105)), some (.inr (.inr 0)), some (.inr (.inr 46)), some (.inl i)] [v] M') := by
    refine zcvn rfl (x_count hX (hxs _) (fun M1 h1 => ⟨_, rfl, ?_⟩))
    have c := c2 _ M1 (RX_qf hX h1) (RM_cell hM h1.xf) rfl
    simp only [↓rL_1338, ↓rL_1339, ↓rL_1340, ↓rL_1341, ↓rL_1342, ↓rL_1343, ↓rL_1344, ↓hL_r, ↓hL_l, ↓reduceIte, zkeep_n, zkeep_i, zkeep_r, zkeep_l, zIR, zLR, List.length_cons, List.length_nil, Nat.reduceAdd, Nat.reduceLeDiff, Nat.reduceEqDiff, Nat.reduceSub, Int.reduceLE, Int.reduceLT, Int.reduceEq, Int.reduceNe, Int.reduceNeg, Int.reduceAdd, Int.reduceSub, Int.reduceMul, Int.reduceToNat, Nat.le_refl, Nat.zero_le, Nat.zero_add, Int.zero_add, Int.add_zero, and_true, true_and, and_false, false_and, not_true_eq_false, not_false_eq_true, eq_self, ne_eq, true_implies, false_implies, implies_true, or_true, true_or, or_false, false_or, reduceCtorEq, Option.some.injEq, Sum.inl.injEq, exists_eq_left', exists_eq_left, zite]
    repeat' (first | with_reducible apply And.intro | with_reducible intro _)
    all_goals first | omega | (exact c)
  simp only [↓rL_1329, ↓rL_1330, ↓rL_1331, ↓rL_1332, ↓rL_1333, ↓rL_1334, ↓rL_1335, ↓hL_r, ↓hL_l, ↓reduceIte, zkeep_n, zkeep_i, zkeep_r, zkeep_l, zIR, zLR, List.length_cons, List.length_nil, Nat.reduceAdd, Nat.reduceLeDiff, Nat.reduceEqDiff, Nat.reduceSub, Int.reduceLE, Int.reduceLT, Int.reduceEq, Int.reduceNe, Int.reduceNeg, Int.reduceAdd, Int.reduceSub, Int.reduceMul, Int.reduceToNat, Nat.le_refl, Nat.zero_le, Nat.zero_add, Int.zero_add, Int.add_zero, and_true, true_and, and_false, false_and, not_true_eq_false, not_false_eq_true, eq_self, ne_eq, true_implies, false_implies, implies_true, or_true, true_or, or_false, false_or, reduceCtorEq, Option.some.injEq, Sum.inl.injEq, exists_eq_left', exists_eq_left, zite]
  repeat' (first | with_reducible apply And.intro | with_reducible intro _)
  all_goals first | omega | (exact c1)
set_option maxRecDepth 100000 in
set_option maxHeartbeats 4000000 in
theorem law_digest {L : Nat} {xs : Int → Int} {R : zP} {S M : zM} {i : Int} (hxs : ∀ j, zIR (xs j)) (hi : 0 ≤ i ∧ i + 6 ≤ L) (hX : RX S M) (hM : RM S M) (nx : ∀ S' M', RX S' M' → RM S' M' → uL L xs R 1366 [some (.inr (.inr 105)), some (.inr (.inr 0)), some (.inr (.inr 46)), some (.inl i)] [] M') : uL L xs R 1352 [some (.inr (.inr 105)), some (.inr (.inr 0)), some (.inr (.inr 46)), some (.inl i)] [] M := by
  have c2 : ∀ (A : Int) (M1 : zM), RX (S) M1 → RM S M1 → A = aDigest S  → zcv (zv 8 (znm tX8_digest)) [.inr (.inr 46)] M1 (fun v M' => uL L xs R 1360 [some (.inr (.inr 105)), some (.inr (.inr 0)), some (.inr (.inr 46)), some (.inl i)] [v, .inr (.inl (Int64.ofInt A).toInt)] M') := by
    intro A M1 h1 h2 hA
    subst hA
    refine zcvn rfl (y_digest ⟨M, hX⟩ h2  (fun M2 k1 => ⟨_, rfl, ?_⟩))
    have n := nx _ M2 (RX_cell h1 k1.yf) (RM_yq h2 k1)
    have z := zI64 (Int64.ofInt (aDigest S ))
    generalize (Int64.ofInt (aDigest S )).toInt = w at *
    have ez : zcmp w w = 0 := by unfold zcmp; rw [if_neg (by omega), if_pos rfl]
    show uL L xs R 1360 [some (.inr (.inr 105)), some (.inr (.inr 0)), some (.inr (.inr 46)), some (.inl i)] [.inr (.inl w), .inr (.inl w)] M2
    simp only [↓rL_1360, ↓rL_1361, ↓rL_1364, ↓rL_1365, ↓hL_r, ↓hL_l, ↓reduceIte, zkeep_n, zkeep_i, zkeep_r, zkeep_l, zIR, zLR, List.length_cons, List.length_nil, Nat.reduceAdd, Nat.reduceLeDiff, Nat.reduceEqDiff, Nat.reduceSub, Int.reduceLE, Int.reduceLT, Int.reduceEq, Int.reduceNe, Int.reduceNeg, Int.reduceAdd, Int.reduceSub, Int.reduceMul, Int.reduceToNat, Nat.le_refl, Nat.zero_le, Nat.zero_add, Int.zero_add, Int.add_zero, and_true, true_and, and_false, false_and, not_true_eq_false, not_false_eq_true, eq_self, ne_eq, true_implies, false_implies, implies_true, or_true, true_or, or_false, false_or, reduceCtorEq, Option.some.injEq, Sum.inl.injEq, exists_eq_left', exists_eq_left, ez, zite]
    repeat' (first | with_reducible apply And.intro | with_reducible intro _)
    all_goals first | omega | (exact n) | (exact z.1) | (exact z.2)
  have c1 : zcv (zv 7 (znm tX7_digest)) [.inr (.inr 0)] M (fun v M' => uL L xs R 1356 [some (.inr (.inr 105)), some (.inr (.inr 0)), some (.inr (.inr 46)), some (.inl i)] [v] M') := by
    refine zcvn rfl (x_digest hX  (fun M1 h1 => ⟨_, rfl, ?_⟩))
    have c := c2 _ M1 (RX_qf hX h1) (RM_cell hM h1.xf) rfl
    simp only [↓rL_1356, ↓rL_1357, ↓hL_r, ↓hL_l, ↓reduceIte, zkeep_n, zkeep_i, zkeep_r, zkeep_l, zIR, zLR, List.length_cons, List.length_nil, Nat.reduceAdd, Nat.reduceLeDiff, Nat.reduceEqDiff, Nat.reduceSub, Int.reduceLE, Int.reduceLT, Int.reduceEq, Int.reduceNe, Int.reduceNeg, Int.reduceAdd, Int.reduceSub, Int.reduceMul, Int.reduceToNat, Nat.le_refl, Nat.zero_le, Nat.zero_add, Int.zero_add, Int.add_zero, and_true, true_and, and_false, false_and, not_true_eq_false, not_false_eq_true, eq_self, ne_eq, true_implies, false_implies, implies_true, or_true, true_or, or_false, false_or, reduceCtorEq, Option.some.injEq, Sum.inl.injEq, exists_eq_left', exists_eq_left, zite]
    repeat' (first | with_reducible apply And.intro | with_reducible intro _)
    all_goals first | omega | (exact c)
  simp only [↓rL_1352, ↓rL_1353, ↓hL_r, ↓hL_l, ↓reduceIte, zkeep_n, zkeep_i, zkeep_r, zkeep_l, zIR, zLR, List.length_cons, List.length_nil, Nat.reduceAdd, Nat.reduceLeDiff, Nat.reduceEqDiff, Nat.reduceSub, Int.reduceLE, Int.reduceLT, Int.reduceEq, Int.reduceNe, Int.reduceNeg, Int.reduceAdd, Int.reduceSub, Int.reduceMul, Int.reduceToNat, Nat.le_refl, Nat.zero_le, Nat.zero_add, Int.zero_add, Int.add_zero, and_true, true_and, and_false, false_and, not_true_eq_false, not_false_eq_true, eq_self, ne_eq, true_implies, false_implies, implies_true, or_true, true_or, or_false, false_or, reduceCtorEq, Option.some.injEq, Sum.inl.injEq, exists_eq_left', exists_eq_left, zite]
  repeat' (first | with_reducible apply And.intro | with_reducible intro _)
  all_goals first | omega | (exact c1)
