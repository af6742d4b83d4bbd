set_option maxRecDepth 100000 in
set_option maxHeartbeats 4000000 in
theorem s_fill35 {M : zM} {R : zP} {v : Int} (hR : ∀ M', (∀ k i, k ≠ 35 → M' k i = M k i) → (∀ i, 0 ≤ i → i < 10 → M' 35 i = v) → R none M') : tJ7_fill_53178 [.inr (.inr 35), .inl v] M R := by
  simp only [↓eJ7_fill_53178, ↓rJ7_fill_53178_0, ↓rJ7_fill_53178_1, ↓rJ7_fill_53178_2, ↓rJ7_fill_53178_3, ↓rJ7_fill_53178_4, ↓hl_10, ↓hl_11, ↓hl_13, ↓hl_14, ↓hl_15, ↓hl_16, ↓hl_18, ↓hl_19, ↓hl_2, ↓hl_20, ↓hl_21, ↓hl_24, ↓hl_25, ↓hl_26, ↓hl_28, ↓hl_29, ↓hl_3, ↓hl_30, ↓hl_33, ↓hl_34, ↓hl_35, ↓hl_36, ↓hl_37, ↓hl_39, ↓hl_41, ↓hl_43, ↓hl_45, ↓hl_5, ↓hl_6, ↓hl_8, ↓hl_9, ↓hr_10, ↓hr_11, ↓hr_13, ↓hr_14, ↓hr_15, ↓hr_16, ↓hr_18, ↓hr_19, ↓hr_2, ↓hr_20, ↓hr_21, ↓hr_24, ↓hr_25, ↓hr_26, ↓hr_28, ↓hr_29, ↓hr_3, ↓hr_30, ↓hr_33, ↓hr_34, ↓hr_35, ↓hr_36, ↓hr_37, ↓hr_39, ↓hr_41, ↓hr_43, ↓hr_45, ↓hr_5, ↓hr_6, ↓hr_8, ↓hr_9, ↓hw_10, ↓hw_11, ↓hw_13, ↓hw_14, ↓hw_15, ↓hw_16, ↓hw_18, ↓hw_19, ↓hw_2, ↓hw_20, ↓hw_21, ↓hw_24, ↓hw_25, ↓hw_26, ↓hw_28, ↓hw_29, ↓hw_3, ↓hw_30, ↓hw_33, ↓hw_34, ↓hw_35, ↓hw_36, ↓hw_37, ↓hw_39, ↓hw_41, ↓hw_43, ↓hw_45, ↓hw_5, ↓hw_6, ↓hw_8, ↓hw_9, ↓reduceIte, zkeep_n, zkeep_i, zkeep_r, zkeep_l, zup_eq, zIR, zLR, List.length_cons, List.length_nil, Nat.reduceAdd, Nat.reduceLeDiff, Nat.reduceEqDiff, Nat.reduceSub, Int.reduceLE, Int.reduceLT, Int.reduceEq, Int.reduceNe, Int.reduceNeg, Int.reduceAdd, Int.reduceSub, Int.reduceMul, Int.reduceToNat, Nat.le_refl, Nat.zero_le, Nat.zero_add, Int.zero_add, Int.add_zero, and_true, true_and, and_false, false_and, not_true_eq_false, not_false_eq_true, eq_self, ne_eq, true_implies, false_implies, implies_true, or_true, true_or, or_false, false_or, reduceCtorEq, Option.some.injEq, Sum.inl.injEq, exists_eq_left', exists_eq_left, zite]
  have L : ∀ s : Int × zM, ((0 ≤ s.1 ∧ s.1 ≤ 10) ∧ (∀ k i, k ≠ 35 → s.2 k i = M k i) ∧ (∀ i, 0 ≤ i → i < s.1 → s.2 35 i = v)) → uJ7_fill_53178 R 5 [some (.inr (.inr 35)), some (.inl v), some (.inl s.1), some (.inl 10)] [] s.2 := by
    refine zind (fun s => (10 - s.1).toNat) ?_
    rintro ⟨i, N⟩ ⟨hi, hfr, hv⟩ ih
    simp only at hi hfr hv ih
    refine rJ7_fill_53178_5.mpr ?_
    by_cases he : i = 10
    · have fin := hR N hfr (fun j a b => hv j a (by omega))
      simp only [↓rJ7_fill_53178_6, ↓rJ7_fill_53178_7, ↓rJ7_fill_53178_20, ↓reduceIte, zkeep_n, zkeep_i, zkeep_r, zkeep_l, zup_eq, zIR, zLR, List.length_cons, List.length_nil, Nat.reduceAdd, Nat.reduceLeDiff, Nat.reduceEqDiff, Nat.reduceSub, Int.reduceLE, Int.reduceLT, Int.reduceEq, Int.reduceNe, Int.reduceNeg, Int.reduceAdd, Int.reduceSub, Int.reduceMul, Int.reduceToNat, Nat.le_refl, Nat.zero_le, Nat.zero_add, Int.zero_add, Int.add_zero, and_true, true_and, and_false, false_and, not_true_eq_false, not_false_eq_true, eq_self, ne_eq, true_implies, false_implies, implies_true, or_true, true_or, or_false, false_or, reduceCtorEq, Option.some.injEq, Sum.inl.injEq, exists_eq_left', exists_eq_left, zite]
      repeat' (first | with_reducible apply And.intro | with_reducible intro _)
      all_goals first | omega | (exact fin)
    · have nx := ih (i + 1, zup N 35 i v) ⟨by simp only; omega, fun k j hk => (zup_ne hk).trans (hfr k j hk), fun j a b => ?_⟩ (by simp only; omega)
      · simp only [↓rJ7_fill_53178_6, ↓rJ7_fill_53178_7, ↓rJ7_fill_53178_10, ↓rJ7_fill_53178_11, ↓rJ7_fill_53178_12, ↓rJ7_fill_53178_13, ↓rJ7_fill_53178_14, ↓rJ7_fill_53178_17, ↓hl_10, ↓hl_11, ↓hl_13, ↓hl_14, ↓hl_15, ↓hl_16, ↓hl_18, ↓hl_19, ↓hl_2, ↓hl_20, ↓hl_21, ↓hl_24, ↓hl_25, ↓hl_26, ↓hl_28, ↓hl_29, ↓hl_3, ↓hl_30, ↓hl_33, ↓hl_34, ↓hl_35, ↓hl_36, ↓hl_37, ↓hl_39, ↓hl_41, ↓hl_43, ↓hl_45, ↓hl_5, ↓hl_6, ↓hl_8, ↓hl_9, ↓hr_10, ↓hr_11, ↓hr_13, ↓hr_14, ↓hr_15, ↓hr_16, ↓hr_18, ↓hr_19, ↓hr_2, ↓hr_20, ↓hr_21, ↓hr_24, ↓hr_25, ↓hr_26, ↓hr_28, ↓hr_29, ↓hr_3, ↓hr_30, ↓hr_33, ↓hr_34, ↓hr_35, ↓hr_36, ↓hr_37, ↓hr_39, ↓hr_41, ↓hr_43, ↓hr_45, ↓hr_5, ↓hr_6, ↓hr_8, ↓hr_9, ↓hw_10, ↓hw_11, ↓hw_13, ↓hw_14, ↓hw_15, ↓hw_16, ↓hw_18, ↓hw_19, ↓hw_2, ↓hw_20, ↓hw_21, ↓hw_24, ↓hw_25, ↓hw_26, ↓hw_28, ↓hw_29, ↓hw_3, ↓hw_30, ↓hw_33, ↓hw_34, ↓hw_35, ↓hw_36, ↓hw_37, ↓hw_39, ↓hw_41, ↓hw_43, ↓hw_45, ↓hw_5, ↓hw_6, ↓hw_8, ↓hw_9, ↓reduceIte, zkeep_n, zkeep_i, zkeep_r, zkeep_l, zup_eq, zIR, zLR, List.length_cons, List.length_nil, Nat.reduceAdd, Nat.reduceLeDiff, Nat.reduceEqDiff, Nat.reduceSub, Int.reduceLE, Int.reduceLT, Int.reduceEq, Int.reduceNe, Int.reduceNeg, Int.reduceAdd, Int.reduceSub, Int.reduceMul, Int.reduceToNat, Nat.le_refl, Nat.zero_le, Nat.zero_add, Int.zero_add, Int.add_zero, and_true, true_and, and_false, false_and, not_true_eq_false, not_false_eq_true, eq_self, ne_eq, true_implies, false_implies, implies_true, or_true, true_or, or_false, false_or, reduceCtorEq, Option.some.injEq, Sum.inl.injEq, exists_eq_left', exists_eq_left, zite]
        repeat' (first | with_reducible apply And.intro | with_reducible intro _)
        all_goals first | omega | (exact nx)
      · simp only [zup_in] at b ⊢
        split
        · rfl
        · exact hv j a (by omega)
  exact L (0, M) ⟨by simp only; omega, fun _ _ _ => rfl, fun j a b => by simp only at b; omega⟩
set_option maxRecDepth 100000 in
set_option maxHeartbeats 4000000 in
theorem s_fill39 {M : zM} {R : zP} {v : Int} (hR : ∀ M', (∀ k i, k ≠ 39 → M' k i = M k i) → (∀ i, 0 ≤ i → i < 60 → M' 39 i = v) → R none M') : tJ7_fill_53178 [.inr (.inr 39), .inl v] M R := by
  simp only [↓eJ7_fill_53178, ↓rJ7_fill_53178_0, ↓rJ7_fill_53178_1, ↓rJ7_fill_53178_2, ↓rJ7_fill_53178_3, ↓rJ7_fill_53178_4, ↓hl_10, ↓hl_11, ↓hl_13, ↓hl_14, ↓hl_15, ↓hl_16, ↓hl_18, ↓hl_19, ↓hl_2, ↓hl_20, ↓hl_21, ↓hl_24, ↓hl_25, ↓hl_26, ↓hl_28, ↓hl_29, ↓hl_3, ↓hl_30, ↓hl_33, ↓hl_34, ↓hl_35, ↓hl_36, ↓hl_37, ↓hl_39, ↓hl_41, ↓hl_43, ↓hl_45, ↓hl_5, ↓hl_6, ↓hl_8, ↓hl_9, ↓hr_10, ↓hr_11, ↓hr_13, ↓hr_14, ↓hr_15, ↓hr_16, ↓hr_18, ↓hr_19, ↓hr_2, ↓hr_20, ↓hr_21, ↓hr_24, ↓hr_25, ↓hr_26, ↓hr_28, ↓hr_29, ↓hr_3, ↓hr_30, ↓hr_33, ↓hr_34, ↓hr_35, ↓hr_36, ↓hr_37, ↓hr_39, ↓hr_41, ↓hr_43, ↓hr_45, ↓hr_5, ↓hr_6, ↓hr_8, ↓hr_9, ↓hw_10, ↓hw_11, ↓hw_13, ↓hw_14, ↓hw_15, ↓hw_16, ↓hw_18, ↓hw_19, ↓hw_2, ↓hw_20, ↓hw_21, ↓hw_24, ↓hw_25, ↓hw_26, ↓hw_28, ↓hw_29, ↓hw_3, ↓hw_30, ↓hw_33, ↓hw_34, ↓hw_35, ↓hw_36, ↓hw_37, ↓hw_39, ↓hw_41, ↓hw_43, ↓hw_45, ↓hw_5, ↓hw_6, ↓hw_8, ↓hw_9, ↓reduceIte, zkeep_n, zkeep_i, zkeep_r, zkeep_l, zup_eq, zIR, zLR, List.length_cons, List.length_nil, Nat.reduceAdd, Nat.reduceLeDiff, Nat.reduceEqDiff, Nat.reduceSub, Int.reduceLE, Int.reduceLT, Int.reduceEq, Int.reduceNe, Int.reduceNeg, Int.reduceAdd, Int.reduceSub, Int.reduceMul, Int.reduceToNat, Nat.le_refl, Nat.zero_le, Nat.zero_add, Int.zero_add, Int.add_zero, and_true, true_and, and_false, false_and, not_true_eq_false, not_false_eq_true, eq_self, ne_eq, true_implies, false_implies, implies_true, or_true, true_or, or_false, false_or, reduceCtorEq, Option.some.injEq, Sum.inl.injEq, exists_eq_left', exists_eq_left, zite]
  have L : ∀ s : Int × zM, ((0 ≤ s.1 ∧ s.1 ≤ 60) ∧ (∀ k i, k ≠ 39 → s.2 k i = M k i) ∧ (∀ i, 0 ≤ i → i < s.1 → s.2 39 i = v)) → uJ7_fill_53178 R 5 [some (.inr (.inr 39)), some (.inl v), some (.inl s.1), some (.inl 60)] [] s.2 := by
    refine zind (fun s => (60 - s.1).toNat) ?_
    rintro ⟨i, N⟩ ⟨hi, hfr, hv⟩ ih
    simp only at hi hfr hv ih
    refine rJ7_fill_53178_5.mpr ?_
    by_cases he : i = 60
    · have fin := hR N hfr (fun j a b => hv j a (by omega))
      simp only [↓rJ7_fill_53178_6, ↓rJ7_fill_53178_7, ↓rJ7_fill_53178_20, ↓reduceIte, zkeep_n, zkeep_i, zkeep_r, zkeep_l, zup_eq, zIR, zLR, List.length_cons, List.length_nil, Nat.reduceAdd, Nat.reduceLeDiff, Nat.reduceEqDiff, Nat.reduceSub, Int.reduceLE, Int.reduceLT, Int.reduceEq, Int.reduceNe, Int.reduceNeg, Int.reduceAdd, Int.reduceSub, Int.reduceMul, Int.reduceToNat, Nat.le_refl, Nat.zero_le, Nat.zero_add, Int.zero_add, Int.add_zero, and_true, true_and, and_false, false_and, not_true_eq_false, not_false_eq_true, eq_self, ne_eq, true_implies, false_implies, implies_true, or_true, true_or, or_false, false_or, reduceCtorEq, Option.some.injEq, Sum.inl.injEq, exists_eq_left', exists_eq_left, zite]
      repeat' (first | with_reducible apply And.intro | with_reducible intro _)
      all_goals first | omega | (exact fin)
    · have nx := ih (i + 1, zup N 39 i v) ⟨by simp only; omega, fun k j hk => (zup_ne hk).trans (hfr k j hk), fun j a b => ?_⟩ (by simp only; omega)
      · simp only [↓rJ7_fill_53178_6, ↓rJ7_fill_53178_7, ↓rJ7_fill_53178_10, ↓rJ7_fill_53178_11, ↓rJ7_fill_53178_12, ↓rJ7_fill_53178_13, ↓rJ7_fill_53178_14, ↓rJ7_fill_53178_17, ↓hl_10, ↓hl_11, ↓hl_13, ↓hl_14, ↓hl_15, ↓hl_16, ↓hl_18, ↓hl_19, ↓hl_2, ↓hl_20, ↓hl_21, ↓hl_24, ↓hl_25, ↓hl_26, ↓hl_28, ↓hl_29, ↓hl_3, ↓hl_30, ↓hl_33, ↓hl_34, ↓hl_35, ↓hl_36, ↓hl_37, ↓hl_39, ↓hl_41, ↓hl_43, ↓hl_45, ↓hl_5, ↓hl_6, ↓hl_8, ↓hl_9, ↓hr_10, ↓hr_11, ↓hr_13, ↓hr_14, ↓hr_15, ↓hr_16, ↓hr_18, ↓hr_19, ↓hr_2, ↓hr_20, ↓hr_21, ↓hr_24, ↓hr_25, ↓hr_26, ↓hr_28, ↓hr_29, ↓hr_3, ↓hr_30, ↓hr_33, ↓hr_34, ↓hr_35, ↓hr_36, ↓hr_37, ↓hr_39, ↓hr_41, ↓hr_43, ↓hr_45, ↓hr_5, ↓hr_6, ↓hr_8, ↓hr_9, ↓hw_10, ↓hw_11, ↓hw_13, ↓hw_14, ↓hw_15, ↓hw_16, ↓hw_18, ↓hw_19, ↓hw_2, ↓hw_20, ↓hw_21, ↓hw_24, ↓hw_25, ↓hw_26, ↓hw_28, ↓hw_29, ↓hw_3, ↓hw_30, ↓hw_33, ↓hw_34, ↓hw_35, ↓hw_36, ↓hw_37, ↓hw_39, ↓hw_41, ↓hw_43, ↓hw_45, ↓hw_5, ↓hw_6, ↓hw_8, ↓hw_9, ↓reduceIte, zkeep_n, zkeep_i, zkeep_r, zkeep_l, zup_eq, zIR, zLR, List.length_cons, List.length_nil, Nat.reduceAdd, Nat.reduceLeDiff, Nat.reduceEqDiff, Nat.reduceSub, Int.reduceLE, Int.reduceLT, Int.reduceEq, Int.reduceNe, Int.reduceNeg, Int.reduceAdd, Int.reduceSub, Int.reduceMul, Int.reduceToNat, Nat.le_refl, Nat.zero_le, Nat.zero_add, Int.zero_add, Int.add_zero, and_true, true_and, and_false, false_and, not_true_eq_false, not_false_eq_true, eq_self, ne_eq, true_implies, false_implies, implies_true, or_true, true_or, or_false, false_or, reduceCtorEq, Option.some.injEq, Sum.inl.injEq, exists_eq_left', exists_eq_left, zite]
        repeat' (first | with_reducible apply And.intro | with_reducible intro _)
        all_goals first | omega | (exact nx)
      · simp only [zup_in] at b ⊢
        split
        · rfl
        · exact hv j a (by omega)
  exact L (0, M) ⟨by simp only; omega, fun _ _ _ => rfl, fun j a b => by simp only at b; omega⟩
set_option maxRecDepth 100000 in
set_option maxHeartbeats 4000000 in
theorem s_fill41 {M : zM} {R : zP} {v : Int} (hR : ∀ M', (∀ k i, k ≠ 41 → M' k i = M k i) → (∀ i, 0 ≤ i → i < 60 → M' 41 i = v) → R none M') : tJ7_fill_53178 [.inr (.inr 41), .inl v] M R := by
  simp only [↓eJ7_fill_53178, ↓rJ7_fill_53178_0, ↓rJ7_fill_53178_1, ↓rJ7_fill_53178_2, ↓rJ7_fill_53178_3, ↓rJ7_fill_53178_4, ↓hl_10, ↓hl_11, ↓hl_13, ↓hl_14, ↓hl_15, ↓hl_16, ↓hl_18, ↓hl_19, ↓hl_2, ↓hl_20, ↓hl_21, ↓hl_24, ↓hl_25, ↓hl_26, ↓hl_28, ↓hl_29, ↓hl_3, ↓hl_30, ↓hl_33, ↓hl_34, ↓hl_35, ↓hl_36, ↓hl_37, ↓hl_39, ↓hl_41, ↓hl_43, ↓hl_45, ↓hl_5, ↓hl_6, ↓hl_8, ↓hl_9, ↓hr_10, ↓hr_11, ↓hr_13, ↓hr_14, ↓hr_15, ↓hr_16, ↓hr_18, ↓hr_19, ↓hr_2, ↓hr_20, ↓hr_21, ↓hr_24, ↓hr_25, ↓hr_26, ↓hr_28, ↓hr_29, ↓hr_3, ↓hr_30, ↓hr_33, ↓hr_34, ↓hr_35, ↓hr_36, ↓hr_37, ↓hr_39, ↓hr_41, ↓hr_43, ↓hr_45, ↓hr_5, ↓hr_6, ↓hr_8, ↓hr_9, ↓hw_10, ↓hw_11, ↓hw_13, ↓hw_14, ↓hw_15, ↓hw_16, ↓hw_18, ↓hw_19, ↓hw_2, ↓hw_20, ↓hw_21, ↓hw_24, ↓hw_25, ↓hw_26, ↓hw_28, ↓hw_29, ↓hw_3, ↓hw_30, ↓hw_33, ↓hw_34, ↓hw_35, ↓hw_36, ↓hw_37, ↓hw_39, ↓hw_41, ↓hw_43, ↓hw_45, ↓hw_5, ↓hw_6, ↓hw_8, ↓hw_9, ↓reduceIte, zkeep_n, zkeep_i, zkeep_r, zkeep_l, zup_eq, zIR, zLR, List.length_cons, List.length_nil, Nat.reduceAdd, Nat.reduceLeDiff, Nat.reduceEqDiff, Nat.reduceSub, Int.reduceLE, Int.reduceLT, Int.reduceEq, Int.reduceNe, Int.reduceNeg, Int.reduceAdd, Int.reduceSub, Int.reduceMul, Int.reduceToNat, Nat.le_refl, Nat.zero_le, Nat.zero_add, Int.zero_add, Int.add_zero, and_true, true_and, and_false, false_and, not_true_eq_false, not_false_eq_true, eq_self, ne_eq, true_implies, false_implies, implies_true, or_true, true_or, or_false, false_or, reduceCtorEq, Option.some.injEq, Sum.inl.injEq, exists_eq_left', exists_eq_left, zite]
  have L : ∀ s : Int × zM, ((0 ≤ s.1 ∧ s.1 ≤ 60) ∧ (∀ k i, k ≠ 41 → s.2 k i = M k i) ∧ (∀ i, 0 ≤ i → i < s.1 → s.2 41 i = v)) → uJ7_fill_53178 R 5 [some (.inr (.inr 41)), some (.inl v), some (.inl s.1), some (.inl 60)] [] s.2 := by
    refine zind (fun s => (60 - s.1).toNat) ?_
    rintro ⟨i, N⟩ ⟨hi, hfr, hv⟩ ih
    simp only at hi hfr hv ih
    refine rJ7_fill_53178_5.mpr ?_
    by_cases he : i = 60
    · have fin := hR N hfr (fun j a b => hv j a (by omega))
      simp only [↓rJ7_fill_53178_6, ↓rJ7_fill_53178_7, ↓rJ7_fill_53178_20, ↓reduceIte, zkeep_n, zkeep_i, zkeep_r, zkeep_l, zup_eq, zIR, zLR, List.length_cons, List.length_nil, Nat.reduceAdd, Nat.reduceLeDiff, Nat.reduceEqDiff, Nat.reduceSub, Int.reduceLE, Int.reduceLT, Int.reduceEq, Int.reduceNe, Int.reduceNeg, Int.reduceAdd, Int.reduceSub, Int.reduceMul, Int.reduceToNat, Nat.le_refl, Nat.zero_le, Nat.zero_add, Int.zero_add, Int.add_zero, and_true, true_and, and_false, false_and, not_true_eq_false, not_false_eq_true, eq_self, ne_eq, true_implies, false_implies, implies_true, or_true, true_or, or_false, false_or, reduceCtorEq, Option.some.injEq, Sum.inl.injEq, exists_eq_left', exists_eq_left, zite]
      repeat' (first | with_reducible apply And.intro | with_reducible intro _)
      all_goals first | omega | (exact fin)
    · have nx := ih (i + 1, zup N 41 i v) ⟨by simp only; omega, fun k j hk => (zup_ne hk).trans (hfr k j hk), fun j a b => ?_⟩ (by simp only; omega)
      · simp only [↓rJ7_fill_53178_6, ↓rJ7_fill_53178_7, ↓rJ7_fill_53178_10, ↓rJ7_fill_53178_11, ↓rJ7_fill_53178_12, ↓rJ7_fill_53178_13, ↓rJ7_fill_53178_14, ↓rJ7_fill_53178_17, ↓hl_10, ↓hl_11, ↓hl_13, ↓hl_14, ↓hl_15, ↓hl_16, ↓hl_18, ↓hl_19, ↓hl_2, ↓hl_20, ↓hl_21, ↓hl_24, ↓hl_25, ↓hl_26, ↓hl_28, ↓hl_29, ↓hl_3, ↓hl_30, ↓hl_33, ↓hl_34, ↓hl_35, ↓hl_36, ↓hl_37, ↓hl_39, ↓hl_41, ↓hl_43, ↓hl_45, ↓hl_5, ↓hl_6, ↓hl_8, ↓hl_9, ↓hr_10, ↓hr_11, ↓hr_13, ↓hr_14, ↓hr_15, ↓hr_16, ↓hr_18, ↓hr_19, ↓hr_2, ↓hr_20, ↓hr_21, ↓hr_24, ↓hr_25, ↓hr_26, ↓hr_28, ↓hr_29, ↓hr_3, ↓hr_30, ↓hr_33, ↓hr_34, ↓hr_35, ↓hr_36, ↓hr_37, ↓hr_39, ↓hr_41, ↓hr_43, ↓hr_45, ↓hr_5, ↓hr_6, ↓hr_8, ↓hr_9, ↓hw_10, ↓hw_11, ↓hw_13, ↓hw_14, ↓hw_15, ↓hw_16, ↓hw_18, ↓hw_19, ↓hw_2, ↓hw_20, ↓hw_21, ↓hw_24, ↓hw_25, ↓hw_26, ↓hw_28, ↓hw_29, ↓hw_3, ↓hw_30, ↓hw_33, ↓hw_34, ↓hw_35, ↓hw_36, ↓hw_37, ↓hw_39, ↓hw_41, ↓hw_43, ↓hw_45, ↓hw_5, ↓hw_6, ↓hw_8, ↓hw_9, ↓reduceIte, zkeep_n, zkeep_i, zkeep_r, zkeep_l, zup_eq, zIR, zLR, List.length_cons, List.length_nil, Nat.reduceAdd, Nat.reduceLeDiff, Nat.reduceEqDiff, Nat.reduceSub, Int.reduceLE, Int.reduceLT, Int.reduceEq, Int.reduceNe, Int.reduceNeg, Int.reduceAdd, Int.reduceSub, Int.reduceMul, Int.reduceToNat, Nat.le_refl, Nat.zero_le, Nat.zero_add, Int.zero_add, Int.add_zero, and_true, true_and, and_false, false_and, not_true_eq_false, not_false_eq_true, eq_self, ne_eq, true_implies, false_implies, implies_true, or_true, true_or, or_false, false_or, reduceCtorEq, Option.some.injEq, Sum.inl.injEq, exists_eq_left', exists_eq_left, zite]
        repeat' (first | with_reducible apply And.intro | with_reducible intro _)
        all_goals first | omega | (exact nx)
      · simp only [zup_in] at b ⊢
        split
        · rfl
        · exact hv j a (by omega)
  exact L (0, M) ⟨by simp only; omega, fun _ _ _ => rfl, fun j a b => by simp only at b; omega⟩
set_option maxRecDepth 100000 in
set_option maxHeartbeats 4000000 in
theorem s_fill43 {M : zM} {R : zP} {v : Int} (hR : ∀ M', (∀ k i, k ≠ 43 → M' k i = M k i) → (∀ i, 0 ≤ i → i < 60 → M' 43 i = v) → R none M') : tJ7_fill_53178 [.inr (.inr 43), .inl v] M R := by
  simp only [↓eJ7_fill_53178, ↓rJ7_fill_53178_0, ↓rJ7_fill_53178_1, ↓rJ7_fill_53178_2, ↓rJ7_fill_53178_3, ↓rJ7_fill_53178_4, ↓hl_10, ↓hl_11, ↓hl_13, ↓hl_14, ↓hl_15, ↓hl_16, ↓hl_18, ↓hl_19, ↓hl_2, ↓hl_20, ↓hl_21, ↓hl_24, ↓hl_25, ↓hl_26, ↓hl_28, ↓hl_29, ↓hl_3, ↓hl_30, ↓hl_33, ↓hl_34, ↓hl_35, ↓hl_36, ↓hl_37, ↓hl_39, ↓hl_41, ↓hl_43, ↓hl_45, ↓hl_5, ↓hl_6, ↓hl_8, ↓hl_9, ↓hr_10, ↓hr_11, ↓hr_13, ↓hr_14, ↓hr_15, ↓hr_16, ↓hr_18, ↓hr_19, ↓hr_2, ↓hr_20, ↓hr_21, ↓hr_24, ↓hr_25, ↓hr_26, ↓hr_28, ↓hr_29, ↓hr_3, ↓hr_30, ↓hr_33, ↓hr_34, ↓hr_35, ↓hr_36, ↓hr_37, ↓hr_39, ↓hr_41, ↓hr_43, ↓hr_45, ↓hr_5, ↓hr_6, ↓hr_8, ↓hr_9, ↓hw_10, ↓hw_11, ↓hw_13, ↓hw_14, ↓hw_15, ↓hw_16, ↓hw_18, ↓hw_19, ↓hw_2, ↓hw_20, ↓hw_21, ↓hw_24, ↓hw_25, ↓hw_26, ↓hw_28, ↓hw_29, ↓hw_3, ↓hw_30, ↓hw_33, ↓hw_34, ↓hw_35, ↓hw_36, ↓hw_37, ↓hw_39, ↓hw_41, ↓hw_43, ↓hw_45, ↓hw_5, ↓hw_6, ↓hw_8, ↓hw_9, ↓reduceIte, zkeep_n, zkeep_i, zkeep_r, zkeep_l, zup_eq, zIR, zLR, List.length_cons, List.length_nil, Nat.reduceAdd, Nat.reduceLeDiff, Nat.reduceEqDiff, Nat.reduceSub, Int.reduceLE, Int.reduceLT, Int.reduceEq, Int.reduceNe, Int.reduceNeg, Int.reduceAdd, Int.reduceSub, Int.reduceMul, Int.reduceToNat, Nat.le_refl, Nat.zero_le, Nat.zero_add, Int.zero_add, Int.add_zero, and_true, true_and, and_false, false_and, not_true_eq_false, not_false_eq_true, eq_self, ne_eq, true_implies, false_implies, implies_true, or_true, true_or, or_false, false_or, reduceCtorEq, Option.some.injEq, Sum.inl.injEq, exists_eq_left', exists_eq_left, zite]
  have L : ∀ s : Int × zM, ((0 ≤ s.1 ∧ s.1 ≤ 60) ∧ (∀ k i, k ≠ 43 → s.2 k i = M k i) ∧ (∀ i, 0 ≤ i → i < s.1 → s.2 43 i = v)) → uJ7_fill_53178 R 5 [some (.inr (.inr 43)), some (.inl v), some (.inl s.1), some (.inl 60)] [] s.2 := by
    refine zind (fun s => (60 - s.1).toNat) ?_
    rintro ⟨i, N⟩ ⟨hi, hfr, hv⟩ ih
    simp only at hi hfr hv ih
    refine rJ7_fill_53178_5.mpr ?_
    by_cases he : i = 60
    · have fin := hR N hfr (fun j a b => hv j a (by omega))
      simp only [↓rJ7_fill_53178_6, ↓rJ7_fill_53178_7, ↓rJ7_fill_53178_20, ↓reduceIte, zkeep_n, zkeep_i, zkeep_r, zkeep_l, zup_eq, zIR, zLR, List.length_cons, List.length_nil, Nat.reduceAdd, Nat.reduceLeDiff, Nat.reduceEqDiff, Nat.reduceSub, Int.reduceLE, Int.reduceLT, Int.reduceEq, Int.reduceNe, Int.reduceNeg, Int.reduceAdd, Int.reduceSub, Int.reduceMul, Int.reduceToNat, Nat.le_refl, Nat.zero_le, Nat.zero_add, Int.zero_add, Int.add_zero, and_true, true_and, and_false, false_and, not_true_eq_false, not_false_eq_true, eq_self, ne_eq, true_implies, false_implies, implies_true, or_true, true_or, or_false, false_or, reduceCtorEq, Option.some.injEq, Sum.inl.injEq, exists_eq_left', exists_eq_left, zite]
      repeat' (first | with_reducible apply And.intro | with_reducible intro _)
      all_goals first | omega | (exact fin)
    · have nx := ih (i + 1, zup N 43 i v) ⟨by simp only; omega, fun k j hk => (zup_ne hk).trans (hfr k j hk), fun j a b => ?_⟩ (by simp only; omega)
      · simp only [↓rJ7_fill_53178_6, ↓rJ7_fill_53178_7, ↓rJ7_fill_53178_10, ↓rJ7_fill_53178_11, ↓rJ7_fill_53178_12, ↓rJ7_fill_53178_13, ↓rJ7_fill_53178_14, ↓rJ7_fill_53178_17, ↓hl_10, ↓hl_11, ↓hl_13, ↓hl_14, ↓hl_15, ↓hl_16, ↓hl_18, ↓hl_19, ↓hl_2, ↓hl_20, ↓hl_21, ↓hl_24, ↓hl_25, ↓hl_26, ↓hl_28, ↓hl_29, ↓hl_3, ↓hl_30, ↓hl_33, ↓hl_34, ↓hl_35, ↓hl_36, ↓hl_37, ↓hl_39, ↓hl_41, ↓hl_43, ↓hl_45, ↓hl_5, ↓hl_6, ↓hl_8, ↓hl_9, ↓hr_10, ↓hr_11, ↓hr_13, ↓hr_14, ↓hr_15, ↓hr_16, ↓hr_18, ↓hr_19, ↓hr_2, ↓hr_20, ↓hr_21, ↓hr_24, ↓hr_25, ↓hr_26, ↓hr_28, ↓hr_29, ↓hr_3, ↓hr_30, ↓hr_33, ↓hr_34, ↓hr_35, ↓hr_36, ↓hr_37, ↓hr_39, ↓hr_41, ↓hr_43, ↓hr_45, ↓hr_5, ↓hr_6, ↓hr_8, ↓hr_9, ↓hw_10, ↓hw_11, ↓hw_13, ↓hw_14, ↓hw_15, ↓hw_16, ↓hw_18, ↓hw_19, ↓hw_2, ↓hw_20, ↓hw_21, ↓hw_24, ↓hw_25, ↓hw_26, ↓hw_28, ↓hw_29, ↓hw_3, ↓hw_30, ↓hw_33, ↓hw_34, ↓hw_35, ↓hw_36, ↓hw_37, ↓hw_39, ↓hw_41, ↓hw_43, ↓hw_45, ↓hw_5, ↓hw_6, ↓hw_8, ↓hw_9, ↓reduceIte, zkeep_n, zkeep_i, zkeep_r, zkeep_l, zup_eq, zIR, zLR, List.length_cons, List.length_nil, Nat.reduceAdd, Nat.reduceLeDiff, Nat.reduceEqDiff, Nat.reduceSub, Int.reduceLE, Int.reduceLT, Int.reduceEq, Int.reduceNe, Int.reduceNeg, Int.reduceAdd, Int.reduceSub, Int.reduceMul, Int.reduceToNat, Nat.le_refl, Nat.zero_le, Nat.zero_add, Int.zero_add, Int.add_zero, and_true, true_and, and_false, false_and, not_true_eq_false, not_false_eq_true, eq_self, ne_eq, true_implies, false_implies, implies_true, or_true, true_or, or_false, false_or, reduceCtorEq, Option.some.injEq, Sum.inl.injEq, exists_eq_left', exists_eq_left, zite]
        repeat' (first | with_reducible apply And.intro | with_reducible intro _)
        all_goals first | omega | (exact nx)
      · simp only [zup_in] at b ⊢
        split
        · rfl
        · exact hv j a (by omega)
  exact L (0, M) ⟨by simp only; omega, fun _ _ _ => rfl, fun j a b => by simp only at b; omega⟩
set_option maxRecDepth 100000 in
set_option maxHeartbeats 4000000 in
theorem s_fill45 {M : zM} {R : zP} {v : Int} (hR : ∀ M', (∀ k i, k ≠ 45 → M' k i = M k i) → (∀ i, 0 ≤ i → i < 60 → M' 45 i = v) → R none M') : tJ7_fill_53178 [.inr (.inr 45), .inl v] M R := by
  simp only [↓eJ7_fill_53178, ↓rJ7_fill_53178_0, ↓rJ7_fill_53178_1, ↓rJ7_fill_53178_2, ↓rJ7_fill_53178_3, ↓rJ7_fill_53178_4, ↓hl_10, ↓hl_11, ↓hl_13, ↓hl_14, ↓hl_15, ↓hl_16, ↓hl_18, ↓hl_19, ↓hl_2, ↓hl_20, ↓hl_21, ↓hl_24, ↓hl_25, ↓hl_26, ↓hl_28, ↓hl_29, ↓hl_3, ↓hl_30, ↓hl_33, ↓hl_34, ↓hl_35, ↓hl_36, ↓hl_37, ↓hl_39, ↓hl_41, ↓hl_43, ↓hl_45, ↓hl_5, ↓hl_6, ↓hl_8, ↓hl_9, ↓hr_10, ↓hr_11, ↓hr_13, ↓hr_14, ↓hr_15, ↓hr_16, ↓hr_18, ↓hr_19, ↓hr_2, ↓hr_20, ↓hr_21, ↓hr_24, ↓hr_25, ↓hr_26, ↓hr_28, ↓hr_29, ↓hr_3, ↓hr_30, ↓hr_33, ↓hr_34, ↓hr_35, ↓hr_36, ↓hr_37, ↓hr_39, ↓hr_41, ↓hr_43, ↓hr_45, ↓hr_5, ↓hr_6, ↓hr_8, ↓hr_9, ↓hw_10, ↓hw_11, ↓hw_13, ↓hw_14, ↓hw_15, ↓hw_16, ↓hw_18, ↓hw_19, ↓hw_2, ↓hw_20, ↓hw_21, ↓hw_24, ↓hw_25, ↓hw_26, ↓hw_28, ↓hw_29, ↓hw_3, ↓hw_30, ↓hw_33, ↓hw_34, ↓hw_35, ↓hw_36, ↓hw_37, ↓hw_39, ↓hw_41, ↓hw_43, ↓hw_45, ↓hw_5, ↓hw_6, ↓hw_8, ↓hw_9, ↓reduceIte, zkeep_n, zkeep_i, zkeep_r, zkeep_l, zup_eq, zIR, zLR, List.length_cons, List.length_nil, Nat.reduceAdd, Nat.reduceLeDiff, Nat.reduceEqDiff, Nat.reduceSub, Int.reduceLE, Int.reduceLT, Int.reduceEq, Int.reduceNe, Int.reduceNeg, Int.reduceAdd, Int.reduceSub, Int.reduceMul, Int.reduceToNat, Nat.le_refl, Nat.zero_le, Nat.zero_add, Int.zero_add, Int.add_zero, and_true, true_and, and_false, false_and, not_true_eq_false, not_false_eq_true, eq_self, ne_eq, true_implies, false_implies, implies_true, or_true, true_or, or_false, false_or, reduceCtorEq, Option.some.injEq, Sum.inl.injEq, exists_eq_left', exists_eq_left, zite]
  have L : ∀ s : Int × zM, ((0 ≤ s.1 ∧ s.1 ≤ 60) ∧ (∀ k i, k ≠ 45 → s.2 k i = M k i) ∧ (∀ i, 0 ≤ i → i < s.1 → s.2 45 i = v)) → uJ7_fill_53178 R 5 [some (.inr (.inr 45)), some (.inl v), some (.inl s.1), some (.inl 60)] [] s.2 := by
    refine zind (fun s => (60 - s.1).toNat) ?_
    rintro ⟨i, N⟩ ⟨hi, hfr, hv⟩ ih
    simp only at hi hfr hv ih
    refine rJ7_fill_53178_5.mpr ?_
    by_cases he : i = 60
    · have fin := hR N hfr (fun j a b => hv j a (by omega))
      simp only [↓rJ7_fill_53178_6, ↓rJ7_fill_53178_7, ↓rJ7_fill_53178_20, ↓reduceIte, zkeep_n, zkeep_i, zkeep_r, zkeep_l, zup_eq, zIR, zLR, List.length_cons, List.length_nil, Nat.reduceAdd, Nat.reduceLeDiff, Nat.reduceEqDiff, Nat.reduceSub, Int.reduceLE, Int.reduceLT, Int.reduceEq, Int.reduceNe, Int.reduceNeg, Int.reduceAdd, Int.reduceSub, Int.reduceMul, Int.reduceToNat, Nat.le_refl, Nat.zero_le, Nat.zero_add, Int.zero_add, Int.add_zero, and_true, true_and, and_false, false_and, not_true_eq_false, not_false_eq_true, eq_self, ne_eq, true_implies, false_implies, implies_true, or_true, true_or, or_false, false_or, reduceCtorEq, Option.some.injEq, Sum.inl.injEq, exists_eq_left', exists_eq_left, zite]
      repeat' (first | with_reducible apply And.intro | with_reducible intro _)
      all_goals first | omega | (exact fin)
    · have nx := ih (i + 1, zup N 45 i v) ⟨by simp only; omega, fun k j hk => (zup_ne hk).trans (hfr k j hk), fun j a b => ?_⟩ (by simp only; omega)
      · simp only [↓rJ7_fill_53178_6, ↓rJ7_fill_53178_7, ↓rJ7_fill_53178_10, ↓rJ7_fill_53178_11, ↓rJ7_fill_53178_12, ↓rJ7_fill_53178_13, ↓rJ7_fill_53178_14, ↓rJ7_fill_53178_17, ↓hl_10, ↓hl_11, ↓hl_13, ↓hl_14, ↓hl_15, ↓hl_16, ↓hl_18, ↓hl_19, ↓hl_2, ↓hl_20, ↓hl_21, ↓hl_24, ↓hl_25, ↓hl_26, ↓hl_28, ↓hl_29, ↓hl_3, ↓hl_30, ↓hl_33, ↓hl_34, ↓hl_35, ↓hl_36, ↓hl_37, ↓hl_39, ↓hl_41, ↓hl_43, ↓hl_45, ↓hl_5, ↓hl_6, ↓hl_8, ↓hl_9, ↓hr_10, ↓hr_11, ↓hr_13, ↓hr_14, ↓hr_15, ↓hr_16, ↓hr_18, ↓hr_19, ↓hr_2, ↓hr_20, ↓hr_21, ↓hr_24, ↓hr_25, ↓hr_26, ↓hr_28, ↓hr_29, ↓hr_3, ↓hr_30, ↓hr_33, ↓hr_34, ↓hr_35, ↓hr_36, ↓hr_37, ↓hr_39, ↓hr_41, ↓hr_43, ↓hr_45, ↓hr_5, ↓hr_6, ↓hr_8, ↓hr_9, ↓hw_10, ↓hw_11, ↓hw_13, ↓hw_14, ↓hw_15, ↓hw_16, ↓hw_18, ↓hw_19, ↓hw_2, ↓hw_20, ↓hw_21, ↓hw_24, ↓hw_25, ↓hw_26, ↓hw_28, ↓hw_29, ↓hw_3, ↓hw_30, ↓hw_33, ↓hw_34, ↓hw_35, ↓hw_36, ↓hw_37, ↓hw_39, ↓hw_41, ↓hw_43, ↓hw_45, ↓hw_5, ↓hw_6, ↓hw_8, ↓hw_9, ↓reduceIte, zkeep_n, zkeep_i, zkeep_r, zkeep_l, zup_eq, zIR, zLR, List.length_cons, List.length_nil, Nat.reduceAdd, Nat.reduceLeDiff, Nat.reduceEqDiff, Nat.reduceSub, Int.reduceLE, Int.reduceLT, Int.reduceEq, Int.reduceNe, Int.reduceNeg, Int.reduceAdd, Int.reduceSub, Int.reduceMul, Int.reduceToNat, Nat.le_refl, Nat.zero_le, Nat.zero_add, Int.zero_add, Int.add_zero, and_true, true_and, and_false, false_and, not_true_eq_false, not_false_eq_true, eq_self, ne_eq, true_implies, false_implies, implies_true, or_true, true_or, or_false, false_or, reduceCtorEq, Option.some.injEq, Sum.inl.injEq, exists_eq_left', exists_eq_left, zite]
        repeat' (first | with_reducible apply And.intro | with_reducible intro _)
        all_goals first | omega | (exact nx)
      · simp only [zup_in] at b ⊢
        split
        · rfl
        · exact hv j a (by omega)
  exact L (0, M) ⟨by simp only; omega, fun _ _ _ => rfl, fun j a b => by simp only at b; omega⟩
set_option maxRecDepth 100000 in
set_option maxHeartbeats 4000000 in
theorem s_lfill {M : zM} {R : zP} {v : Int} (hR : ∀ M', (∀ k i, k ≠ 37 → M' k i = M k i) → (∀ i, 0 ≤ i → i < 9 → M' 37 i = v) → R none M') : tJ7_fill_d0a16 [.inr (.inr 37), .inr (.inl v)] M R := by
  simp only [↓eJ7_fill_d0a16, ↓rJ7_fill_d0a16_0, ↓rJ7_fill_d0a16_1, ↓rJ7_fill_d0a16_2, ↓rJ7_fill_d0a16_3, ↓rJ7_fill_d0a16_4, ↓hl_10, ↓hl_11, ↓hl_13, ↓hl_14, ↓hl_15, ↓hl_16, ↓hl_18, ↓hl_19, ↓hl_2, ↓hl_20, ↓hl_21, ↓hl_24, ↓hl_25, ↓hl_26, ↓hl_28, ↓hl_29, ↓hl_3, ↓hl_30, ↓hl_33, ↓hl_34, ↓hl_35, ↓hl_36, ↓hl_37, ↓hl_39, ↓hl_41, ↓hl_43, ↓hl_45, ↓hl_5, ↓hl_6, ↓hl_8, ↓hl_9, ↓hr_10, ↓hr_11, ↓hr_13, ↓hr_14, ↓hr_15, ↓hr_16, ↓hr_18, ↓hr_19, ↓hr_2, ↓hr_20, ↓hr_21, ↓hr_24, ↓hr_25, ↓hr_26, ↓hr_28, ↓hr_29, ↓hr_3, ↓hr_30, ↓hr_33, ↓hr_34, ↓hr_35, ↓hr_36, ↓hr_37, ↓hr_39, ↓hr_41, ↓hr_43, ↓hr_45, ↓hr_5, ↓hr_6, ↓hr_8, ↓hr_9, ↓hw_10, ↓hw_11, ↓hw_13, ↓hw_14, ↓hw_15, ↓hw_16, ↓hw_18, ↓hw_19, ↓hw_2, ↓hw_20, ↓hw_21, ↓hw_24, ↓hw_25, ↓hw_26, ↓hw_28, ↓hw_29, ↓hw_3, ↓hw_30, ↓hw_33, ↓hw_34, ↓hw_35, ↓hw_36, ↓hw_37, ↓hw_39, ↓hw_41, ↓hw_43, ↓hw_45, ↓hw_5, ↓hw_6, ↓hw_8, ↓hw_9, ↓reduceIte, zkeep_n, zkeep_i, zkeep_r, zkeep_l, zup_eq, zIR, zLR, List.length_cons, List.length_nil, Nat.reduceAdd, Nat.reduceLeDiff, Nat.reduceEqDiff, Nat.reduceSub, Int.reduceLE, Int.reduceLT, Int.reduceEq, Int.reduceNe, Int.reduceNeg, Int.reduceAdd, Int.reduceSub, Int.reduceMul, Int.reduceToNat, Nat.le_refl, Nat.zero_le, Nat.zero_add, Int.zero_add, Int.add_zero, and_true, true_and, and_false, false_and, not_true_eq_false, not_false_eq_true, eq_self, ne_eq, true_implies, false_implies, implies_true, or_true, true_or, or_false, false_or, reduceCtorEq, Option.some.injEq, Sum.inl.injEq, exists_eq_left', exists_eq_left, zite]
  have L : ∀ s : Int × zM, ((0 ≤ s.1 ∧ s.1 ≤ 9) ∧ (∀ k i, k ≠ 37 → s.2 k i = M k i) ∧ (∀ i, 0 ≤ i → i < s.1 → s.2 37 i = v)) → uJ7_fill_d0a16 R 6 [some (.inr (.inr 37)), some (.inr (.inl v)), none, some (.inl s.1), some (.inl 9)] [] s.2 := by
    refine zind (fun s => (9 - s.1).toNat) ?_
    rintro ⟨i, N⟩ ⟨hi, hfr, hv⟩ ih
    simp only at hi hfr hv ih
    refine rJ7_fill_d0a16_6.mpr ?_
    by_cases he : i = 9
    · have fin := hR N hfr (fun j a b => hv j a (by omega))
      simp only [↓rJ7_fill_d0a16_7, ↓rJ7_fill_d0a16_9, ↓rJ7_fill_d0a16_22, ↓reduceIte, zkeep_n, zkeep_i, zkeep_r, zkeep_l, zup_eq, zIR, zLR, List.length_cons, List.length_nil, Nat.reduceAdd, Nat.reduceLeDiff, Nat.reduceEqDiff, Nat.reduceSub, Int.reduceLE, Int.reduceLT, Int.reduceEq, Int.reduceNe, Int.reduceNeg, Int.reduceAdd, Int.reduceSub, Int.reduceMul, Int.reduceToNat, Nat.le_refl, Nat.zero_le, Nat.zero_add, Int.zero_add, Int.add_zero, and_true, true_and, and_false, false_and, not_true_eq_false, not_false_eq_true, eq_self, ne_eq, true_implies, false_implies, implies_true, or_true, true_or, or_false, false_or, reduceCtorEq, Option.some.injEq, Sum.inl.injEq, exists_eq_left', exists_eq_left, zite]
      repeat' (first | with_reducible apply And.intro | with_reducible intro _)
      all_goals first | omega | (exact fin)
    · have nx := ih (i + 1, zup N 37 i v) ⟨by simp only; omega, fun k j hk => (zup_ne hk).trans (hfr k j hk), fun j a b => ?_⟩ (by simp only; omega)
      · simp only [↓rJ7_fill_d0a16_7, ↓rJ7_fill_d0a16_9, ↓rJ7_fill_d0a16_12, ↓rJ7_fill_d0a16_13, ↓rJ7_fill_d0a16_14, ↓rJ7_fill_d0a16_15, ↓rJ7_fill_d0a16_16, ↓rJ7_fill_d0a16_19, ↓hl_10, ↓hl_11, ↓hl_13, ↓hl_14, ↓hl_15, ↓hl_16, ↓hl_18, ↓hl_19, ↓hl_2, ↓hl_20, ↓hl_21, ↓hl_24, ↓hl_25, ↓hl_26, ↓hl_28, ↓hl_29, ↓hl_3, ↓hl_30, ↓hl_33, ↓hl_34, ↓hl_35, ↓hl_36, ↓hl_37, ↓hl_39, ↓hl_41, ↓hl_43, ↓hl_45, ↓hl_5, ↓hl_6, ↓hl_8, ↓hl_9, ↓hr_10, ↓hr_11, ↓hr_13, ↓hr_14, ↓hr_15, ↓hr_16, ↓hr_18, ↓hr_19, ↓hr_2, ↓hr_20, ↓hr_21, ↓hr_24, ↓hr_25, ↓hr_26, ↓hr_28, ↓hr_29, ↓hr_3, ↓hr_30, ↓hr_33, ↓hr_34, ↓hr_35, ↓hr_36, ↓hr_37, ↓hr_39, ↓hr_41, ↓hr_43, ↓hr_45, ↓hr_5, ↓hr_6, ↓hr_8, ↓hr_9, ↓hw_10, ↓hw_11, ↓hw_13, ↓hw_14, ↓hw_15, ↓hw_16, ↓hw_18, ↓hw_19, ↓hw_2, ↓hw_20, ↓hw_21, ↓hw_24, ↓hw_25, ↓hw_26, ↓hw_28, ↓hw_29, ↓hw_3, ↓hw_30, ↓hw_33, ↓hw_34, ↓hw_35, ↓hw_36, ↓hw_37, ↓hw_39, ↓hw_41, ↓hw_43, ↓hw_45, ↓hw_5, ↓hw_6, ↓hw_8, ↓hw_9, ↓reduceIte, zkeep_n, zkeep_i, zkeep_r, zkeep_l, zup_eq, zIR, zLR, List.length_cons, List.length_nil, Nat.reduceAdd, Nat.reduceLeDiff, Nat.reduceEqDiff, Nat.reduceSub, Int.reduceLE, Int.reduceLT, Int.reduceEq, Int.reduceNe, Int.reduceNeg, Int.reduceAdd, Int.reduceSub, Int.reduceMul, Int.reduceToNat, Nat.le_refl, Nat.zero_le, Nat.zero_add, Int.zero_add, Int.add_zero, and_true, true_and, and_false, false_and, not_true_eq_false, not_false_eq_true, eq_self, ne_eq, true_implies, false_implies, implies_true, or_true, true_or, or_false, false_or, reduceCtorEq, Option.some.injEq, Sum.inl.injEq, exists_eq_left', exists_eq_left, zite]
        repeat' (first | with_reducible apply And.intro | with_reducible intro _)
        all_goals first | omega | (exact nx)
      · simp only [zup_in] at b ⊢
        split
        · rfl
        · exact hv j a (by omega)
  exact L (0, M) ⟨by simp only; omega, fun _ _ _ => rfl, fun j a b => by simp only at b; omega⟩
def wcnt (p : Nat → Bool) (hd : Nat → Int) (k : Nat) (x : Int) : Int := wct (fun b => p b && decide (hd b = x)) k
def isMost (p : Nat → Bool) (hd : Nat → Int) (k : Nat) (m : Int) : Prop := (∀ a : Nat, a < k → p a = true → wcnt p hd k (hd a) ≤ m) ∧ ((m = 0 ∧ ∀ a : Nat, a < k → p a = false) ∨ ∃ a : Nat, a < k ∧ p a = true ∧ wcnt p hd k (hd a) = m)
theorem isMost_unique {p : Nat → Bool} {hd : Nat → Int} {k : Nat} {m m' : Int} (h : isMost p hd k m) (h' : isMost p hd k m') : m = m' := by
  rcases h.2 with ⟨e, hn⟩ | ⟨a, ha, hp, e⟩
  · rcases h'.2 with ⟨e', _⟩ | ⟨a', ha', hp', _⟩
    · omega
    · rw [hn a' ha'] at hp'
      cases hp'
  · rcases h'.2 with ⟨_, hn'⟩ | ⟨a', ha', hp', e'⟩
    · rw [hn' a ha] at hp
      cases hp
    · have h1 := h'.1 a ha hp
      have h2 := h.1 a' ha' hp'
      omega
theorem wcnt_s (p : Nat → Bool) (hd : Nat → Int) (k : Nat) (x : Int) : wcnt p hd (k + 1) x = wcnt p hd k x + if p k = true ∧ hd k = x then 1 else 0 := by
  show wct _ (k + 1) = _
  unfold wct
  simp only [Bool.and_eq_true, decide_eq_true_eq]
  rfl
theorem isMost_skip {p : Nat → Bool} {hd : Nat → Int} {k : Nat} {m : Int} (h : isMost p hd k m) (hk : p k = false) : isMost p hd (k + 1) m := by
  have e : ∀ x, wcnt p hd (k + 1) x = wcnt p hd k x := fun x => by rw [wcnt_s, hk]; simp
  refine ⟨fun a ha hp => ?_, ?_⟩
  · rw [e]
    by_cases c : a = k
    · rw [c, hk] at hp; cases hp
    · exact h.1 a (by omega) hp
  · rcases h.2 with ⟨e0, hn⟩ | ⟨a, ha, hp, e1⟩
    · refine Or.inl ⟨e0, fun a ha => ?_⟩
      by_cases c : a = k
      · rw [c]; exact hk
      · exact hn a (by omega)
    · exact Or.inr ⟨a, by omega, hp, by rw [e]; exact e1⟩
theorem isMost_add {p : Nat → Bool} {hd : Nat → Int} {k : Nat} {m : Int} (h : isMost p hd k m) (hk : p k = true) : isMost p hd (k + 1) (if m < wcnt p hd (k + 1) (hd k) then wcnt p hd (k + 1) (hd k) else m) := by
  have e : ∀ x, wcnt p hd (k + 1) x = wcnt p hd k x + if hd k = x then 1 else 0 := fun x => by rw [wcnt_s, hk]; simp
  refine ⟨fun a ha hp => ?_, ?_⟩
  · by_cases c : hd a = hd k
    · rw [c]
      split <;> omega
    · have : a ≠ k := fun q => c (by rw [q])
      have h1 := h.1 a (by omega) hp
      have h2 : wcnt p hd (k + 1) (hd a) = wcnt p hd k (hd a) := by rw [e, if_neg (fun q => c q.symm), Int.add_zero]
      split <;> omega
  · split
    · exact Or.inr ⟨k, by omega, hk, rfl⟩
    · rename_i hlt
      rcases h.2 with ⟨e0, hn⟩ | ⟨a, ha, hp, e1⟩
      · have := e (hd k)
        rw [if_pos rfl] at this
        have h0 : 0 ≤ wcnt p hd k (hd k) := (wct_R _ k).1
        omega
      · refine Or.inr ⟨a, by omega, hp, ?_⟩
        by_cases c : hd a = hd k
        · have := e (hd k)
          rw [if_pos rfl, ← c] at this
          rw [← c] at hlt
          omega
        · rw [e, if_neg (fun q => c q.symm), Int.add_zero]
          exact e1
def wmost (p : Nat → Bool) (hd : Nat → Int) : Nat → Int
  | 0 => 0
  | k + 1 => if p k = true then (if wmost p hd k < wcnt p hd (k + 1) (hd k) then wcnt p hd (k + 1) (hd k) else wmost p hd k) else wmost p hd k
theorem wmost_is (p : Nat → Bool) (hd : Nat → Int) : ∀ k, isMost p hd k (wmost p hd k)
  | 0 => ⟨fun a ha => by omega, Or.inl ⟨rfl, fun a ha => by omega⟩⟩
  | k + 1 => by
    have ih := wmost_is p hd k
    unfold wmost
    cases hk : p k with
    | true => simp only [if_true]; exact isMost_add ih hk
    | false => simp only [Bool.false_eq_true, if_false]; exact isMost_skip ih hk
theorem wmost_R (p : Nat → Bool) (hd : Nat → Int) : ∀ k : Nat, 0 ≤ wmost p hd k ∧ wmost p hd k ≤ k
  | 0 => by simp [wmost]
  | k + 1 => by
    have := wmost_R p hd k
    have h2 : 0 ≤ wcnt p hd (k + 1) (hd k) ∧ wcnt p hd (k + 1) (hd k) ≤ (k + 1 : Nat) := wct_R _ _
    unfold wmost
    split
    · split <;> omega
    · omega
set_option maxRecDepth 100000 in
set_option maxHeartbeats 4000000 in
theorem s_mostAlike {M : zM} {R : zP} {p : Nat → Bool} {hd : Nat → Int} {t : Int} (ht : 0 ≤ t ∧ t < 20) (hh : ∀ v : Nat, v < 10 → p v = true → M 34 ((v : Int) * 20 + t) = hd v ∧ 0 ≤ hd v ∧ hd v ≤ 9)
    (hR : ∀ M', (∀ k i, k ≠ 35 → M' k i = M k i) → R (some (.inl (wmost p hd 10))) M') : tX7_mostAlike [.inr (.inr 0), .inl (wbs p 10), .inl t] M R := by
  simp only [↓eX7_mostAlike, ↓rX7_mostAlike_0, ↓rX7_mostAlike_1, ↓rX7_mostAlike_4, ↓rX7_mostAlike_5, ↓hg_fX7_83_0, ↓reduceIte, zkeep_n, zkeep_i, zkeep_r, zkeep_l, zup_eq, zIR, zLR, List.length_cons, List.length_nil, Nat.reduceAdd, Nat.reduceLeDiff, Nat.reduceEqDiff, Nat.reduceSub, Int.reduceLE, Int.reduceLT, Int.reduceEq, Int.reduceNe, Int.reduceNeg, Int.reduceAdd, Int.reduceSub, Int.reduceMul, Int.reduceToNat, Nat.le_refl, Nat.zero_le, Nat.zero_add, Int.zero_add, Int.add_zero, and_true, true_and, and_false, false_and, not_true_eq_false, not_false_eq_true, eq_self, ne_eq, true_implies, false_implies, implies_true, or_true, true_or, or_false, false_or, reduceCtorEq, Option.some.injEq, Sum.inl.injEq, exists_eq_left', exists_eq_left, zite]
  refine zcn_i (s_fill35 (fun M1 f1 f2 => ⟨rfl, ?_⟩))
  have L : ∀ s : Nat × zM, (s.1 ≤ 10 ∧ (∀ k i, k ≠ 35 → s.2 k i = M k i) ∧ (∀ x, 0 ≤ x → x < 10 → s.2 35 x = wcnt p hd s.1 x)) → ∀ x5, uX7_mostAlike R 13 [some (.inr (.inr 0)), some (.inl (wbs p 10)), some (.inl t), some (.inl (wmost p hd s.1)), some (.inl (s.1 : Int)), x5] [] s.2 := by
    refine zind (fun s => 10 - s.1) ?_
    rintro ⟨v, N⟩ ⟨hv, hfr, hc⟩ ih x5
    simp only at hv hfr hc ih
    refine rX7_mostAlike_13.mpr ?_
    by_cases he : v = 10
    · subst he
      have fin := hR N hfr
      simp only [↓rX7_mostAlike_15, ↓rX7_mostAlike_17, ↓rX7_mostAlike_72, ↓rX7_mostAlike_73, ↓reduceIte, zkeep_n, zkeep_i, zkeep_r, zkeep_l, zup_eq, zIR, zLR, List.length_cons, List.length_nil, Nat.reduceAdd, Nat.reduceLeDiff, Nat.reduceEqDiff, Nat.reduceSub, Int.reduceLE, Int.reduceLT, Int.reduceEq, Int.reduceNe, Int.reduceNeg, Int.reduceAdd, Int.reduceSub, Int.reduceMul, Int.reduceToNat, Nat.le_refl, Nat.zero_le, Nat.zero_add, Int.zero_add, Int.add_zero, and_true, true_and, and_false, false_and, not_true_eq_false, not_false_eq_true, eq_self, ne_eq, true_implies, false_implies, implies_true, or_true, true_or, or_false, false_or, reduceCtorEq, Option.some.injEq, Sum.inl.injEq, exists_eq_left', exists_eq_left, zite]
      repeat' (first | with_reducible apply And.intro | with_reducible intro _)
      all_goals first | omega | (exact fin)
    · have hb := zbit_wbsX p (k := 10) (m := v) (by decide) (by omega)
      cases hp : p v with
      | false =>
        rw [hp, if_neg (by simp)] at hb
        have nx := ih (v + 1, N) ⟨by simp only; omega, hfr, fun x a b => (hc x a b).trans (by simp only [wcnt_s, hp]; simp)⟩ (by simp only; omega) x5
        simp only [wmost, hp, Bool.false_eq_true, if_false] at nx
        simp only [↓rX7_mostAlike_15, ↓rX7_mostAlike_17, ↓rX7_mostAlike_20, ↓rX7_mostAlike_21, ↓rX7_mostAlike_23, ↓rX7_mostAlike_24, ↓rX7_mostAlike_25, ↓rX7_mostAlike_26, ↓rX7_mostAlike_66, ↓rX7_mostAlike_69, ↓reduceIte, zkeep_n, zkeep_i, zkeep_r, zkeep_l, zup_eq, zIR, zLR, List.length_cons, List.length_nil, Nat.reduceAdd, Nat.reduceLeDiff, Nat.reduceEqDiff, Nat.reduceSub, Int.reduceLE, Int.reduceLT, Int.reduceEq, Int.reduceNe, Int.reduceNeg, Int.reduceAdd, Int.reduceSub, Int.reduceMul, Int.reduceToNat, Nat.le_refl, Nat.zero_le, Nat.zero_add, Int.zero_add, Int.add_zero, and_true, true_and, and_false, false_and, not_true_eq_false, not_false_eq_true, eq_self, ne_eq, true_implies, false_implies, implies_true, or_true, true_or, or_false, false_or, reduceCtorEq, Option.some.injEq, Sum.inl.injEq, exists_eq_left', exists_eq_left, hb, zite]
        repeat' (first | with_reducible apply And.intro | with_reducible intro _)
        all_goals first | omega | (exact nx)
      | true =>
        rw [hp, if_pos rfl] at hb
        have hg := hh v (by omega) hp
        have e34 : N 34 ((v : Int) * 20 + t) = hd v := (hfr _ _ (by decide)).trans hg.1
        have e35 := hc (hd v) hg.2.1 (by omega)
        have hs := wcnt_s p hd v (hd v)
        rw [hp, if_pos ⟨rfl, rfl⟩] at hs
        have w1 := wmost_R p hd v
        have w2 : 0 ≤ wcnt p hd v (hd v) ∧ wcnt p hd v (hd v) ≤ v := wct_R _ _
        have nx := ih (v + 1, zup N 35 (hd v) (wcnt p hd v (hd v) + 1)) ⟨by simp only; omega, fun k i hk => (zup_ne hk).trans (hfr k i hk), fun x a b => ?_⟩ (by simp only; omega) (some (.inl (hd v)))
        · simp only [wmost, hp, if_true, hs] at nx
          simp only [↓rX7_mostAlike_15, ↓rX7_mostAlike_17, ↓rX7_mostAlike_20, ↓rX7_mostAlike_21, ↓rX7_mostAlike_23, ↓rX7_mostAlike_24, ↓rX7_mostAlike_25, ↓rX7_mostAlike_26, ↓rX7_mostAlike_29, ↓rX7_mostAlike_30, ↓rX7_mostAlike_33, ↓rX7_mostAlike_35, ↓rX7_mostAlike_37, ↓rX7_mostAlike_38, ↓rX7_mostAlike_39, ↓rX7_mostAlike_40, ↓rX7_mostAlike_41, ↓rX7_mostAlike_43, ↓rX7_mostAlike_44, ↓rX7_mostAlike_47, ↓rX7_mostAlike_49, ↓rX7_mostAlike_50, ↓rX7_mostAlike_51, ↓rX7_mostAlike_52, ↓rX7_mostAlike_53, ↓rX7_mostAlike_54, ↓rX7_mostAlike_55, ↓rX7_mostAlike_56, ↓rX7_mostAlike_59, ↓rX7_mostAlike_61, ↓rX7_mostAlike_62, ↓rX7_mostAlike_65, ↓rX7_mostAlike_66, ↓rX7_mostAlike_69, ↓hg_fX7_80_0, ↓hg_fX7_83_0, ↓hr_10, ↓hr_11, ↓hr_13, ↓hr_14, ↓hr_15, ↓hr_16, ↓hr_18, ↓hr_19, ↓hr_2, ↓hr_20, ↓hr_21, ↓hr_24, ↓hr_25, ↓hr_26, ↓hr_28, ↓hr_29, ↓hr_3, ↓hr_30, ↓hr_33, ↓hr_34, ↓hr_35, ↓hr_36, ↓hr_37, ↓hr_39, ↓hr_41, ↓hr_43, ↓hr_45, ↓hr_5, ↓hr_6, ↓hr_8, ↓hr_9, ↓hr_fX7_104, ↓hw_10, ↓hw_11, ↓hw_13, ↓hw_14, ↓hw_15, ↓hw_16, ↓hw_18, ↓hw_19, ↓hw_2, ↓hw_20, ↓hw_21, ↓hw_24, ↓hw_25, ↓hw_26, ↓hw_28, ↓hw_29, ↓hw_3, ↓hw_30, ↓hw_33, ↓hw_34, ↓hw_35, ↓hw_36, ↓hw_37, ↓hw_39, ↓hw_41, ↓hw_43, ↓hw_45, ↓hw_5, ↓hw_6, ↓hw_8, ↓hw_9, ↓i_max, ↓reduceIte, zkeep_n, zkeep_i, zkeep_r, zkeep_l, zup_eq, zIR, zLR, List.length_cons, List.length_nil, Nat.reduceAdd, Nat.reduceLeDiff, Nat.reduceEqDiff, Nat.reduceSub, Int.reduceLE, Int.reduceLT, Int.reduceEq, Int.reduceNe, Int.reduceNeg, Int.reduceAdd, Int.reduceSub, Int.reduceMul, Int.reduceToNat, Nat.le_refl, Nat.zero_le, Nat.zero_add, Int.zero_add, Int.add_zero, and_true, true_and, and_false, false_and, not_true_eq_false, not_false_eq_true, eq_self, ne_eq, true_implies, false_implies, implies_true, or_true, true_or, or_false, false_or, reduceCtorEq, Option.some.injEq, Sum.inl.injEq, exists_eq_left', exists_eq_left, hb, e34, e35, zite]
          repeat' (first | with_reducible apply And.intro | with_reducible intro _)
          all_goals first | omega | (exact nx)
        · simp only [zup_in]
          rw [wcnt_s, hp]
          by_cases c : x = hd v
          · rw [if_pos c, if_pos ⟨rfl, c.symm⟩, c]
          · rw [if_neg c, if_neg (fun q => c q.2.symm), hc x a b, Int.add_zero]
  have st := L (0, M1) ⟨Nat.zero_le _, f1, fun x a b => (f2 x a b).trans rfl⟩ none
  simp only [↓rX7_mostAlike_8, ↓rX7_mostAlike_9, ↓rX7_mostAlike_10, ↓rX7_mostAlike_11, ↓reduceIte, zkeep_n, zkeep_i, zkeep_r, zkeep_l, zup_eq, zIR, zLR, List.length_cons, List.length_nil, Nat.reduceAdd, Nat.reduceLeDiff, Nat.reduceEqDiff, Nat.reduceSub, Int.reduceLE, Int.reduceLT, Int.reduceEq, Int.reduceNe, Int.reduceNeg, Int.reduceAdd, Int.reduceSub, Int.reduceMul, Int.reduceToNat, Nat.le_refl, Nat.zero_le, Nat.zero_add, Int.zero_add, Int.add_zero, and_true, true_and, and_false, false_and, not_true_eq_false, not_false_eq_true, eq_self, ne_eq, true_implies, false_implies, implies_true, or_true, true_or, or_false, false_or, reduceCtorEq, Option.some.injEq, Sum.inl.injEq, exists_eq_left', exists_eq_left, zite]
  exact st
def wmnv (f : Nat → Int) : Nat → Int
  | 0 => 11
  | n + 1 => if f n < wmnv f n then f n else wmnv f n
def wmni (f : Nat → Int) : Nat → Int
  | 0 => 0
  | n + 1 => if f n < wmnv f n then (n : Int) else wmni f n
def ahd (S : zM) (me qu : Int) (t : Nat) : Nat → Int := fun v => wX S kall (so0 S) (fup2 (fst S) me qu v) me t qu
def akf (S : zM) (me qu : Int) : Nat → Int := fun t => wmost (pfst S me qu) (ahd S me qu t) 10
def aAsk (S : zM) (me qu : Int) : Int := if (0 ≤ me ∧ me < qn S 0) ∧ (0 ≤ qu ∧ qu < 4) then wmni (akf S me qu) 20 else -2
theorem wmnv_R {f : Nat → Int} (h : ∀ n, 0 ≤ f n ∧ f n ≤ 10) : ∀ n, 0 ≤ wmnv f n ∧ wmnv f n ≤ 11
  | 0 => by simp [wmnv]
  | n + 1 => by
    have := wmnv_R h n
    have := h n
    unfold wmnv
    split <;> omega
set_option maxRecDepth 100000 in
set_option maxHeartbeats 4000000 in
theorem x_ask {S M : zM} {R : zP} {me qu : Int} (h : RX S M) (z1 : zIR me) (z2 : zIR qu) (hR : ∀ M', QF M M' → R (some (.inl (aAsk S me qu))) M') : tX7_ask [.inr (.inr 0), .inl me, .inl qu] M R := by
  have hqn := (h.2.2.2.1.1 0 (by decide)).1
  have n1 := h.2.2.2.1.2.1
  have hn8 := h.2.2.2.2.1.2.2.1
  have hs0 := h.2.2.2.2.2.1.2.1.1
  have hq := h.2.2.2.1.1
  have hF := h.2.2.2.2.1.2
  unfold zIR at z1 z2
  have bad : ¬ ((0 ≤ me ∧ me < qn S 0) ∧ (0 ≤ qu ∧ qu < 4)) → R (some (.inl (-2))) M := fun hb => by
    have := hR M QF.rfl
    unfold aAsk at this
    rw [if_neg hb] at this
    exact this
  have call : ((0 ≤ me ∧ me < qn S 0) ∧ (0 ≤ qu ∧ qu < 4)) → zcv (zv 7 tX7_restAgree) [.inr (.inr 0), .inl me, .inl 255] M (fun v M' => uX7_ask R 33 [some (.inr (.inr 0)), some (.inl me), some (.inl qu), none, none, none, none, none] [v] M') := by
    intro hg
    unfold aAsk at hR
    rw [if_pos hg] at hR
    have hrng : ∀ v : Nat, v < 10 → ∀ t : Nat, t < 20 → 0 ≤ ahd S me qu t v ∧ ahd S me qu t v ≤ 9 := fun v hv t ht => by
      have hfu : ∀ q, 0 ≤ q → q < 4 → 0 ≤ fup2 (fst S) me qu v me q ∧ fup2 (fst S) me qu v me q ≤ 9 := fun q a b => by
        simp only [fup2]
        split
        · omega
        · exact ((hq 0 (by decide)).2 me hg.1.1 hg.1.2).2.2 (1 + q) (by omega) (by omega)
      exact (vokb_seg (S := S) (g := gt S) (n := nf S) (kp := kall) (m := me) hq (wbyS_R S me).1 (vokb_start (so := so0 S me) hfu) (FR_g hF) hn8 (T := t + 1) (by omega)).1 qu (by omega) (by omega)
    have hak : ∀ t, 0 ≤ akf S me qu t ∧ akf S me qu t ≤ 10 := fun t => wmost_R _ _ 10
    have L : ∀ s : Nat × zM, (s.1 ≤ 20 ∧ QF M s.2 ∧ (∀ v : Nat, v < 10 → ∀ t : Nat, t < 20 → pfst S me qu v = true → s.2 34 ((v : Int) * 20 + t) = ahd S me qu t v)) → ∀ x7, uX7_ask R 57 [some (.inr (.inr 0)), some (.inl me), some (.inl qu), some (.inl (wbs (pfst S me qu) 10)), some (.inl (wmnv (akf S me qu) s.1)), some (.inl (wmni (akf S me qu) s.1)), some (.inl (s.1 : Int)), x7] [] s.2 := by
      refine zind (fun s => 20 - s.1) ?_
      rintro ⟨t, N⟩ ⟨ht, hN, hgs⟩ ih x7
      simp only at ht hN hgs ih
      refine rX7_ask_57.mpr ?_
      by_cases he : t = 20
      · subst he
        have fin := hR N hN
        simp only [↓rX7_ask_59, ↓rX7_ask_61, ↓rX7_ask_94, ↓rX7_ask_96, ↓reduceIte, zkeep_n, zkeep_i, zkeep_r, zkeep_l, zup_eq, zIR, zLR, List.length_cons, List.length_nil, Nat.reduceAdd, Nat.reduceLeDiff, Nat.reduceEqDiff, Nat.reduceSub, Int.reduceLE, Int.reduceLT, Int.reduceEq, Int.reduceNe, Int.reduceNeg, Int.reduceAdd, Int.reduceSub, Int.reduceMul, Int.reduceToNat, Nat.le_refl, Nat.zero_le, Nat.zero_add, Int.zero_add, Int.add_zero, and_true, true_and, and_false, false_and, not_true_eq_false, not_false_eq_true, eq_self, ne_eq, true_implies, false_implies, implies_true, or_true, true_or, or_false, false_or, reduceCtorEq, Option.some.injEq, Sum.inl.injEq, exists_eq_left', exists_eq_left, zite]
        repeat' (first | with_reducible apply And.intro | with_reducible intro _)
        all_goals first | omega | (exact fin)
      · have call2 : zcv (zv 7 tX7_mostAlike) [.inr (.inr 0), .inl (wbs (pfst S me qu) 10), .inl (t : Int)] N (fun v N' => uX7_ask R 71 [some (.inr (.inr 0)), some (.inl me), some (.inl qu), some (.inl (wbs (pfst S me qu) 10)), some (.inl (wmnv (akf S me qu) t)), some (.inl (wmni (akf S me qu) t)), some (.inl (t : Int)), x7] [v] N') := by
          refine zcvv rfl (s_mostAlike (p := pfst S me qu) (hd := ahd S me qu t) (by omega) (fun v hv hp => ⟨hgs v hv t (by omega) hp, hrng v hv t (by omega)⟩) (fun N' f1 => ⟨_, rfl, ?_⟩))
          have nx := ih (t + 1, N') ⟨by simp only; omega, hN.trans (fun k i a b => f1 k i (by omega)), fun v hv t' ht' hp => (f1 _ _ (by decide)).trans (hgs v hv t' ht' hp)⟩ (by simp only; omega) (some (.inl (akf S me qu t)))
          have r1 := hak t
          have r2 := wmnv_R hak t
          simp only [wmnv, wmni] at nx
          have ek : wmost (pfst S me qu) (ahd S me qu t) 10 = akf S me qu t := rfl
          rw [ek]
          simp only [↓rX7_ask_71, ↓rX7_ask_73, ↓rX7_ask_75, ↓rX7_ask_77, ↓rX7_ask_80, ↓rX7_ask_82, ↓rX7_ask_84, ↓rX7_ask_86, ↓rX7_ask_88, ↓rX7_ask_91, ↓reduceIte, zkeep_n, zkeep_i, zkeep_r, zkeep_l, zup_eq, zIR, zLR, List.length_cons, List.length_nil, Nat.reduceAdd, Nat.reduceLeDiff, Nat.reduceEqDiff, Nat.reduceSub, Int.reduceLE, Int.reduceLT, Int.reduceEq, Int.reduceNe, Int.reduceNeg, Int.reduceAdd, Int.reduceSub, Int.reduceMul, Int.reduceToNat, Nat.le_refl, Nat.zero_le, Nat.zero_add, Int.zero_add, Int.add_zero, and_true, true_and, and_false, false_and, not_true_eq_false, not_false_eq_true, eq_self, ne_eq, true_implies, false_implies, implies_true, or_true, true_or, or_false, false_or, reduceCtorEq, Option.some.injEq, Sum.inl.injEq, exists_eq_left', exists_eq_left, zite]
          repeat' (first | with_reducible apply And.intro | with_reducible intro _)
          all_goals first | omega | (simp only [if_pos (show akf S me qu t < wmnv (akf S me qu) t by omega)] at nx; exact nx) | (simp only [if_neg (show ¬ akf S me qu t < wmnv (akf S me qu) t by omega)] at nx; exact nx)
        simp only [↓rX7_ask_59, ↓rX7_ask_61, ↓rX7_ask_64, ↓rX7_ask_65, ↓rX7_ask_66, ↓rX7_ask_68, ↓reduceIte, zkeep_n, zkeep_i, zkeep_r, zkeep_l, zup_eq, zIR, zLR, List.length_cons, List.length_nil, Nat.reduceAdd, Nat.reduceLeDiff, Nat.reduceEqDiff, Nat.reduceSub, Int.reduceLE, Int.reduceLT, Int.reduceEq, Int.reduceNe, Int.reduceNeg, Int.reduceAdd, Int.reduceSub, Int.reduceMul, Int.reduceToNat, Nat.le_refl, Nat.zero_le, Nat.zero_add, Int.zero_add, Int.add_zero, and_true, true_and, and_false, false_and, not_true_eq_false, not_false_eq_true, eq_self, ne_eq, true_implies, false_implies, implies_true, or_true, true_or, or_false, false_or, reduceCtorEq, Option.some.injEq, Sum.inl.injEq, exists_eq_left', exists_eq_left, zite]
        repeat' (first | with_reducible apply And.intro | with_reducible intro _)
        all_goals first | omega | (exact call2)
    have go : ∀ N, QF M N → (∀ v : Nat, v < 10 → ∀ t : Nat, t < 20 → pfst S me qu v = true → N 34 ((v : Int) * 20 + t) = ahd S me qu t v) → uX7_ask R 46 [some (.inr (.inr 0)), some (.inl me), some (.inl qu), none, none, none, none, none] [.inl (wbs (pfst S me qu) 10)] N := fun N hN hgs => by
      have st := L (0, N) ⟨Nat.zero_le _, hN, hgs⟩ none
      simp only [↓rX7_ask_46, ↓rX7_ask_47, ↓rX7_ask_49, ↓rX7_ask_51, ↓rX7_ask_52, ↓rX7_ask_54, ↓rX7_ask_55, ↓reduceIte, zkeep_n, zkeep_i, zkeep_r, zkeep_l, zup_eq, zIR, zLR, List.length_cons, List.length_nil, Nat.reduceAdd, Nat.reduceLeDiff, Nat.reduceEqDiff, Nat.reduceSub, Int.reduceLE, Int.reduceLT, Int.reduceEq, Int.reduceNe, Int.reduceNeg, Int.reduceAdd, Int.reduceSub, Int.reduceMul, Int.reduceToNat, Nat.le_refl, Nat.zero_le, Nat.zero_add, Int.zero_add, Int.add_zero, and_true, true_and, and_false, false_and, not_true_eq_false, not_false_eq_true, eq_self, ne_eq, true_implies, false_implies, implies_true, or_true, true_or, or_false, false_or, reduceCtorEq, Option.some.injEq, Sum.inl.injEq, exists_eq_left', exists_eq_left, zite]
      exact st
    refine zcvv rfl (s_rest h (by omega) (fun M1 f1 hall => ⟨_, rfl, ?_⟩) (fun M1 f1 hex => ⟨_, rfl, ?_⟩))
    · simp only [kall_255 hn8] at hall
      have hf0 : QF M M1 := fun k i a b => f1 k i (by omega) (by omega)
      have gc : zcv (zv 7 tX7_guessFirst) [.inr (.inr 0), .inl me, .inl qu] M1 (fun v M' => uX7_ask R 42 [some (.inr (.inr 0)), some (.inl me), some (.inl qu), none, none, none, none, none] [v] M') := by
        refine zcvv rfl (s_guess (RX_qf h hf0) hg.1 hg.2 hall (fun M2 f2 f3 => ⟨_, rfl, ?_⟩))
        exact rX7_ask_42.mpr (go M2 (hf0.trans f2) (fun v hv t ht _ => f3 v hv t ht))
      simp only [↓rX7_ask_33, ↓rX7_ask_36, ↓rX7_ask_37, ↓rX7_ask_38, ↓rX7_ask_39, ↓reduceIte, zkeep_n, zkeep_i, zkeep_r, zkeep_l, zup_eq, zIR, zLR, List.length_cons, List.length_nil, Nat.reduceAdd, Nat.reduceLeDiff, Nat.reduceEqDiff, Nat.reduceSub, Int.reduceLE, Int.reduceLT, Int.reduceEq, Int.reduceNe, Int.reduceNeg, Int.reduceAdd, Int.reduceSub, Int.reduceMul, Int.reduceToNat, Nat.le_refl, Nat.zero_le, Nat.zero_add, Int.zero_add, Int.add_zero, and_true, true_and, and_false, false_and, not_true_eq_false, not_false_eq_true, eq_self, ne_eq, true_implies, false_implies, implies_true, or_true, true_or, or_false, false_or, reduceCtorEq, Option.some.injEq, Sum.inl.injEq, exists_eq_left', exists_eq_left, zite]
      exact gc
    · simp only [kall_255 hn8] at hex
      have hV : ∀ (v : Nat) m T, m ≠ me → wX S kall (so0 S) (fup2 (fst S) me qu v) m T = wX S kall (so0 S) (fst S) m T := fun v m T hm => wX_other rfl (by funext q; simp [fup2, hm])
      have hno : ∀ v, pfst S me qu v = false := fun v => by
          unfold pfst
          rw [← Bool.not_eq_true, wsee_split (me := me) hs0 hg.1.2 (hV v)]
          obtain ⟨i, a, b, c, d⟩ := hex
          exact fun q => d (q.1 i a b c)
      have e0 : wbs (pfst S me qu) 10 = 0 := wbs_false 10 (fun v _ => hno v)
      have st := go M1 (fun k i a b => f1 k i (by omega) (by omega)) (fun v _ t _ hp => by rw [hno v] at hp; cases hp)
      rw [e0] at st
      simp only [↓rX7_ask_33, ↓rX7_ask_45, ↓reduceIte, zkeep_n, zkeep_i, zkeep_r, zkeep_l, zup_eq, zIR, zLR, List.length_cons, List.length_nil, Nat.reduceAdd, Nat.reduceLeDiff, Nat.reduceEqDiff, Nat.reduceSub, Int.reduceLE, Int.reduceLT, Int.reduceEq, Int.reduceNe, Int.reduceNeg, Int.reduceAdd, Int.reduceSub, Int.reduceMul, Int.reduceToNat, Nat.le_refl, Nat.zero_le, Nat.zero_add, Int.zero_add, Int.add_zero, and_true, true_and, and_false, false_and, not_true_eq_false, not_false_eq_true, eq_self, ne_eq, true_implies, false_implies, implies_true, or_true, true_or, or_false, false_or, reduceCtorEq, Option.some.injEq, Sum.inl.injEq, exists_eq_left', exists_eq_left, zite]
      exact st
  simp only [↓eX7_ask, ↓rX7_ask_0, ↓rX7_ask_1, ↓rX7_ask_2, ↓rX7_ask_5, ↓rX7_ask_8, ↓rX7_ask_11, ↓rX7_ask_14, ↓rX7_ask_15, ↓rX7_ask_16, ↓rX7_ask_19, ↓rX7_ask_22, ↓rX7_ask_24, ↓rX7_ask_25, ↓rX7_ask_26, ↓rX7_ask_27, ↓rX7_ask_30, ↓hg_fX7_116_1, ↓hg_fX7_116_4, ↓hg_fX7_14_0, ↓i_outside, ↓reduceIte, zkeep_n, zkeep_i, zkeep_r, zkeep_l, zup_eq, zIR, zLR, List.length_cons, List.length_nil, Nat.reduceAdd, Nat.reduceLeDiff, Nat.reduceEqDiff, Nat.reduceSub, Int.reduceLE, Int.reduceLT, Int.reduceEq, Int.reduceNe, Int.reduceNeg, Int.reduceAdd, Int.reduceSub, Int.reduceMul, Int.reduceToNat, Nat.le_refl, Nat.zero_le, Nat.zero_add, Int.zero_add, Int.add_zero, and_true, true_and, and_false, false_and, not_true_eq_false, not_false_eq_true, eq_self, ne_eq, true_implies, false_implies, implies_true, or_true, true_or, or_false, false_or, reduceCtorEq, Option.some.injEq, Sum.inl.injEq, exists_eq_left', exists_eq_left, n1, zite]
  repeat' (first | with_reducible apply And.intro | with_reducible intro _)
  all_goals first | omega | (exact bad (by omega)) | (exact call (by omega))
