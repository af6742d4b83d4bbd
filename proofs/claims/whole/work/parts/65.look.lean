theorem qflaw_0 (S : zM) : qflaw S 0 = if qend S 0 < S 0 0 then qend S 0 else if S 0 0 = 0 ∨ S 0 0 % 6 = 5 then -1 else S 0 0 := rfl
theorem qn_0 (S : zM) : qn S 0 = if qflaw S 0 = -1 then (S 0 0 + 1) / 6 else 0 := rfl
theorem qflaw_1 (S : zM) : qflaw S 1 = if qend S 1 < S 0 1 then qend S 1 else if S 0 1 = 0 ∨ S 0 1 % 6 = 5 then -1 else S 0 1 := rfl
theorem qn_1 (S : zM) : qn S 1 = if qflaw S 1 = -1 then (S 0 1 + 1) / 6 else 0 := rfl
set_option maxRecDepth 100000 in
set_option maxHeartbeats 4000000 in
theorem s_flaw1 {S M : zM} {R : zP} (hl : 0 ≤ S 0 0 ∧ S 0 0 ≤ 47) (hb : ∀ i, 0 ≤ i → i < S 0 0 → 0 ≤ S (1 + 0) i ∧ S (1 + 0) i ≤ 255) (h3 : M 1 3 = S 0 0) (hB : ∀ i, 0 ≤ i → i < S 0 0 → M 2 i = S (1 + 0) i) (hR : R (some (.inl (qflaw S 0))) M) : tX5_findFlaw [.inr (.inr 1)] M R := by
  simp only [↓eX5_findFlaw, ↓rX5_findFlaw_0, ↓rX5_findFlaw_1, ↓reduceIte, zkeep_n, zkeep_i, zkeep_r, zkeep_l, zup_eq, zIR, zLR, List.length_cons, List.length_nil, Nat.reduceAdd, Nat.reduceLeDiff, Nat.reduceEqDiff, Nat.reduceSub, Int.reduceLE, Int.reduceLT, Int.reduceEq, Int.reduceNe, Int.reduceNeg, Int.reduceAdd, Int.reduceSub, Int.reduceMul, Int.reduceToNat, Nat.le_refl, Nat.zero_le, Nat.zero_add, Int.zero_add, Int.add_zero, and_true, true_and, and_false, false_and, not_true_eq_false, not_false_eq_true, eq_self, ne_eq, true_implies, false_implies, implies_true, or_true, true_or, or_false, false_or, reduceCtorEq, Option.some.injEq, Sum.inl.injEq, exists_eq_left', exists_eq_left, zite]
  have L : ∀ i : Nat, ((i : Int) ≤ S 0 0 ∧ ∀ j, 0 ≤ j → j < (i : Int) → qfits 0 (j % 6) (S (1 + 0) j)) → uX5_findFlaw R 2 [some (.inr (.inr 1)), some (.inl (i : Int))] [] M := by
    refine zind (fun i => (S 0 0).toNat - i) ?_
    rintro i ⟨hi, hal⟩ ih
    have hf := qfirst_at (p := fun i => decide (qfits 0 (i % 6) (S (1 + 0) i))) (S 0 0).toNat i 0 (by omega) (fun j q1 q2 => decide_eq_true (hal j q1 (by omega)))
    rw [Int.zero_add] at hf
    have hf : (i < (S 0 0).toNat → decide (qfits 0 ((i : Int) % 6) (S (1 + 0) i)) = false) → qend S 0 = i := hf
    refine rX5_findFlaw_2.mpr ?_
    by_cases he : (i : Int) = S 0 0
    · have e := hf (fun q => by omega)
      have fin : ∀ x : Int, x = qflaw S 0 → R (some (.inl x)) M := fun x hx => by rw [hx]; exact hR
      rw [qflaw_0, e, if_neg (by omega)] at fin
      have em : (S 0 0).tmod 6 = S 0 0 % 6 := Int.tmod_eq_emod_of_nonneg hl.1
      simp only [↓rX5_findFlaw_3, ↓rX5_findFlaw_4, ↓rX5_findFlaw_7, ↓rX5_findFlaw_35, ↓rX5_findFlaw_36, ↓rX5_findFlaw_39, ↓rX5_findFlaw_42, ↓rX5_findFlaw_43, ↓rX5_findFlaw_46, ↓rX5_findFlaw_48, ↓rX5_findFlaw_49, ↓rX5_findFlaw_50, ↓rX5_findFlaw_53, ↓rX5_findFlaw_54, ↓rX5_findFlaw_61, ↓rX5_findFlaw_57, ↓rX5_findFlaw_58, ↓hg_fX5_18_1, ↓hg_fX5_18_4, ↓reduceIte, zkeep_n, zkeep_i, zkeep_r, zkeep_l, zup_eq, zIR, zLR, List.length_cons, List.length_nil, Nat.reduceAdd, Nat.reduceLeDiff, Nat.reduceEqDiff, Nat.reduceSub, Int.reduceLE, Int.reduceLT, Int.reduceEq, Int.reduceNe, Int.reduceNeg, Int.reduceAdd, Int.reduceSub, Int.reduceMul, Int.reduceToNat, Nat.le_refl, Nat.zero_le, Nat.zero_add, Int.zero_add, Int.add_zero, and_true, true_and, and_false, false_and, not_true_eq_false, not_false_eq_true, eq_self, ne_eq, true_implies, false_implies, implies_true, or_true, true_or, or_false, false_or, reduceCtorEq, Option.some.injEq, Sum.inl.injEq, exists_eq_left', exists_eq_left, h3, em, zite]
      repeat' (first | with_reducible apply And.intro | with_reducible intro _)
      all_goals first | omega | (refine fin _ ?_; split <;> omega)
    · have em : (i : Int).tmod 6 = (i : Int) % 6 := Int.tmod_eq_emod_of_nonneg (by omega)
      have eB := hB i (by omega) (by omega)
      have rb := hb i (by omega) (by omega)
      have fnd : ¬ qfits 0 ((i : Int) % 6) (S (1 + 0) i) → R (some (.inl (i : Int))) M := fun q => by
        have e := hf (fun _ => decide_eq_false q)
        have e2 : qflaw S 0 = i := by rw [qflaw_0, e, if_pos (by omega)]
        rw [e2] at hR
        exact hR
      have nx : qfits 0 ((i : Int) % 6) (S (1 + 0) i) → uX5_findFlaw R 2 [some (.inr (.inr 1)), some (.inl ((i : Int) + 1))] [] M := fun q => by
        refine ih (i + 1) ⟨by omega, fun j j0 j1 => ?_⟩ (by omega)
        by_cases ej : j = i
        · rw [ej]; exact q
        · exact hal j j0 (by omega)
      have call : zcv (zv 5 tX5_fits) [.inr (.inr 1), .inl ((i : Int) % 6), .inl (S (1 + 0) i)] M (fun v M' => uX5_findFlaw R 24 [some (.inr (.inr 1)), some (.inl (i : Int))] [v] M') := by
        refine s_fits1 (by omega) rb.1 (by omega) (fun q => ?_) (fun q => ?_)
        · have nx := nx q
          simp only [↓rX5_findFlaw_24, ↓rX5_findFlaw_29, ↓rX5_findFlaw_32, ↓reduceIte, zkeep_n, zkeep_i, zkeep_r, zkeep_l, zup_eq, zIR, zLR, List.length_cons, List.length_nil, Nat.reduceAdd, Nat.reduceLeDiff, Nat.reduceEqDiff, Nat.reduceSub, Int.reduceLE, Int.reduceLT, Int.reduceEq, Int.reduceNe, Int.reduceNeg, Int.reduceAdd, Int.reduceSub, Int.reduceMul, Int.reduceToNat, Nat.le_refl, Nat.zero_le, Nat.zero_add, Int.zero_add, Int.add_zero, and_true, true_and, and_false, false_and, not_true_eq_false, not_false_eq_true, eq_self, ne_eq, true_implies, false_implies, implies_true, or_true, true_or, or_false, false_or, reduceCtorEq, Option.some.injEq, Sum.inl.injEq, exists_eq_left', exists_eq_left, zite]
          exact nx
        · have fnd := fnd q
          simp only [↓rX5_findFlaw_24, ↓rX5_findFlaw_27, ↓rX5_findFlaw_28, ↓reduceIte, zkeep_n, zkeep_i, zkeep_r, zkeep_l, zup_eq, zIR, zLR, List.length_cons, List.length_nil, Nat.reduceAdd, Nat.reduceLeDiff, Nat.reduceEqDiff, Nat.reduceSub, Int.reduceLE, Int.reduceLT, Int.reduceEq, Int.reduceNe, Int.reduceNeg, Int.reduceAdd, Int.reduceSub, Int.reduceMul, Int.reduceToNat, Nat.le_refl, Nat.zero_le, Nat.zero_add, Int.zero_add, Int.add_zero, and_true, true_and, and_false, false_and, not_true_eq_false, not_false_eq_true, eq_self, ne_eq, true_implies, false_implies, implies_true, or_true, true_or, or_false, false_or, reduceCtorEq, Option.some.injEq, Sum.inl.injEq, exists_eq_left', exists_eq_left, zite]
          exact fnd
      simp only [↓rX5_findFlaw_3, ↓rX5_findFlaw_4, ↓rX5_findFlaw_7, ↓rX5_findFlaw_10, ↓rX5_findFlaw_11, ↓rX5_findFlaw_12, ↓rX5_findFlaw_14, ↓rX5_findFlaw_15, ↓rX5_findFlaw_16, ↓rX5_findFlaw_19, ↓rX5_findFlaw_20, ↓rX5_findFlaw_21, ↓hg_fX5_18_1, ↓hg_fX5_18_4, ↓hg_fX5_9_1, ↓hg_fX5_9_4, ↓hr_10, ↓hr_11, ↓hr_13, ↓hr_14, ↓hr_15, ↓hr_16, ↓hr_18, ↓hr_19, ↓hr_2, ↓hr_20, ↓hr_21, ↓hr_24, ↓hr_25, ↓hr_26, ↓hr_28, ↓hr_29, ↓hr_3, ↓hr_30, ↓hr_33, ↓hr_34, ↓hr_35, ↓hr_36, ↓hr_37, ↓hr_39, ↓hr_41, ↓hr_43, ↓hr_45, ↓hr_5, ↓hr_6, ↓hr_8, ↓hr_9, ↓hw_10, ↓hw_11, ↓hw_13, ↓hw_14, ↓hw_15, ↓hw_16, ↓hw_18, ↓hw_19, ↓hw_2, ↓hw_20, ↓hw_21, ↓hw_24, ↓hw_25, ↓hw_26, ↓hw_28, ↓hw_29, ↓hw_3, ↓hw_30, ↓hw_33, ↓hw_34, ↓hw_35, ↓hw_36, ↓hw_37, ↓hw_39, ↓hw_41, ↓hw_43, ↓hw_45, ↓hw_5, ↓hw_6, ↓hw_8, ↓hw_9, ↓reduceIte, zkeep_n, zkeep_i, zkeep_r, zkeep_l, zup_eq, zIR, zLR, List.length_cons, List.length_nil, Nat.reduceAdd, Nat.reduceLeDiff, Nat.reduceEqDiff, Nat.reduceSub, Int.reduceLE, Int.reduceLT, Int.reduceEq, Int.reduceNe, Int.reduceNeg, Int.reduceAdd, Int.reduceSub, Int.reduceMul, Int.reduceToNat, Nat.le_refl, Nat.zero_le, Nat.zero_add, Int.zero_add, Int.add_zero, and_true, true_and, and_false, false_and, not_true_eq_false, not_false_eq_true, eq_self, ne_eq, true_implies, false_implies, implies_true, or_true, true_or, or_false, false_or, reduceCtorEq, Option.some.injEq, Sum.inl.injEq, exists_eq_left', exists_eq_left, h3, em, eB, zite]
      repeat' (first | with_reducible apply And.intro | with_reducible intro _)
      all_goals first | omega | (exact call)
  exact L 0 ⟨by omega, fun j a b => by omega⟩
set_option maxRecDepth 100000 in
set_option maxHeartbeats 8000000 in
theorem s_look1 {S M : zM} {R : zP} (hl : 0 ≤ S 0 0 ∧ S 0 0 ≤ 47) (hb : ∀ i, 0 ≤ i → i < S 0 0 → 0 ≤ S (1 + 0) i ∧ S (1 + 0) i ≤ 255) (h3 : M 1 3 = S 0 0) (hB : ∀ i, 0 ≤ i → i < S 0 0 → M 2 i = S (1 + 0) i)
    (hR : ∀ M', (∀ k i, k ≠ 1 → k ≠ 3 → M' k i = M k i) → M' 1 3 = S 0 0 → M' 1 4 = qflaw S 0 → M' 1 5 = qn S 0 → FX S 0 3 M' → R none M') : tX5_look [.inr (.inr 1)] M R := by
  have hqn : 0 ≤ qn S 0 ∧ qn S 0 ≤ 8 ∧ (0 < qn S 0 → 6 * qn S 0 = S 0 0 + 1) := by
    rw [qn_0]
    split
    · rename_i hfl
      rw [qflaw_0] at hfl
      refine ⟨by omega, by omega, fun _ => ?_⟩
      split at hfl
      · have lo : 0 ≤ qend S 0 := qfirst_lo _ _
        omega
      · split at hfl <;> omega
    · omega
  have hfR : -1 ≤ qflaw S 0 ∧ qflaw S 0 ≤ 47 := by
    have lo : 0 ≤ qend S 0 := qfirst_lo _ _
    rw [qflaw_0]
    (repeat' split) <;> omega
  simp only [↓eX5_look, ↓rX5_look_0, ↓rX5_look_1, ↓rX5_look_2, ↓reduceIte, zkeep_n, zkeep_i, zkeep_r, zkeep_l, zup_eq, zIR, zLR, List.length_cons, List.length_nil, Nat.reduceAdd, Nat.reduceLeDiff, Nat.reduceEqDiff, Nat.reduceSub, Int.reduceLE, Int.reduceLT, Int.reduceEq, Int.reduceNe, Int.reduceNeg, Int.reduceAdd, Int.reduceSub, Int.reduceMul, Int.reduceToNat, Nat.le_refl, Nat.zero_le, Nat.zero_add, Int.zero_add, Int.add_zero, and_true, true_and, and_false, false_and, not_true_eq_false, not_false_eq_true, eq_self, ne_eq, true_implies, false_implies, implies_true, or_true, true_or, or_false, false_or, reduceCtorEq, Option.some.injEq, Sum.inl.injEq, exists_eq_left', exists_eq_left, zite]
  refine zcvv rfl (s_flaw1 hl hb h3 hB ⟨_, rfl, ?_⟩)
  have L : ∀ s : Nat × zM, ((s.1 : Int) ≤ qn S 0 ∧ (∀ k i, k ≠ 1 → k ≠ 3 → s.2 k i = M k i) ∧ s.2 1 3 = S 0 0 ∧ s.2 1 4 = qflaw S 0 ∧ s.2 1 5 = qn S 0 ∧ (∀ i j, 0 ≤ i → i < (s.1 : Int) → 0 ≤ j → j < 5 → s.2 3 (i * 5 + j) = qfact S 0 i j)) → ∀ x2, uX5_look R 35 [some (.inr (.inr 1)), some (.inl (s.1 : Int)), x2] [] s.2 := by
    refine zind (fun s => (qn S 0).toNat - s.1) ?_
    rintro ⟨i, N⟩ ⟨hi, hfr, e3, e4, e5, hx⟩ ih x2
    simp only at hi hfr e3 e4 e5 hx ih
    refine rX5_look_35.mpr ?_
    by_cases he : (i : Int) = qn S 0
    · have fin := hR N hfr e3 e4 e5 (fun a b c d e f => hx a b c (by omega) e f)
      simp only [↓rX5_look_36, ↓rX5_look_37, ↓rX5_look_40, ↓rX5_look_111, ↓hg_fX5_25_1, ↓hg_fX5_25_4, ↓reduceIte, zkeep_n, zkeep_i, zkeep_r, zkeep_l, zup_eq, zIR, zLR, List.length_cons, List.length_nil, Nat.reduceAdd, Nat.reduceLeDiff, Nat.reduceEqDiff, Nat.reduceSub, Int.reduceLE, Int.reduceLT, Int.reduceEq, Int.reduceNe, Int.reduceNeg, Int.reduceAdd, Int.reduceSub, Int.reduceMul, Int.reduceToNat, Nat.le_refl, Nat.zero_le, Nat.zero_add, Int.zero_add, Int.add_zero, and_true, true_and, and_false, false_and, not_true_eq_false, not_false_eq_true, eq_self, ne_eq, true_implies, false_implies, implies_true, or_true, true_or, or_false, false_or, reduceCtorEq, Option.some.injEq, Sum.inl.injEq, exists_eq_left', exists_eq_left, e5, zite]
      repeat' (first | with_reducible apply And.intro | with_reducible intro _)
      all_goals first | omega | (exact fin)
    · have bb : ∀ j, 0 ≤ j → j < 5 → N 2 ((i : Int) * 6 + j) = S (1 + 0) ((i : Int) * 6 + j) ∧ 0 ≤ S (1 + 0) ((i : Int) * 6 + j) ∧ S (1 + 0) ((i : Int) * 6 + j) ≤ 255 := fun j j0 j1 => by
        have q := hB ((i : Int) * 6 + j) (by omega) (by omega)
        exact ⟨(hfr _ _ (by decide) (by decide)).trans q, hb _ (by omega) (by omega)⟩
      have b0 := bb 0 (by decide) (by decide)
      rw [Int.add_zero] at b0
      have b1 := bb 1 (by decide) (by decide)
      have b2 := bb 2 (by decide) (by decide)
      have b3 := bb 3 (by decide) (by decide)
      have b4 := bb 4 (by decide) (by decide)
      have hc := zi2c_at b0.2.1 (by omega)
      have nx := fun x2 => ih (i + 1, zup (zup (zup (zup (zup N 3 ((i : Int) * 5) (qlet 0 (S (1 + 0) ((i : Int) * 6)))) 3 ((i : Int) * 5 + 1) (S (1 + 0) ((i : Int) * 6 + 1) - 48)) 3 ((i : Int) * 5 + 2) (S (1 + 0) ((i : Int) * 6 + 2) - 48)) 3 ((i : Int) * 5 + 3) (S (1 + 0) ((i : Int) * 6 + 3) - 48)) 3 ((i : Int) * 5 + 4) (S (1 + 0) ((i : Int) * 6 + 4) - 48)) ⟨by simp only; omega, fun k j h1 h2 => by simp only [zup_ne h2]; exact hfr k j h1 h2, by simp only [zup_ne (show 1 ≠ 3 by decide)]; exact e3, by simp only [zup_ne (show 1 ≠ 3 by decide)]; exact e4, by simp only [zup_ne (show 1 ≠ 3 by decide)]; exact e5, fun a j a0 a1 j0 j1 => by
        simp only [zup_in] at a1 ⊢
        by_cases ea : a = i
        · subst ea
          unfold qfact
          have ej : j = 0 ∨ j = 1 ∨ j = 2 ∨ j = 3 ∨ j = 4 := by omega
          rcases ej with rfl | rfl | rfl | rfl | rfl
          · rw [if_neg (by omega), if_neg (by omega), if_neg (by omega), if_neg (by omega), if_pos (by omega), if_pos rfl, Int.mul_comm 6]
          · rw [if_neg (by omega), if_neg (by omega), if_neg (by omega), if_pos (by omega), if_neg (by omega), Int.mul_comm 6]
          · rw [if_neg (by omega), if_neg (by omega), if_pos (by omega), if_neg (by omega), Int.mul_comm 6]
          · rw [if_neg (by omega), if_pos (by omega), if_neg (by omega), Int.mul_comm 6]
          · rw [if_pos (by omega), if_neg (by omega), Int.mul_comm 6]
        · rw [if_neg (by omega), if_neg (by omega), if_neg (by omega), if_neg (by omega), if_neg (by omega)]
          exact hx a j a0 (by omega) j0 j1⟩ (by simp only; omega) x2
      have idx : zcv (zv 99 tJ0_indexOf_0f7a4) [.inr (.inr 100), .inl (S (1 + 0) ((i : Int) * 6))] N (fun v M' => uX5_look R 67 [some (.inr (.inr 1)), some (.inl (i : Int)), x2] [v, .inl ((i : Int) * 5), .inr (.inr 3)] M') := by
        refine s_idx100 b0.2.1 (by omega) ?_
        have c1 := b1.1
        have c2 := b2.1
        have c3 := b3.1
        have c4 := b4.1
        simp only [↓rX5_look_67, ↓rX5_look_68, ↓rX5_look_69, ↓rX5_look_70, ↓rX5_look_71, ↓rX5_look_72, ↓rX5_look_75, ↓rX5_look_76, ↓rX5_look_79, ↓rX5_look_80, ↓rX5_look_81, ↓rX5_look_82, ↓rX5_look_83, ↓rX5_look_84, ↓rX5_look_85, ↓rX5_look_88, ↓rX5_look_89, ↓rX5_look_91, ↓rX5_look_92, ↓rX5_look_93, ↓rX5_look_94, ↓rX5_look_95, ↓rX5_look_97, ↓rX5_look_98, ↓rX5_look_99, ↓rX5_look_102, ↓rX5_look_105, ↓rX5_look_108, ↓hg_fX5_15_1, ↓hg_fX5_15_4, ↓hg_fX5_9_1, ↓hg_fX5_9_4, ↓hr_10, ↓hr_11, ↓hr_13, ↓hr_14, ↓hr_15, ↓hr_16, ↓hr_18, ↓hr_19, ↓hr_2, ↓hr_20, ↓hr_21, ↓hr_24, ↓hr_25, ↓hr_26, ↓hr_28, ↓hr_29, ↓hr_3, ↓hr_30, ↓hr_33, ↓hr_34, ↓hr_35, ↓hr_36, ↓hr_37, ↓hr_39, ↓hr_41, ↓hr_43, ↓hr_45, ↓hr_5, ↓hr_6, ↓hr_8, ↓hr_9, ↓hw_10, ↓hw_11, ↓hw_13, ↓hw_14, ↓hw_15, ↓hw_16, ↓hw_18, ↓hw_19, ↓hw_2, ↓hw_20, ↓hw_21, ↓hw_24, ↓hw_25, ↓hw_26, ↓hw_28, ↓hw_29, ↓hw_3, ↓hw_30, ↓hw_33, ↓hw_34, ↓hw_35, ↓hw_36, ↓hw_37, ↓hw_39, ↓hw_41, ↓hw_43, ↓hw_45, ↓hw_5, ↓hw_6, ↓hw_8, ↓hw_9, ↓reduceIte, zkeep_n, zkeep_i, zkeep_r, zkeep_l, zIR, zLR, List.length_cons, List.length_nil, Nat.reduceAdd, Nat.reduceLeDiff, Nat.reduceEqDiff, Nat.reduceSub, Int.reduceLE, Int.reduceLT, Int.reduceEq, Int.reduceNe, Int.reduceNeg, Int.reduceAdd, Int.reduceSub, Int.reduceMul, Int.reduceToNat, Nat.le_refl, Nat.zero_le, Nat.zero_add, Int.zero_add, Int.add_zero, and_true, true_and, and_false, false_and, not_true_eq_false, not_false_eq_true, eq_self, ne_eq, true_implies, false_implies, implies_true, or_true, true_or, or_false, false_or, reduceCtorEq, Option.some.injEq, Sum.inl.injEq, exists_eq_left', exists_eq_left, zite]
        simp only [zup_ne (show 2 ≠ 3 by decide), c1, c2, c3, c4]
        repeat' (first | with_reducible apply And.intro | with_reducible intro _)
        all_goals first | omega | (exact nx _)
      have c0 := b0.1
      simp only [↓rX5_look_36, ↓rX5_look_37, ↓rX5_look_40, ↓rX5_look_43, ↓rX5_look_44, ↓rX5_look_47, ↓rX5_look_48, ↓rX5_look_49, ↓rX5_look_50, ↓rX5_look_51, ↓rX5_look_54, ↓rX5_look_55, ↓rX5_look_58, ↓rX5_look_59, ↓rX5_look_61, ↓rX5_look_62, ↓rX5_look_63, ↓rX5_look_64, ↓hg_fX5_15_1, ↓hg_fX5_15_4, ↓hg_fX5_25_1, ↓hg_fX5_25_4, ↓hg_fX5_28_1, ↓hg_fX5_28_4, ↓hg_fX5_9_1, ↓hg_fX5_9_4, ↓hr_10, ↓hr_11, ↓hr_13, ↓hr_14, ↓hr_15, ↓hr_16, ↓hr_18, ↓hr_19, ↓hr_2, ↓hr_20, ↓hr_21, ↓hr_24, ↓hr_25, ↓hr_26, ↓hr_28, ↓hr_29, ↓hr_3, ↓hr_30, ↓hr_33, ↓hr_34, ↓hr_35, ↓hr_36, ↓hr_37, ↓hr_39, ↓hr_41, ↓hr_43, ↓hr_45, ↓hr_5, ↓hr_6, ↓hr_8, ↓hr_9, ↓hw_10, ↓hw_11, ↓hw_13, ↓hw_14, ↓hw_15, ↓hw_16, ↓hw_18, ↓hw_19, ↓hw_2, ↓hw_20, ↓hw_21, ↓hw_24, ↓hw_25, ↓hw_26, ↓hw_28, ↓hw_29, ↓hw_3, ↓hw_30, ↓hw_33, ↓hw_34, ↓hw_35, ↓hw_36, ↓hw_37, ↓hw_39, ↓hw_41, ↓hw_43, ↓hw_45, ↓hw_5, ↓hw_6, ↓hw_8, ↓hw_9, ↓reduceIte, zkeep_n, zkeep_i, zkeep_r, zkeep_l, zup_eq, zIR, zLR, List.length_cons, List.length_nil, Nat.reduceAdd, Nat.reduceLeDiff, Nat.reduceEqDiff, Nat.reduceSub, Int.reduceLE, Int.reduceLT, Int.reduceEq, Int.reduceNe, Int.reduceNeg, Int.reduceAdd, Int.reduceSub, Int.reduceMul, Int.reduceToNat, Nat.le_refl, Nat.zero_le, Nat.zero_add, Int.zero_add, Int.add_zero, and_true, true_and, and_false, false_and, not_true_eq_false, not_false_eq_true, eq_self, ne_eq, true_implies, false_implies, implies_true, or_true, true_or, or_false, false_or, reduceCtorEq, Option.some.injEq, Sum.inl.injEq, exists_eq_left', exists_eq_left, e5, c0, hc, zite]
      repeat' (first | with_reducible apply And.intro | with_reducible intro _)
      all_goals first | omega | (exact idx)
  have e3' : ∀ (q : Int), zup (zup M 1 4 (qflaw S 0)) 1 5 q 1 3 = S 0 0 := fun q => by simp [zup_eq, h3]
  have e4' : ∀ (q : Int), zup (zup M 1 4 (qflaw S 0)) 1 5 q 1 4 = qflaw S 0 := fun q => by simp [zup_eq]
  have e5' : ∀ (q : Int), zup (zup M 1 4 (qflaw S 0)) 1 5 q 1 5 = q := fun q => by simp [zup_eq]
  have st : ∀ q, q = qn S 0 → ∀ x2, uX5_look R 35 [some (.inr (.inr 1)), some (.inl 0), x2] [] (zup (zup M 1 4 (qflaw S 0)) 1 5 q) := fun q hq x2 => by
    subst hq
    exact L (0, zup (zup M 1 4 (qflaw S 0)) 1 5 (qn S 0)) ⟨by simp only; omega, fun k i h1 h2 => by simp only [zup_ne h1], e3' (qn S 0), e4' (qn S 0), e5' (qn S 0), fun i j a b => by simp only at b; omega⟩ x2
  have ed : (S 0 0 + 1).tdiv 6 = (S 0 0 + 1) / 6 := Int.tdiv_eq_ediv_of_nonneg (by omega)
  have f4 : zup M 1 4 (qflaw S 0) 1 4 = qflaw S 0 := by simp [zup_eq]
  have f3 : zup M 1 4 (qflaw S 0) 1 3 = S 0 0 := by simp [zup_eq, h3]
  simp only [↓rX5_look_5, ↓rX5_look_8, ↓rX5_look_9, ↓rX5_look_10, ↓rX5_look_13, ↓rX5_look_14, ↓rX5_look_17, ↓rX5_look_18, ↓rX5_look_21, ↓rX5_look_22, ↓rX5_look_23, ↓rX5_look_25, ↓rX5_look_26, ↓rX5_look_30, ↓rX5_look_33, ↓rX5_look_34, ↓rX5_look_29, ↓hg_fX5_18_1, ↓hg_fX5_18_4, ↓hg_fX5_22_1, ↓hg_fX5_22_4, ↓hp_fX5_22_1, ↓hp_fX5_22_4, ↓hp_fX5_25_1, ↓hp_fX5_25_4, ↓reduceIte, zkeep_n, zkeep_i, zkeep_r, zkeep_l, zIR, zLR, List.length_cons, List.length_nil, Nat.reduceAdd, Nat.reduceLeDiff, Nat.reduceEqDiff, Nat.reduceSub, Int.reduceLE, Int.reduceLT, Int.reduceEq, Int.reduceNe, Int.reduceNeg, Int.reduceAdd, Int.reduceSub, Int.reduceMul, Int.reduceToNat, Nat.le_refl, Nat.zero_le, Nat.zero_add, Int.zero_add, Int.add_zero, and_true, true_and, and_false, false_and, not_true_eq_false, not_false_eq_true, eq_self, ne_eq, true_implies, false_implies, implies_true, or_true, true_or, or_false, false_or, reduceCtorEq, Option.some.injEq, Sum.inl.injEq, exists_eq_left', exists_eq_left, ed, f4, f3, zite]
  repeat' (first | with_reducible apply And.intro | with_reducible intro _)
  all_goals first | omega | (refine st _ ?_ _; rw [qn_0, if_pos (by omega)]) | (refine st _ ?_ _; rw [qn_0, if_neg (by omega)])
set_option maxRecDepth 100000 in
set_option maxHeartbeats 4000000 in
theorem s_flaw4 {S M : zM} {R : zP} (hl : 0 ≤ S 0 1 ∧ S 0 1 ≤ 47) (hb : ∀ i, 0 ≤ i → i < S 0 1 → 0 ≤ S (1 + 1) i ∧ S (1 + 1) i ≤ 255) (h3 : M 4 3 = S 0 1) (hB : ∀ i, 0 ≤ i → i < S 0 1 → M 5 i = S (1 + 1) i) (hR : R (some (.inl (qflaw S 1))) M) : tX5_findFlaw [.inr (.inr 4)] M R := by
  simp only [↓eX5_findFlaw, ↓rX5_findFlaw_0, ↓rX5_findFlaw_1, ↓reduceIte, zkeep_n, zkeep_i, zkeep_r, zkeep_l, zup_eq, zIR, zLR, List.length_cons, List.length_nil, Nat.reduceAdd, Nat.reduceLeDiff, Nat.reduceEqDiff, Nat.reduceSub, Int.reduceLE, Int.reduceLT, Int.reduceEq, Int.reduceNe, Int.reduceNeg, Int.reduceAdd, Int.reduceSub, Int.reduceMul, Int.reduceToNat, Nat.le_refl, Nat.zero_le, Nat.zero_add, Int.zero_add, Int.add_zero, and_true, true_and, and_false, false_and, not_true_eq_false, not_false_eq_true, eq_self, ne_eq, true_implies, false_implies, implies_true, or_true, true_or, or_false, false_or, reduceCtorEq, Option.some.injEq, Sum.inl.injEq, exists_eq_left', exists_eq_left, zite]
  have L : ∀ i : Nat, ((i : Int) ≤ S 0 1 ∧ ∀ j, 0 ≤ j → j < (i : Int) → qfits 1 (j % 6) (S (1 + 1) j)) → uX5_findFlaw R 2 [some (.inr (.inr 4)), some (.inl (i : Int))] [] M := by
    refine zind (fun i => (S 0 1).toNat - i) ?_
    rintro i ⟨hi, hal⟩ ih
    have hf := qfirst_at (p := fun i => decide (qfits 1 (i % 6) (S (1 + 1) i))) (S 0 1).toNat i 0 (by omega) (fun j q1 q2 => decide_eq_true (hal j q1 (by omega)))
    rw [Int.zero_add] at hf
    have hf : (i < (S 0 1).toNat → decide (qfits 1 ((i : Int) % 6) (S (1 + 1) i)) = false) → qend S 1 = i := hf
    refine rX5_findFlaw_2.mpr ?_
    by_cases he : (i : Int) = S 0 1
    · have e := hf (fun q => by omega)
      have fin : ∀ x : Int, x = qflaw S 1 → R (some (.inl x)) M := fun x hx => by rw [hx]; exact hR
      rw [qflaw_1, e, if_neg (by omega)] at fin
      have em : (S 0 1).tmod 6 = S 0 1 % 6 := Int.tmod_eq_emod_of_nonneg hl.1
      simp only [↓rX5_findFlaw_3, ↓rX5_findFlaw_4, ↓rX5_findFlaw_7, ↓rX5_findFlaw_35, ↓rX5_findFlaw_36, ↓rX5_findFlaw_39, ↓rX5_findFlaw_42, ↓rX5_findFlaw_43, ↓rX5_findFlaw_46, ↓rX5_findFlaw_48, ↓rX5_findFlaw_49, ↓rX5_findFlaw_50, ↓rX5_findFlaw_53, ↓rX5_findFlaw_54, ↓rX5_findFlaw_61, ↓rX5_findFlaw_57, ↓rX5_findFlaw_58, ↓hg_fX5_18_1, ↓hg_fX5_18_4, ↓reduceIte, zkeep_n, zkeep_i, zkeep_r, zkeep_l, zup_eq, zIR, zLR, List.length_cons, List.length_nil, Nat.reduceAdd, Nat.reduceLeDiff, Nat.reduceEqDiff, Nat.reduceSub, Int.reduceLE, Int.reduceLT, Int.reduceEq, Int.reduceNe, Int.reduceNeg, Int.reduceAdd, Int.reduceSub, Int.reduceMul, Int.reduceToNat, Nat.le_refl, Nat.zero_le, Nat.zero_add, Int.zero_add, Int.add_zero, and_true, true_and, and_false, false_and, not_true_eq_false, not_false_eq_true, eq_self, ne_eq, true_implies, false_implies, implies_true, or_true, true_or, or_false, false_or, reduceCtorEq, Option.some.injEq, Sum.inl.injEq, exists_eq_left', exists_eq_left, h3, em, zite]
      repeat' (first | with_reducible apply And.intro | with_reducible intro _)
      all_goals first | omega | (refine fin _ ?_; split <;> omega)
    · have em : (i : Int).tmod 6 = (i : Int) % 6 := Int.tmod_eq_emod_of_nonneg (by omega)
      have eB := hB i (by omega) (by omega)
      have rb := hb i (by omega) (by omega)
      have fnd : ¬ qfits 1 ((i : Int) % 6) (S (1 + 1) i) → R (some (.inl (i : Int))) M := fun q => by
        have e := hf (fun _ => decide_eq_false q)
        have e2 : qflaw S 1 = i := by rw [qflaw_1, e, if_pos (by omega)]
        rw [e2] at hR
        exact hR
      have nx : qfits 1 ((i : Int) % 6) (S (1 + 1) i) → uX5_findFlaw R 2 [some (.inr (.inr 4)), some (.inl ((i : Int) + 1))] [] M := fun q => by
        refine ih (i + 1) ⟨by omega, fun j j0 j1 => ?_⟩ (by omega)
        by_cases ej : j = i
        · rw [ej]; exact q
        · exact hal j j0 (by omega)
      have call : zcv (zv 5 tX5_fits) [.inr (.inr 4), .inl ((i : Int) % 6), .inl (S (1 + 1) i)] M (fun v M' => uX5_findFlaw R 24 [some (.inr (.inr 4)), some (.inl (i : Int))] [v] M') := by
        refine s_fits4 (by omega) rb.1 (by omega) (fun q => ?_) (fun q => ?_)
        · have nx := nx q
          simp only [↓rX5_findFlaw_24, ↓rX5_findFlaw_29, ↓rX5_findFlaw_32, ↓reduceIte, zkeep_n, zkeep_i, zkeep_r, zkeep_l, zup_eq, zIR, zLR, List.length_cons, List.length_nil, Nat.reduceAdd, Nat.reduceLeDiff, Nat.reduceEqDiff, Nat.reduceSub, Int.reduceLE, Int.reduceLT, Int.reduceEq, Int.reduceNe, Int.reduceNeg, Int.reduceAdd, Int.reduceSub, Int.reduceMul, Int.reduceToNat, Nat.le_refl, Nat.zero_le, Nat.zero_add, Int.zero_add, Int.add_zero, and_true, true_and, and_false, false_and, not_true_eq_false, not_false_eq_true, eq_self, ne_eq, true_implies, false_implies, implies_true, or_true, true_or, or_false, false_or, reduceCtorEq, Option.some.injEq, Sum.inl.injEq, exists_eq_left', exists_eq_left, zite]
          exact nx
        · have fnd := fnd q
          simp only [↓rX5_findFlaw_24, ↓rX5_findFlaw_27, ↓rX5_findFlaw_28, ↓reduceIte, zkeep_n, zkeep_i, zkeep_r, zkeep_l, zup_eq, zIR, zLR, List.length_cons, List.length_nil, Nat.reduceAdd, Nat.reduceLeDiff, Nat.reduceEqDiff, Nat.reduceSub, Int.reduceLE, Int.reduceLT, Int.reduceEq, Int.reduceNe, Int.reduceNeg, Int.reduceAdd, Int.reduceSub, Int.reduceMul, Int.reduceToNat, Nat.le_refl, Nat.zero_le, Nat.zero_add, Int.zero_add, Int.add_zero, and_true, true_and, and_false, false_and, not_true_eq_false, not_false_eq_true, eq_self, ne_eq, true_implies, false_implies, implies_true, or_true, true_or, or_false, false_or, reduceCtorEq, Option.some.injEq, Sum.inl.injEq, exists_eq_left', exists_eq_left, zite]
          exact fnd
      simp only [↓rX5_findFlaw_3, ↓rX5_findFlaw_4, ↓rX5_findFlaw_7, ↓rX5_findFlaw_10, ↓rX5_findFlaw_11, ↓rX5_findFlaw_12, ↓rX5_findFlaw_14, ↓rX5_findFlaw_15, ↓rX5_findFlaw_16, ↓rX5_findFlaw_19, ↓rX5_findFlaw_20, ↓rX5_findFlaw_21, ↓hg_fX5_18_1, ↓hg_fX5_18_4, ↓hg_fX5_9_1, ↓hg_fX5_9_4, ↓hr_10, ↓hr_11, ↓hr_13, ↓hr_14, ↓hr_15, ↓hr_16, ↓hr_18, ↓hr_19, ↓hr_2, ↓hr_20, ↓hr_21, ↓hr_24, ↓hr_25, ↓hr_26, ↓hr_28, ↓hr_29, ↓hr_3, ↓hr_30, ↓hr_33, ↓hr_34, ↓hr_35, ↓hr_36, ↓hr_37, ↓hr_39, ↓hr_41, ↓hr_43, ↓hr_45, ↓hr_5, ↓hr_6, ↓hr_8, ↓hr_9, ↓hw_10, ↓hw_11, ↓hw_13, ↓hw_14, ↓hw_15, ↓hw_16, ↓hw_18, ↓hw_19, ↓hw_2, ↓hw_20, ↓hw_21, ↓hw_24, ↓hw_25, ↓hw_26, ↓hw_28, ↓hw_29, ↓hw_3, ↓hw_30, ↓hw_33, ↓hw_34, ↓hw_35, ↓hw_36, ↓hw_37, ↓hw_39, ↓hw_41, ↓hw_43, ↓hw_45, ↓hw_5, ↓hw_6, ↓hw_8, ↓hw_9, ↓reduceIte, zkeep_n, zkeep_i, zkeep_r, zkeep_l, zup_eq, zIR, zLR, List.length_cons, List.length_nil, Nat.reduceAdd, Nat.reduceLeDiff, Nat.reduceEqDiff, Nat.reduceSub, Int.reduceLE, Int.reduceLT, Int.reduceEq, Int.reduceNe, Int.reduceNeg, Int.reduceAdd, Int.reduceSub, Int.reduceMul, Int.reduceToNat, Nat.le_refl, Nat.zero_le, Nat.zero_add, Int.zero_add, Int.add_zero, and_true, true_and, and_false, false_and, not_true_eq_false, not_false_eq_true, eq_self, ne_eq, true_implies, false_implies, implies_true, or_true, true_or, or_false, false_or, reduceCtorEq, Option.some.injEq, Sum.inl.injEq, exists_eq_left', exists_eq_left, h3, em, eB, zite]
      repeat' (first | with_reducible apply And.intro | with_reducible intro _)
      all_goals first | omega | (exact call)
  exact L 0 ⟨by omega, fun j a b => by omega⟩
set_option maxRecDepth 100000 in
set_option maxHeartbeats 8000000 in
theorem s_look4 {S M : zM} {R : zP} (hl : 0 ≤ S 0 1 ∧ S 0 1 ≤ 47) (hb : ∀ i, 0 ≤ i → i < S 0 1 → 0 ≤ S (1 + 1) i ∧ S (1 + 1) i ≤ 255) (h3 : M 4 3 = S 0 1) (hB : ∀ i, 0 ≤ i → i < S 0 1 → M 5 i = S (1 + 1) i)
    (hR : ∀ M', (∀ k i, k ≠ 4 → k ≠ 6 → M' k i = M k i) → M' 4 3 = S 0 1 → M' 4 4 = qflaw S 1 → M' 4 5 = qn S 1 → FX S 1 6 M' → R none M') : tX5_look [.inr (.inr 4)] M R := by
  have hqn : 0 ≤ qn S 1 ∧ qn S 1 ≤ 8 ∧ (0 < qn S 1 → 6 * qn S 1 = S 0 1 + 1) := by
    rw [qn_1]
    split
    · rename_i hfl
      rw [qflaw_1] at hfl
      refine ⟨by omega, by omega, fun _ => ?_⟩
      split at hfl
      · have lo : 0 ≤ qend S 1 := qfirst_lo _ _
        omega
      · split at hfl <;> omega
    · omega
  have hfR : -1 ≤ qflaw S 1 ∧ qflaw S 1 ≤ 47 := by
    have lo : 0 ≤ qend S 1 := qfirst_lo _ _
    rw [qflaw_1]
    (repeat' split) <;> omega
  simp only [↓eX5_look, ↓rX5_look_0, ↓rX5_look_1, ↓rX5_look_2, ↓reduceIte, zkeep_n, zkeep_i, zkeep_r, zkeep_l, zup_eq, zIR, zLR, List.length_cons, List.length_nil, Nat.reduceAdd, Nat.reduceLeDiff, Nat.reduceEqDiff, Nat.reduceSub, Int.reduceLE, Int.reduceLT, Int.reduceEq, Int.reduceNe, Int.reduceNeg, Int.reduceAdd, Int.reduceSub, Int.reduceMul, Int.reduceToNat, Nat.le_refl, Nat.zero_le, Nat.zero_add, Int.zero_add, Int.add_zero, and_true, true_and, and_false, false_and, not_true_eq_false, not_false_eq_true, eq_self, ne_eq, true_implies, false_implies, implies_true, or_true, true_or, or_false, false_or, reduceCtorEq, Option.some.injEq, Sum.inl.injEq, exists_eq_left', exists_eq_left, zite]
  refine zcvv rfl (s_flaw4 hl hb h3 hB ⟨_, rfl, ?_⟩)
  have L : ∀ s : Nat × zM, ((s.1 : Int) ≤ qn S 1 ∧ (∀ k i, k ≠ 4 → k ≠ 6 → s.2 k i = M k i) ∧ s.2 4 3 = S 0 1 ∧ s.2 4 4 = qflaw S 1 ∧ s.2 4 5 = qn S 1 ∧ (∀ i j, 0 ≤ i → i < (s.1 : Int) → 0 ≤ j → j < 5 → s.2 6 (i * 5 + j) = qfact S 1 i j)) → ∀ x2, uX5_look R 35 [some (.inr (.inr 4)), some (.inl (s.1 : Int)), x2] [] s.2 := by
    refine zind (fun s => (qn S 1).toNat - s.1) ?_
    rintro ⟨i, N⟩ ⟨hi, hfr, e3, e4, e5, hx⟩ ih x2
    simp only at hi hfr e3 e4 e5 hx ih
    refine rX5_look_35.mpr ?_
    by_cases he : (i : Int) = qn S 1
    · have fin := hR N hfr e3 e4 e5 (fun a b c d e f => hx a b c (by omega) e f)
      simp only [↓rX5_look_36, ↓rX5_look_37, ↓rX5_look_40, ↓rX5_look_111, ↓hg_fX5_25_1, ↓hg_fX5_25_4, ↓reduceIte, zkeep_n, zkeep_i, zkeep_r, zkeep_l, zup_eq, zIR, zLR, List.length_cons, List.length_nil, Nat.reduceAdd, Nat.reduceLeDiff, Nat.reduceEqDiff, Nat.reduceSub, Int.reduceLE, Int.reduceLT, Int.reduceEq, Int.reduceNe, Int.reduceNeg, Int.reduceAdd, Int.reduceSub, Int.reduceMul, Int.reduceToNat, Nat.le_refl, Nat.zero_le, Nat.zero_add, Int.zero_add, Int.add_zero, and_true, true_and, and_false, false_and, not_true_eq_false, not_false_eq_true, eq_self, ne_eq, true_implies, false_implies, implies_true, or_true, true_or, or_false, false_or, reduceCtorEq, Option.some.injEq, Sum.inl.injEq, exists_eq_left', exists_eq_left, e5, zite]
      repeat' (first | with_reducible apply And.intro | with_reducible intro _)
      all_goals first | omega | (exact fin)
    · have bb : ∀ j, 0 ≤ j → j < 5 → N 5 ((i : Int) * 6 + j) = S (1 + 1) ((i : Int) * 6 + j) ∧ 0 ≤ S (1 + 1) ((i : Int) * 6 + j) ∧ S (1 + 1) ((i : Int) * 6 + j) ≤ 255 := fun j j0 j1 => by
        have q := hB ((i : Int) * 6 + j) (by omega) (by omega)
        exact ⟨(hfr _ _ (by decide) (by decide)).trans q, hb _ (by omega) (by omega)⟩
      have b0 := bb 0 (by decide) (by decide)
      rw [Int.add_zero] at b0
      have b1 := bb 1 (by decide) (by decide)
      have b2 := bb 2 (by decide) (by decide)
      have b3 := bb 3 (by decide) (by decide)
      have b4 := bb 4 (by decide) (by decide)
      have hc := zi2c_at b0.2.1 (by omega)
      have nx := fun x2 => ih (i + 1, zup (zup (zup (zup (zup N 6 ((i : Int) * 5) (qlet 1 (S (1 + 1) ((i : Int) * 6)))) 6 ((i : Int) * 5 + 1) (S (1 + 1) ((i : Int) * 6 + 1) - 48)) 6 ((i : Int) * 5 + 2) (S (1 + 1) ((i : Int) * 6 + 2) - 48)) 6 ((i : Int) * 5 + 3) (S (1 + 1) ((i : Int) * 6 + 3) - 48)) 6 ((i : Int) * 5 + 4) (S (1 + 1) ((i : Int) * 6 + 4) - 48)) ⟨by simp only; omega, fun k j h1 h2 => by simp only [zup_ne h2]; exact hfr k j h1 h2, by simp only [zup_ne (show 4 ≠ 6 by decide)]; exact e3, by simp only [zup_ne (show 4 ≠ 6 by decide)]; exact e4, by simp only [zup_ne (show 4 ≠ 6 by decide)]; exact e5, fun a j a0 a1 j0 j1 => by
        simp only [zup_in] at a1 ⊢
        by_cases ea : a = i
        · subst ea
          unfold qfact
          have ej : j = 0 ∨ j = 1 ∨ j = 2 ∨ j = 3 ∨ j = 4 := by omega
          rcases ej with rfl | rfl | rfl | rfl | rfl
          · rw [if_neg (by omega), if_neg (by omega), if_neg (by omega), if_neg (by omega), if_pos (by omega), if_pos rfl, Int.mul_comm 6]
          · rw [if_neg (by omega), if_neg (by omega), if_neg (by omega), if_pos (by omega), if_neg (by omega), Int.mul_comm 6]
          · rw [if_neg (by omega), if_neg (by omega), if_pos (by omega), if_neg (by omega), Int.mul_comm 6]
          · rw [if_neg (by omega), if_pos (by omega), if_neg (by omega), Int.mul_comm 6]
          · rw [if_pos (by omega), if_neg (by omega), Int.mul_comm 6]
        · rw [if_neg (by omega), if_neg (by omega), if_neg (by omega), if_neg (by omega), if_neg (by omega)]
          exact hx a j a0 (by omega) j0 j1⟩ (by simp only; omega) x2
      have idx : zcv (zv 99 tJ0_indexOf_0f7a4) [.inr (.inr 101), .inl (S (1 + 1) ((i : Int) * 6))] N (fun v M' => uX5_look R 67 [some (.inr (.inr 4)), some (.inl (i : Int)), x2] [v, .inl ((i : Int) * 5), .inr (.inr 6)] M') := by
        refine s_idx101 b0.2.1 (by omega) ?_
        have c1 := b1.1
        have c2 := b2.1
        have c3 := b3.1
        have c4 := b4.1
        simp only [↓rX5_look_67, ↓rX5_look_68, ↓rX5_look_69, ↓rX5_look_70, ↓rX5_look_71, ↓rX5_look_72, ↓rX5_look_75, ↓rX5_look_76, ↓rX5_look_79, ↓rX5_look_80, ↓rX5_look_81, ↓rX5_look_82, ↓rX5_look_83, ↓rX5_look_84, ↓rX5_look_85, ↓rX5_look_88, ↓rX5_look_89, ↓rX5_look_91, ↓rX5_look_92, ↓rX5_look_93, ↓rX5_look_94, ↓rX5_look_95, ↓rX5_look_97, ↓rX5_look_98, ↓rX5_look_99, ↓rX5_look_102, ↓rX5_look_105, ↓rX5_look_108, ↓hg_fX5_15_1, ↓hg_fX5_15_4, ↓hg_fX5_9_1, ↓hg_fX5_9_4, ↓hr_10, ↓hr_11, ↓hr_13, ↓hr_14, ↓hr_15, ↓hr_16, ↓hr_18, ↓hr_19, ↓hr_2, ↓hr_20, ↓hr_21, ↓hr_24, ↓hr_25, ↓hr_26, ↓hr_28, ↓hr_29, ↓hr_3, ↓hr_30, ↓hr_33, ↓hr_34, ↓hr_35, ↓hr_36, ↓hr_37, ↓hr_39, ↓hr_41, ↓hr_43, ↓hr_45, ↓hr_5, ↓hr_6, ↓hr_8, ↓hr_9, ↓hw_10, ↓hw_11, ↓hw_13, ↓hw_14, ↓hw_15, ↓hw_16, ↓hw_18, ↓hw_19, ↓hw_2, ↓hw_20, ↓hw_21, ↓hw_24, ↓hw_25, ↓hw_26, ↓hw_28, ↓hw_29, ↓hw_3, ↓hw_30, ↓hw_33, ↓hw_34, ↓hw_35, ↓hw_36, ↓hw_37, ↓hw_39, ↓hw_41, ↓hw_43, ↓hw_45, ↓hw_5, ↓hw_6, ↓hw_8, ↓hw_9, ↓reduceIte, zkeep_n, zkeep_i, zkeep_r, zkeep_l, zIR, zLR, List.length_cons, List.length_nil, Nat.reduceAdd, Nat.reduceLeDiff, Nat.reduceEqDiff, Nat.reduceSub, Int.reduceLE, Int.reduceLT, Int.reduceEq, Int.reduceNe, Int.reduceNeg, Int.reduceAdd, Int.reduceSub, Int.reduceMul, Int.reduceToNat, Nat.le_refl, Nat.zero_le, Nat.zero_add, Int.zero_add, Int.add_zero, and_true, true_and, and_false, false_and, not_true_eq_false, not_false_eq_true, eq_self, ne_eq, true_implies, false_implies, implies_true, or_true, true_or, or_false, false_or, reduceCtorEq, Option.some.injEq, Sum.inl.injEq, exists_eq_left', exists_eq_left, zite]
        simp only [zup_ne (show 5 ≠ 6 by decide), c1, c2, c3, c4]
        repeat' (first | with_reducible apply And.intro | with_reducible intro _)
        all_goals first | omega | (exact nx _)
      have c0 := b0.1
      simp only [↓rX5_look_36, ↓rX5_look_37, ↓rX5_look_40, ↓rX5_look_43, ↓rX5_look_44, ↓rX5_look_47, ↓rX5_look_48, ↓rX5_look_49, ↓rX5_look_50, ↓rX5_look_51, ↓rX5_look_54, ↓rX5_look_55, ↓rX5_look_58, ↓rX5_look_59, ↓rX5_look_61, ↓rX5_look_62, ↓rX5_look_63, ↓rX5_look_64, ↓hg_fX5_15_1, ↓hg_fX5_15_4, ↓hg_fX5_25_1, ↓hg_fX5_25_4, ↓hg_fX5_28_1, ↓hg_fX5_28_4, ↓hg_fX5_9_1, ↓hg_fX5_9_4, ↓hr_10, ↓hr_11, ↓hr_13, ↓hr_14, ↓hr_15, ↓hr_16, ↓hr_18, ↓hr_19, ↓hr_2, ↓hr_20, ↓hr_21, ↓hr_24, ↓hr_25, ↓hr_26, ↓hr_28, ↓hr_29, ↓hr_3, ↓hr_30, ↓hr_33, ↓hr_34, ↓hr_35, ↓hr_36, ↓hr_37, ↓hr_39, ↓hr_41, ↓hr_43, ↓hr_45, ↓hr_5, ↓hr_6, ↓hr_8, ↓hr_9, ↓hw_10, ↓hw_11, ↓hw_13, ↓hw_14, ↓hw_15, ↓hw_16, ↓hw_18, ↓hw_19, ↓hw_2, ↓hw_20, ↓hw_21, ↓hw_24, ↓hw_25, ↓hw_26, ↓hw_28, ↓hw_29, ↓hw_3, ↓hw_30, ↓hw_33, ↓hw_34, ↓hw_35, ↓hw_36, ↓hw_37, ↓hw_39, ↓hw_41, ↓hw_43, ↓hw_45, ↓hw_5, ↓hw_6, ↓hw_8, ↓hw_9, ↓reduceIte, zkeep_n, zkeep_i, zkeep_r, zkeep_l, zup_eq, zIR, zLR, List.length_cons, List.length_nil, Nat.reduceAdd, Nat.reduceLeDiff, Nat.reduceEqDiff, Nat.reduceSub, Int.reduceLE, Int.reduceLT, Int.reduceEq, Int.reduceNe, Int.reduceNeg, Int.reduceAdd, Int.reduceSub, Int.reduceMul, Int.reduceToNat, Nat.le_refl, Nat.zero_le, Nat.zero_add, Int.zero_add, Int.add_zero, and_true, true_and, and_false, false_and, not_true_eq_false, not_false_eq_true, eq_self, ne_eq, true_implies, false_implies, implies_true, or_true, true_or, or_false, false_or, reduceCtorEq, Option.some.injEq, Sum.inl.injEq, exists_eq_left', exists_eq_left, e5, c0, hc, zite]
      repeat' (first | with_reducible apply And.intro | with_reducible intro _)
      all_goals first | omega | (exact idx)
  have e3' : ∀ (q : Int), zup (zup M 4 4 (qflaw S 1)) 4 5 q 4 3 = S 0 1 := fun q => by simp [zup_eq, h3]
  have e4' : ∀ (q : Int), zup (zup M 4 4 (qflaw S 1)) 4 5 q 4 4 = qflaw S 1 := fun q => by simp [zup_eq]
  have e5' : ∀ (q : Int), zup (zup M 4 4 (qflaw S 1)) 4 5 q 4 5 = q := fun q => by simp [zup_eq]
  have st : ∀ q, q = qn S 1 → ∀ x2, uX5_look R 35 [some (.inr (.inr 4)), some (.inl 0), x2] [] (zup (zup M 4 4 (qflaw S 1)) 4 5 q) := fun q hq x2 => by
    subst hq
    exact L (0, zup (zup M 4 4 (qflaw S 1)) 4 5 (qn S 1)) ⟨by simp only; omega, fun k i h1 h2 => by simp only [zup_ne h1], e3' (qn S 1), e4' (qn S 1), e5' (qn S 1), fun i j a b => by simp only at b; omega⟩ x2
  have ed : (S 0 1 + 1).tdiv 6 = (S 0 1 + 1) / 6 := Int.tdiv_eq_ediv_of_nonneg (by omega)
  have f4 : zup M 4 4 (qflaw S 1) 4 4 = qflaw S 1 := by simp [zup_eq]
  have f3 : zup M 4 4 (qflaw S 1) 4 3 = S 0 1 := by simp [zup_eq, h3]
  simp only [↓rX5_look_5, ↓rX5_look_8, ↓rX5_look_9, ↓rX5_look_10, ↓rX5_look_13, ↓rX5_look_14, ↓rX5_look_17, ↓rX5_look_18, ↓rX5_look_21, ↓rX5_look_22, ↓rX5_look_23, ↓rX5_look_25, ↓rX5_look_26, ↓rX5_look_30, ↓rX5_look_33, ↓rX5_look_34, ↓rX5_look_29, ↓hg_fX5_18_1, ↓hg_fX5_18_4, ↓hg_fX5_22_1, ↓hg_fX5_22_4, ↓hp_fX5_22_1, ↓hp_fX5_22_4, ↓hp_fX5_25_1, ↓hp_fX5_25_4, ↓reduceIte, zkeep_n, zkeep_i, zkeep_r, zkeep_l, zIR, zLR, List.length_cons, List.length_nil, Nat.reduceAdd, Nat.reduceLeDiff, Nat.reduceEqDiff, Nat.reduceSub, Int.reduceLE, Int.reduceLT, Int.reduceEq, Int.reduceNe, Int.reduceNeg, Int.reduceAdd, Int.reduceSub, Int.reduceMul, Int.reduceToNat, Nat.le_refl, Nat.zero_le, Nat.zero_add, Int.zero_add, Int.add_zero, and_true, true_and, and_false, false_and, not_true_eq_false, not_false_eq_true, eq_self, ne_eq, true_implies, false_implies, implies_true, or_true, true_or, or_false, false_or, reduceCtorEq, Option.some.injEq, Sum.inl.injEq, exists_eq_left', exists_eq_left, ed, f4, f3, zite]
  repeat' (first | with_reducible apply And.intro | with_reducible intro _)
  all_goals first | omega | (refine st _ ?_ _; rw [qn_1, if_pos (by omega)]) | (refine st _ ?_ _; rw [qn_1, if_neg (by omega)])
