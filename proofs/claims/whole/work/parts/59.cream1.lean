theorem nb_mach_d : ∀ f : Fin 8, ∀ x : Fin 256, (zand (zshr x.val f.val) 1 = if nb x.val f.val = true then 1 else 0) := by decide +kernel
theorem nb_mach {f x : Nat} (hf : f < 8) (hx : x < 256) : zand (zshr x f) 1 = if nb x f = true then 1 else 0 := nb_mach_d ⟨f, hf⟩ ⟨x, hx⟩
set_option maxRecDepth 100000 in
set_option maxHeartbeats 4000000 in
theorem s_chance {M : zM} {R : zP} {c : Int} {x o : Nat} (hc : 0 ≤ c ∧ c ≤ 16) (hx : x < 256) (ho : o < 256) (hR : R (some (.inr (.inl (pr c (nb o) (nb x) 8)))) M) : tX7_chance [.inl c, .inl (x : Int), .inl (o : Int)] M R := by
  simp only [↓eX7_chance, ↓rX7_chance_0, ↓rX7_chance_1, ↓rX7_chance_2, ↓rX7_chance_3, ↓reduceIte, zkeep_n, zkeep_i, zkeep_r, zkeep_l, zup_eq, zIR, zLR, List.length_cons, List.length_nil, Nat.reduceAdd, Nat.reduceLeDiff, Nat.reduceEqDiff, Nat.reduceSub, Int.reduceLE, Int.reduceLT, Int.reduceEq, Int.reduceNe, Int.reduceNeg, Int.reduceAdd, Int.reduceSub, Int.reduceMul, Int.reduceToNat, Nat.le_refl, Nat.zero_le, Nat.zero_add, Int.zero_add, Int.add_zero, and_true, true_and, and_false, false_and, not_true_eq_false, not_false_eq_true, eq_self, ne_eq, true_implies, false_implies, implies_true, or_true, true_or, or_false, false_or, reduceCtorEq, Option.some.injEq, Sum.inl.injEq, exists_eq_left', exists_eq_left, zite]
  have L : ∀ f : Nat, f ≤ 8 → uX7_chance R 5 [some (.inl c), some (.inl (x : Int)), some (.inl (o : Int)), some (.inr (.inl (pr c (nb o) (nb x) f))), none, some (.inl (f : Int))] [] M := by
    refine zind (fun f => 8 - f) ?_
    intro f hf ih
    refine rX7_chance_5.mpr ?_
    by_cases he : f = 8
    · subst he
      simp only [↓rX7_chance_7, ↓rX7_chance_9, ↓rX7_chance_49, ↓rX7_chance_50, ↓reduceIte, zkeep_n, zkeep_i, zkeep_r, zkeep_l, zup_eq, zIR, zLR, List.length_cons, List.length_nil, Nat.reduceAdd, Nat.reduceLeDiff, Nat.reduceEqDiff, Nat.reduceSub, Int.reduceLE, Int.reduceLT, Int.reduceEq, Int.reduceNe, Int.reduceNeg, Int.reduceAdd, Int.reduceSub, Int.reduceMul, Int.reduceToNat, Nat.le_refl, Nat.zero_le, Nat.zero_add, Int.zero_add, Int.add_zero, and_true, true_and, and_false, false_and, not_true_eq_false, not_false_eq_true, eq_self, ne_eq, true_implies, false_implies, implies_true, or_true, true_or, or_false, false_or, reduceCtorEq, Option.some.injEq, Sum.inl.injEq, exists_eq_left', exists_eq_left, zite]
      repeat' (first | with_reducible apply And.intro | with_reducible intro _)
      all_goals first | omega | (exact hR)
    · have nx := ih (f + 1) (by omega) (by omega)
      simp only [pr] at nx
      have b1 := nb_mach (f := f) (by omega) ho
      have b2 := nb_mach (f := f) (by omega) hx
      cases e1 : nb o f with
      | false =>
        rw [e1, if_neg (by simp)] at b1
        simp only [e1, Bool.false_eq_true, if_false, Int.mul_one] at nx
        simp only [↓rX7_chance_7, ↓rX7_chance_9, ↓rX7_chance_12, ↓rX7_chance_13, ↓rX7_chance_15, ↓rX7_chance_16, ↓rX7_chance_17, ↓rX7_chance_18, ↓rX7_chance_43, ↓rX7_chance_46, ↓reduceIte, zkeep_n, zkeep_i, zkeep_r, zkeep_l, zup_eq, zIR, zLR, List.length_cons, List.length_nil, Nat.reduceAdd, Nat.reduceLeDiff, Nat.reduceEqDiff, Nat.reduceSub, Int.reduceLE, Int.reduceLT, Int.reduceEq, Int.reduceNe, Int.reduceNeg, Int.reduceAdd, Int.reduceSub, Int.reduceMul, Int.reduceToNat, Nat.le_refl, Nat.zero_le, Nat.zero_add, Int.zero_add, Int.add_zero, and_true, true_and, and_false, false_and, not_true_eq_false, not_false_eq_true, eq_self, ne_eq, true_implies, false_implies, implies_true, or_true, true_or, or_false, false_or, reduceCtorEq, Option.some.injEq, Sum.inl.injEq, exists_eq_left', exists_eq_left, b1, zite]
        repeat' (first | with_reducible apply And.intro | with_reducible intro _)
        all_goals first | omega | (exact nx)
      | true =>
        rw [e1, if_pos rfl] at b1
        cases e2 : nb x f with
        | false =>
          rw [e2, if_neg (by simp)] at b2
          simp only [e1, e2, Bool.false_eq_true, if_false, if_true] at nx
          simp only [↓rX7_chance_7, ↓rX7_chance_9, ↓rX7_chance_12, ↓rX7_chance_13, ↓rX7_chance_15, ↓rX7_chance_16, ↓rX7_chance_17, ↓rX7_chance_18, ↓rX7_chance_21, ↓rX7_chance_22, ↓rX7_chance_23, ↓rX7_chance_25, ↓rX7_chance_26, ↓rX7_chance_27, ↓rX7_chance_28, ↓rX7_chance_31, ↓rX7_chance_32, ↓rX7_chance_33, ↓rX7_chance_41, ↓rX7_chance_42, ↓rX7_chance_43, ↓rX7_chance_46, ↓rX7_chance_36, ↓rX7_chance_38, ↓rX7_chance_39, ↓rX7_chance_40, ↓reduceIte, zkeep_n, zkeep_i, zkeep_r, zkeep_l, zup_eq, zIR, zLR, List.length_cons, List.length_nil, Nat.reduceAdd, Nat.reduceLeDiff, Nat.reduceEqDiff, Nat.reduceSub, Int.reduceLE, Int.reduceLT, Int.reduceEq, Int.reduceNe, Int.reduceNeg, Int.reduceAdd, Int.reduceSub, Int.reduceMul, Int.reduceToNat, Nat.le_refl, Nat.zero_le, Nat.zero_add, Int.zero_add, Int.add_zero, and_true, true_and, and_false, false_and, not_true_eq_false, not_false_eq_true, eq_self, ne_eq, true_implies, false_implies, implies_true, or_true, true_or, or_false, false_or, reduceCtorEq, Option.some.injEq, Sum.inl.injEq, exists_eq_left', exists_eq_left, b1, b2, zite]
          repeat' (first | with_reducible apply And.intro | with_reducible intro _)
          all_goals first | omega | (exact nx)
        | true =>
          rw [e2, if_pos rfl] at b2
          simp only [e1, e2, if_true] at nx
          simp only [↓rX7_chance_7, ↓rX7_chance_9, ↓rX7_chance_12, ↓rX7_chance_13, ↓rX7_chance_15, ↓rX7_chance_16, ↓rX7_chance_17, ↓rX7_chance_18, ↓rX7_chance_21, ↓rX7_chance_22, ↓rX7_chance_23, ↓rX7_chance_25, ↓rX7_chance_26, ↓rX7_chance_27, ↓rX7_chance_28, ↓rX7_chance_31, ↓rX7_chance_32, ↓rX7_chance_33, ↓rX7_chance_41, ↓rX7_chance_42, ↓rX7_chance_43, ↓rX7_chance_46, ↓rX7_chance_36, ↓rX7_chance_38, ↓rX7_chance_39, ↓rX7_chance_40, ↓reduceIte, zkeep_n, zkeep_i, zkeep_r, zkeep_l, zup_eq, zIR, zLR, List.length_cons, List.length_nil, Nat.reduceAdd, Nat.reduceLeDiff, Nat.reduceEqDiff, Nat.reduceSub, Int.reduceLE, Int.reduceLT, Int.reduceEq, Int.reduceNe, Int.reduceNeg, Int.reduceAdd, Int.reduceSub, Int.reduceMul, Int.reduceToNat, Nat.le_refl, Nat.zero_le, Nat.zero_add, Int.zero_add, Int.add_zero, and_true, true_and, and_false, false_and, not_true_eq_false, not_false_eq_true, eq_self, ne_eq, true_implies, false_implies, implies_true, or_true, true_or, or_false, false_or, reduceCtorEq, Option.some.injEq, Sum.inl.injEq, exists_eq_left', exists_eq_left, b1, b2, zite]
          repeat' (first | with_reducible apply And.intro | with_reducible intro _)
          all_goals first | omega | (exact nx)
  exact L 0 (by omega)
set_option maxRecDepth 100000 in
set_option maxHeartbeats 4000000 in
theorem s_feedsOf {M g : zM} {R : zP} {n T : Nat} {m : Int} (hF : FR 7 n g M) (hm : 0 ≤ m ∧ m < 8) (hT : T < 20) (hR : R (some (.inl (wbs (fun f => decide (g 2 f = m ∧ g 1 f ≤ T)) n))) M) : tX4_feedsOf [.inr (.inr 7), .inl m, .inl (T : Int)] M R := by
  obtain ⟨hn, hn8, _, hf⟩ := hF
  simp only [↓eX4_feedsOf, ↓rX4_feedsOf_0, ↓rX4_feedsOf_1, ↓rX4_feedsOf_2, ↓rX4_feedsOf_3, ↓reduceIte, zkeep_n, zkeep_i, zkeep_r, zkeep_l, zup_eq, zIR, zLR, List.length_cons, List.length_nil, Nat.reduceAdd, Nat.reduceLeDiff, Nat.reduceEqDiff, Nat.reduceSub, Int.reduceLE, Int.reduceLT, Int.reduceEq, Int.reduceNe, Int.reduceNeg, Int.reduceAdd, Int.reduceSub, Int.reduceMul, Int.reduceToNat, Nat.le_refl, Nat.zero_le, Nat.zero_add, Int.zero_add, Int.add_zero, and_true, true_and, and_false, false_and, not_true_eq_false, not_false_eq_true, eq_self, ne_eq, true_implies, false_implies, implies_true, or_true, true_or, or_false, false_or, reduceCtorEq, Option.some.injEq, Sum.inl.injEq, exists_eq_left', exists_eq_left, zite]
  generalize hp : (fun f : Nat => decide (g 2 f = m ∧ g 1 f ≤ T)) = p at hR
  have L : ∀ f : Nat, f ≤ n → uX4_feedsOf R 5 [some (.inr (.inr 7)), some (.inl m), some (.inl (T : Int)), some (.inl (wbs p f)), some (.inl (f : Int))] [] M := by
    refine zind (fun f => n - f) ?_
    intro f hfn ih
    refine rX4_feedsOf_5.mpr ?_
    by_cases he : f = n
    · subst he
      simp only [↓rX4_feedsOf_7, ↓rX4_feedsOf_8, ↓rX4_feedsOf_11, ↓rX4_feedsOf_49, ↓rX4_feedsOf_50, ↓hg_fX4_24_12, ↓hg_fX4_24_7, ↓reduceIte, zkeep_n, zkeep_i, zkeep_r, zkeep_l, zup_eq, zIR, zLR, List.length_cons, List.length_nil, Nat.reduceAdd, Nat.reduceLeDiff, Nat.reduceEqDiff, Nat.reduceSub, Int.reduceLE, Int.reduceLT, Int.reduceEq, Int.reduceNe, Int.reduceNeg, Int.reduceAdd, Int.reduceSub, Int.reduceMul, Int.reduceToNat, Nat.le_refl, Nat.zero_le, Nat.zero_add, Int.zero_add, Int.add_zero, and_true, true_and, and_false, false_and, not_true_eq_false, not_false_eq_true, eq_self, ne_eq, true_implies, false_implies, implies_true, or_true, true_or, or_false, false_or, reduceCtorEq, Option.some.injEq, Sum.inl.injEq, exists_eq_left', exists_eq_left, hn, zite]
      repeat' (first | with_reducible apply And.intro | with_reducible intro _)
      all_goals first | omega | (exact hR)
    · have nx := ih (f + 1) (by omega) (by omega)
      simp only [wbs] at nx
      have hff := hf f (by omega)
      have e1 : M 8 f = g 1 f := hff.1.1
      have e2 : M 9 f = g 2 f := hff.2.1.1
      have hw := wbs_R p f
      have z1 := zor_1 (m := f) (by omega) hw.1 hw.2
      have hpf : p f = true ↔ (g 2 f = m ∧ g 1 f ≤ T) := by rw [← hp]; simp
      have yes : (g 2 f = m ∧ g 1 f ≤ T) → uX4_feedsOf R 5 [some (.inr (.inr 7)), some (.inl m), some (.inl (T : Int)), some (.inl (zor (wbs p f) (zshl 1 f))), some (.inl ((f : Int) + 1))] [] M := fun q => by
        rw [z1]
        rw [if_pos (hpf.mpr q)] at nx
        exact nx
      have no : ¬ (g 2 f = m ∧ g 1 f ≤ T) → uX4_feedsOf R 5 [some (.inr (.inr 7)), some (.inl m), some (.inl (T : Int)), some (.inl (wbs p f)), some (.inl ((f : Int) + 1))] [] M := fun q => by
        rw [if_neg (fun z => q (hpf.mp z)), Int.add_zero] at nx
        exact nx
      simp only [↓rX4_feedsOf_7, ↓rX4_feedsOf_8, ↓rX4_feedsOf_11, ↓rX4_feedsOf_14, ↓rX4_feedsOf_15, ↓rX4_feedsOf_18, ↓rX4_feedsOf_20, ↓rX4_feedsOf_21, ↓rX4_feedsOf_22, ↓rX4_feedsOf_25, ↓rX4_feedsOf_26, ↓rX4_feedsOf_29, ↓rX4_feedsOf_31, ↓rX4_feedsOf_32, ↓rX4_feedsOf_33, ↓rX4_feedsOf_36, ↓rX4_feedsOf_37, ↓rX4_feedsOf_38, ↓rX4_feedsOf_40, ↓rX4_feedsOf_41, ↓rX4_feedsOf_42, ↓rX4_feedsOf_43, ↓rX4_feedsOf_46, ↓hg_fX4_15_12, ↓hg_fX4_15_7, ↓hg_fX4_24_12, ↓hg_fX4_24_7, ↓hg_fX4_9_12, ↓hg_fX4_9_7, ↓hr_10, ↓hr_11, ↓hr_13, ↓hr_14, ↓hr_15, ↓hr_16, ↓hr_18, ↓hr_19, ↓hr_2, ↓hr_20, ↓hr_21, ↓hr_24, ↓hr_25, ↓hr_26, ↓hr_28, ↓hr_29, ↓hr_3, ↓hr_30, ↓hr_33, ↓hr_34, ↓hr_35, ↓hr_36, ↓hr_37, ↓hr_39, ↓hr_41, ↓hr_43, ↓hr_45, ↓hr_5, ↓hr_6, ↓hr_8, ↓hr_9, ↓hw_10, ↓hw_11, ↓hw_13, ↓hw_14, ↓hw_15, ↓hw_16, ↓hw_18, ↓hw_19, ↓hw_2, ↓hw_20, ↓hw_21, ↓hw_24, ↓hw_25, ↓hw_26, ↓hw_28, ↓hw_29, ↓hw_3, ↓hw_30, ↓hw_33, ↓hw_34, ↓hw_35, ↓hw_36, ↓hw_37, ↓hw_39, ↓hw_41, ↓hw_43, ↓hw_45, ↓hw_5, ↓hw_6, ↓hw_8, ↓hw_9, ↓reduceIte, zkeep_n, zkeep_i, zkeep_r, zkeep_l, zup_eq, zIR, zLR, List.length_cons, List.length_nil, Nat.reduceAdd, Nat.reduceLeDiff, Nat.reduceEqDiff, Nat.reduceSub, Int.reduceLE, Int.reduceLT, Int.reduceEq, Int.reduceNe, Int.reduceNeg, Int.reduceAdd, Int.reduceSub, Int.reduceMul, Int.reduceToNat, Nat.le_refl, Nat.zero_le, Nat.zero_add, Int.zero_add, Int.add_zero, and_true, true_and, and_false, false_and, not_true_eq_false, not_false_eq_true, eq_self, ne_eq, true_implies, false_implies, implies_true, or_true, true_or, or_false, false_or, reduceCtorEq, Option.some.injEq, Sum.inl.injEq, exists_eq_left', exists_eq_left, hn, e1, e2, zite]
      repeat' (first | with_reducible apply And.intro | with_reducible intro _)
      all_goals first | omega | (exact yes (by omega)) | (exact no (by omega))
  exact L 0 (Nat.zero_le _)
set_option maxRecDepth 100000 in
set_option maxHeartbeats 4000000 in
theorem s_joinWays {M : zM} {R : zP} {n : Nat} {aye no : Int} (hn : n < 8) (hR : ∀ M', (∀ k i, k ≠ 37 → M' k i = M k i) → (∀ j : Nat, j ≤ n + 1 → M' 37 j = M 37 j * no + (if j = 0 then 0 else M 37 ((j : Int) - 1) * aye)) → (∀ j : Nat, n + 1 < j → M' 37 j = M 37 j) → R none M') : tX7_joinWays [.inr (.inr 0), .inl (n : Int), .inr (.inl aye), .inr (.inl no)] M R := by
  simp only [↓eX7_joinWays, ↓rX7_joinWays_0, ↓rX7_joinWays_1, ↓rX7_joinWays_2, ↓rX7_joinWays_3, ↓reduceIte, zkeep_n, zkeep_i, zkeep_r, zkeep_l, zup_eq, zIR, zLR, List.length_cons, List.length_nil, Nat.reduceAdd, Nat.reduceLeDiff, Nat.reduceEqDiff, Nat.reduceSub, Int.reduceLE, Int.reduceLT, Int.reduceEq, Int.reduceNe, Int.reduceNeg, Int.reduceAdd, Int.reduceSub, Int.reduceMul, Int.reduceToNat, Nat.le_refl, Nat.zero_le, Nat.zero_add, Int.zero_add, Int.add_zero, and_true, true_and, and_false, false_and, not_true_eq_false, not_false_eq_true, eq_self, ne_eq, true_implies, false_implies, implies_true, or_true, true_or, or_false, false_or, reduceCtorEq, Option.some.injEq, Sum.inl.injEq, exists_eq_left', exists_eq_left, zite]
  have L : ∀ s : Nat × zM, (s.1 ≤ n + 1 ∧ (∀ k i, k ≠ 37 → s.2 k i = M k i) ∧ (∀ j : Nat, j ≤ s.1 → s.2 37 j = M 37 j) ∧ (∀ j : Nat, s.1 < j → j ≤ n + 1 → s.2 37 j = M 37 j * no + M 37 ((j : Int) - 1) * aye) ∧ (∀ j : Nat, n + 1 < j → s.2 37 j = M 37 j)) → uX7_joinWays R 5 [some (.inr (.inr 0)), some (.inl (n : Int)), some (.inr (.inl aye)), none, some (.inr (.inl no)), none, some (.inl (s.1 : Int))] [] s.2 := by
    refine zind (fun s => s.1) ?_
    rintro ⟨j, N⟩ ⟨hj, h1, h2, h3, h4⟩ ih
    simp only at hj h1 h2 h3 h4 ih
    refine rX7_joinWays_5.mpr ?_
    by_cases he : j = 0
    · subst he
      have e0 : N 37 0 = M 37 0 := h2 0 (Nat.le_refl _)
      have fin := hR (zup N 37 0 (M 37 0 * no)) (fun k i hk => (zup_ne hk).trans (h1 k i hk)) (fun j hj2 => by
        rw [zup_in]
        by_cases c : j = 0
        · subst c
          simp
        · rw [if_neg (by omega), if_neg c]
          exact h3 j (by omega) hj2) (fun j hj2 => by
        rw [zup_in, if_neg (by omega)]
        exact h4 j hj2)
      simp only [↓rX7_joinWays_7, ↓rX7_joinWays_45, ↓rX7_joinWays_46, ↓rX7_joinWays_49, ↓rX7_joinWays_50, ↓rX7_joinWays_51, ↓rX7_joinWays_52, ↓rX7_joinWays_54, ↓rX7_joinWays_55, ↓rX7_joinWays_56, ↓hg_fX7_89_0, ↓hr_10, ↓hr_11, ↓hr_13, ↓hr_14, ↓hr_15, ↓hr_16, ↓hr_18, ↓hr_19, ↓hr_2, ↓hr_20, ↓hr_21, ↓hr_24, ↓hr_25, ↓hr_26, ↓hr_28, ↓hr_29, ↓hr_3, ↓hr_30, ↓hr_33, ↓hr_34, ↓hr_35, ↓hr_36, ↓hr_37, ↓hr_39, ↓hr_41, ↓hr_43, ↓hr_45, ↓hr_5, ↓hr_6, ↓hr_8, ↓hr_9, ↓hr_fX7_104, ↓hw_10, ↓hw_11, ↓hw_13, ↓hw_14, ↓hw_15, ↓hw_16, ↓hw_18, ↓hw_19, ↓hw_2, ↓hw_20, ↓hw_21, ↓hw_24, ↓hw_25, ↓hw_26, ↓hw_28, ↓hw_29, ↓hw_3, ↓hw_30, ↓hw_33, ↓hw_34, ↓hw_35, ↓hw_36, ↓hw_37, ↓hw_39, ↓hw_41, ↓hw_43, ↓hw_45, ↓hw_5, ↓hw_6, ↓hw_8, ↓hw_9, ↓reduceIte, zkeep_n, zkeep_i, zkeep_r, zkeep_l, zup_eq, zIR, zLR, List.length_cons, List.length_nil, Nat.reduceAdd, Nat.reduceLeDiff, Nat.reduceEqDiff, Nat.reduceSub, Int.reduceLE, Int.reduceLT, Int.reduceEq, Int.reduceNe, Int.reduceNeg, Int.reduceAdd, Int.reduceSub, Int.reduceMul, Int.reduceToNat, Nat.le_refl, Nat.zero_le, Nat.zero_add, Int.zero_add, Int.add_zero, and_true, true_and, and_false, false_and, not_true_eq_false, not_false_eq_true, eq_self, ne_eq, true_implies, false_implies, implies_true, or_true, true_or, or_false, false_or, reduceCtorEq, Option.some.injEq, Sum.inl.injEq, exists_eq_left', exists_eq_left, e0, zite]
      repeat' (first | with_reducible apply And.intro | with_reducible intro _)
      all_goals first | omega | (exact fin)
    · have ej := h2 j (Nat.le_refl _)
      have ej1 : N 37 ((j : Int) - 1) = M 37 ((j : Int) - 1) := by
        have := h2 (j - 1) (by omega)
        rw [show ((j - 1 : Nat) : Int) = (j : Int) - 1 by omega] at this
        exact this
      have nx := ih (j - 1, zup N 37 j (M 37 j * no + M 37 ((j : Int) - 1) * aye)) ⟨by simp only; omega, fun k i hk => (zup_ne hk).trans (h1 k i hk), fun i hi => ?_, fun i hi hi2 => ?_, fun i hi => ?_⟩ (by simp only; omega)
      · rw [show (((j - 1, zup N 37 j (M 37 j * no + M 37 ((j : Int) - 1) * aye)) : Nat × zM).1 : Int) = (j : Int) + -1 by simp only; omega] at nx
        simp only [↓rX7_joinWays_7, ↓rX7_joinWays_10, ↓rX7_joinWays_11, ↓rX7_joinWays_14, ↓rX7_joinWays_16, ↓rX7_joinWays_17, ↓rX7_joinWays_20, ↓rX7_joinWays_22, ↓rX7_joinWays_23, ↓rX7_joinWays_25, ↓rX7_joinWays_26, ↓rX7_joinWays_27, ↓rX7_joinWays_30, ↓rX7_joinWays_32, ↓rX7_joinWays_33, ↓rX7_joinWays_34, ↓rX7_joinWays_35, ↓rX7_joinWays_36, ↓rX7_joinWays_37, ↓rX7_joinWays_38, ↓rX7_joinWays_39, ↓rX7_joinWays_42, ↓hg_fX7_89_0, ↓hr_10, ↓hr_11, ↓hr_13, ↓hr_14, ↓hr_15, ↓hr_16, ↓hr_18, ↓hr_19, ↓hr_2, ↓hr_20, ↓hr_21, ↓hr_24, ↓hr_25, ↓hr_26, ↓hr_28, ↓hr_29, ↓hr_3, ↓hr_30, ↓hr_33, ↓hr_34, ↓hr_35, ↓hr_36, ↓hr_37, ↓hr_39, ↓hr_41, ↓hr_43, ↓hr_45, ↓hr_5, ↓hr_6, ↓hr_8, ↓hr_9, ↓hr_fX7_104, ↓hw_10, ↓hw_11, ↓hw_13, ↓hw_14, ↓hw_15, ↓hw_16, ↓hw_18, ↓hw_19, ↓hw_2, ↓hw_20, ↓hw_21, ↓hw_24, ↓hw_25, ↓hw_26, ↓hw_28, ↓hw_29, ↓hw_3, ↓hw_30, ↓hw_33, ↓hw_34, ↓hw_35, ↓hw_36, ↓hw_37, ↓hw_39, ↓hw_41, ↓hw_43, ↓hw_45, ↓hw_5, ↓hw_6, ↓hw_8, ↓hw_9, ↓reduceIte, zkeep_n, zkeep_i, zkeep_r, zkeep_l, zup_eq, zIR, zLR, List.length_cons, List.length_nil, Nat.reduceAdd, Nat.reduceLeDiff, Nat.reduceEqDiff, Nat.reduceSub, Int.reduceLE, Int.reduceLT, Int.reduceEq, Int.reduceNe, Int.reduceNeg, Int.reduceAdd, Int.reduceSub, Int.reduceMul, Int.reduceToNat, Nat.le_refl, Nat.zero_le, Nat.zero_add, Int.zero_add, Int.add_zero, and_true, true_and, and_false, false_and, not_true_eq_false, not_false_eq_true, eq_self, ne_eq, true_implies, false_implies, implies_true, or_true, true_or, or_false, false_or, reduceCtorEq, Option.some.injEq, Sum.inl.injEq, exists_eq_left', exists_eq_left, ej, ej1, zite]
        repeat' (first | with_reducible apply And.intro | with_reducible intro _)
        all_goals first | omega | (exact nx)
      · simp only [zup_in] at hi ⊢
        rw [if_neg (by omega)]
        exact h2 i (by omega)
      · simp only [zup_in] at hi ⊢
        by_cases c : i = j
        · rw [if_pos (by rw [c]), c]
        · rw [if_neg (by omega)]
          exact h3 i (by omega) hi2
      · simp only [zup_in]
        rw [if_neg (by omega)]
        exact h4 i hi
  have st := L (n + 1, M) ⟨Nat.le_refl _, fun _ _ _ => rfl, fun _ _ => rfl, fun j a b => by simp only at a; omega, fun _ _ => rfl⟩
  exact st
