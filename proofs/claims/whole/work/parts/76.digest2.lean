set_option maxRecDepth 100000 in
set_option maxHeartbeats 8000000 in
theorem s_mixQ {S M : zM} {R : zP} {q : Nat} {st : Int} (h : RX S M) (hq : q < 4) (hR : ∀ M', QF M M' → R (some (.inr (.inl (dQ S q st)))) M') : tX7_mixQuestion [.inr (.inr 0), .inr (.inl st), .inl (q : Int)] M R := by
  have hqz : zIR (q : Int) := zsm (by omega)
  generalize hA : fN (fun w h => 31 * h + aHouse S 6 q w) 3 st = hA0
  generalize hB : fN (fun w h => 31 * h + aHouse S 19 q w) 3 hA0 = hB0
  generalize hC : fN (fun w h => 31 * h + aCarry S 8 q w) 3 (31 * hB0 + aSays S q) = hC0
  have eM : dQ S q st = 31 * (31 * hC0 + aCream S 5 14 q 0) + aCream S 5 14 q 1 := by unfold dQ; rw [hA, hB, hC]
  rw [eM] at hR
  have tail : ∀ N, QF M N → ∀ x6, uX7_mixQuestion R 120 [some (.inr (.inr 0)), some (.inr (.inl st)), none, some (.inl (q : Int)), some (.inr (.inl (hC0))), none, x6] [] N := by
    intro N hN x6
    have q0 := RX_qf h hN
    simp only [↓rX7_mixQuestion_120, ↓rX7_mixQuestion_123, ↓rX7_mixQuestion_125, ↓rX7_mixQuestion_126, ↓rX7_mixQuestion_127, ↓rX7_mixQuestion_128, ↓rX7_mixQuestion_130, ↓rX7_mixQuestion_131, ↓rX7_mixQuestion_132, ↓reduceIte, zkeep_n, zkeep_i, zkeep_r, zkeep_l, zup_eq, zIR, zLR, List.length_cons, List.length_nil, Nat.reduceAdd, Nat.reduceLeDiff, Nat.reduceEqDiff, Nat.reduceSub, Int.reduceLE, Int.reduceLT, Int.reduceEq, Int.reduceNe, Int.reduceNeg, Int.reduceAdd, Int.reduceSub, Int.reduceMul, Int.reduceToNat, Nat.le_refl, Nat.zero_le, Nat.zero_add, Int.zero_add, Int.add_zero, and_true, true_and, and_false, false_and, not_true_eq_false, not_false_eq_true, eq_self, ne_eq, true_implies, false_implies, implies_true, or_true, true_or, or_false, false_or, reduceCtorEq, Option.some.injEq, Sum.inl.injEq, exists_eq_left', exists_eq_left, zite]
    refine zcvv rfl (x_cream q0 (zsm (by decide)) (zsm (by decide)) hqz (zsm (by decide)) (fun N0 g0 => ⟨_, rfl, ?_⟩))
    have hn0 : QF M N0 := QF.trans hN g0
    have q1 := RX_qf h hn0
    simp only [↓rX7_mixQuestion_135, ↓rX7_mixQuestion_136, ↓rX7_mixQuestion_138, ↓rX7_mixQuestion_141, ↓rX7_mixQuestion_143, ↓rX7_mixQuestion_144, ↓rX7_mixQuestion_145, ↓rX7_mixQuestion_146, ↓rX7_mixQuestion_148, ↓rX7_mixQuestion_149, ↓rX7_mixQuestion_150, ↓reduceIte, zkeep_n, zkeep_i, zkeep_r, zkeep_l, zup_eq, zIR, zLR, List.length_cons, List.length_nil, Nat.reduceAdd, Nat.reduceLeDiff, Nat.reduceEqDiff, Nat.reduceSub, Int.reduceLE, Int.reduceLT, Int.reduceEq, Int.reduceNe, Int.reduceNeg, Int.reduceAdd, Int.reduceSub, Int.reduceMul, Int.reduceToNat, Nat.le_refl, Nat.zero_le, Nat.zero_add, Int.zero_add, Int.add_zero, and_true, true_and, and_false, false_and, not_true_eq_false, not_false_eq_true, eq_self, ne_eq, true_implies, false_implies, implies_true, or_true, true_or, or_false, false_or, reduceCtorEq, Option.some.injEq, Sum.inl.injEq, exists_eq_left', exists_eq_left, zite]
    refine zcvv rfl (x_cream q1 (zsm (by decide)) (zsm (by decide)) hqz (zsm (by decide)) (fun N1 g1 => ⟨_, rfl, ?_⟩))
    have hn1 : QF M N1 := QF.trans hn0 g1
    have q2 := RX_qf h hn1
    have fin := hR N1 hn1
    simp only [↓rX7_mixQuestion_153, ↓rX7_mixQuestion_154, ↓reduceIte, zkeep_n, zkeep_i, zkeep_r, zkeep_l, zup_eq, zIR, zLR, List.length_cons, List.length_nil, Nat.reduceAdd, Nat.reduceLeDiff, Nat.reduceEqDiff, Nat.reduceSub, Int.reduceLE, Int.reduceLT, Int.reduceEq, Int.reduceNe, Int.reduceNeg, Int.reduceAdd, Int.reduceSub, Int.reduceMul, Int.reduceToNat, Nat.le_refl, Nat.zero_le, Nat.zero_add, Int.zero_add, Int.add_zero, and_true, true_and, and_false, false_and, not_true_eq_false, not_false_eq_true, eq_self, ne_eq, true_implies, false_implies, implies_true, or_true, true_or, or_false, false_or, reduceCtorEq, Option.some.injEq, Sum.inl.injEq, exists_eq_left', exists_eq_left, zite]
    repeat' (first | with_reducible apply And.intro | with_reducible intro _)
    all_goals first | omega | (exact fin)
  have L3 : ∀ s : Nat × zM, (s.1 ≤ 3 ∧ QF M s.2) → ∀ (_z : Nat), uX7_mixQuestion R 89 [some (.inr (.inr 0)), some (.inr (.inl st)), none, some (.inl (q : Int)), some (.inr (.inl (fN (fun w h => 31 * h + aCarry S 8 q w) s.1 (31 * hB0 + aSays S q)))), none, some (.inl (s.1 : Int))] [] s.2 := by
    refine zind (fun s => 3 - s.1) ?_
    rintro ⟨i, N⟩ ⟨hi, hN⟩ ih (_z : Nat)
    simp only at hi hN ih
    have hRN := RX_qf h hN
    have n1 : N 1 5 = qn S 0 := hRN.2.2.2.1.2.1
    have n2 : N 4 5 = qn S 1 := hRN.2.2.2.1.2.2.1
    refine rX7_mixQuestion_89.mpr ?_
    by_cases he : i = 3
    · subst he
      rw [hC]
      have fin := fun x7 => tail N hN x7
      simp only [↓rX7_mixQuestion_91, ↓rX7_mixQuestion_92, ↓reduceIte, zkeep_n, zkeep_i, zkeep_r, zkeep_l, zup_eq, zIR, zLR, List.length_cons, List.length_nil, Nat.reduceAdd, Nat.reduceLeDiff, Nat.reduceEqDiff, Nat.reduceSub, Int.reduceLE, Int.reduceLT, Int.reduceEq, Int.reduceNe, Int.reduceNeg, Int.reduceAdd, Int.reduceSub, Int.reduceMul, Int.reduceToNat, Nat.le_refl, Nat.zero_le, Nat.zero_add, Int.zero_add, Int.add_zero, and_true, true_and, and_false, false_and, not_true_eq_false, not_false_eq_true, eq_self, ne_eq, true_implies, false_implies, implies_true, or_true, true_or, or_false, false_or, reduceCtorEq, Option.some.injEq, Sum.inl.injEq, exists_eq_left', exists_eq_left, n1, n2, zite]
      repeat' (first | with_reducible apply And.intro | with_reducible intro _)
      all_goals first | omega | (exact fin _)
    · have hi2 := hi
      have call : zcv (zv 7 tX7_carry) [.inr (.inr 0), .inl 8, .inl (q : Int), .inl (i : Int)] N (fun v N' => uX7_mixQuestion R 110 [some (.inr (.inr 0)), some (.inr (.inl st)), none, some (.inl (q : Int)), some (.inr (.inl (fN (fun w h => 31 * h + aCarry S 8 q w) i (31 * hB0 + aSays S q)))), none, some (.inl (i : Int))] [v, .inr (.inl (31 * fN (fun w h => 31 * h + aCarry S 8 q w) i (31 * hB0 + aSays S q)))] N') := by
        refine zcvv rfl (x_carry hRN (zsm (by decide)) hqz (zsm (by omega)) (fun N' g => ⟨_, rfl, ?_⟩))
        have nx := ih (i + 1, N') ⟨by simp only; omega, hN.trans g⟩ (by simp only; omega) 0
        simp only [fN] at nx
        have rng := r_carry hRN 8 q i
        unfold zIR at rng
        simp only [↓rX7_mixQuestion_110, ↓rX7_mixQuestion_111, ↓rX7_mixQuestion_112, ↓rX7_mixQuestion_114, ↓rX7_mixQuestion_117, ↓reduceIte, zkeep_n, zkeep_i, zkeep_r, zkeep_l, zup_eq, zIR, zLR, List.length_cons, List.length_nil, Nat.reduceAdd, Nat.reduceLeDiff, Nat.reduceEqDiff, Nat.reduceSub, Int.reduceLE, Int.reduceLT, Int.reduceEq, Int.reduceNe, Int.reduceNeg, Int.reduceAdd, Int.reduceSub, Int.reduceMul, Int.reduceToNat, Nat.le_refl, Nat.zero_le, Nat.zero_add, Int.zero_add, Int.add_zero, and_true, true_and, and_false, false_and, not_true_eq_false, not_false_eq_true, eq_self, ne_eq, true_implies, false_implies, implies_true, or_true, true_or, or_false, false_or, reduceCtorEq, Option.some.injEq, Sum.inl.injEq, exists_eq_left', exists_eq_left, zite]
        repeat' (first | with_reducible apply And.intro | with_reducible intro _)
        all_goals first | omega | (exact nx)
      simp only [↓rX7_mixQuestion_91, ↓rX7_mixQuestion_92, ↓rX7_mixQuestion_95, ↓rX7_mixQuestion_98, ↓rX7_mixQuestion_100, ↓rX7_mixQuestion_101, ↓rX7_mixQuestion_102, ↓rX7_mixQuestion_104, ↓rX7_mixQuestion_105, ↓rX7_mixQuestion_107, ↓reduceIte, zkeep_n, zkeep_i, zkeep_r, zkeep_l, zup_eq, zIR, zLR, List.length_cons, List.length_nil, Nat.reduceAdd, Nat.reduceLeDiff, Nat.reduceEqDiff, Nat.reduceSub, Int.reduceLE, Int.reduceLT, Int.reduceEq, Int.reduceNe, Int.reduceNeg, Int.reduceAdd, Int.reduceSub, Int.reduceMul, Int.reduceToNat, Nat.le_refl, Nat.zero_le, Nat.zero_add, Int.zero_add, Int.add_zero, and_true, true_and, and_false, false_and, not_true_eq_false, not_false_eq_true, eq_self, ne_eq, true_implies, false_implies, implies_true, or_true, true_or, or_false, false_or, reduceCtorEq, Option.some.injEq, Sum.inl.injEq, exists_eq_left', exists_eq_left, n1, n2, zite]
      repeat' (first | with_reducible apply And.intro | with_reducible intro _)
      all_goals first | omega | (exact call)
  have mid : ∀ N, QF M N → ∀ x6, uX7_mixQuestion R 71 [some (.inr (.inr 0)), some (.inr (.inl st)), none, some (.inl (q : Int)), some (.inr (.inl (hB0))), none, x6] [] N := by
    intro N hN x6
    have q0 := RX_qf h hN
    simp only [↓rX7_mixQuestion_71, ↓rX7_mixQuestion_74, ↓rX7_mixQuestion_76, ↓rX7_mixQuestion_77, ↓rX7_mixQuestion_78, ↓rX7_mixQuestion_79, ↓reduceIte, zkeep_n, zkeep_i, zkeep_r, zkeep_l, zup_eq, zIR, zLR, List.length_cons, List.length_nil, Nat.reduceAdd, Nat.reduceLeDiff, Nat.reduceEqDiff, Nat.reduceSub, Int.reduceLE, Int.reduceLT, Int.reduceEq, Int.reduceNe, Int.reduceNeg, Int.reduceAdd, Int.reduceSub, Int.reduceMul, Int.reduceToNat, Nat.le_refl, Nat.zero_le, Nat.zero_add, Int.zero_add, Int.add_zero, and_true, true_and, and_false, false_and, not_true_eq_false, not_false_eq_true, eq_self, ne_eq, true_implies, false_implies, implies_true, or_true, true_or, or_false, false_or, reduceCtorEq, Option.some.injEq, Sum.inl.injEq, exists_eq_left', exists_eq_left, zite]
    refine zcvv rfl (x_says q0 hqz (fun N0 g0 => ⟨_, rfl, ?_⟩))
    have hn0 : QF M N0 := QF.trans hN g0
    have q1 := RX_qf h hn0
    have rng0 := r_says q0 q
    unfold zIR at rng0
    have fin := L3 (0, N0) ⟨Nat.zero_le _, hn0⟩ 0
    simp only [↓rX7_mixQuestion_82, ↓rX7_mixQuestion_83, ↓rX7_mixQuestion_84, ↓rX7_mixQuestion_86, ↓rX7_mixQuestion_87, ↓reduceIte, zkeep_n, zkeep_i, zkeep_r, zkeep_l, zup_eq, zIR, zLR, List.length_cons, List.length_nil, Nat.reduceAdd, Nat.reduceLeDiff, Nat.reduceEqDiff, Nat.reduceSub, Int.reduceLE, Int.reduceLT, Int.reduceEq, Int.reduceNe, Int.reduceNeg, Int.reduceAdd, Int.reduceSub, Int.reduceMul, Int.reduceToNat, Nat.le_refl, Nat.zero_le, Nat.zero_add, Int.zero_add, Int.add_zero, and_true, true_and, and_false, false_and, not_true_eq_false, not_false_eq_true, eq_self, ne_eq, true_implies, false_implies, implies_true, or_true, true_or, or_false, false_or, reduceCtorEq, Option.some.injEq, Sum.inl.injEq, exists_eq_left', exists_eq_left, zite]
    repeat' (first | with_reducible apply And.intro | with_reducible intro _)
    all_goals first | omega | (exact fin)
  have L2 : ∀ s : Nat × zM, (s.1 ≤ 3 ∧ QF M s.2) → ∀ (_z : Nat), uX7_mixQuestion R 40 [some (.inr (.inr 0)), some (.inr (.inl st)), none, some (.inl (q : Int)), some (.inr (.inl (fN (fun w h => 31 * h + aHouse S 19 q w) s.1 hA0))), none, some (.inl (s.1 : Int))] [] s.2 := by
    refine zind (fun s => 3 - s.1) ?_
    rintro ⟨i, N⟩ ⟨hi, hN⟩ ih (_z : Nat)
    simp only at hi hN ih
    have hRN := RX_qf h hN
    have n1 : N 1 5 = qn S 0 := hRN.2.2.2.1.2.1
    have n2 : N 4 5 = qn S 1 := hRN.2.2.2.1.2.2.1
    refine rX7_mixQuestion_40.mpr ?_
    by_cases he : i = 3
    · subst he
      rw [hB]
      have fin := fun x7 => mid N hN x7
      simp only [↓rX7_mixQuestion_42, ↓rX7_mixQuestion_43, ↓reduceIte, zkeep_n, zkeep_i, zkeep_r, zkeep_l, zup_eq, zIR, zLR, List.length_cons, List.length_nil, Nat.reduceAdd, Nat.reduceLeDiff, Nat.reduceEqDiff, Nat.reduceSub, Int.reduceLE, Int.reduceLT, Int.reduceEq, Int.reduceNe, Int.reduceNeg, Int.reduceAdd, Int.reduceSub, Int.reduceMul, Int.reduceToNat, Nat.le_refl, Nat.zero_le, Nat.zero_add, Int.zero_add, Int.add_zero, and_true, true_and, and_false, false_and, not_true_eq_false, not_false_eq_true, eq_self, ne_eq, true_implies, false_implies, implies_true, or_true, true_or, or_false, false_or, reduceCtorEq, Option.some.injEq, Sum.inl.injEq, exists_eq_left', exists_eq_left, n1, n2, zite]
      repeat' (first | with_reducible apply And.intro | with_reducible intro _)
      all_goals first | omega | (exact fin _)
    · have hi2 := hi
      have call : zcv (zv 7 tX7_house) [.inr (.inr 0), .inl 19, .inl (q : Int), .inl (i : Int)] N (fun v N' => uX7_mixQuestion R 61 [some (.inr (.inr 0)), some (.inr (.inl st)), none, some (.inl (q : Int)), some (.inr (.inl (fN (fun w h => 31 * h + aHouse S 19 q w) i hA0))), none, some (.inl (i : Int))] [v, .inr (.inl (31 * fN (fun w h => 31 * h + aHouse S 19 q w) i hA0))] N') := by
        refine zcvv rfl (x_house hRN (zsm (by decide)) hqz (zsm (by omega)) (fun N' g => ⟨_, rfl, ?_⟩))
        have nx := ih (i + 1, N') ⟨by simp only; omega, hN.trans g⟩ (by simp only; omega) 0
        simp only [fN] at nx
        have rng := r_house hRN 19 q i
        unfold zIR at rng
        simp only [↓rX7_mixQuestion_61, ↓rX7_mixQuestion_62, ↓rX7_mixQuestion_63, ↓rX7_mixQuestion_65, ↓rX7_mixQuestion_68, ↓reduceIte, zkeep_n, zkeep_i, zkeep_r, zkeep_l, zup_eq, zIR, zLR, List.length_cons, List.length_nil, Nat.reduceAdd, Nat.reduceLeDiff, Nat.reduceEqDiff, Nat.reduceSub, Int.reduceLE, Int.reduceLT, Int.reduceEq, Int.reduceNe, Int.reduceNeg, Int.reduceAdd, Int.reduceSub, Int.reduceMul, Int.reduceToNat, Nat.le_refl, Nat.zero_le, Nat.zero_add, Int.zero_add, Int.add_zero, and_true, true_and, and_false, false_and, not_true_eq_false, not_false_eq_true, eq_self, ne_eq, true_implies, false_implies, implies_true, or_true, true_or, or_false, false_or, reduceCtorEq, Option.some.injEq, Sum.inl.injEq, exists_eq_left', exists_eq_left, zite]
        repeat' (first | with_reducible apply And.intro | with_reducible intro _)
        all_goals first | omega | (exact nx)
      simp only [↓rX7_mixQuestion_42, ↓rX7_mixQuestion_43, ↓rX7_mixQuestion_46, ↓rX7_mixQuestion_49, ↓rX7_mixQuestion_51, ↓rX7_mixQuestion_52, ↓rX7_mixQuestion_53, ↓rX7_mixQuestion_55, ↓rX7_mixQuestion_56, ↓rX7_mixQuestion_58, ↓reduceIte, zkeep_n, zkeep_i, zkeep_r, zkeep_l, zup_eq, zIR, zLR, List.length_cons, List.length_nil, Nat.reduceAdd, Nat.reduceLeDiff, Nat.reduceEqDiff, Nat.reduceSub, Int.reduceLE, Int.reduceLT, Int.reduceEq, Int.reduceNe, Int.reduceNeg, Int.reduceAdd, Int.reduceSub, Int.reduceMul, Int.reduceToNat, Nat.le_refl, Nat.zero_le, Nat.zero_add, Int.zero_add, Int.add_zero, and_true, true_and, and_false, false_and, not_true_eq_false, not_false_eq_true, eq_self, ne_eq, true_implies, false_implies, implies_true, or_true, true_or, or_false, false_or, reduceCtorEq, Option.some.injEq, Sum.inl.injEq, exists_eq_left', exists_eq_left, n1, n2, zite]
      repeat' (first | with_reducible apply And.intro | with_reducible intro _)
      all_goals first | omega | (exact call)
  have L1 : ∀ s : Nat × zM, (s.1 ≤ 3 ∧ QF M s.2) → ∀ (_z : Nat), uX7_mixQuestion R 6 [some (.inr (.inr 0)), some (.inr (.inl st)), none, some (.inl (q : Int)), some (.inr (.inl (fN (fun w h => 31 * h + aHouse S 6 q w) s.1 st))), none, some (.inl (s.1 : Int))] [] s.2 := by
    refine zind (fun s => 3 - s.1) ?_
    rintro ⟨i, N⟩ ⟨hi, hN⟩ ih (_z : Nat)
    simp only at hi hN ih
    have hRN := RX_qf h hN
    have n1 : N 1 5 = qn S 0 := hRN.2.2.2.1.2.1
    have n2 : N 4 5 = qn S 1 := hRN.2.2.2.1.2.2.1
    refine rX7_mixQuestion_6.mpr ?_
    by_cases he : i = 3
    · subst he
      rw [hA]
      have fin := L2 (0, N) ⟨Nat.zero_le _, hN⟩ 0
      simp only [↓rX7_mixQuestion_8, ↓rX7_mixQuestion_9, ↓rX7_mixQuestion_37, ↓rX7_mixQuestion_38, ↓reduceIte, zkeep_n, zkeep_i, zkeep_r, zkeep_l, zup_eq, zIR, zLR, List.length_cons, List.length_nil, Nat.reduceAdd, Nat.reduceLeDiff, Nat.reduceEqDiff, Nat.reduceSub, Int.reduceLE, Int.reduceLT, Int.reduceEq, Int.reduceNe, Int.reduceNeg, Int.reduceAdd, Int.reduceSub, Int.reduceMul, Int.reduceToNat, Nat.le_refl, Nat.zero_le, Nat.zero_add, Int.zero_add, Int.add_zero, and_true, true_and, and_false, false_and, not_true_eq_false, not_false_eq_true, eq_self, ne_eq, true_implies, false_implies, implies_true, or_true, true_or, or_false, false_or, reduceCtorEq, Option.some.injEq, Sum.inl.injEq, exists_eq_left', exists_eq_left, n1, n2, zite]
      repeat' (first | with_reducible apply And.intro | with_reducible intro _)
      all_goals first | omega | (exact fin)
    · have hi2 := hi
      have call : zcv (zv 7 tX7_house) [.inr (.inr 0), .inl 6, .inl (q : Int), .inl (i : Int)] N (fun v N' => uX7_mixQuestion R 27 [some (.inr (.inr 0)), some (.inr (.inl st)), none, some (.inl (q : Int)), some (.inr (.inl (fN (fun w h => 31 * h + aHouse S 6 q w) i st))), none, some (.inl (i : Int))] [v, .inr (.inl (31 * fN (fun w h => 31 * h + aHouse S 6 q w) i st))] N') := by
        refine zcvv rfl (x_house hRN (zsm (by decide)) hqz (zsm (by omega)) (fun N' g => ⟨_, rfl, ?_⟩))
        have nx := ih (i + 1, N') ⟨by simp only; omega, hN.trans g⟩ (by simp only; omega) 0
        simp only [fN] at nx
        have rng := r_house hRN 6 q i
        unfold zIR at rng
        simp only [↓rX7_mixQuestion_27, ↓rX7_mixQuestion_28, ↓rX7_mixQuestion_29, ↓rX7_mixQuestion_31, ↓rX7_mixQuestion_34, ↓reduceIte, zkeep_n, zkeep_i, zkeep_r, zkeep_l, zup_eq, zIR, zLR, List.length_cons, List.length_nil, Nat.reduceAdd, Nat.reduceLeDiff, Nat.reduceEqDiff, Nat.reduceSub, Int.reduceLE, Int.reduceLT, Int.reduceEq, Int.reduceNe, Int.reduceNeg, Int.reduceAdd, Int.reduceSub, Int.reduceMul, Int.reduceToNat, Nat.le_refl, Nat.zero_le, Nat.zero_add, Int.zero_add, Int.add_zero, and_true, true_and, and_false, false_and, not_true_eq_false, not_false_eq_true, eq_self, ne_eq, true_implies, false_implies, implies_true, or_true, true_or, or_false, false_or, reduceCtorEq, Option.some.injEq, Sum.inl.injEq, exists_eq_left', exists_eq_left, zite]
        repeat' (first | with_reducible apply And.intro | with_reducible intro _)
        all_goals first | omega | (exact nx)
      simp only [↓rX7_mixQuestion_8, ↓rX7_mixQuestion_9, ↓rX7_mixQuestion_12, ↓rX7_mixQuestion_15, ↓rX7_mixQuestion_17, ↓rX7_mixQuestion_18, ↓rX7_mixQuestion_19, ↓rX7_mixQuestion_21, ↓rX7_mixQuestion_22, ↓rX7_mixQuestion_24, ↓reduceIte, zkeep_n, zkeep_i, zkeep_r, zkeep_l, zup_eq, zIR, zLR, List.length_cons, List.length_nil, Nat.reduceAdd, Nat.reduceLeDiff, Nat.reduceEqDiff, Nat.reduceSub, Int.reduceLE, Int.reduceLT, Int.reduceEq, Int.reduceNe, Int.reduceNeg, Int.reduceAdd, Int.reduceSub, Int.reduceMul, Int.reduceToNat, Nat.le_refl, Nat.zero_le, Nat.zero_add, Int.zero_add, Int.add_zero, and_true, true_and, and_false, false_and, not_true_eq_false, not_false_eq_true, eq_self, ne_eq, true_implies, false_implies, implies_true, or_true, true_or, or_false, false_or, reduceCtorEq, Option.some.injEq, Sum.inl.injEq, exists_eq_left', exists_eq_left, n1, n2, zite]
      repeat' (first | with_reducible apply And.intro | with_reducible intro _)
      all_goals first | omega | (exact call)
  have go := L1 (0, M) ⟨Nat.zero_le _, QF.rfl⟩ 0
  simp only [↓eX7_mixQuestion, ↓rX7_mixQuestion_0, ↓rX7_mixQuestion_1, ↓rX7_mixQuestion_3, ↓rX7_mixQuestion_4, ↓reduceIte, zkeep_n, zkeep_i, zkeep_r, zkeep_l, zup_eq, zIR, zLR, List.length_cons, List.length_nil, Nat.reduceAdd, Nat.reduceLeDiff, Nat.reduceEqDiff, Nat.reduceSub, Int.reduceLE, Int.reduceLT, Int.reduceEq, Int.reduceNe, Int.reduceNeg, Int.reduceAdd, Int.reduceSub, Int.reduceMul, Int.reduceToNat, Nat.le_refl, Nat.zero_le, Nat.zero_add, Int.zero_add, Int.add_zero, and_true, true_and, and_false, false_and, not_true_eq_false, not_false_eq_true, eq_self, ne_eq, true_implies, false_implies, implies_true, or_true, true_or, or_false, false_or, reduceCtorEq, Option.some.injEq, Sum.inl.injEq, exists_eq_left', exists_eq_left, zite]
  repeat' (first | with_reducible apply And.intro | with_reducible intro _)
  all_goals first | omega | (exact go)
set_option maxRecDepth 100000 in
set_option maxHeartbeats 8000000 in
theorem x_digest {S M : zM} {R : zP} (h : RX S M) (hR : ∀ M', QF M M' → R (some (.inr (.inl (aDigest S)))) M') : tX7_digest [.inr (.inr 0)] M R := by
  have hqk := RX_qk h
  generalize h1 : fN (fun w h => 31 * h + aCount S w) 8 17 = v1
  generalize h2 : fN (fun t h => 31 * h + aFault S t) 2 v1 = v2
  generalize h3 : fN (fun c h => fN (fun w h => 31 * h + aCow S c w) 5 h) (ck S) v2 = v3
  generalize h4 : fN (dM S) (qk S) v3 = v4
  generalize h5 : fN (dQ S) 4 v4 = v5
  generalize h6 : fN (fun w h => 31 * h + aPusey S w) 3 v5 = v6
  have eM : aDigest S = 31 * (31 * (31 * (31 * (31 * (31 * v6 + aWeaned S) + aSpare S (-1)) + aSpare S 0) + aNever S) + aYears S 7 6 0) + aYears S 7 6 1 := by unfold aDigest; rw [h1, h2, h3, h4, h5, h6]
  rw [eM] at hR
  have tail : ∀ N, QF M N → ∀ x3 x7, uX7_digest R 178 [some (.inr (.inr 0)), some (.inr (.inl (v6))), none, x3, x7] [] N := by
    intro N hN x3 x7
    have q0 := RX_qf h hN
    simp only [↓rX7_digest_178, ↓rX7_digest_181, ↓rX7_digest_182, ↓rX7_digest_183, ↓rX7_digest_184, ↓reduceIte, zkeep_n, zkeep_i, zkeep_r, zkeep_l, zup_eq, zIR, zLR, List.length_cons, List.length_nil, Nat.reduceAdd, Nat.reduceLeDiff, Nat.reduceEqDiff, Nat.reduceSub, Int.reduceLE, Int.reduceLT, Int.reduceEq, Int.reduceNe, Int.reduceNeg, Int.reduceAdd, Int.reduceSub, Int.reduceMul, Int.reduceToNat, Nat.le_refl, Nat.zero_le, Nat.zero_add, Int.zero_add, Int.add_zero, and_true, true_and, and_false, false_and, not_true_eq_false, not_false_eq_true, eq_self, ne_eq, true_implies, false_implies, implies_true, or_true, true_or, or_false, false_or, reduceCtorEq, Option.some.injEq, Sum.inl.injEq, exists_eq_left', exists_eq_left, zite]
    refine zcvv rfl (x_weaned q0 (fun N0 g0 => ⟨_, rfl, ?_⟩))
    have hn0 : QF M N0 := QF.trans hN g0
    have q1 := RX_qf h hn0
    have rng0 := r_weaned q0
    unfold zIR at rng0
    simp only [↓rX7_digest_187, ↓rX7_digest_188, ↓rX7_digest_189, ↓rX7_digest_190, ↓rX7_digest_193, ↓rX7_digest_194, ↓rX7_digest_195, ↓rX7_digest_196, ↓rX7_digest_197, ↓reduceIte, zkeep_n, zkeep_i, zkeep_r, zkeep_l, zup_eq, zIR, zLR, List.length_cons, List.length_nil, Nat.reduceAdd, Nat.reduceLeDiff, Nat.reduceEqDiff, Nat.reduceSub, Int.reduceLE, Int.reduceLT, Int.reduceEq, Int.reduceNe, Int.reduceNeg, Int.reduceAdd, Int.reduceSub, Int.reduceMul, Int.reduceToNat, Nat.le_refl, Nat.zero_le, Nat.zero_add, Int.zero_add, Int.add_zero, and_true, true_and, and_false, false_and, not_true_eq_false, not_false_eq_true, eq_self, ne_eq, true_implies, false_implies, implies_true, or_true, true_or, or_false, false_or, reduceCtorEq, Option.some.injEq, Sum.inl.injEq, exists_eq_left', exists_eq_left, zite]
    refine ⟨rng0, ?_⟩
    refine zcvv rfl (x_spare q1 (zsm (by decide)) (fun N1 g1 => ⟨_, rfl, ?_⟩))
    have hn1 : QF M N1 := QF.trans hn0 g1
    have q2 := RX_qf h hn1
    have rng1 := r_spare q1 (-1)
    unfold zIR at rng1
    simp only [↓rX7_digest_200, ↓rX7_digest_201, ↓rX7_digest_202, ↓rX7_digest_203, ↓rX7_digest_206, ↓rX7_digest_207, ↓rX7_digest_208, ↓rX7_digest_209, ↓rX7_digest_210, ↓reduceIte, zkeep_n, zkeep_i, zkeep_r, zkeep_l, zup_eq, zIR, zLR, List.length_cons, List.length_nil, Nat.reduceAdd, Nat.reduceLeDiff, Nat.reduceEqDiff, Nat.reduceSub, Int.reduceLE, Int.reduceLT, Int.reduceEq, Int.reduceNe, Int.reduceNeg, Int.reduceAdd, Int.reduceSub, Int.reduceMul, Int.reduceToNat, Nat.le_refl, Nat.zero_le, Nat.zero_add, Int.zero_add, Int.add_zero, and_true, true_and, and_false, false_and, not_true_eq_false, not_false_eq_true, eq_self, ne_eq, true_implies, false_implies, implies_true, or_true, true_or, or_false, false_or, reduceCtorEq, Option.some.injEq, Sum.inl.injEq, exists_eq_left', exists_eq_left, zite]
    refine ⟨rng1, ?_⟩
    refine zcvv rfl (x_spare q2 (zsm (by decide)) (fun N2 g2 => ⟨_, rfl, ?_⟩))
    have hn2 : QF M N2 := QF.trans hn1 g2
    have q3 := RX_qf h hn2
    have rng2 := r_spare q2 0
    unfold zIR at rng2
    simp only [↓rX7_digest_213, ↓rX7_digest_214, ↓rX7_digest_215, ↓rX7_digest_216, ↓rX7_digest_219, ↓rX7_digest_220, ↓rX7_digest_221, ↓rX7_digest_222, ↓reduceIte, zkeep_n, zkeep_i, zkeep_r, zkeep_l, zup_eq, zIR, zLR, List.length_cons, List.length_nil, Nat.reduceAdd, Nat.reduceLeDiff, Nat.reduceEqDiff, Nat.reduceSub, Int.reduceLE, Int.reduceLT, Int.reduceEq, Int.reduceNe, Int.reduceNeg, Int.reduceAdd, Int.reduceSub, Int.reduceMul, Int.reduceToNat, Nat.le_refl, Nat.zero_le, Nat.zero_add, Int.zero_add, Int.add_zero, and_true, true_and, and_false, false_and, not_true_eq_false, not_false_eq_true, eq_self, ne_eq, true_implies, false_implies, implies_true, or_true, true_or, or_false, false_or, reduceCtorEq, Option.some.injEq, Sum.inl.injEq, exists_eq_left', exists_eq_left, zite]
    refine ⟨rng2, ?_⟩
    refine zcvv rfl (x_never q3 (fun N3 g3 => ⟨_, rfl, ?_⟩))
    have hn3 : QF M N3 := QF.trans hn2 g3
    have q4 := RX_qf h hn3
    have rng3 := r_never q3
    unfold zIR at rng3
    simp only [↓rX7_digest_225, ↓rX7_digest_226, ↓rX7_digest_227, ↓rX7_digest_228, ↓rX7_digest_231, ↓rX7_digest_232, ↓rX7_digest_233, ↓rX7_digest_234, ↓rX7_digest_236, ↓rX7_digest_238, ↓rX7_digest_239, ↓reduceIte, zkeep_n, zkeep_i, zkeep_r, zkeep_l, zup_eq, zIR, zLR, List.length_cons, List.length_nil, Nat.reduceAdd, Nat.reduceLeDiff, Nat.reduceEqDiff, Nat.reduceSub, Int.reduceLE, Int.reduceLT, Int.reduceEq, Int.reduceNe, Int.reduceNeg, Int.reduceAdd, Int.reduceSub, Int.reduceMul, Int.reduceToNat, Nat.le_refl, Nat.zero_le, Nat.zero_add, Int.zero_add, Int.add_zero, and_true, true_and, and_false, false_and, not_true_eq_false, not_false_eq_true, eq_self, ne_eq, true_implies, false_implies, implies_true, or_true, true_or, or_false, false_or, reduceCtorEq, Option.some.injEq, Sum.inl.injEq, exists_eq_left', exists_eq_left, zite]
    refine ⟨rng3, ?_⟩
    refine zcvv rfl (x_years q4 (zsm (by decide)) (zsm (by decide)) (zsm (by decide)) (fun N4 g4 => ⟨_, rfl, ?_⟩))
    have hn4 : QF M N4 := QF.trans hn3 g4
    have q5 := RX_qf h hn4
    have rng4 := r_years q4 7 6 0
    unfold zIR at rng4
    simp only [↓rX7_digest_242, ↓rX7_digest_243, ↓rX7_digest_244, ↓rX7_digest_245, ↓rX7_digest_248, ↓rX7_digest_249, ↓rX7_digest_250, ↓rX7_digest_251, ↓rX7_digest_253, ↓rX7_digest_255, ↓rX7_digest_256, ↓reduceIte, zkeep_n, zkeep_i, zkeep_r, zkeep_l, zup_eq, zIR, zLR, List.length_cons, List.length_nil, Nat.reduceAdd, Nat.reduceLeDiff, Nat.reduceEqDiff, Nat.reduceSub, Int.reduceLE, Int.reduceLT, Int.reduceEq, Int.reduceNe, Int.reduceNeg, Int.reduceAdd, Int.reduceSub, Int.reduceMul, Int.reduceToNat, Nat.le_refl, Nat.zero_le, Nat.zero_add, Int.zero_add, Int.add_zero, and_true, true_and, and_false, false_and, not_true_eq_false, not_false_eq_true, eq_self, ne_eq, true_implies, false_implies, implies_true, or_true, true_or, or_false, false_or, reduceCtorEq, Option.some.injEq, Sum.inl.injEq, exists_eq_left', exists_eq_left, zite]
    refine ⟨rng4, ?_⟩
    refine zcvv rfl (x_years q5 (zsm (by decide)) (zsm (by decide)) (zsm (by decide)) (fun N5 g5 => ⟨_, rfl, ?_⟩))
    have hn5 : QF M N5 := QF.trans hn4 g5
    have q6 := RX_qf h hn5
    have rng5 := r_years q5 7 6 1
    unfold zIR at rng5
    have fin := hR N5 hn5
    simp only [↓rX7_digest_259, ↓rX7_digest_260, ↓rX7_digest_261, ↓reduceIte, zkeep_n, zkeep_i, zkeep_r, zkeep_l, zup_eq, zIR, zLR, List.length_cons, List.length_nil, Nat.reduceAdd, Nat.reduceLeDiff, Nat.reduceEqDiff, Nat.reduceSub, Int.reduceLE, Int.reduceLT, Int.reduceEq, Int.reduceNe, Int.reduceNeg, Int.reduceAdd, Int.reduceSub, Int.reduceMul, Int.reduceToNat, Nat.le_refl, Nat.zero_le, Nat.zero_add, Int.zero_add, Int.add_zero, and_true, true_and, and_false, false_and, not_true_eq_false, not_false_eq_true, eq_self, ne_eq, true_implies, false_implies, implies_true, or_true, true_or, or_false, false_or, reduceCtorEq, Option.some.injEq, Sum.inl.injEq, exists_eq_left', exists_eq_left, zite]
    repeat' (first | with_reducible apply And.intro | with_reducible intro _)
    all_goals first | omega | (exact fin)
  have D6 : ∀ s : Nat × zM, (s.1 ≤ 3 ∧ QF M s.2) → ∀ x7, uX7_digest R 154 [some (.inr (.inr 0)), some (.inr (.inl (fN (fun w h => 31 * h + aPusey S w) s.1 v5))), none, some (.inl (s.1 : Int)), x7] [] s.2 := by
    refine zind (fun s => 3 - s.1) ?_
    rintro ⟨i, N⟩ ⟨hi, hN⟩ ih x7
    simp only at hi hN ih
    have hRN := RX_qf h hN
    have n1 : N 1 5 = qn S 0 := hRN.2.2.2.1.2.1
    have n2 : N 4 5 = qn S 1 := hRN.2.2.2.1.2.2.1
    refine rX7_digest_154.mpr ?_
    by_cases he : i = 3
    · subst he
      rw [h6]
      have fin := fun x7 => tail N hN (some (.inl ((3 : Nat) : Int))) x7
      simp only [↓rX7_digest_155, ↓rX7_digest_156, ↓reduceIte, zkeep_n, zkeep_i, zkeep_r, zkeep_l, zup_eq, zIR, zLR, List.length_cons, List.length_nil, Nat.reduceAdd, Nat.reduceLeDiff, Nat.reduceEqDiff, Nat.reduceSub, Int.reduceLE, Int.reduceLT, Int.reduceEq, Int.reduceNe, Int.reduceNeg, Int.reduceAdd, Int.reduceSub, Int.reduceMul, Int.reduceToNat, Nat.le_refl, Nat.zero_le, Nat.zero_add, Int.zero_add, Int.add_zero, and_true, true_and, and_false, false_and, not_true_eq_false, not_false_eq_true, eq_self, ne_eq, true_implies, false_implies, implies_true, or_true, true_or, or_false, false_or, reduceCtorEq, Option.some.injEq, Sum.inl.injEq, exists_eq_left', exists_eq_left, n1, n2, zite]
      repeat' (first | with_reducible apply And.intro | with_reducible intro _)
      all_goals first | omega | (exact fin _)
    · have hi2 := hi
      have call : zcv (zv 7 tX7_pusey) [.inr (.inr 0), .inl (i : Int)] N (fun v N' => uX7_digest R 169 [some (.inr (.inr 0)), some (.inr (.inl (fN (fun w h => 31 * h + aPusey S w) i v5))), none, some (.inl (i : Int)), x7] [v, .inr (.inl (31 * fN (fun w h => 31 * h + aPusey S w) i v5))] N') := by
        refine zcvv rfl (x_pusey hRN (zsm (by omega)) (fun N' g => ⟨_, rfl, ?_⟩))
        have nx := ih (i + 1, N') ⟨by simp only; omega, hN.trans g⟩ (by simp only; omega) x7
        simp only [fN] at nx
        have rng := r_pusey hRN i
        unfold zIR at rng
        simp only [↓rX7_digest_169, ↓rX7_digest_170, ↓rX7_digest_171, ↓rX7_digest_172, ↓rX7_digest_175, ↓reduceIte, zkeep_n, zkeep_i, zkeep_r, zkeep_l, zup_eq, zIR, zLR, List.length_cons, List.length_nil, Nat.reduceAdd, Nat.reduceLeDiff, Nat.reduceEqDiff, Nat.reduceSub, Int.reduceLE, Int.reduceLT, Int.reduceEq, Int.reduceNe, Int.reduceNeg, Int.reduceAdd, Int.reduceSub, Int.reduceMul, Int.reduceToNat, Nat.le_refl, Nat.zero_le, Nat.zero_add, Int.zero_add, Int.add_zero, and_true, true_and, and_false, false_and, not_true_eq_false, not_false_eq_true, eq_self, ne_eq, true_implies, false_implies, implies_true, or_true, true_or, or_false, false_or, reduceCtorEq, Option.some.injEq, Sum.inl.injEq, exists_eq_left', exists_eq_left, zite]
        repeat' (first | with_reducible apply And.intro | with_reducible intro _)
        all_goals first | omega | (exact nx)
      simp only [↓rX7_digest_155, ↓rX7_digest_156, ↓rX7_digest_159, ↓rX7_digest_162, ↓rX7_digest_163, ↓rX7_digest_164, ↓rX7_digest_165, ↓rX7_digest_166, ↓reduceIte, zkeep_n, zkeep_i, zkeep_r, zkeep_l, zup_eq, zIR, zLR, List.length_cons, List.length_nil, Nat.reduceAdd, Nat.reduceLeDiff, Nat.reduceEqDiff, Nat.reduceSub, Int.reduceLE, Int.reduceLT, Int.reduceEq, Int.reduceNe, Int.reduceNeg, Int.reduceAdd, Int.reduceSub, Int.reduceMul, Int.reduceToNat, Nat.le_refl, Nat.zero_le, Nat.zero_add, Int.zero_add, Int.add_zero, and_true, true_and, and_false, false_and, not_true_eq_false, not_false_eq_true, eq_self, ne_eq, true_implies, false_implies, implies_true, or_true, true_or, or_false, false_or, reduceCtorEq, Option.some.injEq, Sum.inl.injEq, exists_eq_left', exists_eq_left, n1, n2, zite]
      repeat' (first | with_reducible apply And.intro | with_reducible intro _)
      all_goals first | omega | (exact call)
  have D5 : ∀ s : Nat × zM, (s.1 ≤ 4 ∧ QF M s.2) → ∀ x7, uX7_digest R 134 [some (.inr (.inr 0)), some (.inr (.inl (fN (dQ S) s.1 v4))), none, some (.inl (s.1 : Int)), x7] [] s.2 := by
    refine zind (fun s => 4 - s.1) ?_
    rintro ⟨i, N⟩ ⟨hi, hN⟩ ih x7
    simp only at hi hN ih
    have hRN := RX_qf h hN
    have n1 : N 1 5 = qn S 0 := hRN.2.2.2.1.2.1
    have n2 : N 4 5 = qn S 1 := hRN.2.2.2.1.2.2.1
    refine rX7_digest_134.mpr ?_
    by_cases he : i = 4
    · subst he
      rw [h5]
      have fin := fun x7 => D6 (0, N) ⟨Nat.zero_le _, hN⟩ x7
      simp only [↓rX7_digest_135, ↓rX7_digest_136, ↓rX7_digest_152, ↓rX7_digest_153, ↓reduceIte, zkeep_n, zkeep_i, zkeep_r, zkeep_l, zup_eq, zIR, zLR, List.length_cons, List.length_nil, Nat.reduceAdd, Nat.reduceLeDiff, Nat.reduceEqDiff, Nat.reduceSub, Int.reduceLE, Int.reduceLT, Int.reduceEq, Int.reduceNe, Int.reduceNeg, Int.reduceAdd, Int.reduceSub, Int.reduceMul, Int.reduceToNat, Nat.le_refl, Nat.zero_le, Nat.zero_add, Int.zero_add, Int.add_zero, and_true, true_and, and_false, false_and, not_true_eq_false, not_false_eq_true, eq_self, ne_eq, true_implies, false_implies, implies_true, or_true, true_or, or_false, false_or, reduceCtorEq, Option.some.injEq, Sum.inl.injEq, exists_eq_left', exists_eq_left, n1, n2, zite]
      repeat' (first | with_reducible apply And.intro | with_reducible intro _)
      all_goals first | omega | (exact fin _)
    · have hi2 := hi
      have call : zcv (zv 7 tX7_mixQuestion) [.inr (.inr 0), .inr (.inl (fN (dQ S) i v4)), .inl (i : Int)] N (fun v N' => uX7_digest R 145 [some (.inr (.inr 0)), some (.inr (.inl (fN (dQ S) i v4))), none, some (.inl (i : Int)), x7] [v] N') := by
        refine zcvv rfl (s_mixQ hRN (by omega) (fun N' g => ⟨_, rfl, ?_⟩))
        have nx := ih (i + 1, N') ⟨by simp only; omega, hN.trans g⟩ (by simp only; omega) x7
        simp only [fN] at nx
        simp only [↓rX7_digest_145, ↓rX7_digest_146, ↓rX7_digest_149, ↓reduceIte, zkeep_n, zkeep_i, zkeep_r, zkeep_l, zup_eq, zIR, zLR, List.length_cons, List.length_nil, Nat.reduceAdd, Nat.reduceLeDiff, Nat.reduceEqDiff, Nat.reduceSub, Int.reduceLE, Int.reduceLT, Int.reduceEq, Int.reduceNe, Int.reduceNeg, Int.reduceAdd, Int.reduceSub, Int.reduceMul, Int.reduceToNat, Nat.le_refl, Nat.zero_le, Nat.zero_add, Int.zero_add, Int.add_zero, and_true, true_and, and_false, false_and, not_true_eq_false, not_false_eq_true, eq_self, ne_eq, true_implies, false_implies, implies_true, or_true, true_or, or_false, false_or, reduceCtorEq, Option.some.injEq, Sum.inl.injEq, exists_eq_left', exists_eq_left, zite]
        repeat' (first | with_reducible apply And.intro | with_reducible intro _)
        all_goals first | omega | (exact nx)
      simp only [↓rX7_digest_135, ↓rX7_digest_136, ↓rX7_digest_139, ↓rX7_digest_140, ↓rX7_digest_141, ↓rX7_digest_142, ↓reduceIte, zkeep_n, zkeep_i, zkeep_r, zkeep_l, zup_eq, zIR, zLR, List.length_cons, List.length_nil, Nat.reduceAdd, Nat.reduceLeDiff, Nat.reduceEqDiff, Nat.reduceSub, Int.reduceLE, Int.reduceLT, Int.reduceEq, Int.reduceNe, Int.reduceNeg, Int.reduceAdd, Int.reduceSub, Int.reduceMul, Int.reduceToNat, Nat.le_refl, Nat.zero_le, Nat.zero_add, Int.zero_add, Int.add_zero, and_true, true_and, and_false, false_and, not_true_eq_false, not_false_eq_true, eq_self, ne_eq, true_implies, false_implies, implies_true, or_true, true_or, or_false, false_or, reduceCtorEq, Option.some.injEq, Sum.inl.injEq, exists_eq_left', exists_eq_left, n1, n2, zite]
      repeat' (first | with_reducible apply And.intro | with_reducible intro _)
      all_goals first | omega | (exact call)
  have D4 : ∀ s : Nat × zM, (s.1 ≤ (qk S) ∧ QF M s.2) → ∀ x7, uX7_digest R 108 [some (.inr (.inr 0)), some (.inr (.inl (fN (dM S) s.1 v3))), none, some (.inl (s.1 : Int)), x7] [] s.2 := by
    refine zind (fun s => (qk S) - s.1) ?_
    rintro ⟨i, N⟩ ⟨hi, hN⟩ ih x7
    simp only at hi hN ih
    have hRN := RX_qf h hN
    have n1 : N 1 5 = qn S 0 := hRN.2.2.2.1.2.1
    have n2 : N 4 5 = qn S 1 := hRN.2.2.2.1.2.2.1
    refine rX7_digest_108.mpr ?_
    by_cases he : i = (qk S)
    · subst he
      rw [h4]
      have fin := fun x7 => D5 (0, N) ⟨Nat.zero_le _, hN⟩ x7
      simp only [↓rX7_digest_109, ↓rX7_digest_110, ↓rX7_digest_113, ↓rX7_digest_116, ↓rX7_digest_132, ↓rX7_digest_133, ↓hg_fX7_116_1, ↓hg_fX7_116_4, ↓hg_fX7_14_0, ↓reduceIte, zkeep_n, zkeep_i, zkeep_r, zkeep_l, zup_eq, zIR, zLR, List.length_cons, List.length_nil, Nat.reduceAdd, Nat.reduceLeDiff, Nat.reduceEqDiff, Nat.reduceSub, Int.reduceLE, Int.reduceLT, Int.reduceEq, Int.reduceNe, Int.reduceNeg, Int.reduceAdd, Int.reduceSub, Int.reduceMul, Int.reduceToNat, Nat.le_refl, Nat.zero_le, Nat.zero_add, Int.zero_add, Int.add_zero, and_true, true_and, and_false, false_and, not_true_eq_false, not_false_eq_true, eq_self, ne_eq, true_implies, false_implies, implies_true, or_true, true_or, or_false, false_or, reduceCtorEq, Option.some.injEq, Sum.inl.injEq, exists_eq_left', exists_eq_left, n1, n2, zite]
      repeat' (first | with_reducible apply And.intro | with_reducible intro _)
      all_goals first | omega | (exact fin _)
    · have hi2 := hi
      have call : zcv (zv 7 tX7_mixMember) [.inr (.inr 0), .inr (.inl (fN (dM S) i v3)), .inl (i : Int)] N (fun v N' => uX7_digest R 125 [some (.inr (.inr 0)), some (.inr (.inl (fN (dM S) i v3))), none, some (.inl (i : Int)), x7] [v] N') := by
        refine zcvv rfl (s_mixM hRN (by omega) (fun N' g => ⟨_, rfl, ?_⟩))
        have nx := ih (i + 1, N') ⟨by simp only; omega, hN.trans g⟩ (by simp only; omega) x7
        simp only [fN] at nx
        simp only [↓rX7_digest_125, ↓rX7_digest_126, ↓rX7_digest_129, ↓reduceIte, zkeep_n, zkeep_i, zkeep_r, zkeep_l, zup_eq, zIR, zLR, List.length_cons, List.length_nil, Nat.reduceAdd, Nat.reduceLeDiff, Nat.reduceEqDiff, Nat.reduceSub, Int.reduceLE, Int.reduceLT, Int.reduceEq, Int.reduceNe, Int.reduceNeg, Int.reduceAdd, Int.reduceSub, Int.reduceMul, Int.reduceToNat, Nat.le_refl, Nat.zero_le, Nat.zero_add, Int.zero_add, Int.add_zero, and_true, true_and, and_false, false_and, not_true_eq_false, not_false_eq_true, eq_self, ne_eq, true_implies, false_implies, implies_true, or_true, true_or, or_false, false_or, reduceCtorEq, Option.some.injEq, Sum.inl.injEq, exists_eq_left', exists_eq_left, zite]
        repeat' (first | with_reducible apply And.intro | with_reducible intro _)
        all_goals first | omega | (exact nx)
      simp only [↓rX7_digest_109, ↓rX7_digest_110, ↓rX7_digest_113, ↓rX7_digest_116, ↓rX7_digest_119, ↓rX7_digest_120, ↓rX7_digest_121, ↓rX7_digest_122, ↓hg_fX7_116_1, ↓hg_fX7_116_4, ↓hg_fX7_14_0, ↓reduceIte, zkeep_n, zkeep_i, zkeep_r, zkeep_l, zup_eq, zIR, zLR, List.length_cons, List.length_nil, Nat.reduceAdd, Nat.reduceLeDiff, Nat.reduceEqDiff, Nat.reduceSub, Int.reduceLE, Int.reduceLT, Int.reduceEq, Int.reduceNe, Int.reduceNeg, Int.reduceAdd, Int.reduceSub, Int.reduceMul, Int.reduceToNat, Nat.le_refl, Nat.zero_le, Nat.zero_add, Int.zero_add, Int.add_zero, and_true, true_and, and_false, false_and, not_true_eq_false, not_false_eq_true, eq_self, ne_eq, true_implies, false_implies, implies_true, or_true, true_or, or_false, false_or, reduceCtorEq, Option.some.injEq, Sum.inl.injEq, exists_eq_left', exists_eq_left, n1, n2, zite]
      repeat' (first | with_reducible apply And.intro | with_reducible intro _)
      all_goals first | omega | (exact call)
  have D3 : ∀ s : Nat × zM, (s.1 ≤ ck S ∧ QF M s.2) → ∀ x7, uX7_digest R 59 [some (.inr (.inr 0)), some (.inr (.inl (fN (fun c h => fN (fun w h => 31 * h + aCow S c w) 5 h) s.1 v2))), none, some (.inl (s.1 : Int)), x7] [] s.2 := by
    refine zind (fun s => ck S - s.1) ?_
    rintro ⟨c, N⟩ ⟨hi, hN⟩ ih3 x7
    simp only at hi hN ih3
    have hRN := RX_qf h hN
    have n2 : N 4 5 = qn S 1 := hRN.2.2.2.1.2.2.1
    refine rX7_digest_59.mpr ?_
    by_cases he : c = ck S
    · subst he
      rw [h3]
      have fin := fun x7 => D4 (0, N) ⟨Nat.zero_le _, hN⟩ x7
      simp only [↓rX7_digest_60, ↓rX7_digest_61, ↓rX7_digest_64, ↓rX7_digest_67, ↓rX7_digest_106, ↓rX7_digest_107, ↓hg_fX7_116_1, ↓hg_fX7_116_4, ↓hg_fX7_22_0, ↓reduceIte, zkeep_n, zkeep_i, zkeep_r, zkeep_l, zup_eq, zIR, zLR, List.length_cons, List.length_nil, Nat.reduceAdd, Nat.reduceLeDiff, Nat.reduceEqDiff, Nat.reduceSub, Int.reduceLE, Int.reduceLT, Int.reduceEq, Int.reduceNe, Int.reduceNeg, Int.reduceAdd, Int.reduceSub, Int.reduceMul, Int.reduceToNat, Nat.le_refl, Nat.zero_le, Nat.zero_add, Int.zero_add, Int.add_zero, and_true, true_and, and_false, false_and, not_true_eq_false, not_false_eq_true, eq_self, ne_eq, true_implies, false_implies, implies_true, or_true, true_or, or_false, false_or, reduceCtorEq, Option.some.injEq, Sum.inl.injEq, exists_eq_left', exists_eq_left, n2, zite]
      repeat' (first | with_reducible apply And.intro | with_reducible intro _)
      all_goals first | omega | (exact fin _)
    · have hcz : zIR (c : Int) := zsm (by omega)
      have nx3 := fun N' g => ih3 (c + 1, N') ⟨by simp only; omega, g⟩ (by simp only; omega)
      have ed : fN (fun c h => fN (fun w h => 31 * h + aCow S c w) 5 h) (c + 1) v2 = fN (fun w h => 31 * h + aCow S c w) 5 (fN (fun c h => fN (fun w h => 31 * h + aCow S c w) 5 h) c v2) := rfl
      simp only [ed] at nx3
      generalize fN (fun c h => fN (fun w h => 31 * h + aCow S c w) 5 h) c v2 = w2 at *
      have DA : ∀ s : Nat × zM, (s.1 ≤ 5 ∧ QF M s.2) → ∀ (_z : Nat), uX7_digest R 73 [some (.inr (.inr 0)), some (.inr (.inl (fN (fun w h => 31 * h + aCow S c w) s.1 w2))), none, some (.inl (c : Int)), some (.inl (s.1 : Int))] [] s.2 := by
        refine zind (fun s => 5 - s.1) ?_
        rintro ⟨i, N⟩ ⟨hi, hN⟩ ih (_z : Nat)
        simp only at hi hN ih
        have hRN := RX_qf h hN
        have n1 : N 1 5 = qn S 0 := hRN.2.2.2.1.2.1
        have n2 : N 4 5 = qn S 1 := hRN.2.2.2.1.2.2.1
        refine rX7_digest_73.mpr ?_
        by_cases he : i = 5
        · subst he
          have fin := nx3 N hN (some (.inl ((5 : Nat) : Int)))
          simp only [↓rX7_digest_75, ↓rX7_digest_76, ↓rX7_digest_100, ↓rX7_digest_103, ↓reduceIte, zkeep_n, zkeep_i, zkeep_r, zkeep_l, zup_eq, zIR, zLR, List.length_cons, List.length_nil, Nat.reduceAdd, Nat.reduceLeDiff, Nat.reduceEqDiff, Nat.reduceSub, Int.reduceLE, Int.reduceLT, Int.reduceEq, Int.reduceNe, Int.reduceNeg, Int.reduceAdd, Int.reduceSub, Int.reduceMul, Int.reduceToNat, Nat.le_refl, Nat.zero_le, Nat.zero_add, Int.zero_add, Int.add_zero, and_true, true_and, and_false, false_and, not_true_eq_false, not_false_eq_true, eq_self, ne_eq, true_implies, false_implies, implies_true, or_true, true_or, or_false, false_or, reduceCtorEq, Option.some.injEq, Sum.inl.injEq, exists_eq_left', exists_eq_left, n1, n2, zite]
          repeat' (first | with_reducible apply And.intro | with_reducible intro _)
          all_goals first | omega | (exact fin)
        · have hi2 := hi
          have call : zcv (zv 7 tX7_cow) [.inr (.inr 0), .inl (c : Int), .inl (i : Int)] N (fun v N' => uX7_digest R 91 [some (.inr (.inr 0)), some (.inr (.inl (fN (fun w h => 31 * h + aCow S c w) i w2))), none, some (.inl (c : Int)), some (.inl (i : Int))] [v, .inr (.inl (31 * fN (fun w h => 31 * h + aCow S c w) i w2))] N') := by
            refine zcvv rfl (x_cow hRN hcz (zsm (by omega)) ⟨_, rfl, ?_⟩)
            have nx := ih (i + 1, N) ⟨by simp only; omega, hN⟩ (by simp only; omega) 0
            simp only [fN] at nx
            have rng := r_cow hRN c i
            unfold zIR at rng
            simp only [↓rX7_digest_91, ↓rX7_digest_92, ↓rX7_digest_93, ↓rX7_digest_94, ↓rX7_digest_97, ↓reduceIte, zkeep_n, zkeep_i, zkeep_r, zkeep_l, zup_eq, zIR, zLR, List.length_cons, List.length_nil, Nat.reduceAdd, Nat.reduceLeDiff, Nat.reduceEqDiff, Nat.reduceSub, Int.reduceLE, Int.reduceLT, Int.reduceEq, Int.reduceNe, Int.reduceNeg, Int.reduceAdd, Int.reduceSub, Int.reduceMul, Int.reduceToNat, Nat.le_refl, Nat.zero_le, Nat.zero_add, Int.zero_add, Int.add_zero, and_true, true_and, and_false, false_and, not_true_eq_false, not_false_eq_true, eq_self, ne_eq, true_implies, false_implies, implies_true, or_true, true_or, or_false, false_or, reduceCtorEq, Option.some.injEq, Sum.inl.injEq, exists_eq_left', exists_eq_left, zite]
            repeat' (first | with_reducible apply And.intro | with_reducible intro _)
            all_goals first | omega | (exact nx)
          simp only [↓rX7_digest_75, ↓rX7_digest_76, ↓rX7_digest_79, ↓rX7_digest_82, ↓rX7_digest_83, ↓rX7_digest_84, ↓rX7_digest_85, ↓rX7_digest_86, ↓rX7_digest_88, ↓reduceIte, zkeep_n, zkeep_i, zkeep_r, zkeep_l, zup_eq, zIR, zLR, List.length_cons, List.length_nil, Nat.reduceAdd, Nat.reduceLeDiff, Nat.reduceEqDiff, Nat.reduceSub, Int.reduceLE, Int.reduceLT, Int.reduceEq, Int.reduceNe, Int.reduceNeg, Int.reduceAdd, Int.reduceSub, Int.reduceMul, Int.reduceToNat, Nat.le_refl, Nat.zero_le, Nat.zero_add, Int.zero_add, Int.add_zero, and_true, true_and, and_false, false_and, not_true_eq_false, not_false_eq_true, eq_self, ne_eq, true_implies, false_implies, implies_true, or_true, true_or, or_false, false_or, reduceCtorEq, Option.some.injEq, Sum.inl.injEq, exists_eq_left', exists_eq_left, n1, n2, zite]
          repeat' (first | with_reducible apply And.intro | with_reducible intro _)
          all_goals first | omega | (exact call)
      have go := DA (0, N) ⟨Nat.zero_le _, hN⟩ 0
      simp only [↓rX7_digest_60, ↓rX7_digest_61, ↓rX7_digest_64, ↓rX7_digest_67, ↓rX7_digest_70, ↓rX7_digest_71, ↓hg_fX7_116_1, ↓hg_fX7_116_4, ↓hg_fX7_22_0, ↓reduceIte, zkeep_n, zkeep_i, zkeep_r, zkeep_l, zup_eq, zIR, zLR, List.length_cons, List.length_nil, Nat.reduceAdd, Nat.reduceLeDiff, Nat.reduceEqDiff, Nat.reduceSub, Int.reduceLE, Int.reduceLT, Int.reduceEq, Int.reduceNe, Int.reduceNeg, Int.reduceAdd, Int.reduceSub, Int.reduceMul, Int.reduceToNat, Nat.le_refl, Nat.zero_le, Nat.zero_add, Int.zero_add, Int.add_zero, and_true, true_and, and_false, false_and, not_true_eq_false, not_false_eq_true, eq_self, ne_eq, true_implies, false_implies, implies_true, or_true, true_or, or_false, false_or, reduceCtorEq, Option.some.injEq, Sum.inl.injEq, exists_eq_left', exists_eq_left, n2, zite]
      repeat' (first | with_reducible apply And.intro | with_reducible intro _)
      all_goals first | omega | (exact go)
  have D2 : ∀ s : Nat × zM, (s.1 ≤ 2 ∧ QF M s.2) → ∀ x7, uX7_digest R 33 [some (.inr (.inr 0)), some (.inr (.inl (fN (fun t h => 31 * h + aFault S t) s.1 v1))), none, some (.inl (s.1 : Int)), x7] [] s.2 := by
    refine zind (fun s => 2 - s.1) ?_
    rintro ⟨i, N⟩ ⟨hi, hN⟩ ih x7
    simp only at hi hN ih
    have hRN := RX_qf h hN
    have n1 : N 1 5 = qn S 0 := hRN.2.2.2.1.2.1
    have n2 : N 4 5 = qn S 1 := hRN.2.2.2.1.2.2.1
    refine rX7_digest_33.mpr ?_
    by_cases he : i = 2
    · subst he
      rw [h2]
      have fin := fun x7 => D3 (0, N) ⟨Nat.zero_le _, hN⟩ x7
      simp only [↓rX7_digest_34, ↓rX7_digest_35, ↓rX7_digest_57, ↓rX7_digest_58, ↓reduceIte, zkeep_n, zkeep_i, zkeep_r, zkeep_l, zup_eq, zIR, zLR, List.length_cons, List.length_nil, Nat.reduceAdd, Nat.reduceLeDiff, Nat.reduceEqDiff, Nat.reduceSub, Int.reduceLE, Int.reduceLT, Int.reduceEq, Int.reduceNe, Int.reduceNeg, Int.reduceAdd, Int.reduceSub, Int.reduceMul, Int.reduceToNat, Nat.le_refl, Nat.zero_le, Nat.zero_add, Int.zero_add, Int.add_zero, and_true, true_and, and_false, false_and, not_true_eq_false, not_false_eq_true, eq_self, ne_eq, true_implies, false_implies, implies_true, or_true, true_or, or_false, false_or, reduceCtorEq, Option.some.injEq, Sum.inl.injEq, exists_eq_left', exists_eq_left, n1, n2, zite]
      repeat' (first | with_reducible apply And.intro | with_reducible intro _)
      all_goals first | omega | (exact fin _)
    · have hi2 := hi
      have call : zcv (zv 7 tX7_fault) [.inr (.inr 0), .inl (i : Int)] N (fun v N' => uX7_digest R 48 [some (.inr (.inr 0)), some (.inr (.inl (fN (fun t h => 31 * h + aFault S t) i v1))), none, some (.inl (i : Int)), x7] [v, .inr (.inl (31 * fN (fun t h => 31 * h + aFault S t) i v1))] N') := by
        refine zcvv rfl (x_fault hRN (zsm (by omega)) ⟨_, rfl, ?_⟩)
        have nx := ih (i + 1, N) ⟨by simp only; omega, hN⟩ (by simp only; omega) x7
        simp only [fN] at nx
        have rng := r_fault hRN i
        unfold zIR at rng
        simp only [↓rX7_digest_48, ↓rX7_digest_49, ↓rX7_digest_50, ↓rX7_digest_51, ↓rX7_digest_54, ↓reduceIte, zkeep_n, zkeep_i, zkeep_r, zkeep_l, zup_eq, zIR, zLR, List.length_cons, List.length_nil, Nat.reduceAdd, Nat.reduceLeDiff, Nat.reduceEqDiff, Nat.reduceSub, Int.reduceLE, Int.reduceLT, Int.reduceEq, Int.reduceNe, Int.reduceNeg, Int.reduceAdd, Int.reduceSub, Int.reduceMul, Int.reduceToNat, Nat.le_refl, Nat.zero_le, Nat.zero_add, Int.zero_add, Int.add_zero, and_true, true_and, and_false, false_and, not_true_eq_false, not_false_eq_true, eq_self, ne_eq, true_implies, false_implies, implies_true, or_true, true_or, or_false, false_or, reduceCtorEq, Option.some.injEq, Sum.inl.injEq, exists_eq_left', exists_eq_left, zite]
        repeat' (first | with_reducible apply And.intro | with_reducible intro _)
        all_goals first | omega | (exact nx)
      simp only [↓rX7_digest_34, ↓rX7_digest_35, ↓rX7_digest_38, ↓rX7_digest_41, ↓rX7_digest_42, ↓rX7_digest_43, ↓rX7_digest_44, ↓rX7_digest_45, ↓reduceIte, zkeep_n, zkeep_i, zkeep_r, zkeep_l, zup_eq, zIR, zLR, List.length_cons, List.length_nil, Nat.reduceAdd, Nat.reduceLeDiff, Nat.reduceEqDiff, Nat.reduceSub, Int.reduceLE, Int.reduceLT, Int.reduceEq, Int.reduceNe, Int.reduceNeg, Int.reduceAdd, Int.reduceSub, Int.reduceMul, Int.reduceToNat, Nat.le_refl, Nat.zero_le, Nat.zero_add, Int.zero_add, Int.add_zero, and_true, true_and, and_false, false_and, not_true_eq_false, not_false_eq_true, eq_self, ne_eq, true_implies, false_implies, implies_true, or_true, true_or, or_false, false_or, reduceCtorEq, Option.some.injEq, Sum.inl.injEq, exists_eq_left', exists_eq_left, n1, n2, zite]
      repeat' (first | with_reducible apply And.intro | with_reducible intro _)
      all_goals first | omega | (exact call)
  have D1 : ∀ s : Nat × zM, (s.1 ≤ 8 ∧ QF M s.2) → ∀ x7, uX7_digest R 6 [some (.inr (.inr 0)), some (.inr (.inl (fN (fun w h => 31 * h + aCount S w) s.1 17))), none, some (.inl (s.1 : Int)), x7] [] s.2 := by
    refine zind (fun s => 8 - s.1) ?_
    rintro ⟨i, N⟩ ⟨hi, hN⟩ ih x7
    simp only at hi hN ih
    have hRN := RX_qf h hN
    have n1 : N 1 5 = qn S 0 := hRN.2.2.2.1.2.1
    have n2 : N 4 5 = qn S 1 := hRN.2.2.2.1.2.2.1
    refine rX7_digest_6.mpr ?_
    by_cases he : i = 8
    · subst he
      rw [h1]
      have fin := fun x7 => D2 (0, N) ⟨Nat.zero_le _, hN⟩ x7
      simp only [↓rX7_digest_7, ↓rX7_digest_9, ↓rX7_digest_31, ↓rX7_digest_32, ↓reduceIte, zkeep_n, zkeep_i, zkeep_r, zkeep_l, zup_eq, zIR, zLR, List.length_cons, List.length_nil, Nat.reduceAdd, Nat.reduceLeDiff, Nat.reduceEqDiff, Nat.reduceSub, Int.reduceLE, Int.reduceLT, Int.reduceEq, Int.reduceNe, Int.reduceNeg, Int.reduceAdd, Int.reduceSub, Int.reduceMul, Int.reduceToNat, Nat.le_refl, Nat.zero_le, Nat.zero_add, Int.zero_add, Int.add_zero, and_true, true_and, and_false, false_and, not_true_eq_false, not_false_eq_true, eq_self, ne_eq, true_implies, false_implies, implies_true, or_true, true_or, or_false, false_or, reduceCtorEq, Option.some.injEq, Sum.inl.injEq, exists_eq_left', exists_eq_left, n1, n2, zite]
      repeat' (first | with_reducible apply And.intro | with_reducible intro _)
      all_goals first | omega | (exact fin _)
    · have hi2 := hi
      have call : zcv (zv 7 tX7_count) [.inr (.inr 0), .inl (i : Int)] N (fun v N' => uX7_digest R 22 [some (.inr (.inr 0)), some (.inr (.inl (fN (fun w h => 31 * h + aCount S w) i 17))), none, some (.inl (i : Int)), x7] [v, .inr (.inl (31 * fN (fun w h => 31 * h + aCount S w) i 17))] N') := by
        refine zcvv rfl (x_count hRN (zsm (by omega)) (fun N' g => ⟨_, rfl, ?_⟩))
        have nx := ih (i + 1, N') ⟨by simp only; omega, hN.trans g⟩ (by simp only; omega) x7
        simp only [fN] at nx
        have rng := r_count hRN i
        unfold zIR at rng
        simp only [↓rX7_digest_22, ↓rX7_digest_23, ↓rX7_digest_24, ↓rX7_digest_25, ↓rX7_digest_28, ↓reduceIte, zkeep_n, zkeep_i, zkeep_r, zkeep_l, zup_eq, zIR, zLR, List.length_cons, List.length_nil, Nat.reduceAdd, Nat.reduceLeDiff, Nat.reduceEqDiff, Nat.reduceSub, Int.reduceLE, Int.reduceLT, Int.reduceEq, Int.reduceNe, Int.reduceNeg, Int.reduceAdd, Int.reduceSub, Int.reduceMul, Int.reduceToNat, Nat.le_refl, Nat.zero_le, Nat.zero_add, Int.zero_add, Int.add_zero, and_true, true_and, and_false, false_and, not_true_eq_false, not_false_eq_true, eq_self, ne_eq, true_implies, false_implies, implies_true, or_true, true_or, or_false, false_or, reduceCtorEq, Option.some.injEq, Sum.inl.injEq, exists_eq_left', exists_eq_left, zite]
        repeat' (first | with_reducible apply And.intro | with_reducible intro _)
        all_goals first | omega | (exact nx)
      simp only [↓rX7_digest_7, ↓rX7_digest_9, ↓rX7_digest_12, ↓rX7_digest_15, ↓rX7_digest_16, ↓rX7_digest_17, ↓rX7_digest_18, ↓rX7_digest_19, ↓reduceIte, zkeep_n, zkeep_i, zkeep_r, zkeep_l, zup_eq, zIR, zLR, List.length_cons, List.length_nil, Nat.reduceAdd, Nat.reduceLeDiff, Nat.reduceEqDiff, Nat.reduceSub, Int.reduceLE, Int.reduceLT, Int.reduceEq, Int.reduceNe, Int.reduceNeg, Int.reduceAdd, Int.reduceSub, Int.reduceMul, Int.reduceToNat, Nat.le_refl, Nat.zero_le, Nat.zero_add, Int.zero_add, Int.add_zero, and_true, true_and, and_false, false_and, not_true_eq_false, not_false_eq_true, eq_self, ne_eq, true_implies, false_implies, implies_true, or_true, true_or, or_false, false_or, reduceCtorEq, Option.some.injEq, Sum.inl.injEq, exists_eq_left', exists_eq_left, n1, n2, zite]
      repeat' (first | with_reducible apply And.intro | with_reducible intro _)
      all_goals first | omega | (exact call)
  have go := fun x7 => D1 (0, M) ⟨Nat.zero_le _, QF.rfl⟩ x7
  simp only [↓eX7_digest, ↓rX7_digest_0, ↓rX7_digest_3, ↓rX7_digest_4, ↓rX7_digest_5, ↓reduceIte, zkeep_n, zkeep_i, zkeep_r, zkeep_l, zup_eq, zIR, zLR, List.length_cons, List.length_nil, Nat.reduceAdd, Nat.reduceLeDiff, Nat.reduceEqDiff, Nat.reduceSub, Int.reduceLE, Int.reduceLT, Int.reduceEq, Int.reduceNe, Int.reduceNeg, Int.reduceAdd, Int.reduceSub, Int.reduceMul, Int.reduceToNat, Nat.le_refl, Nat.zero_le, Nat.zero_add, Int.zero_add, Int.add_zero, and_true, true_and, and_false, false_and, not_true_eq_false, not_false_eq_true, eq_self, ne_eq, true_implies, false_implies, implies_true, or_true, true_or, or_false, false_or, reduceCtorEq, Option.some.injEq, Sum.inl.injEq, exists_eq_left', exists_eq_left, zite]
  repeat' (first | with_reducible apply And.intro | with_reducible intro _)
  all_goals first | omega | (exact go _)
