def fN (F : Nat → Int → Int) : Nat → Int → Int
  | 0, h => h
  | n + 1, h => F n (fN F n h)
def tm9 (w : Nat) : Int := if w < 3 then 0 else if w < 6 then 6 else 19
def dV (S : zM) (m : Nat) (q : Nat) (h : Int) : Int := 31 * (31 * (31 * (31 * (31 * (31 * fN (fun w h => 31 * h + aAt S 19 m q w) 4 (fN (fun w h => 31 * h + aAt S 6 m q w) 4 h) + aPower S m q 0) + aPower S m q 1) + aRear S m q 9 (-1)) + aRear S m q 9 0) + aFirst S m q) + aAsk S m q
def dM (S : zM) (m : Nat) (h : Int) : Int := 31 * fN (dV S m) 4 (fN (fun w h => 31 * h + aAble S (tm9 w) m ((w : Int) % 3)) 9 (fN (fun w h => 31 * h + aMember S m w) 5 h)) + aSort S m
def dQ (S : zM) (q : Nat) (h : Int) : Int := 31 * (31 * fN (fun w h => 31 * h + aCarry S 8 q w) 3 (31 * fN (fun w h => 31 * h + aHouse S 19 q w) 3 (fN (fun w h => 31 * h + aHouse S 6 q w) 3 h) + aSays S q) + aCream S 5 14 q 0) + aCream S 5 14 q 1
def aDigest (S : zM) : Int := 31 * (31 * (31 * (31 * (31 * (31 * fN (fun w h => 31 * h + aPusey S w) 3 (fN (dQ S) 4 (fN (dM S) (qk S) (fN (fun c h => fN (fun w h => 31 * h + aCow S c w) 5 h) (ck S) (fN (fun t h => 31 * h + aFault S t) 2 (fN (fun w h => 31 * h + aCount S w) 8 17))))) + aWeaned S) + aSpare S (-1)) + aSpare S 0) + aNever S) + aYears S 7 6 0) + aYears S 7 6 1
theorem zI {a : Int} (h : -100000 ≤ a ∧ a ≤ 100000) : zIR a := zsm h
set_option maxRecDepth 100000 in
set_option maxHeartbeats 8000000 in
theorem s_mixM {S M : zM} {R : zP} {m : Nat} {st : Int} (h : RX S M) (hm : (m : Int) < qn S 0) (hR : ∀ M', QF M M' → R (some (.inr (.inl (dM S m st)))) M') : tX7_mixMember [.inr (.inr 0), .inr (.inl st), .inl (m : Int)] M R := by
  have hqn := (h.2.2.2.1.1 0 (by decide)).1
  have hmz : zIR (m : Int) := zsm (by omega)
  generalize hA : fN (fun w h => 31 * h + aMember S m w) 5 st = hA0
  generalize hB : fN (fun w h => 31 * h + aAble S (tm9 w) m ((w : Int) % 3)) 9 hA0 = hB0
  have eM : dM S m st = 31 * fN (dV S m) 4 hB0 + aSort S m := by unfold dM; rw [hA, hB]
  rw [eM] at hR
  have L3 : ∀ s : Nat × zM, (s.1 ≤ 4 ∧ QF M s.2) → ∀ x7, uX7_mixMember R 101 [some (.inr (.inr 0)), some (.inr (.inl st)), none, some (.inl (m : Int)), some (.inr (.inl (fN (dV S m) s.1 hB0))), none, some (.inl (s.1 : Int)), x7] [] s.2 := by
    refine zind (fun s => 4 - s.1) ?_
    rintro ⟨q, N⟩ ⟨hi, hN⟩ ih3 x7
    simp only at hi hN ih3
    have hRN := RX_qf h hN
    refine rX7_mixMember_101.mpr ?_
    by_cases he : q = 4
    · subst he
      have sc : zcv (zv 7 tX7_sort) [.inr (.inr 0), .inl (m : Int)] N (fun v N' => uX7_mixMember R 304 [some (.inr (.inr 0)), some (.inr (.inl st)), none, some (.inl (m : Int)), some (.inr (.inl (fN (dV S m) 4 hB0))), none, some (.inl ((4 : Nat) : Int)), x7] [v, .inr (.inl (31 * fN (dV S m) 4 hB0))] N') := by
        refine zcvv rfl (x_sort hRN hmz (fun N' g => ⟨_, rfl, ?_⟩))
        have fin := hR N' (hN.trans g)
        have rng := r_sort hRN m
        unfold zIR at rng
        simp only [↓rX7_mixMember_304, ↓rX7_mixMember_305, ↓rX7_mixMember_306, ↓reduceIte, zkeep_n, zkeep_i, zkeep_r, zkeep_l, zup_eq, zIR, zLR, List.length_cons, List.length_nil, Nat.reduceAdd, Nat.reduceLeDiff, Nat.reduceEqDiff, Nat.reduceSub, Int.reduceLE, Int.reduceLT, Int.reduceEq, Int.reduceNe, Int.reduceNeg, Int.reduceAdd, Int.reduceSub, Int.reduceMul, Int.reduceToNat, Nat.le_refl, Nat.zero_le, Nat.zero_add, Int.zero_add, Int.add_zero, and_true, true_and, and_false, false_and, not_true_eq_false, not_false_eq_true, eq_self, ne_eq, true_implies, false_implies, implies_true, or_true, true_or, or_false, false_or, reduceCtorEq, Option.some.injEq, Sum.inl.injEq, exists_eq_left', exists_eq_left, zite]
        repeat' (first | with_reducible apply And.intro | with_reducible intro _)
        all_goals first | omega | (exact fin)
      simp only [↓rX7_mixMember_103, ↓rX7_mixMember_104, ↓rX7_mixMember_293, ↓rX7_mixMember_296, ↓rX7_mixMember_298, ↓rX7_mixMember_299, ↓rX7_mixMember_300, ↓rX7_mixMember_301, ↓reduceIte, zkeep_n, zkeep_i, zkeep_r, zkeep_l, zup_eq, zIR, zLR, List.length_cons, List.length_nil, Nat.reduceAdd, Nat.reduceLeDiff, Nat.reduceEqDiff, Nat.reduceSub, Int.reduceLE, Int.reduceLT, Int.reduceEq, Int.reduceNe, Int.reduceNeg, Int.reduceAdd, Int.reduceSub, Int.reduceMul, Int.reduceToNat, Nat.le_refl, Nat.zero_le, Nat.zero_add, Int.zero_add, Int.add_zero, and_true, true_and, and_false, false_and, not_true_eq_false, not_false_eq_true, eq_self, ne_eq, true_implies, false_implies, implies_true, or_true, true_or, or_false, false_or, reduceCtorEq, Option.some.injEq, Sum.inl.injEq, exists_eq_left', exists_eq_left, zite]
      repeat' (first | with_reducible apply And.intro | with_reducible intro _)
      all_goals first | omega | (exact sc)
    · have hqz : zIR (q : Int) := zsm (by omega)
      generalize hC : fN (dV S m) q hB0 = hC0
      generalize hD : fN (fun w h => 31 * h + aAt S 6 m q w) 4 hC0 = hD0
      generalize hE : fN (fun w h => 31 * h + aAt S 19 m q w) 4 hD0 = hE0
      have nx3 := fun N' g => ih3 (q + 1, N') ⟨by simp only; omega, g⟩ (by simp only; omega)
      have ed : fN (dV S m) (q + 1) hB0 = 31 * (31 * (31 * (31 * (31 * (31 * hE0 + aPower S m q 0) + aPower S m q 1) + aRear S m q 9 (-1)) + aRear S m q 9 0) + aFirst S m q) + aAsk S m q := by
        show dV S m q (fN (dV S m) q hB0) = _
        rw [hC]
        unfold dV
        rw [hD, hE]
      simp only [ed] at nx3
      have tail : ∀ N, QF M N → ∀ x7, uX7_mixMember R 179 [some (.inr (.inr 0)), some (.inr (.inl st)), none, some (.inl (m : Int)), some (.inr (.inl (hE0))), none, some (.inl (q : Int)), x7] [] N := by
        intro N hN x7
        have q0 := RX_qf h hN
        simp only [↓rX7_mixMember_179, ↓rX7_mixMember_182, ↓rX7_mixMember_184, ↓rX7_mixMember_185, ↓rX7_mixMember_186, ↓rX7_mixMember_187, ↓rX7_mixMember_189, ↓rX7_mixMember_190, ↓reduceIte, zkeep_n, zkeep_i, zkeep_r, zkeep_l, zup_eq, zIR, zLR, List.length_cons, List.length_nil, Nat.reduceAdd, Nat.reduceLeDiff, Nat.reduceEqDiff, Nat.reduceSub, Int.reduceLE, Int.reduceLT, Int.reduceEq, Int.reduceNe, Int.reduceNeg, Int.reduceAdd, Int.reduceSub, Int.reduceMul, Int.reduceToNat, Nat.le_refl, Nat.zero_le, Nat.zero_add, Int.zero_add, Int.add_zero, and_true, true_and, and_false, false_and, not_true_eq_false, not_false_eq_true, eq_self, ne_eq, true_implies, false_implies, implies_true, or_true, true_or, or_false, false_or, reduceCtorEq, Option.some.injEq, Sum.inl.injEq, exists_eq_left', exists_eq_left, zite]
        refine zcvv rfl (x_power q0 hmz hqz (zsm (by decide)) (fun N0 g0 => ⟨_, rfl, ?_⟩))
        have hn0 : QF M N0 := QF.trans hN g0
        have q1 := RX_qf h hn0
        simp only [↓rX7_mixMember_193, ↓rX7_mixMember_194, ↓rX7_mixMember_196, ↓rX7_mixMember_199, ↓rX7_mixMember_201, ↓rX7_mixMember_202, ↓rX7_mixMember_203, ↓rX7_mixMember_204, ↓rX7_mixMember_206, ↓rX7_mixMember_207, ↓reduceIte, zkeep_n, zkeep_i, zkeep_r, zkeep_l, zup_eq, zIR, zLR, List.length_cons, List.length_nil, Nat.reduceAdd, Nat.reduceLeDiff, Nat.reduceEqDiff, Nat.reduceSub, Int.reduceLE, Int.reduceLT, Int.reduceEq, Int.reduceNe, Int.reduceNeg, Int.reduceAdd, Int.reduceSub, Int.reduceMul, Int.reduceToNat, Nat.le_refl, Nat.zero_le, Nat.zero_add, Int.zero_add, Int.add_zero, and_true, true_and, and_false, false_and, not_true_eq_false, not_false_eq_true, eq_self, ne_eq, true_implies, false_implies, implies_true, or_true, true_or, or_false, false_or, reduceCtorEq, Option.some.injEq, Sum.inl.injEq, exists_eq_left', exists_eq_left, zite]
        refine zcvv rfl (x_power q1 hmz hqz (zsm (by decide)) (fun N1 g1 => ⟨_, rfl, ?_⟩))
        have hn1 : QF M N1 := QF.trans hn0 g1
        have q2 := RX_qf h hn1
        simp only [↓rX7_mixMember_210, ↓rX7_mixMember_211, ↓rX7_mixMember_213, ↓rX7_mixMember_216, ↓rX7_mixMember_218, ↓rX7_mixMember_219, ↓rX7_mixMember_220, ↓rX7_mixMember_221, ↓rX7_mixMember_223, ↓rX7_mixMember_225, ↓rX7_mixMember_226, ↓reduceIte, zkeep_n, zkeep_i, zkeep_r, zkeep_l, zup_eq, zIR, zLR, List.length_cons, List.length_nil, Nat.reduceAdd, Nat.reduceLeDiff, Nat.reduceEqDiff, Nat.reduceSub, Int.reduceLE, Int.reduceLT, Int.reduceEq, Int.reduceNe, Int.reduceNeg, Int.reduceAdd, Int.reduceSub, Int.reduceMul, Int.reduceToNat, Nat.le_refl, Nat.zero_le, Nat.zero_add, Int.zero_add, Int.add_zero, and_true, true_and, and_false, false_and, not_true_eq_false, not_false_eq_true, eq_self, ne_eq, true_implies, false_implies, implies_true, or_true, true_or, or_false, false_or, reduceCtorEq, Option.some.injEq, Sum.inl.injEq, exists_eq_left', exists_eq_left, zite]
        refine zcvv rfl (x_rear q2 hmz hqz (zsm (by decide)) (zsm (by decide)) (fun N2 g2 => ⟨_, rfl, ?_⟩))
        have hn2 : QF M N2 := QF.trans hn1 g2
        have q3 := RX_qf h hn2
        have rng2 := r_rear q2 m q 9 (-1)
        unfold zIR at rng2
        simp only [↓rX7_mixMember_229, ↓rX7_mixMember_230, ↓rX7_mixMember_231, ↓rX7_mixMember_233, ↓rX7_mixMember_236, ↓rX7_mixMember_238, ↓rX7_mixMember_239, ↓rX7_mixMember_240, ↓rX7_mixMember_241, ↓rX7_mixMember_243, ↓rX7_mixMember_245, ↓rX7_mixMember_246, ↓reduceIte, zkeep_n, zkeep_i, zkeep_r, zkeep_l, zup_eq, zIR, zLR, List.length_cons, List.length_nil, Nat.reduceAdd, Nat.reduceLeDiff, Nat.reduceEqDiff, Nat.reduceSub, Int.reduceLE, Int.reduceLT, Int.reduceEq, Int.reduceNe, Int.reduceNeg, Int.reduceAdd, Int.reduceSub, Int.reduceMul, Int.reduceToNat, Nat.le_refl, Nat.zero_le, Nat.zero_add, Int.zero_add, Int.add_zero, and_true, true_and, and_false, false_and, not_true_eq_false, not_false_eq_true, eq_self, ne_eq, true_implies, false_implies, implies_true, or_true, true_or, or_false, false_or, reduceCtorEq, Option.some.injEq, Sum.inl.injEq, exists_eq_left', exists_eq_left, zite]
        refine ⟨rng2, ?_⟩
        refine zcvv rfl (x_rear q3 hmz hqz (zsm (by decide)) (zsm (by decide)) (fun N3 g3 => ⟨_, rfl, ?_⟩))
        have hn3 : QF M N3 := QF.trans hn2 g3
        have q4 := RX_qf h hn3
        have rng3 := r_rear q3 m q 9 0
        unfold zIR at rng3
        simp only [↓rX7_mixMember_249, ↓rX7_mixMember_250, ↓rX7_mixMember_251, ↓rX7_mixMember_253, ↓rX7_mixMember_256, ↓rX7_mixMember_258, ↓rX7_mixMember_259, ↓rX7_mixMember_260, ↓rX7_mixMember_261, ↓rX7_mixMember_263, ↓reduceIte, zkeep_n, zkeep_i, zkeep_r, zkeep_l, zup_eq, zIR, zLR, List.length_cons, List.length_nil, Nat.reduceAdd, Nat.reduceLeDiff, Nat.reduceEqDiff, Nat.reduceSub, Int.reduceLE, Int.reduceLT, Int.reduceEq, Int.reduceNe, Int.reduceNeg, Int.reduceAdd, Int.reduceSub, Int.reduceMul, Int.reduceToNat, Nat.le_refl, Nat.zero_le, Nat.zero_add, Int.zero_add, Int.add_zero, and_true, true_and, and_false, false_and, not_true_eq_false, not_false_eq_true, eq_self, ne_eq, true_implies, false_implies, implies_true, or_true, true_or, or_false, false_or, reduceCtorEq, Option.some.injEq, Sum.inl.injEq, exists_eq_left', exists_eq_left, zite]
        refine ⟨rng3, ?_⟩
        refine zcvv rfl (x_first q4 hmz hqz (fun N4 g4 => ⟨_, rfl, ?_⟩))
        have hn4 : QF M N4 := QF.trans hn3 g4
        have q5 := RX_qf h hn4
        have rng4 := r_first q4 m q
        unfold zIR at rng4
        simp only [↓rX7_mixMember_266, ↓rX7_mixMember_267, ↓rX7_mixMember_268, ↓rX7_mixMember_270, ↓rX7_mixMember_273, ↓rX7_mixMember_275, ↓rX7_mixMember_276, ↓rX7_mixMember_277, ↓rX7_mixMember_278, ↓rX7_mixMember_280, ↓reduceIte, zkeep_n, zkeep_i, zkeep_r, zkeep_l, zup_eq, zIR, zLR, List.length_cons, List.length_nil, Nat.reduceAdd, Nat.reduceLeDiff, Nat.reduceEqDiff, Nat.reduceSub, Int.reduceLE, Int.reduceLT, Int.reduceEq, Int.reduceNe, Int.reduceNeg, Int.reduceAdd, Int.reduceSub, Int.reduceMul, Int.reduceToNat, Nat.le_refl, Nat.zero_le, Nat.zero_add, Int.zero_add, Int.add_zero, and_true, true_and, and_false, false_and, not_true_eq_false, not_false_eq_true, eq_self, ne_eq, true_implies, false_implies, implies_true, or_true, true_or, or_false, false_or, reduceCtorEq, Option.some.injEq, Sum.inl.injEq, exists_eq_left', exists_eq_left, zite]
        refine ⟨rng4, ?_⟩
        refine zcvv rfl (x_ask q5 hmz hqz (fun N5 g5 => ⟨_, rfl, ?_⟩))
        have hn5 : QF M N5 := QF.trans hn4 g5
        have q6 := RX_qf h hn5
        have rng5 := r_ask q5 m q
        unfold zIR at rng5
        have nx := nx3 N5 hn5
        simp only [↓rX7_mixMember_283, ↓rX7_mixMember_284, ↓rX7_mixMember_285, ↓rX7_mixMember_287, ↓rX7_mixMember_290, ↓reduceIte, zkeep_n, zkeep_i, zkeep_r, zkeep_l, zup_eq, zIR, zLR, List.length_cons, List.length_nil, Nat.reduceAdd, Nat.reduceLeDiff, Nat.reduceEqDiff, Nat.reduceSub, Int.reduceLE, Int.reduceLT, Int.reduceEq, Int.reduceNe, Int.reduceNeg, Int.reduceAdd, Int.reduceSub, Int.reduceMul, Int.reduceToNat, Nat.le_refl, Nat.zero_le, Nat.zero_add, Int.zero_add, Int.add_zero, and_true, true_and, and_false, false_and, not_true_eq_false, not_false_eq_true, eq_self, ne_eq, true_implies, false_implies, implies_true, or_true, true_or, or_false, false_or, reduceCtorEq, Option.some.injEq, Sum.inl.injEq, exists_eq_left', exists_eq_left, zite]
        repeat' (first | with_reducible apply And.intro | with_reducible intro _)
        all_goals first | omega | (exact nx _)
      have LB : ∀ s : Nat × zM, (s.1 ≤ 4 ∧ QF M s.2) → ∀ (_z : Nat), uX7_mixMember R 146 [some (.inr (.inr 0)), some (.inr (.inl st)), none, some (.inl (m : Int)), some (.inr (.inl (fN (fun w h => 31 * h + aAt S 19 m q w) s.1 hD0))), none, some (.inl (q : Int)), some (.inl (s.1 : Int))] [] s.2 := by
        refine zind (fun s => 4 - s.1) ?_
        rintro ⟨i, N⟩ ⟨hi, hN⟩ ih (_z : Nat)
        simp only at hi hN ih
        have hRN := RX_qf h hN
        have n1 : N 1 5 = qn S 0 := hRN.2.2.2.1.2.1
        have n2 : N 4 5 = qn S 1 := hRN.2.2.2.1.2.2.1
        refine rX7_mixMember_146.mpr ?_
        by_cases he : i = 4
        · subst he
          rw [hE]
          have fin := tail N hN (some (.inl ((4 : Nat) : Int)))
          simp only [↓rX7_mixMember_148, ↓rX7_mixMember_149, ↓rX7_mixMember_152, ↓rX7_mixMember_155, ↓rX7_mixMember_157, ↓rX7_mixMember_158, ↓rX7_mixMember_159, ↓rX7_mixMember_161, ↓rX7_mixMember_162, ↓rX7_mixMember_164, ↓rX7_mixMember_166, ↓reduceIte, zkeep_n, zkeep_i, zkeep_r, zkeep_l, zup_eq, zIR, zLR, List.length_cons, List.length_nil, Nat.reduceAdd, Nat.reduceLeDiff, Nat.reduceEqDiff, Nat.reduceSub, Int.reduceLE, Int.reduceLT, Int.reduceEq, Int.reduceNe, Int.reduceNeg, Int.reduceAdd, Int.reduceSub, Int.reduceMul, Int.reduceToNat, Nat.le_refl, Nat.zero_le, Nat.zero_add, Int.zero_add, Int.add_zero, and_true, true_and, and_false, false_and, not_true_eq_false, not_false_eq_true, eq_self, ne_eq, true_implies, false_implies, implies_true, or_true, true_or, or_false, false_or, reduceCtorEq, Option.some.injEq, Sum.inl.injEq, exists_eq_left', exists_eq_left, n1, n2, zite]
          repeat' (first | with_reducible apply And.intro | with_reducible intro _)
          all_goals first | omega | (exact fin)
        · have hi2 := hi
          have call : zcv (zv 7 tX7_at) [.inr (.inr 0), .inl 19, .inl (m : Int), .inl (q : Int), .inl (i : Int)] N (fun v N' => uX7_mixMember R 169 [some (.inr (.inr 0)), some (.inr (.inl st)), none, some (.inl (m : Int)), some (.inr (.inl (fN (fun w h => 31 * h + aAt S 19 m q w) i hD0))), none, some (.inl (q : Int)), some (.inl (i : Int))] [v, .inr (.inl (31 * fN (fun w h => 31 * h + aAt S 19 m q w) i hD0))] N') := by
            refine zcvv rfl (x_at hRN (zsm (by decide)) hmz hqz (zsm (by omega)) (fun N' g => ⟨_, rfl, ?_⟩))
            have nx := ih (i + 1, N') ⟨by simp only; omega, hN.trans g⟩ (by simp only; omega) 0
            simp only [fN] at nx
            have rng := r_at hRN 19 m q i
            unfold zIR at rng
            simp only [↓rX7_mixMember_169, ↓rX7_mixMember_170, ↓rX7_mixMember_171, ↓rX7_mixMember_173, ↓rX7_mixMember_176, ↓reduceIte, zkeep_n, zkeep_i, zkeep_r, zkeep_l, zup_eq, zIR, zLR, List.length_cons, List.length_nil, Nat.reduceAdd, Nat.reduceLeDiff, Nat.reduceEqDiff, Nat.reduceSub, Int.reduceLE, Int.reduceLT, Int.reduceEq, Int.reduceNe, Int.reduceNeg, Int.reduceAdd, Int.reduceSub, Int.reduceMul, Int.reduceToNat, Nat.le_refl, Nat.zero_le, Nat.zero_add, Int.zero_add, Int.add_zero, and_true, true_and, and_false, false_and, not_true_eq_false, not_false_eq_true, eq_self, ne_eq, true_implies, false_implies, implies_true, or_true, true_or, or_false, false_or, reduceCtorEq, Option.some.injEq, Sum.inl.injEq, exists_eq_left', exists_eq_left, zite]
            repeat' (first | with_reducible apply And.intro | with_reducible intro _)
            all_goals first | omega | (exact nx)
          simp only [↓rX7_mixMember_148, ↓rX7_mixMember_149, ↓rX7_mixMember_152, ↓rX7_mixMember_155, ↓rX7_mixMember_157, ↓rX7_mixMember_158, ↓rX7_mixMember_159, ↓rX7_mixMember_161, ↓rX7_mixMember_162, ↓rX7_mixMember_164, ↓rX7_mixMember_166, ↓reduceIte, zkeep_n, zkeep_i, zkeep_r, zkeep_l, zup_eq, zIR, zLR, List.length_cons, List.length_nil, Nat.reduceAdd, Nat.reduceLeDiff, Nat.reduceEqDiff, Nat.reduceSub, Int.reduceLE, Int.reduceLT, Int.reduceEq, Int.reduceNe, Int.reduceNeg, Int.reduceAdd, Int.reduceSub, Int.reduceMul, Int.reduceToNat, Nat.le_refl, Nat.zero_le, Nat.zero_add, Int.zero_add, Int.add_zero, and_true, true_and, and_false, false_and, not_true_eq_false, not_false_eq_true, eq_self, ne_eq, true_implies, false_implies, implies_true, or_true, true_or, or_false, false_or, reduceCtorEq, Option.some.injEq, Sum.inl.injEq, exists_eq_left', exists_eq_left, n1, n2, zite]
          repeat' (first | with_reducible apply And.intro | with_reducible intro _)
          all_goals first | omega | (exact call)
      have LA : ∀ s : Nat × zM, (s.1 ≤ 4 ∧ QF M s.2) → ∀ (_z : Nat), uX7_mixMember R 110 [some (.inr (.inr 0)), some (.inr (.inl st)), none, some (.inl (m : Int)), some (.inr (.inl (fN (fun w h => 31 * h + aAt S 6 m q w) s.1 hC0))), none, some (.inl (q : Int)), some (.inl (s.1 : Int))] [] s.2 := by
        refine zind (fun s => 4 - s.1) ?_
        rintro ⟨i, N⟩ ⟨hi, hN⟩ ih (_z : Nat)
        simp only at hi hN ih
        have hRN := RX_qf h hN
        have n1 : N 1 5 = qn S 0 := hRN.2.2.2.1.2.1
        have n2 : N 4 5 = qn S 1 := hRN.2.2.2.1.2.2.1
        refine rX7_mixMember_110.mpr ?_
        by_cases he : i = 4
        · subst he
          rw [hD]
          have fin := LB (0, N) ⟨Nat.zero_le _, hN⟩ 0
          simp only [↓rX7_mixMember_112, ↓rX7_mixMember_113, ↓rX7_mixMember_143, ↓rX7_mixMember_144, ↓reduceIte, zkeep_n, zkeep_i, zkeep_r, zkeep_l, zup_eq, zIR, zLR, List.length_cons, List.length_nil, Nat.reduceAdd, Nat.reduceLeDiff, Nat.reduceEqDiff, Nat.reduceSub, Int.reduceLE, Int.reduceLT, Int.reduceEq, Int.reduceNe, Int.reduceNeg, Int.reduceAdd, Int.reduceSub, Int.reduceMul, Int.reduceToNat, Nat.le_refl, Nat.zero_le, Nat.zero_add, Int.zero_add, Int.add_zero, and_true, true_and, and_false, false_and, not_true_eq_false, not_false_eq_true, eq_self, ne_eq, true_implies, false_implies, implies_true, or_true, true_or, or_false, false_or, reduceCtorEq, Option.some.injEq, Sum.inl.injEq, exists_eq_left', exists_eq_left, n1, n2, zite]
          repeat' (first | with_reducible apply And.intro | with_reducible intro _)
          all_goals first | omega | (exact fin)
        · have hi2 := hi
          have call : zcv (zv 7 tX7_at) [.inr (.inr 0), .inl 6, .inl (m : Int), .inl (q : Int), .inl (i : Int)] N (fun v N' => uX7_mixMember R 133 [some (.inr (.inr 0)), some (.inr (.inl st)), none, some (.inl (m : Int)), some (.inr (.inl (fN (fun w h => 31 * h + aAt S 6 m q w) i hC0))), none, some (.inl (q : Int)), some (.inl (i : Int))] [v, .inr (.inl (31 * fN (fun w h => 31 * h + aAt S 6 m q w) i hC0))] N') := by
            refine zcvv rfl (x_at hRN (zsm (by decide)) hmz hqz (zsm (by omega)) (fun N' g => ⟨_, rfl, ?_⟩))
            have nx := ih (i + 1, N') ⟨by simp only; omega, hN.trans g⟩ (by simp only; omega) 0
            simp only [fN] at nx
            have rng := r_at hRN 6 m q i
            unfold zIR at rng
            simp only [↓rX7_mixMember_133, ↓rX7_mixMember_134, ↓rX7_mixMember_135, ↓rX7_mixMember_137, ↓rX7_mixMember_140, ↓reduceIte, zkeep_n, zkeep_i, zkeep_r, zkeep_l, zup_eq, zIR, zLR, List.length_cons, List.length_nil, Nat.reduceAdd, Nat.reduceLeDiff, Nat.reduceEqDiff, Nat.reduceSub, Int.reduceLE, Int.reduceLT, Int.reduceEq, Int.reduceNe, Int.reduceNeg, Int.reduceAdd, Int.reduceSub, Int.reduceMul, Int.reduceToNat, Nat.le_refl, Nat.zero_le, Nat.zero_add, Int.zero_add, Int.add_zero, and_true, true_and, and_false, false_and, not_true_eq_false, not_false_eq_true, eq_self, ne_eq, true_implies, false_implies, implies_true, or_true, true_or, or_false, false_or, reduceCtorEq, Option.some.injEq, Sum.inl.injEq, exists_eq_left', exists_eq_left, zite]
            repeat' (first | with_reducible apply And.intro | with_reducible intro _)
            all_goals first | omega | (exact nx)
          simp only [↓rX7_mixMember_112, ↓rX7_mixMember_113, ↓rX7_mixMember_116, ↓rX7_mixMember_119, ↓rX7_mixMember_121, ↓rX7_mixMember_122, ↓rX7_mixMember_123, ↓rX7_mixMember_125, ↓rX7_mixMember_126, ↓rX7_mixMember_128, ↓rX7_mixMember_130, ↓reduceIte, zkeep_n, zkeep_i, zkeep_r, zkeep_l, zup_eq, zIR, zLR, List.length_cons, List.length_nil, Nat.reduceAdd, Nat.reduceLeDiff, Nat.reduceEqDiff, Nat.reduceSub, Int.reduceLE, Int.reduceLT, Int.reduceEq, Int.reduceNe, Int.reduceNeg, Int.reduceAdd, Int.reduceSub, Int.reduceMul, Int.reduceToNat, Nat.le_refl, Nat.zero_le, Nat.zero_add, Int.zero_add, Int.add_zero, and_true, true_and, and_false, false_and, not_true_eq_false, not_false_eq_true, eq_self, ne_eq, true_implies, false_implies, implies_true, or_true, true_or, or_false, false_or, reduceCtorEq, Option.some.injEq, Sum.inl.injEq, exists_eq_left', exists_eq_left, n1, n2, zite]
          repeat' (first | with_reducible apply And.intro | with_reducible intro _)
          all_goals first | omega | (exact call)
      have go := LA (0, N) ⟨Nat.zero_le _, hN⟩ 0
      simp only [↓rX7_mixMember_103, ↓rX7_mixMember_104, ↓rX7_mixMember_107, ↓rX7_mixMember_108, ↓reduceIte, zkeep_n, zkeep_i, zkeep_r, zkeep_l, zup_eq, zIR, zLR, List.length_cons, List.length_nil, Nat.reduceAdd, Nat.reduceLeDiff, Nat.reduceEqDiff, Nat.reduceSub, Int.reduceLE, Int.reduceLT, Int.reduceEq, Int.reduceNe, Int.reduceNeg, Int.reduceAdd, Int.reduceSub, Int.reduceMul, Int.reduceToNat, Nat.le_refl, Nat.zero_le, Nat.zero_add, Int.zero_add, Int.add_zero, and_true, true_and, and_false, false_and, not_true_eq_false, not_false_eq_true, eq_self, ne_eq, true_implies, false_implies, implies_true, or_true, true_or, or_false, false_or, reduceCtorEq, Option.some.injEq, Sum.inl.injEq, exists_eq_left', exists_eq_left, zite]
      repeat' (first | with_reducible apply And.intro | with_reducible intro _)
      all_goals first | omega | (exact go)
  have L2 : ∀ s : Nat × zM, (s.1 ≤ 9 ∧ QF M s.2) → ∀ x7, uX7_mixMember R 38 [some (.inr (.inr 0)), some (.inr (.inl st)), none, some (.inl (m : Int)), some (.inr (.inl (fN (fun w h => 31 * h + aAble S (tm9 w) m ((w : Int) % 3)) s.1 hA0))), none, some (.inl (s.1 : Int)), x7] [] s.2 := by
    refine zind (fun s => 9 - s.1) ?_
    rintro ⟨i, N⟩ ⟨hi, hN⟩ ih x7
    simp only at hi hN ih
    have hRN := RX_qf h hN
    have n1 : N 1 5 = qn S 0 := hRN.2.2.2.1.2.1
    have n2 : N 4 5 = qn S 1 := hRN.2.2.2.1.2.2.1
    refine rX7_mixMember_38.mpr ?_
    by_cases he : i = 9
    · subst he
      rw [hB]
      have fin := fun x7 => L3 (0, N) ⟨Nat.zero_le _, hN⟩ x7
      simp only [↓rX7_mixMember_40, ↓rX7_mixMember_42, ↓rX7_mixMember_98, ↓rX7_mixMember_99, ↓reduceIte, zkeep_n, zkeep_i, zkeep_r, zkeep_l, zup_eq, zIR, zLR, List.length_cons, List.length_nil, Nat.reduceAdd, Nat.reduceLeDiff, Nat.reduceEqDiff, Nat.reduceSub, Int.reduceLE, Int.reduceLT, Int.reduceEq, Int.reduceNe, Int.reduceNeg, Int.reduceAdd, Int.reduceSub, Int.reduceMul, Int.reduceToNat, Nat.le_refl, Nat.zero_le, Nat.zero_add, Int.zero_add, Int.add_zero, and_true, true_and, and_false, false_and, not_true_eq_false, not_false_eq_true, eq_self, ne_eq, true_implies, false_implies, implies_true, or_true, true_or, or_false, false_or, reduceCtorEq, Option.some.injEq, Sum.inl.injEq, exists_eq_left', exists_eq_left, n1, n2, zite]
      repeat' (first | with_reducible apply And.intro | with_reducible intro _)
      all_goals first | omega | (exact fin _)
    · have em : (i : Int).tmod 3 = (i : Int) % 3 := Int.tmod_eq_emod_of_nonneg (by omega)
      have call : ∀ te, te = tm9 i → zcv (zv 7 tX7_able) [.inr (.inr 0), .inl te, .inl (m : Int), .inl ((i : Int) % 3)] N (fun v N' => uX7_mixMember R 88 [some (.inr (.inr 0)), some (.inr (.inl st)), none, some (.inl (m : Int)), some (.inr (.inl (fN (fun w h => 31 * h + aAble S (tm9 w) m ((w : Int) % 3)) i hA0))), none, some (.inl (i : Int)), some (.inl te)] [v, .inr (.inl (31 * fN (fun w h => 31 * h + aAble S (tm9 w) m ((w : Int) % 3)) i hA0))] N') := by
        intro te hte
        refine zcvv rfl (x_able hRN (by rw [hte]; exact zsm (by unfold tm9; (repeat' split) <;> omega)) hmz (zsm (by omega)) (fun N' g => ⟨_, rfl, ?_⟩))
        have nx := ih (i + 1, N') ⟨by simp only; omega, hN.trans g⟩ (by simp only; omega) (some (.inl te))
        simp only [fN] at nx
        have rng := r_able hRN te m ((i : Int) % 3)
        unfold zIR at rng
        subst hte
        simp only [↓rX7_mixMember_88, ↓rX7_mixMember_89, ↓rX7_mixMember_90, ↓rX7_mixMember_92, ↓rX7_mixMember_95, ↓reduceIte, zkeep_n, zkeep_i, zkeep_r, zkeep_l, zup_eq, zIR, zLR, List.length_cons, List.length_nil, Nat.reduceAdd, Nat.reduceLeDiff, Nat.reduceEqDiff, Nat.reduceSub, Int.reduceLE, Int.reduceLT, Int.reduceEq, Int.reduceNe, Int.reduceNeg, Int.reduceAdd, Int.reduceSub, Int.reduceMul, Int.reduceToNat, Nat.le_refl, Nat.zero_le, Nat.zero_add, Int.zero_add, Int.add_zero, and_true, true_and, and_false, false_and, not_true_eq_false, not_false_eq_true, eq_self, ne_eq, true_implies, false_implies, implies_true, or_true, true_or, or_false, false_or, reduceCtorEq, Option.some.injEq, Sum.inl.injEq, exists_eq_left', exists_eq_left, zite]
        repeat' (first | with_reducible apply And.intro | with_reducible intro _)
        all_goals first | omega | (exact nx)
      simp only [↓rX7_mixMember_40, ↓rX7_mixMember_42, ↓rX7_mixMember_45, ↓rX7_mixMember_47, ↓rX7_mixMember_48, ↓rX7_mixMember_51, ↓rX7_mixMember_52, ↓rX7_mixMember_69, ↓rX7_mixMember_71, ↓rX7_mixMember_74, ↓rX7_mixMember_76, ↓rX7_mixMember_77, ↓rX7_mixMember_78, ↓rX7_mixMember_80, ↓rX7_mixMember_81, ↓rX7_mixMember_83, ↓rX7_mixMember_84, ↓rX7_mixMember_85, ↓rX7_mixMember_55, ↓rX7_mixMember_57, ↓rX7_mixMember_59, ↓rX7_mixMember_62, ↓rX7_mixMember_64, ↓rX7_mixMember_67, ↓reduceIte, zkeep_n, zkeep_i, zkeep_r, zkeep_l, zup_eq, zIR, zLR, List.length_cons, List.length_nil, Nat.reduceAdd, Nat.reduceLeDiff, Nat.reduceEqDiff, Nat.reduceSub, Int.reduceLE, Int.reduceLT, Int.reduceEq, Int.reduceNe, Int.reduceNeg, Int.reduceAdd, Int.reduceSub, Int.reduceMul, Int.reduceToNat, Nat.le_refl, Nat.zero_le, Nat.zero_add, Int.zero_add, Int.add_zero, and_true, true_and, and_false, false_and, not_true_eq_false, not_false_eq_true, eq_self, ne_eq, true_implies, false_implies, implies_true, or_true, true_or, or_false, false_or, reduceCtorEq, Option.some.injEq, Sum.inl.injEq, exists_eq_left', exists_eq_left, n1, n2, em, zite]
      repeat' (first | with_reducible apply And.intro | with_reducible intro _)
      all_goals first | omega | (exact call _ (by unfold tm9; (repeat' split) <;> omega))
  have em0 := h
  have L1 : ∀ s : Nat × zM, (s.1 ≤ 5 ∧ QF M s.2) → ∀ x7, uX7_mixMember R 6 [some (.inr (.inr 0)), some (.inr (.inl st)), none, some (.inl (m : Int)), some (.inr (.inl (fN (fun w h => 31 * h + aMember S m w) s.1 st))), none, some (.inl (s.1 : Int)), x7] [] s.2 := by
    refine zind (fun s => 5 - s.1) ?_
    rintro ⟨i, N⟩ ⟨hi, hN⟩ ih x7
    simp only at hi hN ih
    have hRN := RX_qf h hN
    have n1 : N 1 5 = qn S 0 := hRN.2.2.2.1.2.1
    have n2 : N 4 5 = qn S 1 := hRN.2.2.2.1.2.2.1
    refine rX7_mixMember_6.mpr ?_
    by_cases he : i = 5
    · subst he
      rw [hA]
      have fin := fun x7 => L2 (0, N) ⟨Nat.zero_le _, hN⟩ x7
      simp only [↓rX7_mixMember_8, ↓rX7_mixMember_9, ↓rX7_mixMember_35, ↓rX7_mixMember_36, ↓reduceIte, zkeep_n, zkeep_i, zkeep_r, zkeep_l, zup_eq, zIR, zLR, List.length_cons, List.length_nil, Nat.reduceAdd, Nat.reduceLeDiff, Nat.reduceEqDiff, Nat.reduceSub, Int.reduceLE, Int.reduceLT, Int.reduceEq, Int.reduceNe, Int.reduceNeg, Int.reduceAdd, Int.reduceSub, Int.reduceMul, Int.reduceToNat, Nat.le_refl, Nat.zero_le, Nat.zero_add, Int.zero_add, Int.add_zero, and_true, true_and, and_false, false_and, not_true_eq_false, not_false_eq_true, eq_self, ne_eq, true_implies, false_implies, implies_true, or_true, true_or, or_false, false_or, reduceCtorEq, Option.some.injEq, Sum.inl.injEq, exists_eq_left', exists_eq_left, n1, n2, zite]
      repeat' (first | with_reducible apply And.intro | with_reducible intro _)
      all_goals first | omega | (exact fin _)
    · have hi2 := hi
      have call : zcv (zv 7 tX7_member) [.inr (.inr 0), .inl (m : Int), .inl (i : Int)] N (fun v N' => uX7_mixMember R 25 [some (.inr (.inr 0)), some (.inr (.inl st)), none, some (.inl (m : Int)), some (.inr (.inl (fN (fun w h => 31 * h + aMember S m w) i st))), none, some (.inl (i : Int)), x7] [v, .inr (.inl (31 * fN (fun w h => 31 * h + aMember S m w) i st))] N') := by
        refine zcvv rfl (x_member hRN hmz (zsm (by omega)) ⟨_, rfl, ?_⟩)
        have nx := ih (i + 1, N) ⟨by simp only; omega, hN⟩ (by simp only; omega) x7
        simp only [fN] at nx
        have rng := r_member hRN m i
        unfold zIR at rng
        simp only [↓rX7_mixMember_25, ↓rX7_mixMember_26, ↓rX7_mixMember_27, ↓rX7_mixMember_29, ↓rX7_mixMember_32, ↓reduceIte, zkeep_n, zkeep_i, zkeep_r, zkeep_l, zup_eq, zIR, zLR, List.length_cons, List.length_nil, Nat.reduceAdd, Nat.reduceLeDiff, Nat.reduceEqDiff, Nat.reduceSub, Int.reduceLE, Int.reduceLT, Int.reduceEq, Int.reduceNe, Int.reduceNeg, Int.reduceAdd, Int.reduceSub, Int.reduceMul, Int.reduceToNat, Nat.le_refl, Nat.zero_le, Nat.zero_add, Int.zero_add, Int.add_zero, and_true, true_and, and_false, false_and, not_true_eq_false, not_false_eq_true, eq_self, ne_eq, true_implies, false_implies, implies_true, or_true, true_or, or_false, false_or, reduceCtorEq, Option.some.injEq, Sum.inl.injEq, exists_eq_left', exists_eq_left, zite]
        repeat' (first | with_reducible apply And.intro | with_reducible intro _)
        all_goals first | omega | (exact nx)
      simp only [↓rX7_mixMember_8, ↓rX7_mixMember_9, ↓rX7_mixMember_12, ↓rX7_mixMember_15, ↓rX7_mixMember_17, ↓rX7_mixMember_18, ↓rX7_mixMember_19, ↓rX7_mixMember_20, ↓rX7_mixMember_22, ↓reduceIte, zkeep_n, zkeep_i, zkeep_r, zkeep_l, zup_eq, zIR, zLR, List.length_cons, List.length_nil, Nat.reduceAdd, Nat.reduceLeDiff, Nat.reduceEqDiff, Nat.reduceSub, Int.reduceLE, Int.reduceLT, Int.reduceEq, Int.reduceNe, Int.reduceNeg, Int.reduceAdd, Int.reduceSub, Int.reduceMul, Int.reduceToNat, Nat.le_refl, Nat.zero_le, Nat.zero_add, Int.zero_add, Int.add_zero, and_true, true_and, and_false, false_and, not_true_eq_false, not_false_eq_true, eq_self, ne_eq, true_implies, false_implies, implies_true, or_true, true_or, or_false, false_or, reduceCtorEq, Option.some.injEq, Sum.inl.injEq, exists_eq_left', exists_eq_left, n1, n2, zite]
      repeat' (first | with_reducible apply And.intro | with_reducible intro _)
      all_goals first | omega | (exact call)
  have go := fun x7 => L1 (0, M) ⟨Nat.zero_le _, QF.rfl⟩ x7
  simp only [↓eX7_mixMember, ↓rX7_mixMember_0, ↓rX7_mixMember_1, ↓rX7_mixMember_3, ↓rX7_mixMember_4, ↓reduceIte, zkeep_n, zkeep_i, zkeep_r, zkeep_l, zup_eq, zIR, zLR, List.length_cons, List.length_nil, Nat.reduceAdd, Nat.reduceLeDiff, Nat.reduceEqDiff, Nat.reduceSub, Int.reduceLE, Int.reduceLT, Int.reduceEq, Int.reduceNe, Int.reduceNeg, Int.reduceAdd, Int.reduceSub, Int.reduceMul, Int.reduceToNat, Nat.le_refl, Nat.zero_le, Nat.zero_add, Int.zero_add, Int.add_zero, and_true, true_and, and_false, false_and, not_true_eq_false, not_false_eq_true, eq_self, ne_eq, true_implies, false_implies, implies_true, or_true, true_or, or_false, false_or, reduceCtorEq, Option.some.injEq, Sum.inl.injEq, exists_eq_left', exists_eq_left, zite]
  repeat' (first | with_reducible apply And.intro | with_reducible intro _)
  all_goals first | omega | (exact go _)
