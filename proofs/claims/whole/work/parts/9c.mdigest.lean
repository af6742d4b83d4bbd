theorem s_memberOf {S M : zM} {F : zV → zM → Prop} {m w : Int} (hk : qn S 0 ≤ 8) (h : RC S M) (hm : 0 ≤ m ∧ m < qn S 0) (hw : 0 ≤ w ∧ w < 5) (hR : F (.inl (aMember S m w)) M) : zcv (zv 8 tX8_memberOf) [.inr (.inr 46), .inl m, .inl w] M F := by
  unfold aMember at hR
  rw [if_pos ⟨hm, hw⟩] at hR
  have e := h.2.2.1 m hm.1 hm.2
  refine i_memberOf.mpr ⟨zsm (by omega), ?_⟩
  by_cases c : w = 0
  · rw [if_neg (fun z => z c)]
    refine ⟨by omega, ?_⟩
    rw [e.1, ← c]
    exact hR
  · rw [if_pos c]
    refine ⟨by omega, ?_⟩
    rw [show 4 * m + w - 1 = 4 * m + (w - 1) by omega, e.2 (w - 1) (by omega) (by omega), show 1 + (w - 1) = w by omega]
    exact hR
theorem s_cowOf {S M : zM} {F : zV → zM → Prop} {m w : Int} (hk : qn S 1 ≤ 8) (h : RC S M) (hm : 0 ≤ m ∧ m < qn S 1) (hw : 0 ≤ w ∧ w < 5) (hR : F (.inl (aCow S m w)) M) : zcv (zv 8 tX8_cowOf) [.inr (.inr 46), .inl m, .inl w] M F := by
  unfold aCow at hR
  rw [if_pos ⟨hm, hw⟩] at hR
  have e := h.2.2.2 m hm.1 hm.2
  refine i_cowOf.mpr ⟨zsm (by omega), ?_⟩
  by_cases c : w = 0
  · rw [if_neg (fun z => z c)]
    refine ⟨by omega, ?_⟩
    rw [e.1, ← c]
    exact hR
  · rw [if_pos c]
    refine ⟨by omega, ?_⟩
    rw [show 4 * m + w - 1 = 4 * m + (w - 1) by omega, e.2 (w - 1) (by omega) (by omega), show 1 + (w - 1) = w by omega]
    exact hR
theorem dM_able (S : zM) (m : Nat) (h : Int) : fN (fun w h => 31 * h + aAble S (tm9 w) m ((w : Int) % 3)) 9 h = fN (fun w h => 31 * h + aAble S 19 m w) 3 (fN (fun w h => 31 * h + aAble S 6 m w) 3 (fN (fun w h => 31 * h + aAble S 0 m w) 3 h)) := by
  have e0 : ∀ w : Nat, w < 3 → aAble S (tm9 w) m ((w : Int) % 3) = aAble S 0 m w := fun w hw => by
    rw [show tm9 w = 0 by unfold tm9; rw [if_pos hw], show (w : Int) % 3 = w by omega]
  have e1 : ∀ w : Nat, w < 3 → aAble S (tm9 (w + 3)) m (((w + 3 : Nat) : Int) % 3) = aAble S 6 m w := fun w hw => by
    rw [show tm9 (w + 3) = 6 by unfold tm9; rw [if_neg (by omega), if_pos (by omega)], show ((w + 3 : Nat) : Int) % 3 = w by omega]
  have e2 : ∀ w : Nat, w < 3 → aAble S (tm9 (w + 6)) m (((w + 6 : Nat) : Int) % 3) = aAble S 19 m w := fun w hw => by
    rw [show tm9 (w + 6) = 19 by unfold tm9; rw [if_neg (by omega), if_neg (by omega)], show ((w + 6 : Nat) : Int) % 3 = w by omega]
  have a0 := e0 0 (by decide)
  have a1 := e0 1 (by decide)
  have a2 := e0 2 (by decide)
  have b0 := e1 0 (by decide)
  have b1 := e1 1 (by decide)
  have b2 := e1 2 (by decide)
  have c0 := e2 0 (by decide)
  have c1 := e2 1 (by decide)
  have c2 := e2 2 (by decide)
  simp only [Nat.reduceAdd] at b0 b1 b2 c0 c1 c2
  simp only [fN, a0, a1, a2, b0, b1, b2, c0, c1, c2]
set_option maxRecDepth 100000 in
set_option maxHeartbeats 8000000 in
theorem s_ableD {S M : zM} {F : zV → zM → Prop} {m : Nat} {te st : Int} (hW : WX S) (h : RM S M) (h2 : RC S M) (hm : (m : Int) < qn S 0) (ht : 0 ≤ te ∧ te < 20) (hR : ∀ M', YQ M M' → RC S M' → F (.inr (.inl (fN (fun w h => 31 * h + aAble S te m w) 3 st))) M') : zcv (zv 8 tX8_ableDigest) [.inr (.inr 46), .inr (.inl st), .inl te, .inl (m : Int)] M F := by
  refine zcvv rfl ?_
  have hX : ∃ M0, RX S M0 := hW
  obtain ⟨M0, hX⟩ := hX
  have L : ∀ s : Nat × zM, (s.1 ≤ 3 ∧ (YQ M s.2 ∧ RC S s.2)) → ∀ (_z : Nat), uX8_ableDigest (fun r M' => ∃ v, r = some v ∧ F v M') 6 [some (.inr (.inr 46)), some (.inr (.inl st)), none, some (.inl te), some (.inl (m : Int)), some (.inr (.inl (fN (fun w h => 31 * h + aAble S te m w) s.1 st))), none, some (.inl (s.1 : Int))] [] s.2 := by
    refine zind (fun s => 3 - s.1) ?_
    rintro ⟨i, N⟩ ⟨hi, hN⟩ ih _z
    simp only at hi hN ih
    have hRN := RM_yq h hN.1
    have n1 : N 46 2 = qn S 0 := hN.2.1
    have n2 : N 46 5 = qn S 1 := hN.2.2.1
    refine rX8_ableDigest_6.mpr ?_
    by_cases he : i = 3
    · subst he
      have fin := hR N hN.1 hN.2
      simp only [↓rX8_ableDigest_8, ↓rX8_ableDigest_9, ↓rX8_ableDigest_37, ↓rX8_ableDigest_39, ↓reduceIte, zkeep_n, zkeep_i, zkeep_r, zkeep_l, zup_eq, zIR, zLR, List.length_cons, List.length_nil, Nat.reduceAdd, Nat.reduceLeDiff, Nat.reduceEqDiff, Nat.reduceSub, Int.reduceLE, Int.reduceLT, Int.reduceEq, Int.reduceNe, Int.reduceNeg, Int.reduceAdd, Int.reduceSub, Int.reduceMul, Int.reduceToNat, Nat.le_refl, Nat.zero_le, Nat.zero_add, Int.zero_add, Int.add_zero, and_true, true_and, and_false, false_and, not_true_eq_false, not_false_eq_true, eq_self, ne_eq, true_implies, false_implies, implies_true, or_true, true_or, or_false, false_or, reduceCtorEq, Option.some.injEq, Sum.inl.injEq, exists_eq_left', exists_eq_left, n1, n2, zite]
      repeat' (first | with_reducible apply And.intro | with_reducible intro _)
      all_goals first | omega | (exact fin)
    · have hi2 := hi
      have call : zcv (zv 8 tX8_ableOf) [.inr (.inr 46), .inl te, .inl (m : Int), .inl (i : Int)] N (fun v N' => uX8_ableDigest (fun r M' => ∃ v, r = some v ∧ F v M') 27 [some (.inr (.inr 46)), some (.inr (.inl st)), none, some (.inl te), some (.inl (m : Int)), some (.inr (.inl (fN (fun w h => 31 * h + aAble S te m w) i st))), none, some (.inl (i : Int))] [v, .inr (.inl (31 * fN (fun w h => 31 * h + aAble S te m w) i st))] N') := by
        refine s_ableOf hW hRN ⟨ht, by omega, by omega⟩ (fun N' g g2 => ?_)
        have nx := ih (i + 1, N') ⟨by simp only; omega, hN.1.trans g, g2⟩ (by simp only; omega) 0
        simp only [fN] at nx
        have rng := r_able hX te m i
        unfold zIR at rng
        simp only [↓rX8_ableDigest_27, ↓rX8_ableDigest_28, ↓rX8_ableDigest_29, ↓rX8_ableDigest_31, ↓rX8_ableDigest_34, ↓reduceIte, zkeep_n, zkeep_i, zkeep_r, zkeep_l, zup_eq, zIR, zLR, List.length_cons, List.length_nil, Nat.reduceAdd, Nat.reduceLeDiff, Nat.reduceEqDiff, Nat.reduceSub, Int.reduceLE, Int.reduceLT, Int.reduceEq, Int.reduceNe, Int.reduceNeg, Int.reduceAdd, Int.reduceSub, Int.reduceMul, Int.reduceToNat, Nat.le_refl, Nat.zero_le, Nat.zero_add, Int.zero_add, Int.add_zero, and_true, true_and, and_false, false_and, not_true_eq_false, not_false_eq_true, eq_self, ne_eq, true_implies, false_implies, implies_true, or_true, true_or, or_false, false_or, reduceCtorEq, Option.some.injEq, Sum.inl.injEq, exists_eq_left', exists_eq_left, zite]
        repeat' (first | with_reducible apply And.intro | with_reducible intro _)
        all_goals first | omega | (exact nx)
      simp only [↓rX8_ableDigest_8, ↓rX8_ableDigest_9, ↓rX8_ableDigest_12, ↓rX8_ableDigest_15, ↓rX8_ableDigest_17, ↓rX8_ableDigest_18, ↓rX8_ableDigest_19, ↓rX8_ableDigest_20, ↓rX8_ableDigest_22, ↓rX8_ableDigest_24, ↓reduceIte, zkeep_n, zkeep_i, zkeep_r, zkeep_l, zup_eq, zIR, zLR, List.length_cons, List.length_nil, Nat.reduceAdd, Nat.reduceLeDiff, Nat.reduceEqDiff, Nat.reduceSub, Int.reduceLE, Int.reduceLT, Int.reduceEq, Int.reduceNe, Int.reduceNeg, Int.reduceAdd, Int.reduceSub, Int.reduceMul, Int.reduceToNat, Nat.le_refl, Nat.zero_le, Nat.zero_add, Int.zero_add, Int.add_zero, and_true, true_and, and_false, false_and, not_true_eq_false, not_false_eq_true, eq_self, ne_eq, true_implies, false_implies, implies_true, or_true, true_or, or_false, false_or, reduceCtorEq, Option.some.injEq, Sum.inl.injEq, exists_eq_left', exists_eq_left, n1, n2, zite]
      repeat' (first | with_reducible apply And.intro | with_reducible intro _)
      all_goals first | omega | (exact call)
  have st0 := L (0, M) ⟨Nat.zero_le _, YQ.rfl, h2⟩ 0
  simp only [↓eX8_ableDigest, ↓rX8_ableDigest_0, ↓rX8_ableDigest_1, ↓rX8_ableDigest_3, ↓rX8_ableDigest_4, ↓reduceIte, zkeep_n, zkeep_i, zkeep_r, zkeep_l, zup_eq, zIR, zLR, List.length_cons, List.length_nil, Nat.reduceAdd, Nat.reduceLeDiff, Nat.reduceEqDiff, Nat.reduceSub, Int.reduceLE, Int.reduceLT, Int.reduceEq, Int.reduceNe, Int.reduceNeg, Int.reduceAdd, Int.reduceSub, Int.reduceMul, Int.reduceToNat, Nat.le_refl, Nat.zero_le, Nat.zero_add, Int.zero_add, Int.add_zero, and_true, true_and, and_false, false_and, not_true_eq_false, not_false_eq_true, eq_self, ne_eq, true_implies, false_implies, implies_true, or_true, true_or, or_false, false_or, reduceCtorEq, Option.some.injEq, Sum.inl.injEq, exists_eq_left', exists_eq_left, zite]
  repeat' (first | with_reducible apply And.intro | with_reducible intro _)
  all_goals first | omega | (exact st0)
set_option maxRecDepth 100000 in
set_option maxHeartbeats 8000000 in
theorem s_viewD {S M : zM} {F : zV → zM → Prop} {m q : Nat} {st : Int} (hW : WX S) (h : RM S M) (h2 : RC S M) (hm : (m : Int) < qn S 0) (hq : q < 4) (hR : ∀ M', YQ M M' → RC S M' → F (.inr (.inl (dV S m q st))) M') : zcv (zv 8 tX8_viewDigest) [.inr (.inr 46), .inr (.inl st), .inl (m : Int), .inl (q : Int)] M F := by
  refine zcvv rfl ?_
  have hX : ∃ M0, RX S M0 := hW
  obtain ⟨M0, hX⟩ := hX
  have hk := W_k hW
  generalize hA : fN (fun w h => 31 * h + aAt S 6 m q w) 4 st = a0
  generalize hB : fN (fun w h => 31 * h + aAt S 19 m q w) 4 a0 = b0
  have eM : dV S m q st = 31 * (31 * (31 * (31 * (31 * (31 * b0 + aPower S m q 0) + aPower S m q 1) + aRear S m q 9 (-1)) + aRear S m q 9 0) + aFirst S m q) + aAsk S m q := by unfold dV; rw [hA, hB]
  rw [eM] at hR
  have g9 : (0 ≤ (m : Int) ∧ (m : Int) < qn S 0) ∧ (0 ≤ (q : Int) ∧ (q : Int) < 4) ∧ (0 ≤ (9 : Int) ∧ (9 : Int) < 10) ∧ (-1 ≤ (-1 : Int) ∧ (-1 : Int) ≤ 1) := ⟨by omega, by omega, by decide, by decide⟩
  have g0 : (0 ≤ (m : Int) ∧ (m : Int) < qn S 0) ∧ (0 ≤ (q : Int) ∧ (q : Int) < 4) ∧ (0 ≤ (9 : Int) ∧ (9 : Int) < 10) ∧ (-1 ≤ (0 : Int) ∧ (0 : Int) ≤ 1) := ⟨by omega, by omega, by decide, by decide⟩
  have en : aRear S m q 9 (-1) = plN (re0 S m q 9) (re1 S m q 9) (re2 S m q 9) (ck S) := by unfold aRear; rw [if_pos g9, if_pos rfl]
  have ea : aRear S m q 9 0 = plA (re0 S m q 9) (re1 S m q 9) (re2 S m q 9) (ck S) := by unfold aRear; rw [if_pos g0, if_neg (by decide), if_pos rfl]
  have hpl := pl_low (re0 S m q 9) (re1 S m q 9) (re2 S m q 9) (ck S)
  have hpr := pl_R (re0 S m q 9) (re1 S m q 9) (re2 S m q 9) (ck S)
  have ef : aFirst S m q = wbs (pfst S m q) 10 := by unfold aFirst; rw [if_pos ⟨by omega, by omega⟩]
  have rf := r_first hX m q
  have rk := r_ask hX m q
  unfold zIR at rf rk
  rw [ef] at rf hR
  rw [en, ea] at hR
  have tail : ∀ N, YQ M N ∧ RC S N → ∀ x7, uX8_viewDigest (fun r M' => ∃ v, r = some v ∧ F v M') 75 [some (.inr (.inr 46)), some (.inr (.inl st)), none, some (.inl (m : Int)), some (.inl (q : Int)), some (.inr (.inl (b0))), none, x7] [] N := by
    intro N hN x7
    have q0 := RM_yq h hN.1
    simp only [↓rX8_viewDigest_75, ↓rX8_viewDigest_78, ↓rX8_viewDigest_80, ↓rX8_viewDigest_81, ↓rX8_viewDigest_82, ↓rX8_viewDigest_83, ↓rX8_viewDigest_85, ↓rX8_viewDigest_86, ↓reduceIte, zkeep_n, zkeep_i, zkeep_r, zkeep_l, zup_eq, zIR, zLR, List.length_cons, List.length_nil, Nat.reduceAdd, Nat.reduceLeDiff, Nat.reduceEqDiff, Nat.reduceSub, Int.reduceLE, Int.reduceLT, Int.reduceEq, Int.reduceNe, Int.reduceNeg, Int.reduceAdd, Int.reduceSub, Int.reduceMul, Int.reduceToNat, Nat.le_refl, Nat.zero_le, Nat.zero_add, Int.zero_add, Int.add_zero, and_true, true_and, and_false, false_and, not_true_eq_false, not_false_eq_true, eq_self, ne_eq, true_implies, false_implies, implies_true, or_true, true_or, or_false, false_or, reduceCtorEq, Option.some.injEq, Sum.inl.injEq, exists_eq_left', exists_eq_left, zite]
    refine s_powerOf hW q0 ⟨by omega, by omega, by decide⟩ (fun N0 g0 r0 => ?_)
    have hn0 : YQ M N0 ∧ RC S N0 := ⟨YQ.trans hN.1 g0, r0⟩
    simp only [↓rX8_viewDigest_89, ↓rX8_viewDigest_90, ↓rX8_viewDigest_92, ↓rX8_viewDigest_95, ↓rX8_viewDigest_97, ↓rX8_viewDigest_98, ↓rX8_viewDigest_99, ↓rX8_viewDigest_100, ↓rX8_viewDigest_102, ↓rX8_viewDigest_103, ↓reduceIte, zkeep_n, zkeep_i, zkeep_r, zkeep_l, zup_eq, zIR, zLR, List.length_cons, List.length_nil, Nat.reduceAdd, Nat.reduceLeDiff, Nat.reduceEqDiff, Nat.reduceSub, Int.reduceLE, Int.reduceLT, Int.reduceEq, Int.reduceNe, Int.reduceNeg, Int.reduceAdd, Int.reduceSub, Int.reduceMul, Int.reduceToNat, Nat.le_refl, Nat.zero_le, Nat.zero_add, Int.zero_add, Int.add_zero, and_true, true_and, and_false, false_and, not_true_eq_false, not_false_eq_true, eq_self, ne_eq, true_implies, false_implies, implies_true, or_true, true_or, or_false, false_or, reduceCtorEq, Option.some.injEq, Sum.inl.injEq, exists_eq_left', exists_eq_left, zite]
    refine s_powerOf hW (RM_yq h hn0.1) ⟨by omega, by omega, by decide⟩ (fun N1 g1 r1 => ?_)
    have hn1 : YQ M N1 ∧ RC S N1 := ⟨YQ.trans hn0.1 g1, r1⟩
    simp only [↓rX8_viewDigest_106, ↓rX8_viewDigest_107, ↓rX8_viewDigest_109, ↓rX8_viewDigest_110, ↓rX8_viewDigest_111, ↓rX8_viewDigest_113, ↓rX8_viewDigest_115, ↓reduceIte, zkeep_n, zkeep_i, zkeep_r, zkeep_l, zup_eq, zIR, zLR, List.length_cons, List.length_nil, Nat.reduceAdd, Nat.reduceLeDiff, Nat.reduceEqDiff, Nat.reduceSub, Int.reduceLE, Int.reduceLT, Int.reduceEq, Int.reduceNe, Int.reduceNeg, Int.reduceAdd, Int.reduceSub, Int.reduceMul, Int.reduceToNat, Nat.le_refl, Nat.zero_le, Nat.zero_add, Int.zero_add, Int.add_zero, and_true, true_and, and_false, false_and, not_true_eq_false, not_false_eq_true, eq_self, ne_eq, true_implies, false_implies, implies_true, or_true, true_or, or_false, false_or, reduceCtorEq, Option.some.injEq, Sum.inl.injEq, exists_eq_left', exists_eq_left, zite]
    refine s_rearBy hW (RM_yq h hn1.1) (by omega) (by omega) (by decide) (fun N2 g2 r2 ga gb => ?_)
    have hn2 : YQ M N2 ∧ RC S N2 := ⟨YQ.trans hn1.1 g2, r2⟩
    generalize plN (re0 S m q 9) (re1 S m q 9) (re2 S m q 9) (ck S) = n at *
    generalize plA (re0 S m q 9) (re1 S m q 9) (re2 S m q 9) (ck S) = a at *
    have fb : ∀ v, v = a → uX8_viewDigest (fun r M' => ∃ v, r = some v ∧ F v M') 145 [some (.inr (.inr 46)), some (.inr (.inl st)), none, some (.inl (m : Int)), some (.inl (q : Int)), some (.inr (.inl (31 * (31 * (31 * b0 + aPower S m q 0) + aPower S m q 1) + n))), none, some (.inl n)] [.inl v, .inr (.inl (31 * (31 * (31 * (31 * b0 + aPower S m q 0) + aPower S m q 1) + n)))] N2 := fun v hv => by
      subst hv
      simp only [↓rX8_viewDigest_145, ↓rX8_viewDigest_146, ↓rX8_viewDigest_147, ↓rX8_viewDigest_149, ↓rX8_viewDigest_152, ↓rX8_viewDigest_154, ↓rX8_viewDigest_155, ↓rX8_viewDigest_156, ↓rX8_viewDigest_157, ↓rX8_viewDigest_159, ↓reduceIte, zkeep_n, zkeep_i, zkeep_r, zkeep_l, zup_eq, zIR, zLR, List.length_cons, List.length_nil, Nat.reduceAdd, Nat.reduceLeDiff, Nat.reduceEqDiff, Nat.reduceSub, Int.reduceLE, Int.reduceLT, Int.reduceEq, Int.reduceNe, Int.reduceNeg, Int.reduceAdd, Int.reduceSub, Int.reduceMul, Int.reduceToNat, Nat.le_refl, Nat.zero_le, Nat.zero_add, Int.zero_add, Int.add_zero, and_true, true_and, and_false, false_and, not_true_eq_false, not_false_eq_true, eq_self, ne_eq, true_implies, false_implies, implies_true, or_true, true_or, or_false, false_or, reduceCtorEq, Option.some.injEq, Sum.inl.injEq, exists_eq_left', exists_eq_left, zite]
      refine ⟨by omega, ?_⟩
      refine s_firstBy hW (RM_yq h hn2.1) (by omega) (by omega) (fun N3 g3 r3 _ => ?_)
      have hn3 : YQ M N3 ∧ RC S N3 := ⟨YQ.trans hn2.1 g3, r3⟩
      simp only [↓rX8_viewDigest_162, ↓rX8_viewDigest_163, ↓rX8_viewDigest_164, ↓rX8_viewDigest_166, ↓rX8_viewDigest_169, ↓rX8_viewDigest_171, ↓rX8_viewDigest_172, ↓rX8_viewDigest_173, ↓rX8_viewDigest_174, ↓rX8_viewDigest_176, ↓reduceIte, zkeep_n, zkeep_i, zkeep_r, zkeep_l, zup_eq, zIR, zLR, List.length_cons, List.length_nil, Nat.reduceAdd, Nat.reduceLeDiff, Nat.reduceEqDiff, Nat.reduceSub, Int.reduceLE, Int.reduceLT, Int.reduceEq, Int.reduceNe, Int.reduceNeg, Int.reduceAdd, Int.reduceSub, Int.reduceMul, Int.reduceToNat, Nat.le_refl, Nat.zero_le, Nat.zero_add, Int.zero_add, Int.add_zero, and_true, true_and, and_false, false_and, not_true_eq_false, not_false_eq_true, eq_self, ne_eq, true_implies, false_implies, implies_true, or_true, true_or, or_false, false_or, reduceCtorEq, Option.some.injEq, Sum.inl.injEq, exists_eq_left', exists_eq_left, zite]
      refine ⟨rf, ?_⟩
      refine s_askOf hW (RM_yq h hn3.1) (by omega) (by omega) (fun N4 g4 r4 => ?_)
      have fin := hR N4 (YQ.trans hn3.1 g4) r4
      simp only [↓rX8_viewDigest_179, ↓rX8_viewDigest_180, ↓rX8_viewDigest_181, ↓reduceIte, zkeep_n, zkeep_i, zkeep_r, zkeep_l, zup_eq, zIR, zLR, List.length_cons, List.length_nil, Nat.reduceAdd, Nat.reduceLeDiff, Nat.reduceEqDiff, Nat.reduceSub, Int.reduceLE, Int.reduceLT, Int.reduceEq, Int.reduceNe, Int.reduceNeg, Int.reduceAdd, Int.reduceSub, Int.reduceMul, Int.reduceToNat, Nat.le_refl, Nat.zero_le, Nat.zero_add, Int.zero_add, Int.add_zero, and_true, true_and, and_false, false_and, not_true_eq_false, not_false_eq_true, eq_self, ne_eq, true_implies, false_implies, implies_true, or_true, true_or, or_false, false_or, reduceCtorEq, Option.some.injEq, Sum.inl.injEq, exists_eq_left', exists_eq_left, zite]
      exact ⟨rk, fin⟩
    by_cases c : 1 ≤ n
    · have f1 := fb _ (ga c)
      simp only [↓rX8_viewDigest_118, ↓rX8_viewDigest_120, ↓rX8_viewDigest_123, ↓rX8_viewDigest_125, ↓rX8_viewDigest_126, ↓rX8_viewDigest_128, ↓rX8_viewDigest_129, ↓rX8_viewDigest_130, ↓rX8_viewDigest_132, ↓rX8_viewDigest_135, ↓rX8_viewDigest_137, ↓rX8_viewDigest_138, ↓rX8_viewDigest_139, ↓rX8_viewDigest_141, ↓rX8_viewDigest_142, ↓reduceIte, ↓i_ofRow, zkeep_n, zkeep_i, zkeep_r, zkeep_l, zup_eq, zIR, zLR, List.length_cons, List.length_nil, Nat.reduceAdd, Nat.reduceLeDiff, Nat.reduceEqDiff, Nat.reduceSub, Int.reduceLE, Int.reduceLT, Int.reduceEq, Int.reduceNe, Int.reduceNeg, Int.reduceAdd, Int.reduceSub, Int.reduceMul, Int.reduceToNat, Nat.le_refl, Nat.zero_le, Nat.zero_add, Int.zero_add, Int.add_zero, and_true, true_and, and_false, false_and, not_true_eq_false, not_false_eq_true, eq_self, ne_eq, true_implies, false_implies, implies_true, or_true, true_or, or_false, false_or, reduceCtorEq, Option.some.injEq, Sum.inl.injEq, exists_eq_left', exists_eq_left, zite]
      repeat' (first | with_reducible apply And.intro | with_reducible intro _)
      all_goals first | omega | (exact f1)
    · have f1 := fb _ (hpl.1 (by omega)).symm
      simp only [↓rX8_viewDigest_118, ↓rX8_viewDigest_120, ↓rX8_viewDigest_123, ↓rX8_viewDigest_125, ↓rX8_viewDigest_126, ↓rX8_viewDigest_128, ↓rX8_viewDigest_129, ↓rX8_viewDigest_130, ↓rX8_viewDigest_132, ↓rX8_viewDigest_135, ↓rX8_viewDigest_137, ↓rX8_viewDigest_138, ↓rX8_viewDigest_139, ↓rX8_viewDigest_141, ↓rX8_viewDigest_142, ↓reduceIte, ↓i_ofRow, zkeep_n, zkeep_i, zkeep_r, zkeep_l, zup_eq, zIR, zLR, List.length_cons, List.length_nil, Nat.reduceAdd, Nat.reduceLeDiff, Nat.reduceEqDiff, Nat.reduceSub, Int.reduceLE, Int.reduceLT, Int.reduceEq, Int.reduceNe, Int.reduceNeg, Int.reduceAdd, Int.reduceSub, Int.reduceMul, Int.reduceToNat, Nat.le_refl, Nat.zero_le, Nat.zero_add, Int.zero_add, Int.add_zero, and_true, true_and, and_false, false_and, not_true_eq_false, not_false_eq_true, eq_self, ne_eq, true_implies, false_implies, implies_true, or_true, true_or, or_false, false_or, reduceCtorEq, Option.some.injEq, Sum.inl.injEq, exists_eq_left', exists_eq_left, zite]
      repeat' (first | with_reducible apply And.intro | with_reducible intro _)
      all_goals first | omega | (exact f1)
  have LB : ∀ s : Nat × zM, (s.1 ≤ 4 ∧ (YQ M s.2 ∧ RC S s.2)) → ∀ (_z : Nat), uX8_viewDigest (fun r M' => ∃ v, r = some v ∧ F v M') 42 [some (.inr (.inr 46)), some (.inr (.inl st)), none, some (.inl (m : Int)), some (.inl (q : Int)), some (.inr (.inl (fN (fun w h => 31 * h + aAt S 19 m q w) s.1 a0))), none, some (.inl (s.1 : Int))] [] s.2 := by
    refine zind (fun s => 4 - s.1) ?_
    rintro ⟨i, N⟩ ⟨hi, hN⟩ ih _z
    simp only at hi hN ih
    have hRN := RM_yq h hN.1
    have n1 : N 46 2 = qn S 0 := hN.2.1
    have n2 : N 46 5 = qn S 1 := hN.2.2.1
    refine rX8_viewDigest_42.mpr ?_
    by_cases he : i = 4
    · subst he
      rw [hB]
      have fin := fun x7 => tail N hN x7
      simp only [↓rX8_viewDigest_44, ↓rX8_viewDigest_45, ↓reduceIte, zkeep_n, zkeep_i, zkeep_r, zkeep_l, zup_eq, zIR, zLR, List.length_cons, List.length_nil, Nat.reduceAdd, Nat.reduceLeDiff, Nat.reduceEqDiff, Nat.reduceSub, Int.reduceLE, Int.reduceLT, Int.reduceEq, Int.reduceNe, Int.reduceNeg, Int.reduceAdd, Int.reduceSub, Int.reduceMul, Int.reduceToNat, Nat.le_refl, Nat.zero_le, Nat.zero_add, Int.zero_add, Int.add_zero, and_true, true_and, and_false, false_and, not_true_eq_false, not_false_eq_true, eq_self, ne_eq, true_implies, false_implies, implies_true, or_true, true_or, or_false, false_or, reduceCtorEq, Option.some.injEq, Sum.inl.injEq, exists_eq_left', exists_eq_left, n1, n2, zite]
      repeat' (first | with_reducible apply And.intro | with_reducible intro _)
      all_goals first | omega | (exact fin _)
    · have hi2 := hi
      have call : zcv (zv 8 tX8_atOf) [.inr (.inr 46), .inl 19, .inl (m : Int), .inl (q : Int), .inl (i : Int)] N (fun v N' => uX8_viewDigest (fun r M' => ∃ v, r = some v ∧ F v M') 65 [some (.inr (.inr 46)), some (.inr (.inl st)), none, some (.inl (m : Int)), some (.inl (q : Int)), some (.inr (.inl (fN (fun w h => 31 * h + aAt S 19 m q w) i a0))), none, some (.inl (i : Int))] [v, .inr (.inl (31 * fN (fun w h => 31 * h + aAt S 19 m q w) i a0))] N') := by
        refine s_atOf hW hRN ⟨by decide, by omega, by omega, by omega⟩ (fun N' g g2 => ?_)
        have nx := ih (i + 1, N') ⟨by simp only; omega, hN.1.trans g, g2⟩ (by simp only; omega) 0
        simp only [fN] at nx
        have rng := r_at hX 19 m q i
        unfold zIR at rng
        simp only [↓rX8_viewDigest_65, ↓rX8_viewDigest_66, ↓rX8_viewDigest_67, ↓rX8_viewDigest_69, ↓rX8_viewDigest_72, ↓reduceIte, zkeep_n, zkeep_i, zkeep_r, zkeep_l, zup_eq, zIR, zLR, List.length_cons, List.length_nil, Nat.reduceAdd, Nat.reduceLeDiff, Nat.reduceEqDiff, Nat.reduceSub, Int.reduceLE, Int.reduceLT, Int.reduceEq, Int.reduceNe, Int.reduceNeg, Int.reduceAdd, Int.reduceSub, Int.reduceMul, Int.reduceToNat, Nat.le_refl, Nat.zero_le, Nat.zero_add, Int.zero_add, Int.add_zero, and_true, true_and, and_false, false_and, not_true_eq_false, not_false_eq_true, eq_self, ne_eq, true_implies, false_implies, implies_true, or_true, true_or, or_false, false_or, reduceCtorEq, Option.some.injEq, Sum.inl.injEq, exists_eq_left', exists_eq_left, zite]
        repeat' (first | with_reducible apply And.intro | with_reducible intro _)
        all_goals first | omega | (exact nx)
      simp only [↓rX8_viewDigest_44, ↓rX8_viewDigest_45, ↓rX8_viewDigest_48, ↓rX8_viewDigest_51, ↓rX8_viewDigest_53, ↓rX8_viewDigest_54, ↓rX8_viewDigest_55, ↓rX8_viewDigest_57, ↓rX8_viewDigest_58, ↓rX8_viewDigest_60, ↓rX8_viewDigest_62, ↓reduceIte, zkeep_n, zkeep_i, zkeep_r, zkeep_l, zup_eq, zIR, zLR, List.length_cons, List.length_nil, Nat.reduceAdd, Nat.reduceLeDiff, Nat.reduceEqDiff, Nat.reduceSub, Int.reduceLE, Int.reduceLT, Int.reduceEq, Int.reduceNe, Int.reduceNeg, Int.reduceAdd, Int.reduceSub, Int.reduceMul, Int.reduceToNat, Nat.le_refl, Nat.zero_le, Nat.zero_add, Int.zero_add, Int.add_zero, and_true, true_and, and_false, false_and, not_true_eq_false, not_false_eq_true, eq_self, ne_eq, true_implies, false_implies, implies_true, or_true, true_or, or_false, false_or, reduceCtorEq, Option.some.injEq, Sum.inl.injEq, exists_eq_left', exists_eq_left, n1, n2, zite]
      repeat' (first | with_reducible apply And.intro | with_reducible intro _)
      all_goals first | omega | (exact call)
  have LA : ∀ s : Nat × zM, (s.1 ≤ 4 ∧ (YQ M s.2 ∧ RC S s.2)) → ∀ (_z : Nat), uX8_viewDigest (fun r M' => ∃ v, r = some v ∧ F v M') 6 [some (.inr (.inr 46)), some (.inr (.inl st)), none, some (.inl (m : Int)), some (.inl (q : Int)), some (.inr (.inl (fN (fun w h => 31 * h + aAt S 6 m q w) s.1 st))), none, some (.inl (s.1 : Int))] [] s.2 := by
    refine zind (fun s => 4 - s.1) ?_
    rintro ⟨i, N⟩ ⟨hi, hN⟩ ih _z
    simp only at hi hN ih
    have hRN := RM_yq h hN.1
    have n1 : N 46 2 = qn S 0 := hN.2.1
    have n2 : N 46 5 = qn S 1 := hN.2.2.1
    refine rX8_viewDigest_6.mpr ?_
    by_cases he : i = 4
    · subst he
      rw [hA]
      have fin := LB (0, N) ⟨Nat.zero_le _, hN⟩ 0
      simp only [↓rX8_viewDigest_8, ↓rX8_viewDigest_9, ↓rX8_viewDigest_39, ↓rX8_viewDigest_40, ↓reduceIte, zkeep_n, zkeep_i, zkeep_r, zkeep_l, zup_eq, zIR, zLR, List.length_cons, List.length_nil, Nat.reduceAdd, Nat.reduceLeDiff, Nat.reduceEqDiff, Nat.reduceSub, Int.reduceLE, Int.reduceLT, Int.reduceEq, Int.reduceNe, Int.reduceNeg, Int.reduceAdd, Int.reduceSub, Int.reduceMul, Int.reduceToNat, Nat.le_refl, Nat.zero_le, Nat.zero_add, Int.zero_add, Int.add_zero, and_true, true_and, and_false, false_and, not_true_eq_false, not_false_eq_true, eq_self, ne_eq, true_implies, false_implies, implies_true, or_true, true_or, or_false, false_or, reduceCtorEq, Option.some.injEq, Sum.inl.injEq, exists_eq_left', exists_eq_left, n1, n2, zite]
      repeat' (first | with_reducible apply And.intro | with_reducible intro _)
      all_goals first | omega | (exact fin)
    · have hi2 := hi
      have call : zcv (zv 8 tX8_atOf) [.inr (.inr 46), .inl 6, .inl (m : Int), .inl (q : Int), .inl (i : Int)] N (fun v N' => uX8_viewDigest (fun r M' => ∃ v, r = some v ∧ F v M') 29 [some (.inr (.inr 46)), some (.inr (.inl st)), none, some (.inl (m : Int)), some (.inl (q : Int)), some (.inr (.inl (fN (fun w h => 31 * h + aAt S 6 m q w) i st))), none, some (.inl (i : Int))] [v, .inr (.inl (31 * fN (fun w h => 31 * h + aAt S 6 m q w) i st))] N') := by
        refine s_atOf hW hRN ⟨by decide, by omega, by omega, by omega⟩ (fun N' g g2 => ?_)
        have nx := ih (i + 1, N') ⟨by simp only; omega, hN.1.trans g, g2⟩ (by simp only; omega) 0
        simp only [fN] at nx
        have rng := r_at hX 6 m q i
        unfold zIR at rng
        simp only [↓rX8_viewDigest_29, ↓rX8_viewDigest_30, ↓rX8_viewDigest_31, ↓rX8_viewDigest_33, ↓rX8_viewDigest_36, ↓reduceIte, zkeep_n, zkeep_i, zkeep_r, zkeep_l, zup_eq, zIR, zLR, List.length_cons, List.length_nil, Nat.reduceAdd, Nat.reduceLeDiff, Nat.reduceEqDiff, Nat.reduceSub, Int.reduceLE, Int.reduceLT, Int.reduceEq, Int.reduceNe, Int.reduceNeg, Int.reduceAdd, Int.reduceSub, Int.reduceMul, Int.reduceToNat, Nat.le_refl, Nat.zero_le, Nat.zero_add, Int.zero_add, Int.add_zero, and_true, true_and, and_false, false_and, not_true_eq_false, not_false_eq_true, eq_self, ne_eq, true_implies, false_implies, implies_true, or_true, true_or, or_false, false_or, reduceCtorEq, Option.some.injEq, Sum.inl.injEq, exists_eq_left', exists_eq_left, zite]
        repeat' (first | with_reducible apply And.intro | with_reducible intro _)
        all_goals first | omega | (exact nx)
      simp only [↓rX8_viewDigest_8, ↓rX8_viewDigest_9, ↓rX8_viewDigest_12, ↓rX8_viewDigest_15, ↓rX8_viewDigest_17, ↓rX8_viewDigest_18, ↓rX8_viewDigest_19, ↓rX8_viewDigest_21, ↓rX8_viewDigest_22, ↓rX8_viewDigest_24, ↓rX8_viewDigest_26, ↓reduceIte, zkeep_n, zkeep_i, zkeep_r, zkeep_l, zup_eq, zIR, zLR, List.length_cons, List.length_nil, Nat.reduceAdd, Nat.reduceLeDiff, Nat.reduceEqDiff, Nat.reduceSub, Int.reduceLE, Int.reduceLT, Int.reduceEq, Int.reduceNe, Int.reduceNeg, Int.reduceAdd, Int.reduceSub, Int.reduceMul, Int.reduceToNat, Nat.le_refl, Nat.zero_le, Nat.zero_add, Int.zero_add, Int.add_zero, and_true, true_and, and_false, false_and, not_true_eq_false, not_false_eq_true, eq_self, ne_eq, true_implies, false_implies, implies_true, or_true, true_or, or_false, false_or, reduceCtorEq, Option.some.injEq, Sum.inl.injEq, exists_eq_left', exists_eq_left, n1, n2, zite]
      repeat' (first | with_reducible apply And.intro | with_reducible intro _)
      all_goals first | omega | (exact call)
  have st0 := LA (0, M) ⟨Nat.zero_le _, YQ.rfl, h2⟩ 0
  simp only [↓eX8_viewDigest, ↓rX8_viewDigest_0, ↓rX8_viewDigest_1, ↓rX8_viewDigest_3, ↓rX8_viewDigest_4, ↓reduceIte, zkeep_n, zkeep_i, zkeep_r, zkeep_l, zup_eq, zIR, zLR, List.length_cons, List.length_nil, Nat.reduceAdd, Nat.reduceLeDiff, Nat.reduceEqDiff, Nat.reduceSub, Int.reduceLE, Int.reduceLT, Int.reduceEq, Int.reduceNe, Int.reduceNeg, Int.reduceAdd, Int.reduceSub, Int.reduceMul, Int.reduceToNat, Nat.le_refl, Nat.zero_le, Nat.zero_add, Int.zero_add, Int.add_zero, and_true, true_and, and_false, false_and, not_true_eq_false, not_false_eq_true, eq_self, ne_eq, true_implies, false_implies, implies_true, or_true, true_or, or_false, false_or, reduceCtorEq, Option.some.injEq, Sum.inl.injEq, exists_eq_left', exists_eq_left, zite]
  repeat' (first | with_reducible apply And.intro | with_reducible intro _)
  all_goals first | omega | (exact st0)
set_option maxRecDepth 100000 in
set_option maxHeartbeats 8000000 in
theorem s_memD {S M : zM} {F : zV → zM → Prop} {m : Nat} {st : Int} (hW : WX S) (h : RM S M) (h2 : RC S M) (hm : (m : Int) < qn S 0) (hR : ∀ M', YQ M M' → RC S M' → F (.inr (.inl (dM S m st))) M') : zcv (zv 8 tX8_memberDigest) [.inr (.inr 46), .inr (.inl st), .inl (m : Int)] M F := by
  refine zcvv rfl ?_
  have hX : ∃ M0, RX S M0 := hW
  obtain ⟨M0, hX⟩ := hX
  have hk := W_k hW
  unfold dM at hR
  rw [dM_able] at hR
  generalize hA : fN (fun w h => 31 * h + aMember S m w) 5 st = a0 at hR
  generalize hB : fN (fun w h => 31 * h + aAble S 0 m w) 3 a0 = b0 at hR
  generalize hC : fN (fun w h => 31 * h + aAble S 6 m w) 3 b0 = c0 at hR
  generalize hD : fN (fun w h => 31 * h + aAble S 19 m w) 3 c0 = d0 at hR
  have tail : ∀ N, YQ M N ∧ RC S N → ∀ x6, uX8_memberDigest (fun r M' => ∃ v, r = some v ∧ F v M') 93 [some (.inr (.inr 46)), some (.inr (.inl st)), none, some (.inl (m : Int)), some (.inr (.inl (fN (dV S m) 4 d0))), none, x6] [] N := by
    intro N hN x6
    have q0 := RM_yq h hN.1
    simp only [↓rX8_memberDigest_93, ↓rX8_memberDigest_96, ↓rX8_memberDigest_98, ↓rX8_memberDigest_99, ↓rX8_memberDigest_100, ↓rX8_memberDigest_101, ↓reduceIte, zkeep_n, zkeep_i, zkeep_r, zkeep_l, zup_eq, zIR, zLR, List.length_cons, List.length_nil, Nat.reduceAdd, Nat.reduceLeDiff, Nat.reduceEqDiff, Nat.reduceSub, Int.reduceLE, Int.reduceLT, Int.reduceEq, Int.reduceNe, Int.reduceNeg, Int.reduceAdd, Int.reduceSub, Int.reduceMul, Int.reduceToNat, Nat.le_refl, Nat.zero_le, Nat.zero_add, Int.zero_add, Int.add_zero, and_true, true_and, and_false, false_and, not_true_eq_false, not_false_eq_true, eq_self, ne_eq, true_implies, false_implies, implies_true, or_true, true_or, or_false, false_or, reduceCtorEq, Option.some.injEq, Sum.inl.injEq, exists_eq_left', exists_eq_left, zite]
    refine s_sortsBy hW q0 (by omega) (fun N0 g0 r0 => ?_)
    have hn0 : YQ M N0 ∧ RC S N0 := ⟨YQ.trans hN.1 g0, r0⟩
    have q1 := RM_yq h hn0.1
    have rng0 := r_sort hX m
    unfold zIR at rng0
    have fin := hR N0 hn0.1 hn0.2
    simp only [↓rX8_memberDigest_104, ↓rX8_memberDigest_105, ↓rX8_memberDigest_106, ↓reduceIte, zkeep_n, zkeep_i, zkeep_r, zkeep_l, zup_eq, zIR, zLR, List.length_cons, List.length_nil, Nat.reduceAdd, Nat.reduceLeDiff, Nat.reduceEqDiff, Nat.reduceSub, Int.reduceLE, Int.reduceLT, Int.reduceEq, Int.reduceNe, Int.reduceNeg, Int.reduceAdd, Int.reduceSub, Int.reduceMul, Int.reduceToNat, Nat.le_refl, Nat.zero_le, Nat.zero_add, Int.zero_add, Int.add_zero, and_true, true_and, and_false, false_and, not_true_eq_false, not_false_eq_true, eq_self, ne_eq, true_implies, false_implies, implies_true, or_true, true_or, or_false, false_or, reduceCtorEq, Option.some.injEq, Sum.inl.injEq, exists_eq_left', exists_eq_left, zite]
    repeat' (first | with_reducible apply And.intro | with_reducible intro _)
    all_goals first | omega | (exact fin)
  have LV : ∀ s : Nat × zM, (s.1 ≤ 4 ∧ (YQ M s.2 ∧ RC S s.2)) → ∀ (_z : Nat), uX8_memberDigest (fun r M' => ∃ v, r = some v ∧ F v M') 70 [some (.inr (.inr 46)), some (.inr (.inl st)), none, some (.inl (m : Int)), some (.inr (.inl (fN (dV S m) s.1 d0))), none, some (.inl (s.1 : Int))] [] s.2 := by
    refine zind (fun s => 4 - s.1) ?_
    rintro ⟨i, N⟩ ⟨hi, hN⟩ ih _z
    simp only at hi hN ih
    have hRN := RM_yq h hN.1
    have n1 : N 46 2 = qn S 0 := hN.2.1
    have n2 : N 46 5 = qn S 1 := hN.2.2.1
    refine rX8_memberDigest_70.mpr ?_
    by_cases he : i = 4
    · subst he
      have fin := fun x7 => tail N hN x7
      simp only [↓rX8_memberDigest_72, ↓rX8_memberDigest_73, ↓reduceIte, zkeep_n, zkeep_i, zkeep_r, zkeep_l, zup_eq, zIR, zLR, List.length_cons, List.length_nil, Nat.reduceAdd, Nat.reduceLeDiff, Nat.reduceEqDiff, Nat.reduceSub, Int.reduceLE, Int.reduceLT, Int.reduceEq, Int.reduceNe, Int.reduceNeg, Int.reduceAdd, Int.reduceSub, Int.reduceMul, Int.reduceToNat, Nat.le_refl, Nat.zero_le, Nat.zero_add, Int.zero_add, Int.add_zero, and_true, true_and, and_false, false_and, not_true_eq_false, not_false_eq_true, eq_self, ne_eq, true_implies, false_implies, implies_true, or_true, true_or, or_false, false_or, reduceCtorEq, Option.some.injEq, Sum.inl.injEq, exists_eq_left', exists_eq_left, n1, n2, zite]
      repeat' (first | with_reducible apply And.intro | with_reducible intro _)
      all_goals first | omega | (exact fin _)
    · have hi2 := hi
      have call : zcv (zv 8 tX8_viewDigest) [.inr (.inr 46), .inr (.inl (fN (dV S m) i d0)), .inl (m : Int), .inl (i : Int)] N (fun v N' => uX8_memberDigest (fun r M' => ∃ v, r = some v ∧ F v M') 85 [some (.inr (.inr 46)), some (.inr (.inl st)), none, some (.inl (m : Int)), some (.inr (.inl (fN (dV S m) i d0))), none, some (.inl (i : Int))] [v] N') := by
        refine s_viewD hW hRN hN.2 (by omega) (by omega) (fun N' g g2 => ?_)
        have nx := ih (i + 1, N') ⟨by simp only; omega, hN.1.trans g, g2⟩ (by simp only; omega) 0
        simp only [fN] at nx
        simp only [↓rX8_memberDigest_85, ↓rX8_memberDigest_87, ↓rX8_memberDigest_90, ↓reduceIte, zkeep_n, zkeep_i, zkeep_r, zkeep_l, zup_eq, zIR, zLR, List.length_cons, List.length_nil, Nat.reduceAdd, Nat.reduceLeDiff, Nat.reduceEqDiff, Nat.reduceSub, Int.reduceLE, Int.reduceLT, Int.reduceEq, Int.reduceNe, Int.reduceNeg, Int.reduceAdd, Int.reduceSub, Int.reduceMul, Int.reduceToNat, Nat.le_refl, Nat.zero_le, Nat.zero_add, Int.zero_add, Int.add_zero, and_true, true_and, and_false, false_and, not_true_eq_false, not_false_eq_true, eq_self, ne_eq, true_implies, false_implies, implies_true, or_true, true_or, or_false, false_or, reduceCtorEq, Option.some.injEq, Sum.inl.injEq, exists_eq_left', exists_eq_left, zite]
        repeat' (first | with_reducible apply And.intro | with_reducible intro _)
        all_goals first | omega | (exact nx)
      simp only [↓rX8_memberDigest_72, ↓rX8_memberDigest_73, ↓rX8_memberDigest_76, ↓rX8_memberDigest_77, ↓rX8_memberDigest_79, ↓rX8_memberDigest_80, ↓rX8_memberDigest_82, ↓reduceIte, zkeep_n, zkeep_i, zkeep_r, zkeep_l, zup_eq, zIR, zLR, List.length_cons, List.length_nil, Nat.reduceAdd, Nat.reduceLeDiff, Nat.reduceEqDiff, Nat.reduceSub, Int.reduceLE, Int.reduceLT, Int.reduceEq, Int.reduceNe, Int.reduceNeg, Int.reduceAdd, Int.reduceSub, Int.reduceMul, Int.reduceToNat, Nat.le_refl, Nat.zero_le, Nat.zero_add, Int.zero_add, Int.add_zero, and_true, true_and, and_false, false_and, not_true_eq_false, not_false_eq_true, eq_self, ne_eq, true_implies, false_implies, implies_true, or_true, true_or, or_false, false_or, reduceCtorEq, Option.some.injEq, Sum.inl.injEq, exists_eq_left', exists_eq_left, n1, n2, zite]
      repeat' (first | with_reducible apply And.intro | with_reducible intro _)
      all_goals first | omega | (exact call)
  have mid : ∀ N, YQ M N ∧ RC S N → ∀ x6, uX8_memberDigest (fun r M' => ∃ v, r = some v ∧ F v M') 35 [some (.inr (.inr 46)), some (.inr (.inl st)), none, some (.inl (m : Int)), some (.inr (.inl (a0))), none, x6] [] N := by
    intro N hN x6
    simp only [↓rX8_memberDigest_35, ↓rX8_memberDigest_36, ↓rX8_memberDigest_38, ↓rX8_memberDigest_39, ↓rX8_memberDigest_40, ↓reduceIte, zkeep_n, zkeep_i, zkeep_r, zkeep_l, zup_eq, zIR, zLR, List.length_cons, List.length_nil, Nat.reduceAdd, Nat.reduceLeDiff, Nat.reduceEqDiff, Nat.reduceSub, Int.reduceLE, Int.reduceLT, Int.reduceEq, Int.reduceNe, Int.reduceNeg, Int.reduceAdd, Int.reduceSub, Int.reduceMul, Int.reduceToNat, Nat.le_refl, Nat.zero_le, Nat.zero_add, Int.zero_add, Int.add_zero, and_true, true_and, and_false, false_and, not_true_eq_false, not_false_eq_true, eq_self, ne_eq, true_implies, false_implies, implies_true, or_true, true_or, or_false, false_or, reduceCtorEq, Option.some.injEq, Sum.inl.injEq, exists_eq_left', exists_eq_left, zite]
    refine s_ableD hW (RM_yq h hN.1) hN.2 hm (by decide) (fun N0 g0 r0 => ?_)
    rw [hB]
    have hn0 : YQ M N0 ∧ RC S N0 := ⟨YQ.trans hN.1 g0, r0⟩
    simp only [↓rX8_memberDigest_43, ↓rX8_memberDigest_45, ↓rX8_memberDigest_46, ↓rX8_memberDigest_48, ↓rX8_memberDigest_50, ↓rX8_memberDigest_51, ↓reduceIte, zkeep_n, zkeep_i, zkeep_r, zkeep_l, zup_eq, zIR, zLR, List.length_cons, List.length_nil, Nat.reduceAdd, Nat.reduceLeDiff, Nat.reduceEqDiff, Nat.reduceSub, Int.reduceLE, Int.reduceLT, Int.reduceEq, Int.reduceNe, Int.reduceNeg, Int.reduceAdd, Int.reduceSub, Int.reduceMul, Int.reduceToNat, Nat.le_refl, Nat.zero_le, Nat.zero_add, Int.zero_add, Int.add_zero, and_true, true_and, and_false, false_and, not_true_eq_false, not_false_eq_true, eq_self, ne_eq, true_implies, false_implies, implies_true, or_true, true_or, or_false, false_or, reduceCtorEq, Option.some.injEq, Sum.inl.injEq, exists_eq_left', exists_eq_left, zite]
    refine s_ableD hW (RM_yq h hn0.1) hn0.2 hm (by decide) (fun N1 g1 r1 => ?_)
    rw [hC]
    have hn1 : YQ M N1 ∧ RC S N1 := ⟨YQ.trans hn0.1 g1, r1⟩
    simp only [↓rX8_memberDigest_54, ↓rX8_memberDigest_56, ↓rX8_memberDigest_57, ↓rX8_memberDigest_59, ↓rX8_memberDigest_61, ↓rX8_memberDigest_62, ↓reduceIte, zkeep_n, zkeep_i, zkeep_r, zkeep_l, zup_eq, zIR, zLR, List.length_cons, List.length_nil, Nat.reduceAdd, Nat.reduceLeDiff, Nat.reduceEqDiff, Nat.reduceSub, Int.reduceLE, Int.reduceLT, Int.reduceEq, Int.reduceNe, Int.reduceNeg, Int.reduceAdd, Int.reduceSub, Int.reduceMul, Int.reduceToNat, Nat.le_refl, Nat.zero_le, Nat.zero_add, Int.zero_add, Int.add_zero, and_true, true_and, and_false, false_and, not_true_eq_false, not_false_eq_true, eq_self, ne_eq, true_implies, false_implies, implies_true, or_true, true_or, or_false, false_or, reduceCtorEq, Option.some.injEq, Sum.inl.injEq, exists_eq_left', exists_eq_left, zite]
    refine s_ableD hW (RM_yq h hn1.1) hn1.2 hm (by decide) (fun N2 g2 r2 => ?_)
    rw [hD]
    have hn2 : YQ M N2 ∧ RC S N2 := ⟨YQ.trans hn1.1 g2, r2⟩
    have fin := LV (0, N2) ⟨Nat.zero_le _, hn2⟩ 0
    simp only [↓rX8_memberDigest_65, ↓rX8_memberDigest_67, ↓rX8_memberDigest_68, ↓reduceIte, zkeep_n, zkeep_i, zkeep_r, zkeep_l, zup_eq, zIR, zLR, List.length_cons, List.length_nil, Nat.reduceAdd, Nat.reduceLeDiff, Nat.reduceEqDiff, Nat.reduceSub, Int.reduceLE, Int.reduceLT, Int.reduceEq, Int.reduceNe, Int.reduceNeg, Int.reduceAdd, Int.reduceSub, Int.reduceMul, Int.reduceToNat, Nat.le_refl, Nat.zero_le, Nat.zero_add, Int.zero_add, Int.add_zero, and_true, true_and, and_false, false_and, not_true_eq_false, not_false_eq_true, eq_self, ne_eq, true_implies, false_implies, implies_true, or_true, true_or, or_false, false_or, reduceCtorEq, Option.some.injEq, Sum.inl.injEq, exists_eq_left', exists_eq_left, zite]
    repeat' (first | with_reducible apply And.intro | with_reducible intro _)
    all_goals first | omega | (exact fin)
  have LA : ∀ s : Nat × zM, (s.1 ≤ 5 ∧ (YQ M s.2 ∧ RC S s.2)) → ∀ (_z : Nat), uX8_memberDigest (fun r M' => ∃ v, r = some v ∧ F v M') 6 [some (.inr (.inr 46)), some (.inr (.inl st)), none, some (.inl (m : Int)), some (.inr (.inl (fN (fun w h => 31 * h + aMember S m w) s.1 st))), none, some (.inl (s.1 : Int))] [] s.2 := by
    refine zind (fun s => 5 - s.1) ?_
    rintro ⟨i, N⟩ ⟨hi, hN⟩ ih _z
    simp only at hi hN ih
    have hRN := RM_yq h hN.1
    have n1 : N 46 2 = qn S 0 := hN.2.1
    have n2 : N 46 5 = qn S 1 := hN.2.2.1
    refine rX8_memberDigest_6.mpr ?_
    by_cases he : i = 5
    · subst he
      rw [hA]
      have fin := fun x7 => mid N hN x7
      simp only [↓rX8_memberDigest_8, ↓rX8_memberDigest_9, ↓reduceIte, zkeep_n, zkeep_i, zkeep_r, zkeep_l, zup_eq, zIR, zLR, List.length_cons, List.length_nil, Nat.reduceAdd, Nat.reduceLeDiff, Nat.reduceEqDiff, Nat.reduceSub, Int.reduceLE, Int.reduceLT, Int.reduceEq, Int.reduceNe, Int.reduceNeg, Int.reduceAdd, Int.reduceSub, Int.reduceMul, Int.reduceToNat, Nat.le_refl, Nat.zero_le, Nat.zero_add, Int.zero_add, Int.add_zero, and_true, true_and, and_false, false_and, not_true_eq_false, not_false_eq_true, eq_self, ne_eq, true_implies, false_implies, implies_true, or_true, true_or, or_false, false_or, reduceCtorEq, Option.some.injEq, Sum.inl.injEq, exists_eq_left', exists_eq_left, n1, n2, zite]
      repeat' (first | with_reducible apply And.intro | with_reducible intro _)
      all_goals first | omega | (exact fin _)
    · have hi2 := hi
      have call : zcv (zv 8 tX8_memberOf) [.inr (.inr 46), .inl (m : Int), .inl (i : Int)] N (fun v N' => uX8_memberDigest (fun r M' => ∃ v, r = some v ∧ F v M') 25 [some (.inr (.inr 46)), some (.inr (.inl st)), none, some (.inl (m : Int)), some (.inr (.inl (fN (fun w h => 31 * h + aMember S m w) i st))), none, some (.inl (i : Int))] [v, .inr (.inl (31 * fN (fun w h => 31 * h + aMember S m w) i st))] N') := by
        refine s_memberOf hk.1.2 hN.2 (by omega) (by omega) ?_
        have nx := ih (i + 1, N) ⟨by simp only; omega, hN⟩ (by simp only; omega) 0
        simp only [fN] at nx
        have rng := r_member hX m i
        unfold zIR at rng
        simp only [↓rX8_memberDigest_25, ↓rX8_memberDigest_26, ↓rX8_memberDigest_27, ↓rX8_memberDigest_29, ↓rX8_memberDigest_32, ↓reduceIte, zkeep_n, zkeep_i, zkeep_r, zkeep_l, zup_eq, zIR, zLR, List.length_cons, List.length_nil, Nat.reduceAdd, Nat.reduceLeDiff, Nat.reduceEqDiff, Nat.reduceSub, Int.reduceLE, Int.reduceLT, Int.reduceEq, Int.reduceNe, Int.reduceNeg, Int.reduceAdd, Int.reduceSub, Int.reduceMul, Int.reduceToNat, Nat.le_refl, Nat.zero_le, Nat.zero_add, Int.zero_add, Int.add_zero, and_true, true_and, and_false, false_and, not_true_eq_false, not_false_eq_true, eq_self, ne_eq, true_implies, false_implies, implies_true, or_true, true_or, or_false, false_or, reduceCtorEq, Option.some.injEq, Sum.inl.injEq, exists_eq_left', exists_eq_left, zite]
        repeat' (first | with_reducible apply And.intro | with_reducible intro _)
        all_goals first | omega | (exact nx)
      simp only [↓rX8_memberDigest_8, ↓rX8_memberDigest_9, ↓rX8_memberDigest_12, ↓rX8_memberDigest_15, ↓rX8_memberDigest_17, ↓rX8_memberDigest_18, ↓rX8_memberDigest_19, ↓rX8_memberDigest_20, ↓rX8_memberDigest_22, ↓reduceIte, zkeep_n, zkeep_i, zkeep_r, zkeep_l, zup_eq, zIR, zLR, List.length_cons, List.length_nil, Nat.reduceAdd, Nat.reduceLeDiff, Nat.reduceEqDiff, Nat.reduceSub, Int.reduceLE, Int.reduceLT, Int.reduceEq, Int.reduceNe, Int.reduceNeg, Int.reduceAdd, Int.reduceSub, Int.reduceMul, Int.reduceToNat, Nat.le_refl, Nat.zero_le, Nat.zero_add, Int.zero_add, Int.add_zero, and_true, true_and, and_false, false_and, not_true_eq_false, not_false_eq_true, eq_self, ne_eq, true_implies, false_implies, implies_true, or_true, true_or, or_false, false_or, reduceCtorEq, Option.some.injEq, Sum.inl.injEq, exists_eq_left', exists_eq_left, n1, n2, zite]
      repeat' (first | with_reducible apply And.intro | with_reducible intro _)
      all_goals first | omega | (exact call)
  have st0 := LA (0, M) ⟨Nat.zero_le _, YQ.rfl, h2⟩ 0
  simp only [↓eX8_memberDigest, ↓rX8_memberDigest_0, ↓rX8_memberDigest_1, ↓rX8_memberDigest_3, ↓rX8_memberDigest_4, ↓reduceIte, zkeep_n, zkeep_i, zkeep_r, zkeep_l, zup_eq, zIR, zLR, List.length_cons, List.length_nil, Nat.reduceAdd, Nat.reduceLeDiff, Nat.reduceEqDiff, Nat.reduceSub, Int.reduceLE, Int.reduceLT, Int.reduceEq, Int.reduceNe, Int.reduceNeg, Int.reduceAdd, Int.reduceSub, Int.reduceMul, Int.reduceToNat, Nat.le_refl, Nat.zero_le, Nat.zero_add, Int.zero_add, Int.add_zero, and_true, true_and, and_false, false_and, not_true_eq_false, not_false_eq_true, eq_self, ne_eq, true_implies, false_implies, implies_true, or_true, true_or, or_false, false_or, reduceCtorEq, Option.some.injEq, Sum.inl.injEq, exists_eq_left', exists_eq_left, zite]
  repeat' (first | with_reducible apply And.intro | with_reducible intro _)
  all_goals first | omega | (exact st0)
set_option maxRecDepth 100000 in
set_option maxHeartbeats 8000000 in
theorem s_queD {S M : zM} {F : zV → zM → Prop} {q : Nat} {st : Int} (hW : WX S) (h : RM S M) (h2 : RC S M) (hq : q < 4) (hR : ∀ M', YQ M M' → RC S M' → F (.inr (.inl (dQ S q st))) M') : zcv (zv 8 tX8_questionDigest) [.inr (.inr 46), .inr (.inl st), .inl (q : Int)] M F := by
  refine zcvv rfl ?_
  have hX : ∃ M0, RX S M0 := hW
  obtain ⟨M0, hX⟩ := hX
  generalize hA : fN (fun w h => 31 * h + aHouse S 6 q w) 3 st = hA0
  generalize hB : fN (fun w h => 31 * h + aHouse S 19 q w) 3 hA0 = hB0
  generalize hC : fN (fun w h => 31 * h + aCarry S 8 q w) 3 (31 * hB0 + aSays S q) = hC0
  have eM : dQ S q st = 31 * (31 * hC0 + aCream S 5 14 q 0) + aCream S 5 14 q 1 := by unfold dQ; rw [hA, hB, hC]
  rw [eM] at hR
  have tail : ∀ N, YQ M N ∧ RC S N → ∀ x6, uX8_questionDigest (fun r M' => ∃ v, r = some v ∧ F v M') 120 [some (.inr (.inr 46)), some (.inr (.inl st)), none, some (.inl (q : Int)), some (.inr (.inl (hC0))), none, x6] [] N := by
    intro N hN x6
    have q0 := RM_yq h hN.1
    simp only [↓rX8_questionDigest_120, ↓rX8_questionDigest_123, ↓rX8_questionDigest_125, ↓rX8_questionDigest_126, ↓rX8_questionDigest_127, ↓rX8_questionDigest_128, ↓rX8_questionDigest_130, ↓rX8_questionDigest_131, ↓rX8_questionDigest_132, ↓reduceIte, zkeep_n, zkeep_i, zkeep_r, zkeep_l, zup_eq, zIR, zLR, List.length_cons, List.length_nil, Nat.reduceAdd, Nat.reduceLeDiff, Nat.reduceEqDiff, Nat.reduceSub, Int.reduceLE, Int.reduceLT, Int.reduceEq, Int.reduceNe, Int.reduceNeg, Int.reduceAdd, Int.reduceSub, Int.reduceMul, Int.reduceToNat, Nat.le_refl, Nat.zero_le, Nat.zero_add, Int.zero_add, Int.add_zero, and_true, true_and, and_false, false_and, not_true_eq_false, not_false_eq_true, eq_self, ne_eq, true_implies, false_implies, implies_true, or_true, true_or, or_false, false_or, reduceCtorEq, Option.some.injEq, Sum.inl.injEq, exists_eq_left', exists_eq_left, zite]
    refine s_creamOf hW q0 ⟨by decide, by decide, by omega, by decide⟩ (fun N0 g0 r0 => ?_)
    have hn0 : YQ M N0 ∧ RC S N0 := ⟨YQ.trans hN.1 g0, r0⟩
    have q1 := RM_yq h hn0.1
    simp only [↓rX8_questionDigest_135, ↓rX8_questionDigest_136, ↓rX8_questionDigest_138, ↓rX8_questionDigest_141, ↓rX8_questionDigest_143, ↓rX8_questionDigest_144, ↓rX8_questionDigest_145, ↓rX8_questionDigest_146, ↓rX8_questionDigest_148, ↓rX8_questionDigest_149, ↓rX8_questionDigest_150, ↓reduceIte, zkeep_n, zkeep_i, zkeep_r, zkeep_l, zup_eq, zIR, zLR, List.length_cons, List.length_nil, Nat.reduceAdd, Nat.reduceLeDiff, Nat.reduceEqDiff, Nat.reduceSub, Int.reduceLE, Int.reduceLT, Int.reduceEq, Int.reduceNe, Int.reduceNeg, Int.reduceAdd, Int.reduceSub, Int.reduceMul, Int.reduceToNat, Nat.le_refl, Nat.zero_le, Nat.zero_add, Int.zero_add, Int.add_zero, and_true, true_and, and_false, false_and, not_true_eq_false, not_false_eq_true, eq_self, ne_eq, true_implies, false_implies, implies_true, or_true, true_or, or_false, false_or, reduceCtorEq, Option.some.injEq, Sum.inl.injEq, exists_eq_left', exists_eq_left, zite]
    refine s_creamOf hW q1 ⟨by decide, by decide, by omega, by decide⟩ (fun N1 g1 r1 => ?_)
    have hn1 : YQ M N1 ∧ RC S N1 := ⟨YQ.trans hn0.1 g1, r1⟩
    have q2 := RM_yq h hn1.1
    have fin := hR N1 hn1.1 hn1.2
    simp only [↓rX8_questionDigest_153, ↓rX8_questionDigest_154, ↓reduceIte, zkeep_n, zkeep_i, zkeep_r, zkeep_l, zup_eq, zIR, zLR, List.length_cons, List.length_nil, Nat.reduceAdd, Nat.reduceLeDiff, Nat.reduceEqDiff, Nat.reduceSub, Int.reduceLE, Int.reduceLT, Int.reduceEq, Int.reduceNe, Int.reduceNeg, Int.reduceAdd, Int.reduceSub, Int.reduceMul, Int.reduceToNat, Nat.le_refl, Nat.zero_le, Nat.zero_add, Int.zero_add, Int.add_zero, and_true, true_and, and_false, false_and, not_true_eq_false, not_false_eq_true, eq_self, ne_eq, true_implies, false_implies, implies_true, or_true, true_or, or_false, false_or, reduceCtorEq, Option.some.injEq, Sum.inl.injEq, exists_eq_left', exists_eq_left, zite]
    repeat' (first | with_reducible apply And.intro | with_reducible intro _)
    all_goals first | omega | (exact fin)
  have L3 : ∀ s : Nat × zM, (s.1 ≤ 3 ∧ (YQ M s.2 ∧ RC S s.2)) → ∀ (_z : Nat), uX8_questionDigest (fun r M' => ∃ v, r = some v ∧ F v M') 89 [some (.inr (.inr 46)), some (.inr (.inl st)), none, some (.inl (q : Int)), some (.inr (.inl (fN (fun w h => 31 * h + aCarry S 8 q w) s.1 (31 * hB0 + aSays S q)))), none, some (.inl (s.1 : Int))] [] s.2 := by
    refine zind (fun s => 3 - s.1) ?_
    rintro ⟨i, N⟩ ⟨hi, hN⟩ ih _z
    simp only at hi hN ih
    have hRN := RM_yq h hN.1
    have n1 : N 46 2 = qn S 0 := hN.2.1
    have n2 : N 46 5 = qn S 1 := hN.2.2.1
    refine rX8_questionDigest_89.mpr ?_
    by_cases he : i = 3
    · subst he
      rw [hC]
      have fin := fun x7 => tail N hN x7
      simp only [↓rX8_questionDigest_91, ↓rX8_questionDigest_92, ↓reduceIte, zkeep_n, zkeep_i, zkeep_r, zkeep_l, zup_eq, zIR, zLR, List.length_cons, List.length_nil, Nat.reduceAdd, Nat.reduceLeDiff, Nat.reduceEqDiff, Nat.reduceSub, Int.reduceLE, Int.reduceLT, Int.reduceEq, Int.reduceNe, Int.reduceNeg, Int.reduceAdd, Int.reduceSub, Int.reduceMul, Int.reduceToNat, Nat.le_refl, Nat.zero_le, Nat.zero_add, Int.zero_add, Int.add_zero, and_true, true_and, and_false, false_and, not_true_eq_false, not_false_eq_true, eq_self, ne_eq, true_implies, false_implies, implies_true, or_true, true_or, or_false, false_or, reduceCtorEq, Option.some.injEq, Sum.inl.injEq, exists_eq_left', exists_eq_left, n1, n2, zite]
      repeat' (first | with_reducible apply And.intro | with_reducible intro _)
      all_goals first | omega | (exact fin _)
    · have hi2 := hi
      have call : zcv (zv 8 tX8_carryOf) [.inr (.inr 46), .inl 8, .inl (q : Int), .inl (i : Int)] N (fun v N' => uX8_questionDigest (fun r M' => ∃ v, r = some v ∧ F v M') 110 [some (.inr (.inr 46)), some (.inr (.inl st)), none, some (.inl (q : Int)), some (.inr (.inl (fN (fun w h => 31 * h + aCarry S 8 q w) i (31 * hB0 + aSays S q)))), none, some (.inl (i : Int))] [v, .inr (.inl (31 * fN (fun w h => 31 * h + aCarry S 8 q w) i (31 * hB0 + aSays S q)))] N') := by
        refine s_carryOf hW hRN ⟨by decide, by omega, by omega⟩ (fun N' g g2 => ?_)
        have nx := ih (i + 1, N') ⟨by simp only; omega, hN.1.trans g, g2⟩ (by simp only; omega) 0
        simp only [fN] at nx
        have rng := r_carry hX 8 q i
        unfold zIR at rng
        simp only [↓rX8_questionDigest_110, ↓rX8_questionDigest_111, ↓rX8_questionDigest_112, ↓rX8_questionDigest_114, ↓rX8_questionDigest_117, ↓reduceIte, zkeep_n, zkeep_i, zkeep_r, zkeep_l, zup_eq, zIR, zLR, List.length_cons, List.length_nil, Nat.reduceAdd, Nat.reduceLeDiff, Nat.reduceEqDiff, Nat.reduceSub, Int.reduceLE, Int.reduceLT, Int.reduceEq, Int.reduceNe, Int.reduceNeg, Int.reduceAdd, Int.reduceSub, Int.reduceMul, Int.reduceToNat, Nat.le_refl, Nat.zero_le, Nat.zero_add, Int.zero_add, Int.add_zero, and_true, true_and, and_false, false_and, not_true_eq_false, not_false_eq_true, eq_self, ne_eq, true_implies, false_implies, implies_true, or_true, true_or, or_false, false_or, reduceCtorEq, Option.some.injEq, Sum.inl.injEq, exists_eq_left', exists_eq_left, zite]
        repeat' (first | with_reducible apply And.intro | with_reducible intro _)
        all_goals first | omega | (exact nx)
      simp only [↓rX8_questionDigest_91, ↓rX8_questionDigest_92, ↓rX8_questionDigest_95, ↓rX8_questionDigest_98, ↓rX8_questionDigest_100, ↓rX8_questionDigest_101, ↓rX8_questionDigest_102, ↓rX8_questionDigest_104, ↓rX8_questionDigest_105, ↓rX8_questionDigest_107, ↓reduceIte, zkeep_n, zkeep_i, zkeep_r, zkeep_l, zup_eq, zIR, zLR, List.length_cons, List.length_nil, Nat.reduceAdd, Nat.reduceLeDiff, Nat.reduceEqDiff, Nat.reduceSub, Int.reduceLE, Int.reduceLT, Int.reduceEq, Int.reduceNe, Int.reduceNeg, Int.reduceAdd, Int.reduceSub, Int.reduceMul, Int.reduceToNat, Nat.le_refl, Nat.zero_le, Nat.zero_add, Int.zero_add, Int.add_zero, and_true, true_and, and_false, false_and, not_true_eq_false, not_false_eq_true, eq_self, ne_eq, true_implies, false_implies, implies_true, or_true, true_or, or_false, false_or, reduceCtorEq, Option.some.injEq, Sum.inl.injEq, exists_eq_left', exists_eq_left, n1, n2, zite]
      repeat' (first | with_reducible apply And.intro | with_reducible intro _)
      all_goals first | omega | (exact call)
  have mid : ∀ N, YQ M N ∧ RC S N → ∀ x6, uX8_questionDigest (fun r M' => ∃ v, r = some v ∧ F v M') 71 [some (.inr (.inr 46)), some (.inr (.inl st)), none, some (.inl (q : Int)), some (.inr (.inl (hB0))), none, x6] [] N := by
    intro N hN x6
    have q0 := RM_yq h hN.1
    simp only [↓rX8_questionDigest_71, ↓rX8_questionDigest_74, ↓rX8_questionDigest_76, ↓rX8_questionDigest_77, ↓rX8_questionDigest_78, ↓rX8_questionDigest_79, ↓reduceIte, zkeep_n, zkeep_i, zkeep_r, zkeep_l, zup_eq, zIR, zLR, List.length_cons, List.length_nil, Nat.reduceAdd, Nat.reduceLeDiff, Nat.reduceEqDiff, Nat.reduceSub, Int.reduceLE, Int.reduceLT, Int.reduceEq, Int.reduceNe, Int.reduceNeg, Int.reduceAdd, Int.reduceSub, Int.reduceMul, Int.reduceToNat, Nat.le_refl, Nat.zero_le, Nat.zero_add, Int.zero_add, Int.add_zero, and_true, true_and, and_false, false_and, not_true_eq_false, not_false_eq_true, eq_self, ne_eq, true_implies, false_implies, implies_true, or_true, true_or, or_false, false_or, reduceCtorEq, Option.some.injEq, Sum.inl.injEq, exists_eq_left', exists_eq_left, zite]
    refine s_noOf hW q0 (by omega) (fun N0 g0 r0 => ?_)
    have hn0 : YQ M N0 ∧ RC S N0 := ⟨YQ.trans hN.1 g0, r0⟩
    have q1 := RM_yq h hn0.1
    have rng0 := r_says hX q
    unfold zIR at rng0
    have fin := L3 (0, N0) ⟨Nat.zero_le _, hn0⟩ 0
    simp only [↓rX8_questionDigest_82, ↓rX8_questionDigest_83, ↓rX8_questionDigest_84, ↓rX8_questionDigest_86, ↓rX8_questionDigest_87, ↓reduceIte, zkeep_n, zkeep_i, zkeep_r, zkeep_l, zup_eq, zIR, zLR, List.length_cons, List.length_nil, Nat.reduceAdd, Nat.reduceLeDiff, Nat.reduceEqDiff, Nat.reduceSub, Int.reduceLE, Int.reduceLT, Int.reduceEq, Int.reduceNe, Int.reduceNeg, Int.reduceAdd, Int.reduceSub, Int.reduceMul, Int.reduceToNat, Nat.le_refl, Nat.zero_le, Nat.zero_add, Int.zero_add, Int.add_zero, and_true, true_and, and_false, false_and, not_true_eq_false, not_false_eq_true, eq_self, ne_eq, true_implies, false_implies, implies_true, or_true, true_or, or_false, false_or, reduceCtorEq, Option.some.injEq, Sum.inl.injEq, exists_eq_left', exists_eq_left, zite]
    repeat' (first | with_reducible apply And.intro | with_reducible intro _)
    all_goals first | omega | (exact fin)
  have L2 : ∀ s : Nat × zM, (s.1 ≤ 3 ∧ (YQ M s.2 ∧ RC S s.2)) → ∀ (_z : Nat), uX8_questionDigest (fun r M' => ∃ v, r = some v ∧ F v M') 40 [some (.inr (.inr 46)), some (.inr (.inl st)), none, some (.inl (q : Int)), some (.inr (.inl (fN (fun w h => 31 * h + aHouse S 19 q w) s.1 hA0))), none, some (.inl (s.1 : Int))] [] s.2 := by
    refine zind (fun s => 3 - s.1) ?_
    rintro ⟨i, N⟩ ⟨hi, hN⟩ ih _z
    simp only at hi hN ih
    have hRN := RM_yq h hN.1
    have n1 : N 46 2 = qn S 0 := hN.2.1
    have n2 : N 46 5 = qn S 1 := hN.2.2.1
    refine rX8_questionDigest_40.mpr ?_
    by_cases he : i = 3
    · subst he
      rw [hB]
      have fin := fun x7 => mid N hN x7
      simp only [↓rX8_questionDigest_42, ↓rX8_questionDigest_43, ↓reduceIte, zkeep_n, zkeep_i, zkeep_r, zkeep_l, zup_eq, zIR, zLR, List.length_cons, List.length_nil, Nat.reduceAdd, Nat.reduceLeDiff, Nat.reduceEqDiff, Nat.reduceSub, Int.reduceLE, Int.reduceLT, Int.reduceEq, Int.reduceNe, Int.reduceNeg, Int.reduceAdd, Int.reduceSub, Int.reduceMul, Int.reduceToNat, Nat.le_refl, Nat.zero_le, Nat.zero_add, Int.zero_add, Int.add_zero, and_true, true_and, and_false, false_and, not_true_eq_false, not_false_eq_true, eq_self, ne_eq, true_implies, false_implies, implies_true, or_true, true_or, or_false, false_or, reduceCtorEq, Option.some.injEq, Sum.inl.injEq, exists_eq_left', exists_eq_left, n1, n2, zite]
      repeat' (first | with_reducible apply And.intro | with_reducible intro _)
      all_goals first | omega | (exact fin _)
    · have hi2 := hi
      have call : zcv (zv 8 tX8_houseOf) [.inr (.inr 46), .inl 19, .inl (q : Int), .inl (i : Int)] N (fun v N' => uX8_questionDigest (fun r M' => ∃ v, r = some v ∧ F v M') 61 [some (.inr (.inr 46)), some (.inr (.inl st)), none, some (.inl (q : Int)), some (.inr (.inl (fN (fun w h => 31 * h + aHouse S 19 q w) i hA0))), none, some (.inl (i : Int))] [v, .inr (.inl (31 * fN (fun w h => 31 * h + aHouse S 19 q w) i hA0))] N') := by
        refine s_houseOf hW hRN ⟨by decide, by omega, by omega⟩ (fun N' g g2 => ?_)
        have nx := ih (i + 1, N') ⟨by simp only; omega, hN.1.trans g, g2⟩ (by simp only; omega) 0
        simp only [fN] at nx
        have rng := r_house hX 19 q i
        unfold zIR at rng
        simp only [↓rX8_questionDigest_61, ↓rX8_questionDigest_62, ↓rX8_questionDigest_63, ↓rX8_questionDigest_65, ↓rX8_questionDigest_68, ↓reduceIte, zkeep_n, zkeep_i, zkeep_r, zkeep_l, zup_eq, zIR, zLR, List.length_cons, List.length_nil, Nat.reduceAdd, Nat.reduceLeDiff, Nat.reduceEqDiff, Nat.reduceSub, Int.reduceLE, Int.reduceLT, Int.reduceEq, Int.reduceNe, Int.reduceNeg, Int.reduceAdd, Int.reduceSub, Int.reduceMul, Int.reduceToNat, Nat.le_refl, Nat.zero_le, Nat.zero_add, Int.zero_add, Int.add_zero, and_true, true_and, and_false, false_and, not_true_eq_false, not_false_eq_true, eq_self, ne_eq, true_implies, false_implies, implies_true, or_true, true_or, or_false, false_or, reduceCtorEq, Option.some.injEq, Sum.inl.injEq, exists_eq_left', exists_eq_left, zite]
        repeat' (first | with_reducible apply And.intro | with_reducible intro _)
        all_goals first | omega | (exact nx)
      simp only [↓rX8_questionDigest_42, ↓rX8_questionDigest_43, ↓rX8_questionDigest_46, ↓rX8_questionDigest_49, ↓rX8_questionDigest_51, ↓rX8_questionDigest_52, ↓rX8_questionDigest_53, ↓rX8_questionDigest_55, ↓rX8_questionDigest_56, ↓rX8_questionDigest_58, ↓reduceIte, zkeep_n, zkeep_i, zkeep_r, zkeep_l, zup_eq, zIR, zLR, List.length_cons, List.length_nil, Nat.reduceAdd, Nat.reduceLeDiff, Nat.reduceEqDiff, Nat.reduceSub, Int.reduceLE, Int.reduceLT, Int.reduceEq, Int.reduceNe, Int.reduceNeg, Int.reduceAdd, Int.reduceSub, Int.reduceMul, Int.reduceToNat, Nat.le_refl, Nat.zero_le, Nat.zero_add, Int.zero_add, Int.add_zero, and_true, true_and, and_false, false_and, not_true_eq_false, not_false_eq_true, eq_self, ne_eq, true_implies, false_implies, implies_true, or_true, true_or, or_false, false_or, reduceCtorEq, Option.some.injEq, Sum.inl.injEq, exists_eq_left', exists_eq_left, n1, n2, zite]
      repeat' (first | with_reducible apply And.intro | with_reducible intro _)
      all_goals first | omega | (exact call)
  have L1 : ∀ s : Nat × zM, (s.1 ≤ 3 ∧ (YQ M s.2 ∧ RC S s.2)) → ∀ (_z : Nat), uX8_questionDigest (fun r M' => ∃ v, r = some v ∧ F v M') 6 [some (.inr (.inr 46)), some (.inr (.inl st)), none, some (.inl (q : Int)), some (.inr (.inl (fN (fun w h => 31 * h + aHouse S 6 q w) s.1 st))), none, some (.inl (s.1 : Int))] [] s.2 := by
    refine zind (fun s => 3 - s.1) ?_
    rintro ⟨i, N⟩ ⟨hi, hN⟩ ih _z
    simp only at hi hN ih
    have hRN := RM_yq h hN.1
    have n1 : N 46 2 = qn S 0 := hN.2.1
    have n2 : N 46 5 = qn S 1 := hN.2.2.1
    refine rX8_questionDigest_6.mpr ?_
    by_cases he : i = 3
    · subst he
      rw [hA]
      have fin := L2 (0, N) ⟨Nat.zero_le _, hN⟩ 0
      simp only [↓rX8_questionDigest_8, ↓rX8_questionDigest_9, ↓rX8_questionDigest_37, ↓rX8_questionDigest_38, ↓reduceIte, zkeep_n, zkeep_i, zkeep_r, zkeep_l, zup_eq, zIR, zLR, List.length_cons, List.length_nil, Nat.reduceAdd, Nat.reduceLeDiff, Nat.reduceEqDiff, Nat.reduceSub, Int.reduceLE, Int.reduceLT, Int.reduceEq, Int.reduceNe, Int.reduceNeg, Int.reduceAdd, Int.reduceSub, Int.reduceMul, Int.reduceToNat, Nat.le_refl, Nat.zero_le, Nat.zero_add, Int.zero_add, Int.add_zero, and_true, true_and, and_false, false_and, not_true_eq_false, not_false_eq_true, eq_self, ne_eq, true_implies, false_implies, implies_true, or_true, true_or, or_false, false_or, reduceCtorEq, Option.some.injEq, Sum.inl.injEq, exists_eq_left', exists_eq_left, n1, n2, zite]
      repeat' (first | with_reducible apply And.intro | with_reducible intro _)
      all_goals first | omega | (exact fin)
    · have hi2 := hi
      have call : zcv (zv 8 tX8_houseOf) [.inr (.inr 46), .inl 6, .inl (q : Int), .inl (i : Int)] N (fun v N' => uX8_questionDigest (fun r M' => ∃ v, r = some v ∧ F v M') 27 [some (.inr (.inr 46)), some (.inr (.inl st)), none, some (.inl (q : Int)), some (.inr (.inl (fN (fun w h => 31 * h + aHouse S 6 q w) i st))), none, some (.inl (i : Int))] [v, .inr (.inl (31 * fN (fun w h => 31 * h + aHouse S 6 q w) i st))] N') := by
        refine s_houseOf hW hRN ⟨by decide, by omega, by omega⟩ (fun N' g g2 => ?_)
        have nx := ih (i + 1, N') ⟨by simp only; omega, hN.1.trans g, g2⟩ (by simp only; omega) 0
        simp only [fN] at nx
        have rng := r_house hX 6 q i
        unfold zIR at rng
        simp only [↓rX8_questionDigest_27, ↓rX8_questionDigest_28, ↓rX8_questionDigest_29, ↓rX8_questionDigest_31, ↓rX8_questionDigest_34, ↓reduceIte, zkeep_n, zkeep_i, zkeep_r, zkeep_l, zup_eq, zIR, zLR, List.length_cons, List.length_nil, Nat.reduceAdd, Nat.reduceLeDiff, Nat.reduceEqDiff, Nat.reduceSub, Int.reduceLE, Int.reduceLT, Int.reduceEq, Int.reduceNe, Int.reduceNeg, Int.reduceAdd, Int.reduceSub, Int.reduceMul, Int.reduceToNat, Nat.le_refl, Nat.zero_le, Nat.zero_add, Int.zero_add, Int.add_zero, and_true, true_and, and_false, false_and, not_true_eq_false, not_false_eq_true, eq_self, ne_eq, true_implies, false_implies, implies_true, or_true, true_or, or_false, false_or, reduceCtorEq, Option.some.injEq, Sum.inl.injEq, exists_eq_left', exists_eq_left, zite]
        repeat' (first | with_reducible apply And.intro | with_reducible intro _)
        all_goals first | omega | (exact nx)
      simp only [↓rX8_questionDigest_8, ↓rX8_questionDigest_9, ↓rX8_questionDigest_12, ↓rX8_questionDigest_15, ↓rX8_questionDigest_17, ↓rX8_questionDigest_18, ↓rX8_questionDigest_19, ↓rX8_questionDigest_21, ↓rX8_questionDigest_22, ↓rX8_questionDigest_24, ↓reduceIte, zkeep_n, zkeep_i, zkeep_r, zkeep_l, zup_eq, zIR, zLR, List.length_cons, List.length_nil, Nat.reduceAdd, Nat.reduceLeDiff, Nat.reduceEqDiff, Nat.reduceSub, Int.reduceLE, Int.reduceLT, Int.reduceEq, Int.reduceNe, Int.reduceNeg, Int.reduceAdd, Int.reduceSub, Int.reduceMul, Int.reduceToNat, Nat.le_refl, Nat.zero_le, Nat.zero_add, Int.zero_add, Int.add_zero, and_true, true_and, and_false, false_and, not_true_eq_false, not_false_eq_true, eq_self, ne_eq, true_implies, false_implies, implies_true, or_true, true_or, or_false, false_or, reduceCtorEq, Option.some.injEq, Sum.inl.injEq, exists_eq_left', exists_eq_left, n1, n2, zite]
      repeat' (first | with_reducible apply And.intro | with_reducible intro _)
      all_goals first | omega | (exact call)
  have st0 := L1 (0, M) ⟨Nat.zero_le _, YQ.rfl, h2⟩ 0
  simp only [↓eX8_questionDigest, ↓rX8_questionDigest_0, ↓rX8_questionDigest_1, ↓rX8_questionDigest_3, ↓rX8_questionDigest_4, ↓reduceIte, zkeep_n, zkeep_i, zkeep_r, zkeep_l, zup_eq, zIR, zLR, List.length_cons, List.length_nil, Nat.reduceAdd, Nat.reduceLeDiff, Nat.reduceEqDiff, Nat.reduceSub, Int.reduceLE, Int.reduceLT, Int.reduceEq, Int.reduceNe, Int.reduceNeg, Int.reduceAdd, Int.reduceSub, Int.reduceMul, Int.reduceToNat, Nat.le_refl, Nat.zero_le, Nat.zero_add, Int.zero_add, Int.add_zero, and_true, true_and, and_false, false_and, not_true_eq_false, not_false_eq_true, eq_self, ne_eq, true_implies, false_implies, implies_true, or_true, true_or, or_false, false_or, reduceCtorEq, Option.some.injEq, Sum.inl.injEq, exists_eq_left', exists_eq_left, zite]
  repeat' (first | with_reducible apply And.intro | with_reducible intro _)
  all_goals first | omega | (exact st0)
set_option maxRecDepth 100000 in
set_option maxHeartbeats 8000000 in
theorem y_digest {S M : zM} {R : zP} (hW : WX S) (h : RM S M) (hR : ∀ M', YQ M M' → R (some (.inr (.inl (aDigest S)))) M') : tX8_digest [.inr (.inr 46)] M R := by
  have hX : ∃ M0, RX S M0 := hW
  obtain ⟨M0, hX⟩ := hX
  have hk := W_k hW
  have hqk := hk.2.2.1
  have hck := hk.2.2.2.1
  generalize h1 : fN (fun w h => 31 * h + aCount S w) 8 17 = v1
  generalize h2 : fN (fun t h => 31 * h + aFault S t) 2 v1 = v2
  generalize h3 : fN (fun c h => fN (fun w h => 31 * h + aCow S c w) 5 h) (ck S) v2 = v3
  generalize h4 : fN (dM S) (qk S) v3 = v4
  generalize h5 : fN (dQ S) 4 v4 = v5
  generalize h6 : fN (fun w h => 31 * h + aPusey S w) 3 v5 = v6
  have eM : aDigest S = 31 * (31 * (31 * (31 * (31 * (31 * v6 + aWeaned S) + aSpare S (-1)) + aSpare S 0) + aNever S) + aYears S 7 6 0) + aYears S 7 6 1 := by unfold aDigest; rw [h1, h2, h3, h4, h5, h6]
  have en : aSpare S (-1) = plN (sp0 S kall) (fun a => sp0 S (kbut a)) (sp2 S) (nf S) := by unfold aSpare; rw [if_pos (by decide), if_pos rfl]
  have ea : aSpare S 0 = plA (sp0 S kall) (fun a => sp0 S (kbut a)) (sp2 S) (nf S) := by unfold aSpare; rw [if_pos (by decide), if_neg (by decide), if_pos rfl]
  have hpl := pl_low (sp0 S kall) (fun a => sp0 S (kbut a)) (sp2 S) (nf S)
  have hpr := pl_R (sp0 S kall) (fun a => sp0 S (kbut a)) (sp2 S) (nf S)
  have r1 := r_weaned hX
  have r2 := r_never hX
  have r3 := r_years hX 7 6 0
  have r4 := r_years hX 7 6 1
  unfold zIR at r1 r2 r3 r4
  rw [eM, en, ea] at hR
  have tail : ∀ N, YQ M N ∧ RC S N → ∀ x3 x7, uX8_digest R 172 [some (.inr (.inr 46)), some (.inr (.inl (v6))), none, x3, x7] [] N := by
    intro N hN x3 x7
    simp only [↓rX8_digest_172, ↓rX8_digest_175, ↓rX8_digest_176, ↓rX8_digest_177, ↓rX8_digest_178, ↓reduceIte, zkeep_n, zkeep_i, zkeep_r, zkeep_l, zup_eq, zIR, zLR, List.length_cons, List.length_nil, Nat.reduceAdd, Nat.reduceLeDiff, Nat.reduceEqDiff, Nat.reduceSub, Int.reduceLE, Int.reduceLT, Int.reduceEq, Int.reduceNe, Int.reduceNeg, Int.reduceAdd, Int.reduceSub, Int.reduceMul, Int.reduceToNat, Nat.le_refl, Nat.zero_le, Nat.zero_add, Int.zero_add, Int.add_zero, and_true, true_and, and_false, false_and, not_true_eq_false, not_false_eq_true, eq_self, ne_eq, true_implies, false_implies, implies_true, or_true, true_or, or_false, false_or, reduceCtorEq, Option.some.injEq, Sum.inl.injEq, exists_eq_left', exists_eq_left, zite]
    refine s_weanedOf hW (RM_yq h hN.1) (fun N0 g0 _ => ?_)
    simp only [↓rX8_digest_181, ↓rX8_digest_182, ↓rX8_digest_183, ↓rX8_digest_184, ↓rX8_digest_185, ↓reduceIte, zkeep_n, zkeep_i, zkeep_r, zkeep_l, zup_eq, zIR, zLR, List.length_cons, List.length_nil, Nat.reduceAdd, Nat.reduceLeDiff, Nat.reduceEqDiff, Nat.reduceSub, Int.reduceLE, Int.reduceLT, Int.reduceEq, Int.reduceNe, Int.reduceNeg, Int.reduceAdd, Int.reduceSub, Int.reduceMul, Int.reduceToNat, Nat.le_refl, Nat.zero_le, Nat.zero_add, Int.zero_add, Int.add_zero, and_true, true_and, and_false, false_and, not_true_eq_false, not_false_eq_true, eq_self, ne_eq, true_implies, false_implies, implies_true, or_true, true_or, or_false, false_or, reduceCtorEq, Option.some.injEq, Sum.inl.injEq, exists_eq_left', exists_eq_left, zite]
    refine ⟨r1, ?_⟩
    refine s_spareBy hW (RM_yq h (hN.1.trans g0)) (fun N1 g1 _ ga gb => ?_)
    have hn1 : YQ M N1 := (hN.1.trans g0).trans g1
    generalize plN (sp0 S kall) (fun a => sp0 S (kbut a)) (sp2 S) (nf S) = n at *
    generalize plA (sp0 S kall) (fun a => sp0 S (kbut a)) (sp2 S) (nf S) = a at *
    have fb : ∀ v, v = a → uX8_digest R 209 [some (.inr (.inr 46)), some (.inr (.inl (31 * (31 * v6 + aWeaned S) + n))), none, some (.inl n), x7] [.inl v, .inr (.inl (31 * (31 * (31 * v6 + aWeaned S) + n)))] N1 := fun v hv => by
      subst hv
      simp only [↓rX8_digest_209, ↓rX8_digest_210, ↓rX8_digest_211, ↓rX8_digest_212, ↓rX8_digest_215, ↓rX8_digest_216, ↓rX8_digest_217, ↓rX8_digest_218, ↓reduceIte, zkeep_n, zkeep_i, zkeep_r, zkeep_l, zup_eq, zIR, zLR, List.length_cons, List.length_nil, Nat.reduceAdd, Nat.reduceLeDiff, Nat.reduceEqDiff, Nat.reduceSub, Int.reduceLE, Int.reduceLT, Int.reduceEq, Int.reduceNe, Int.reduceNeg, Int.reduceAdd, Int.reduceSub, Int.reduceMul, Int.reduceToNat, Nat.le_refl, Nat.zero_le, Nat.zero_add, Int.zero_add, Int.add_zero, and_true, true_and, and_false, false_and, not_true_eq_false, not_false_eq_true, eq_self, ne_eq, true_implies, false_implies, implies_true, or_true, true_or, or_false, false_or, reduceCtorEq, Option.some.injEq, Sum.inl.injEq, exists_eq_left', exists_eq_left, zite]
      refine ⟨by omega, ?_⟩
      refine s_neverNow hW (RM_yq h hn1) (fun N2 g2 _ => ?_)
      simp only [↓rX8_digest_221, ↓rX8_digest_222, ↓rX8_digest_223, ↓rX8_digest_224, ↓rX8_digest_227, ↓rX8_digest_228, ↓rX8_digest_229, ↓rX8_digest_230, ↓rX8_digest_232, ↓rX8_digest_234, ↓rX8_digest_235, ↓reduceIte, zkeep_n, zkeep_i, zkeep_r, zkeep_l, zup_eq, zIR, zLR, List.length_cons, List.length_nil, Nat.reduceAdd, Nat.reduceLeDiff, Nat.reduceEqDiff, Nat.reduceSub, Int.reduceLE, Int.reduceLT, Int.reduceEq, Int.reduceNe, Int.reduceNeg, Int.reduceAdd, Int.reduceSub, Int.reduceMul, Int.reduceToNat, Nat.le_refl, Nat.zero_le, Nat.zero_add, Int.zero_add, Int.add_zero, and_true, true_and, and_false, false_and, not_true_eq_false, not_false_eq_true, eq_self, ne_eq, true_implies, false_implies, implies_true, or_true, true_or, or_false, false_or, reduceCtorEq, Option.some.injEq, Sum.inl.injEq, exists_eq_left', exists_eq_left, zite]
      refine ⟨r2, ?_⟩
      refine s_yearsOf hW (RM_yq h (hn1.trans g2)) (by decide) (fun N3 g3 _ => ?_)
      simp only [↓rX8_digest_238, ↓rX8_digest_239, ↓rX8_digest_240, ↓rX8_digest_241, ↓rX8_digest_244, ↓rX8_digest_245, ↓rX8_digest_246, ↓rX8_digest_247, ↓rX8_digest_249, ↓rX8_digest_251, ↓rX8_digest_252, ↓reduceIte, zkeep_n, zkeep_i, zkeep_r, zkeep_l, zup_eq, zIR, zLR, List.length_cons, List.length_nil, Nat.reduceAdd, Nat.reduceLeDiff, Nat.reduceEqDiff, Nat.reduceSub, Int.reduceLE, Int.reduceLT, Int.reduceEq, Int.reduceNe, Int.reduceNeg, Int.reduceAdd, Int.reduceSub, Int.reduceMul, Int.reduceToNat, Nat.le_refl, Nat.zero_le, Nat.zero_add, Int.zero_add, Int.add_zero, and_true, true_and, and_false, false_and, not_true_eq_false, not_false_eq_true, eq_self, ne_eq, true_implies, false_implies, implies_true, or_true, true_or, or_false, false_or, reduceCtorEq, Option.some.injEq, Sum.inl.injEq, exists_eq_left', exists_eq_left, zite]
      refine ⟨r3, ?_⟩
      refine s_yearsOf hW (RM_yq h ((hn1.trans g2).trans g3)) (by decide) (fun N4 g4 _ => ?_)
      have fin := hR N4 (((hn1.trans g2).trans g3).trans g4)
      simp only [↓rX8_digest_255, ↓rX8_digest_256, ↓rX8_digest_257, ↓reduceIte, zkeep_n, zkeep_i, zkeep_r, zkeep_l, zup_eq, zIR, zLR, List.length_cons, List.length_nil, Nat.reduceAdd, Nat.reduceLeDiff, Nat.reduceEqDiff, Nat.reduceSub, Int.reduceLE, Int.reduceLT, Int.reduceEq, Int.reduceNe, Int.reduceNeg, Int.reduceAdd, Int.reduceSub, Int.reduceMul, Int.reduceToNat, Nat.le_refl, Nat.zero_le, Nat.zero_add, Int.zero_add, Int.add_zero, and_true, true_and, and_false, false_and, not_true_eq_false, not_false_eq_true, eq_self, ne_eq, true_implies, false_implies, implies_true, or_true, true_or, or_false, false_or, reduceCtorEq, Option.some.injEq, Sum.inl.injEq, exists_eq_left', exists_eq_left, zite]
      exact ⟨r4, fin⟩
    by_cases c : 1 ≤ n
    · have f1 := fb _ (ga c)
      simp only [↓rX8_digest_188, ↓rX8_digest_189, ↓rX8_digest_192, ↓rX8_digest_193, ↓rX8_digest_194, ↓rX8_digest_195, ↓rX8_digest_196, ↓rX8_digest_197, ↓rX8_digest_198, ↓rX8_digest_201, ↓rX8_digest_202, ↓rX8_digest_203, ↓rX8_digest_204, ↓rX8_digest_205, ↓rX8_digest_206, ↓reduceIte, ↓i_ofRow, zkeep_n, zkeep_i, zkeep_r, zkeep_l, zup_eq, zIR, zLR, List.length_cons, List.length_nil, Nat.reduceAdd, Nat.reduceLeDiff, Nat.reduceEqDiff, Nat.reduceSub, Int.reduceLE, Int.reduceLT, Int.reduceEq, Int.reduceNe, Int.reduceNeg, Int.reduceAdd, Int.reduceSub, Int.reduceMul, Int.reduceToNat, Nat.le_refl, Nat.zero_le, Nat.zero_add, Int.zero_add, Int.add_zero, and_true, true_and, and_false, false_and, not_true_eq_false, not_false_eq_true, eq_self, ne_eq, true_implies, false_implies, implies_true, or_true, true_or, or_false, false_or, reduceCtorEq, Option.some.injEq, Sum.inl.injEq, exists_eq_left', exists_eq_left, zite]
      repeat' (first | with_reducible apply And.intro | with_reducible intro _)
      all_goals first | omega | (exact f1)
    · have f1 := fb _ (hpl.1 (by omega)).symm
      simp only [↓rX8_digest_188, ↓rX8_digest_189, ↓rX8_digest_192, ↓rX8_digest_193, ↓rX8_digest_194, ↓rX8_digest_195, ↓rX8_digest_196, ↓rX8_digest_197, ↓rX8_digest_198, ↓rX8_digest_201, ↓rX8_digest_202, ↓rX8_digest_203, ↓rX8_digest_204, ↓rX8_digest_205, ↓rX8_digest_206, ↓reduceIte, ↓i_ofRow, zkeep_n, zkeep_i, zkeep_r, zkeep_l, zup_eq, zIR, zLR, List.length_cons, List.length_nil, Nat.reduceAdd, Nat.reduceLeDiff, Nat.reduceEqDiff, Nat.reduceSub, Int.reduceLE, Int.reduceLT, Int.reduceEq, Int.reduceNe, Int.reduceNeg, Int.reduceAdd, Int.reduceSub, Int.reduceMul, Int.reduceToNat, Nat.le_refl, Nat.zero_le, Nat.zero_add, Int.zero_add, Int.add_zero, and_true, true_and, and_false, false_and, not_true_eq_false, not_false_eq_true, eq_self, ne_eq, true_implies, false_implies, implies_true, or_true, true_or, or_false, false_or, reduceCtorEq, Option.some.injEq, Sum.inl.injEq, exists_eq_left', exists_eq_left, zite]
      repeat' (first | with_reducible apply And.intro | with_reducible intro _)
      all_goals first | omega | (exact f1)
  have D6 : ∀ s : Nat × zM, (s.1 ≤ 3 ∧ (YQ M s.2 ∧ RC S s.2)) → ∀ x7, uX8_digest R 148 [some (.inr (.inr 46)), some (.inr (.inl (fN (fun w h => 31 * h + aPusey S w) s.1 v5))), none, some (.inl (s.1 : Int)), x7] [] s.2 := by
    refine zind (fun s => 3 - s.1) ?_
    rintro ⟨i, N⟩ ⟨hi, hN⟩ ih x7
    simp only at hi hN ih
    have hRN := RM_yq h hN.1
    have n1 : N 46 2 = qn S 0 := hN.2.1
    have n2 : N 46 5 = qn S 1 := hN.2.2.1
    refine rX8_digest_148.mpr ?_
    by_cases he : i = 3
    · subst he
      rw [h6]
      have fin := fun x7 => tail N hN (some (.inl ((3 : Nat) : Int))) x7
      simp only [↓rX8_digest_149, ↓rX8_digest_150, ↓reduceIte, zkeep_n, zkeep_i, zkeep_r, zkeep_l, zup_eq, zIR, zLR, List.length_cons, List.length_nil, Nat.reduceAdd, Nat.reduceLeDiff, Nat.reduceEqDiff, Nat.reduceSub, Int.reduceLE, Int.reduceLT, Int.reduceEq, Int.reduceNe, Int.reduceNeg, Int.reduceAdd, Int.reduceSub, Int.reduceMul, Int.reduceToNat, Nat.le_refl, Nat.zero_le, Nat.zero_add, Int.zero_add, Int.add_zero, and_true, true_and, and_false, false_and, not_true_eq_false, not_false_eq_true, eq_self, ne_eq, true_implies, false_implies, implies_true, or_true, true_or, or_false, false_or, reduceCtorEq, Option.some.injEq, Sum.inl.injEq, exists_eq_left', exists_eq_left, n1, n2, zite]
      repeat' (first | with_reducible apply And.intro | with_reducible intro _)
      all_goals first | omega | (exact fin _)
    · have hi2 := hi
      have call : zcv (zv 8 tX8_puseyOf) [.inr (.inr 46), .inl (i : Int)] N (fun v N' => uX8_digest R 163 [some (.inr (.inr 46)), some (.inr (.inl (fN (fun w h => 31 * h + aPusey S w) i v5))), none, some (.inl (i : Int)), x7] [v, .inr (.inl (31 * fN (fun w h => 31 * h + aPusey S w) i v5))] N') := by
        refine s_puseyOf hW hRN (by omega) (fun N' g g2 => ?_)
        have nx := ih (i + 1, N') ⟨by simp only; omega, hN.1.trans g, g2⟩ (by simp only; omega) x7
        simp only [fN] at nx
        have rng := r_pusey hX i
        unfold zIR at rng
        simp only [↓rX8_digest_163, ↓rX8_digest_164, ↓rX8_digest_165, ↓rX8_digest_166, ↓rX8_digest_169, ↓reduceIte, zkeep_n, zkeep_i, zkeep_r, zkeep_l, zup_eq, zIR, zLR, List.length_cons, List.length_nil, Nat.reduceAdd, Nat.reduceLeDiff, Nat.reduceEqDiff, Nat.reduceSub, Int.reduceLE, Int.reduceLT, Int.reduceEq, Int.reduceNe, Int.reduceNeg, Int.reduceAdd, Int.reduceSub, Int.reduceMul, Int.reduceToNat, Nat.le_refl, Nat.zero_le, Nat.zero_add, Int.zero_add, Int.add_zero, and_true, true_and, and_false, false_and, not_true_eq_false, not_false_eq_true, eq_self, ne_eq, true_implies, false_implies, implies_true, or_true, true_or, or_false, false_or, reduceCtorEq, Option.some.injEq, Sum.inl.injEq, exists_eq_left', exists_eq_left, zite]
        repeat' (first | with_reducible apply And.intro | with_reducible intro _)
        all_goals first | omega | (exact nx)
      simp only [↓rX8_digest_149, ↓rX8_digest_150, ↓rX8_digest_153, ↓rX8_digest_156, ↓rX8_digest_157, ↓rX8_digest_158, ↓rX8_digest_159, ↓rX8_digest_160, ↓reduceIte, zkeep_n, zkeep_i, zkeep_r, zkeep_l, zup_eq, zIR, zLR, List.length_cons, List.length_nil, Nat.reduceAdd, Nat.reduceLeDiff, Nat.reduceEqDiff, Nat.reduceSub, Int.reduceLE, Int.reduceLT, Int.reduceEq, Int.reduceNe, Int.reduceNeg, Int.reduceAdd, Int.reduceSub, Int.reduceMul, Int.reduceToNat, Nat.le_refl, Nat.zero_le, Nat.zero_add, Int.zero_add, Int.add_zero, and_true, true_and, and_false, false_and, not_true_eq_false, not_false_eq_true, eq_self, ne_eq, true_implies, false_implies, implies_true, or_true, true_or, or_false, false_or, reduceCtorEq, Option.some.injEq, Sum.inl.injEq, exists_eq_left', exists_eq_left, n1, n2, zite]
      repeat' (first | with_reducible apply And.intro | with_reducible intro _)
      all_goals first | omega | (exact call)
  have D5 : ∀ s : Nat × zM, (s.1 ≤ 4 ∧ (YQ M s.2 ∧ RC S s.2)) → ∀ x7, uX8_digest R 128 [some (.inr (.inr 46)), some (.inr (.inl (fN (dQ S) s.1 v4))), none, some (.inl (s.1 : Int)), x7] [] s.2 := by
    refine zind (fun s => 4 - s.1) ?_
    rintro ⟨i, N⟩ ⟨hi, hN⟩ ih x7
    simp only at hi hN ih
    have hRN := RM_yq h hN.1
    have n1 : N 46 2 = qn S 0 := hN.2.1
    have n2 : N 46 5 = qn S 1 := hN.2.2.1
    refine rX8_digest_128.mpr ?_
    by_cases he : i = 4
    · subst he
      rw [h5]
      have fin := fun x7 => D6 (0, N) ⟨Nat.zero_le _, hN⟩ x7
      simp only [↓rX8_digest_129, ↓rX8_digest_130, ↓rX8_digest_146, ↓rX8_digest_147, ↓reduceIte, zkeep_n, zkeep_i, zkeep_r, zkeep_l, zup_eq, zIR, zLR, List.length_cons, List.length_nil, Nat.reduceAdd, Nat.reduceLeDiff, Nat.reduceEqDiff, Nat.reduceSub, Int.reduceLE, Int.reduceLT, Int.reduceEq, Int.reduceNe, Int.reduceNeg, Int.reduceAdd, Int.reduceSub, Int.reduceMul, Int.reduceToNat, Nat.le_refl, Nat.zero_le, Nat.zero_add, Int.zero_add, Int.add_zero, and_true, true_and, and_false, false_and, not_true_eq_false, not_false_eq_true, eq_self, ne_eq, true_implies, false_implies, implies_true, or_true, true_or, or_false, false_or, reduceCtorEq, Option.some.injEq, Sum.inl.injEq, exists_eq_left', exists_eq_left, n1, n2, zite]
      repeat' (first | with_reducible apply And.intro | with_reducible intro _)
      all_goals first | omega | (exact fin _)
    · have hi2 := hi
      have call : zcv (zv 8 tX8_questionDigest) [.inr (.inr 46), .inr (.inl (fN (dQ S) i v4)), .inl (i : Int)] N (fun v N' => uX8_digest R 139 [some (.inr (.inr 46)), some (.inr (.inl (fN (dQ S) i v4))), none, some (.inl (i : Int)), x7] [v] N') := by
        refine s_queD hW hRN hN.2 (by omega) (fun N' g g2 => ?_)
        have nx := ih (i + 1, N') ⟨by simp only; omega, hN.1.trans g, g2⟩ (by simp only; omega) x7
        simp only [fN] at nx
        simp only [↓rX8_digest_139, ↓rX8_digest_140, ↓rX8_digest_143, ↓reduceIte, zkeep_n, zkeep_i, zkeep_r, zkeep_l, zup_eq, zIR, zLR, List.length_cons, List.length_nil, Nat.reduceAdd, Nat.reduceLeDiff, Nat.reduceEqDiff, Nat.reduceSub, Int.reduceLE, Int.reduceLT, Int.reduceEq, Int.reduceNe, Int.reduceNeg, Int.reduceAdd, Int.reduceSub, Int.reduceMul, Int.reduceToNat, Nat.le_refl, Nat.zero_le, Nat.zero_add, Int.zero_add, Int.add_zero, and_true, true_and, and_false, false_and, not_true_eq_false, not_false_eq_true, eq_self, ne_eq, true_implies, false_implies, implies_true, or_true, true_or, or_false, false_or, reduceCtorEq, Option.some.injEq, Sum.inl.injEq, exists_eq_left', exists_eq_left, zite]
        repeat' (first | with_reducible apply And.intro | with_reducible intro _)
        all_goals first | omega | (exact nx)
      simp only [↓rX8_digest_129, ↓rX8_digest_130, ↓rX8_digest_133, ↓rX8_digest_134, ↓rX8_digest_135, ↓rX8_digest_136, ↓reduceIte, zkeep_n, zkeep_i, zkeep_r, zkeep_l, zup_eq, zIR, zLR, List.length_cons, List.length_nil, Nat.reduceAdd, Nat.reduceLeDiff, Nat.reduceEqDiff, Nat.reduceSub, Int.reduceLE, Int.reduceLT, Int.reduceEq, Int.reduceNe, Int.reduceNeg, Int.reduceAdd, Int.reduceSub, Int.reduceMul, Int.reduceToNat, Nat.le_refl, Nat.zero_le, Nat.zero_add, Int.zero_add, Int.add_zero, and_true, true_and, and_false, false_and, not_true_eq_false, not_false_eq_true, eq_self, ne_eq, true_implies, false_implies, implies_true, or_true, true_or, or_false, false_or, reduceCtorEq, Option.some.injEq, Sum.inl.injEq, exists_eq_left', exists_eq_left, n1, n2, zite]
      repeat' (first | with_reducible apply And.intro | with_reducible intro _)
      all_goals first | omega | (exact call)
  have D4 : ∀ s : Nat × zM, (s.1 ≤ (qk S) ∧ (YQ M s.2 ∧ RC S s.2)) → ∀ x7, uX8_digest R 105 [some (.inr (.inr 46)), some (.inr (.inl (fN (dM S) s.1 v3))), none, some (.inl (s.1 : Int)), x7] [] s.2 := by
    refine zind (fun s => (qk S) - s.1) ?_
    rintro ⟨i, N⟩ ⟨hi, hN⟩ ih x7
    simp only at hi hN ih
    have hRN := RM_yq h hN.1
    have n1 : N 46 2 = qn S 0 := hN.2.1
    have n2 : N 46 5 = qn S 1 := hN.2.2.1
    refine rX8_digest_105.mpr ?_
    by_cases he : i = (qk S)
    · subst he
      rw [h4]
      have fin := fun x7 => D5 (0, N) ⟨Nat.zero_le _, hN⟩ x7
      simp only [↓rX8_digest_106, ↓rX8_digest_107, ↓rX8_digest_110, ↓rX8_digest_126, ↓rX8_digest_127, ↓hg_fX8_127_46, ↓reduceIte, zkeep_n, zkeep_i, zkeep_r, zkeep_l, zup_eq, zIR, zLR, List.length_cons, List.length_nil, Nat.reduceAdd, Nat.reduceLeDiff, Nat.reduceEqDiff, Nat.reduceSub, Int.reduceLE, Int.reduceLT, Int.reduceEq, Int.reduceNe, Int.reduceNeg, Int.reduceAdd, Int.reduceSub, Int.reduceMul, Int.reduceToNat, Nat.le_refl, Nat.zero_le, Nat.zero_add, Int.zero_add, Int.add_zero, and_true, true_and, and_false, false_and, not_true_eq_false, not_false_eq_true, eq_self, ne_eq, true_implies, false_implies, implies_true, or_true, true_or, or_false, false_or, reduceCtorEq, Option.some.injEq, Sum.inl.injEq, exists_eq_left', exists_eq_left, n1, n2, zite]
      repeat' (first | with_reducible apply And.intro | with_reducible intro _)
      all_goals first | omega | (exact fin _)
    · have hi2 := hi
      have call : zcv (zv 8 tX8_memberDigest) [.inr (.inr 46), .inr (.inl (fN (dM S) i v3)), .inl (i : Int)] N (fun v N' => uX8_digest R 119 [some (.inr (.inr 46)), some (.inr (.inl (fN (dM S) i v3))), none, some (.inl (i : Int)), x7] [v] N') := by
        refine s_memD hW hRN hN.2 (by omega) (fun N' g g2 => ?_)
        have nx := ih (i + 1, N') ⟨by simp only; omega, hN.1.trans g, g2⟩ (by simp only; omega) x7
        simp only [fN] at nx
        simp only [↓rX8_digest_119, ↓rX8_digest_120, ↓rX8_digest_123, ↓reduceIte, zkeep_n, zkeep_i, zkeep_r, zkeep_l, zup_eq, zIR, zLR, List.length_cons, List.length_nil, Nat.reduceAdd, Nat.reduceLeDiff, Nat.reduceEqDiff, Nat.reduceSub, Int.reduceLE, Int.reduceLT, Int.reduceEq, Int.reduceNe, Int.reduceNeg, Int.reduceAdd, Int.reduceSub, Int.reduceMul, Int.reduceToNat, Nat.le_refl, Nat.zero_le, Nat.zero_add, Int.zero_add, Int.add_zero, and_true, true_and, and_false, false_and, not_true_eq_false, not_false_eq_true, eq_self, ne_eq, true_implies, false_implies, implies_true, or_true, true_or, or_false, false_or, reduceCtorEq, Option.some.injEq, Sum.inl.injEq, exists_eq_left', exists_eq_left, zite]
        repeat' (first | with_reducible apply And.intro | with_reducible intro _)
        all_goals first | omega | (exact nx)
      simp only [↓rX8_digest_106, ↓rX8_digest_107, ↓rX8_digest_110, ↓rX8_digest_113, ↓rX8_digest_114, ↓rX8_digest_115, ↓rX8_digest_116, ↓hg_fX8_127_46, ↓reduceIte, zkeep_n, zkeep_i, zkeep_r, zkeep_l, zup_eq, zIR, zLR, List.length_cons, List.length_nil, Nat.reduceAdd, Nat.reduceLeDiff, Nat.reduceEqDiff, Nat.reduceSub, Int.reduceLE, Int.reduceLT, Int.reduceEq, Int.reduceNe, Int.reduceNeg, Int.reduceAdd, Int.reduceSub, Int.reduceMul, Int.reduceToNat, Nat.le_refl, Nat.zero_le, Nat.zero_add, Int.zero_add, Int.add_zero, and_true, true_and, and_false, false_and, not_true_eq_false, not_false_eq_true, eq_self, ne_eq, true_implies, false_implies, implies_true, or_true, true_or, or_false, false_or, reduceCtorEq, Option.some.injEq, Sum.inl.injEq, exists_eq_left', exists_eq_left, n1, n2, zite]
      repeat' (first | with_reducible apply And.intro | with_reducible intro _)
      all_goals first | omega | (exact call)
  have D3 : ∀ s : Nat × zM, (s.1 ≤ ck S ∧ (YQ M s.2 ∧ RC S s.2)) → ∀ x7, uX8_digest R 59 [some (.inr (.inr 46)), some (.inr (.inl (fN (fun c h => fN (fun w h => 31 * h + aCow S c w) 5 h) s.1 v2))), none, some (.inl (s.1 : Int)), x7] [] s.2 := by
    refine zind (fun s => ck S - s.1) ?_
    rintro ⟨c, N⟩ ⟨hi, hN⟩ ih3 x7
    simp only at hi hN ih3
    have n2 : N 46 5 = qn S 1 := hN.2.2.1
    refine rX8_digest_59.mpr ?_
    by_cases he : c = ck S
    · subst he
      rw [h3]
      have fin := fun x7 => D4 (0, N) ⟨Nat.zero_le _, hN⟩ x7
      simp only [↓rX8_digest_60, ↓rX8_digest_61, ↓rX8_digest_64, ↓rX8_digest_103, ↓rX8_digest_104, ↓hg_fX8_131_46, ↓reduceIte, zkeep_n, zkeep_i, zkeep_r, zkeep_l, zup_eq, zIR, zLR, List.length_cons, List.length_nil, Nat.reduceAdd, Nat.reduceLeDiff, Nat.reduceEqDiff, Nat.reduceSub, Int.reduceLE, Int.reduceLT, Int.reduceEq, Int.reduceNe, Int.reduceNeg, Int.reduceAdd, Int.reduceSub, Int.reduceMul, Int.reduceToNat, Nat.le_refl, Nat.zero_le, Nat.zero_add, Int.zero_add, Int.add_zero, and_true, true_and, and_false, false_and, not_true_eq_false, not_false_eq_true, eq_self, ne_eq, true_implies, false_implies, implies_true, or_true, true_or, or_false, false_or, reduceCtorEq, Option.some.injEq, Sum.inl.injEq, exists_eq_left', exists_eq_left, n2, zite]
      repeat' (first | with_reducible apply And.intro | with_reducible intro _)
      all_goals first | omega | (exact fin _)
    · have nx3 := fun N' g => ih3 (c + 1, N') ⟨by simp only; omega, g⟩ (by simp only; omega)
      have ed : fN (fun c h => fN (fun w h => 31 * h + aCow S c w) 5 h) (c + 1) v2 = fN (fun w h => 31 * h + aCow S c w) 5 (fN (fun c h => fN (fun w h => 31 * h + aCow S c w) 5 h) c v2) := rfl
      simp only [ed] at nx3
      generalize fN (fun c h => fN (fun w h => 31 * h + aCow S c w) 5 h) c v2 = w2 at *
      have DA : ∀ s : Nat × zM, (s.1 ≤ 5 ∧ (YQ M s.2 ∧ RC S s.2)) → ∀ (_z : Nat), uX8_digest R 70 [some (.inr (.inr 46)), some (.inr (.inl (fN (fun w h => 31 * h + aCow S c w) s.1 w2))), none, some (.inl (c : Int)), some (.inl (s.1 : Int))] [] s.2 := by
        refine zind (fun s => 5 - s.1) ?_
        rintro ⟨i, N⟩ ⟨hi, hN⟩ ih _z
        simp only at hi hN ih
        have hRN := RM_yq h hN.1
        have n1 : N 46 2 = qn S 0 := hN.2.1
        have n2 : N 46 5 = qn S 1 := hN.2.2.1
        refine rX8_digest_70.mpr ?_
        by_cases he : i = 5
        · subst he
          have fin := nx3 N hN (some (.inl ((5 : Nat) : Int)))
          simp only [↓rX8_digest_72, ↓rX8_digest_73, ↓rX8_digest_97, ↓rX8_digest_100, ↓reduceIte, zkeep_n, zkeep_i, zkeep_r, zkeep_l, zup_eq, zIR, zLR, List.length_cons, List.length_nil, Nat.reduceAdd, Nat.reduceLeDiff, Nat.reduceEqDiff, Nat.reduceSub, Int.reduceLE, Int.reduceLT, Int.reduceEq, Int.reduceNe, Int.reduceNeg, Int.reduceAdd, Int.reduceSub, Int.reduceMul, Int.reduceToNat, Nat.le_refl, Nat.zero_le, Nat.zero_add, Int.zero_add, Int.add_zero, and_true, true_and, and_false, false_and, not_true_eq_false, not_false_eq_true, eq_self, ne_eq, true_implies, false_implies, implies_true, or_true, true_or, or_false, false_or, reduceCtorEq, Option.some.injEq, Sum.inl.injEq, exists_eq_left', exists_eq_left, n1, n2, zite]
          repeat' (first | with_reducible apply And.intro | with_reducible intro _)
          all_goals first | omega | (exact fin)
        · have hi2 := hi
          have call : zcv (zv 8 tX8_cowOf) [.inr (.inr 46), .inl (c : Int), .inl (i : Int)] N (fun v N' => uX8_digest R 88 [some (.inr (.inr 46)), some (.inr (.inl (fN (fun w h => 31 * h + aCow S c w) i w2))), none, some (.inl (c : Int)), some (.inl (i : Int))] [v, .inr (.inl (31 * fN (fun w h => 31 * h + aCow S c w) i w2))] N') := by
            refine s_cowOf hk.2.1.2 hN.2 (by omega) (by omega) ?_
            have nx := ih (i + 1, N) ⟨by simp only; omega, hN⟩ (by simp only; omega) 0
            simp only [fN] at nx
            have rng := r_cow hX c i
            unfold zIR at rng
            simp only [↓rX8_digest_88, ↓rX8_digest_89, ↓rX8_digest_90, ↓rX8_digest_91, ↓rX8_digest_94, ↓reduceIte, zkeep_n, zkeep_i, zkeep_r, zkeep_l, zup_eq, zIR, zLR, List.length_cons, List.length_nil, Nat.reduceAdd, Nat.reduceLeDiff, Nat.reduceEqDiff, Nat.reduceSub, Int.reduceLE, Int.reduceLT, Int.reduceEq, Int.reduceNe, Int.reduceNeg, Int.reduceAdd, Int.reduceSub, Int.reduceMul, Int.reduceToNat, Nat.le_refl, Nat.zero_le, Nat.zero_add, Int.zero_add, Int.add_zero, and_true, true_and, and_false, false_and, not_true_eq_false, not_false_eq_true, eq_self, ne_eq, true_implies, false_implies, implies_true, or_true, true_or, or_false, false_or, reduceCtorEq, Option.some.injEq, Sum.inl.injEq, exists_eq_left', exists_eq_left, zite]
            repeat' (first | with_reducible apply And.intro | with_reducible intro _)
            all_goals first | omega | (exact nx)
          simp only [↓rX8_digest_72, ↓rX8_digest_73, ↓rX8_digest_76, ↓rX8_digest_79, ↓rX8_digest_80, ↓rX8_digest_81, ↓rX8_digest_82, ↓rX8_digest_83, ↓rX8_digest_85, ↓reduceIte, zkeep_n, zkeep_i, zkeep_r, zkeep_l, zup_eq, zIR, zLR, List.length_cons, List.length_nil, Nat.reduceAdd, Nat.reduceLeDiff, Nat.reduceEqDiff, Nat.reduceSub, Int.reduceLE, Int.reduceLT, Int.reduceEq, Int.reduceNe, Int.reduceNeg, Int.reduceAdd, Int.reduceSub, Int.reduceMul, Int.reduceToNat, Nat.le_refl, Nat.zero_le, Nat.zero_add, Int.zero_add, Int.add_zero, and_true, true_and, and_false, false_and, not_true_eq_false, not_false_eq_true, eq_self, ne_eq, true_implies, false_implies, implies_true, or_true, true_or, or_false, false_or, reduceCtorEq, Option.some.injEq, Sum.inl.injEq, exists_eq_left', exists_eq_left, n1, n2, zite]
          repeat' (first | with_reducible apply And.intro | with_reducible intro _)
          all_goals first | omega | (exact call)
      have go := DA (0, N) ⟨Nat.zero_le _, hN⟩ 0
      simp only [↓rX8_digest_60, ↓rX8_digest_61, ↓rX8_digest_64, ↓rX8_digest_67, ↓rX8_digest_68, ↓hg_fX8_131_46, ↓reduceIte, zkeep_n, zkeep_i, zkeep_r, zkeep_l, zup_eq, zIR, zLR, List.length_cons, List.length_nil, Nat.reduceAdd, Nat.reduceLeDiff, Nat.reduceEqDiff, Nat.reduceSub, Int.reduceLE, Int.reduceLT, Int.reduceEq, Int.reduceNe, Int.reduceNeg, Int.reduceAdd, Int.reduceSub, Int.reduceMul, Int.reduceToNat, Nat.le_refl, Nat.zero_le, Nat.zero_add, Int.zero_add, Int.add_zero, and_true, true_and, and_false, false_and, not_true_eq_false, not_false_eq_true, eq_self, ne_eq, true_implies, false_implies, implies_true, or_true, true_or, or_false, false_or, reduceCtorEq, Option.some.injEq, Sum.inl.injEq, exists_eq_left', exists_eq_left, n2, zite]
      repeat' (first | with_reducible apply And.intro | with_reducible intro _)
      all_goals first | omega | (exact go)
  have e2 : v2 = 31 * (31 * v1 + qflaw S 0) + qflaw S 1 := by rw [← h2]; rfl
  have f0 := r_flaw hX 0 (by decide)
  have f1 := r_flaw hX 1 (by decide)
  have mid : ∀ N, YQ M N → ∀ x3 x7, uX8_digest R 31 [some (.inr (.inr 46)), some (.inr (.inl (v1))), none, x3, x7] [] N := by
    intro N hN x3 x7
    simp only [↓rX8_digest_31, ↓rX8_digest_34, ↓rX8_digest_35, ↓rX8_digest_36, ↓rX8_digest_37, ↓rX8_digest_38, ↓reduceIte, zkeep_n, zkeep_i, zkeep_r, zkeep_l, zup_eq, zIR, zLR, List.length_cons, List.length_nil, Nat.reduceAdd, Nat.reduceLeDiff, Nat.reduceEqDiff, Nat.reduceSub, Int.reduceLE, Int.reduceLT, Int.reduceEq, Int.reduceNe, Int.reduceNeg, Int.reduceAdd, Int.reduceSub, Int.reduceMul, Int.reduceToNat, Nat.le_refl, Nat.zero_le, Nat.zero_add, Int.zero_add, Int.add_zero, and_true, true_and, and_false, false_and, not_true_eq_false, not_false_eq_true, eq_self, ne_eq, true_implies, false_implies, implies_true, or_true, true_or, or_false, false_or, reduceCtorEq, Option.some.injEq, Sum.inl.injEq, exists_eq_left', exists_eq_left, zite]
    refine zcvv rfl (s_faultOf hW (RM_yq h hN) (Or.inl rfl) (fun N0 g0 _ => ⟨_, rfl, ?_⟩))
    rw [if_pos rfl]
    simp only [↓rX8_digest_41, ↓rX8_digest_42, ↓rX8_digest_43, ↓rX8_digest_44, ↓rX8_digest_47, ↓rX8_digest_48, ↓rX8_digest_49, ↓rX8_digest_50, ↓rX8_digest_51, ↓reduceIte, zkeep_n, zkeep_i, zkeep_r, zkeep_l, zup_eq, zIR, zLR, List.length_cons, List.length_nil, Nat.reduceAdd, Nat.reduceLeDiff, Nat.reduceEqDiff, Nat.reduceSub, Int.reduceLE, Int.reduceLT, Int.reduceEq, Int.reduceNe, Int.reduceNeg, Int.reduceAdd, Int.reduceSub, Int.reduceMul, Int.reduceToNat, Nat.le_refl, Nat.zero_le, Nat.zero_add, Int.zero_add, Int.add_zero, and_true, true_and, and_false, false_and, not_true_eq_false, not_false_eq_true, eq_self, ne_eq, true_implies, false_implies, implies_true, or_true, true_or, or_false, false_or, reduceCtorEq, Option.some.injEq, Sum.inl.injEq, exists_eq_left', exists_eq_left, zite]
    refine ⟨by omega, ?_⟩
    refine zcvv rfl (s_faultOf hW (RM_yq h (hN.trans g0.yq)) (Or.inr rfl) (fun N1 g1 rc => ⟨_, rfl, ?_⟩))
    rw [if_neg (by decide)]
    have fin := fun x7 => D3 (0, N1) ⟨Nat.zero_le _, (hN.trans g0.yq).trans g1.yq, rc⟩ x7
    simp only [fN] at fin
    rw [e2] at fin
    simp only [↓rX8_digest_54, ↓rX8_digest_55, ↓rX8_digest_56, ↓rX8_digest_57, ↓rX8_digest_58, ↓reduceIte, zkeep_n, zkeep_i, zkeep_r, zkeep_l, zup_eq, zIR, zLR, List.length_cons, List.length_nil, Nat.reduceAdd, Nat.reduceLeDiff, Nat.reduceEqDiff, Nat.reduceSub, Int.reduceLE, Int.reduceLT, Int.reduceEq, Int.reduceNe, Int.reduceNeg, Int.reduceAdd, Int.reduceSub, Int.reduceMul, Int.reduceToNat, Nat.le_refl, Nat.zero_le, Nat.zero_add, Int.zero_add, Int.add_zero, and_true, true_and, and_false, false_and, not_true_eq_false, not_false_eq_true, eq_self, ne_eq, true_implies, false_implies, implies_true, or_true, true_or, or_false, false_or, reduceCtorEq, Option.some.injEq, Sum.inl.injEq, exists_eq_left', exists_eq_left, zite]
    repeat' (first | with_reducible apply And.intro | with_reducible intro _)
    all_goals first | omega | (exact fin _)
  have D1 : ∀ s : Nat × zM, (s.1 ≤ 8 ∧ (YQ M s.2 ∧ True)) → ∀ x7, uX8_digest R 6 [some (.inr (.inr 46)), some (.inr (.inl (fN (fun w h => 31 * h + aCount S w) s.1 17))), none, some (.inl (s.1 : Int)), x7] [] s.2 := by
    refine zind (fun s => 8 - s.1) ?_
    rintro ⟨i, N⟩ ⟨hi, hN⟩ ih x7
    simp only at hi hN ih
    have hRN := RM_yq h hN.1
    refine rX8_digest_6.mpr ?_
    by_cases he : i = 8
    · subst he
      rw [h1]
      have fin := fun x7 => mid N hN.1 (some (.inl ((8 : Nat) : Int))) x7
      simp only [↓rX8_digest_7, ↓rX8_digest_9, ↓reduceIte, zkeep_n, zkeep_i, zkeep_r, zkeep_l, zup_eq, zIR, zLR, List.length_cons, List.length_nil, Nat.reduceAdd, Nat.reduceLeDiff, Nat.reduceEqDiff, Nat.reduceSub, Int.reduceLE, Int.reduceLT, Int.reduceEq, Int.reduceNe, Int.reduceNeg, Int.reduceAdd, Int.reduceSub, Int.reduceMul, Int.reduceToNat, Nat.le_refl, Nat.zero_le, Nat.zero_add, Int.zero_add, Int.add_zero, and_true, true_and, and_false, false_and, not_true_eq_false, not_false_eq_true, eq_self, ne_eq, true_implies, false_implies, implies_true, or_true, true_or, or_false, false_or, reduceCtorEq, Option.some.injEq, Sum.inl.injEq, exists_eq_left', exists_eq_left, zite]
      repeat' (first | with_reducible apply And.intro | with_reducible intro _)
      all_goals first | omega | (exact fin _)
    · have hi2 := hi
      have call : zcv (zv 8 tX8_count) [.inr (.inr 46), .inl (i : Int)] N (fun v N' => uX8_digest R 22 [some (.inr (.inr 46)), some (.inr (.inl (fN (fun w h => 31 * h + aCount S w) i 17))), none, some (.inl (i : Int)), x7] [v, .inr (.inl (31 * fN (fun w h => 31 * h + aCount S w) i 17))] N') := by
        refine zcvv rfl (y_count hW hRN (zsm (by omega)) (fun N' g => ⟨_, rfl, ?_⟩))
        have nx := ih (i + 1, N') ⟨by simp only; omega, hN.1.trans g, trivial⟩ (by simp only; omega) x7
        simp only [fN] at nx
        have rng := r_count hX i
        unfold zIR at rng
        simp only [↓rX8_digest_22, ↓rX8_digest_23, ↓rX8_digest_24, ↓rX8_digest_25, ↓rX8_digest_28, ↓reduceIte, zkeep_n, zkeep_i, zkeep_r, zkeep_l, zup_eq, zIR, zLR, List.length_cons, List.length_nil, Nat.reduceAdd, Nat.reduceLeDiff, Nat.reduceEqDiff, Nat.reduceSub, Int.reduceLE, Int.reduceLT, Int.reduceEq, Int.reduceNe, Int.reduceNeg, Int.reduceAdd, Int.reduceSub, Int.reduceMul, Int.reduceToNat, Nat.le_refl, Nat.zero_le, Nat.zero_add, Int.zero_add, Int.add_zero, and_true, true_and, and_false, false_and, not_true_eq_false, not_false_eq_true, eq_self, ne_eq, true_implies, false_implies, implies_true, or_true, true_or, or_false, false_or, reduceCtorEq, Option.some.injEq, Sum.inl.injEq, exists_eq_left', exists_eq_left, zite]
        repeat' (first | with_reducible apply And.intro | with_reducible intro _)
        all_goals first | omega | (exact nx)
      simp only [↓rX8_digest_7, ↓rX8_digest_9, ↓rX8_digest_12, ↓rX8_digest_15, ↓rX8_digest_16, ↓rX8_digest_17, ↓rX8_digest_18, ↓rX8_digest_19, ↓reduceIte, zkeep_n, zkeep_i, zkeep_r, zkeep_l, zup_eq, zIR, zLR, List.length_cons, List.length_nil, Nat.reduceAdd, Nat.reduceLeDiff, Nat.reduceEqDiff, Nat.reduceSub, Int.reduceLE, Int.reduceLT, Int.reduceEq, Int.reduceNe, Int.reduceNeg, Int.reduceAdd, Int.reduceSub, Int.reduceMul, Int.reduceToNat, Nat.le_refl, Nat.zero_le, Nat.zero_add, Int.zero_add, Int.add_zero, and_true, true_and, and_false, false_and, not_true_eq_false, not_false_eq_true, eq_self, ne_eq, true_implies, false_implies, implies_true, or_true, true_or, or_false, false_or, reduceCtorEq, Option.some.injEq, Sum.inl.injEq, exists_eq_left', exists_eq_left, zite]
      repeat' (first | with_reducible apply And.intro | with_reducible intro _)
      all_goals first | omega | (exact call)
  have go := fun x7 => D1 (0, M) ⟨Nat.zero_le _, YQ.rfl, trivial⟩ x7
  simp only [↓eX8_digest, ↓rX8_digest_0, ↓rX8_digest_3, ↓rX8_digest_4, ↓rX8_digest_5, ↓reduceIte, zkeep_n, zkeep_i, zkeep_r, zkeep_l, zup_eq, zIR, zLR, List.length_cons, List.length_nil, Nat.reduceAdd, Nat.reduceLeDiff, Nat.reduceEqDiff, Nat.reduceSub, Int.reduceLE, Int.reduceLT, Int.reduceEq, Int.reduceNe, Int.reduceNeg, Int.reduceAdd, Int.reduceSub, Int.reduceMul, Int.reduceToNat, Nat.le_refl, Nat.zero_le, Nat.zero_add, Int.zero_add, Int.add_zero, and_true, true_and, and_false, false_and, not_true_eq_false, not_false_eq_true, eq_self, ne_eq, true_implies, false_implies, implies_true, or_true, true_or, or_false, false_or, reduceCtorEq, Option.some.injEq, Sum.inl.injEq, exists_eq_left', exists_eq_left, zite]
  repeat' (first | with_reducible apply And.intro | with_reducible intro _)
  all_goals first | omega | (exact go _)
