abbrev gCopy (S : zM) (s i t j n : Int) : Prop := 0 ≤ i ∧ 0 ≤ j ∧ 0 ≤ n ∧ i + n ≤ S 14 s ∧ j + n ≤ S 14 t
def aCopy (S : zM) (s i t j n : Int) : Int := if (0 ≤ s ∧ s < 4) ∧ (0 ≤ t ∧ t < 4) then (if S 12 s = 0 ∨ S 12 t = 0 then -11 else if S 13 s ≠ S 13 t then -14 else if gCopy S s i t j n then 1 else -12) else -2
def nCopy (S : zM) (s i t j n : Int) : zM := fun k x => if k = 15 + t.toNat ∧ j ≤ x ∧ x < j + n then S (15 + s.toNat) (i + (x - j)) else S k x
def mCopy (S : zM) (s i t j n : Int) : zM := if (0 ≤ s ∧ s < 4) ∧ (0 ≤ t ∧ t < 4) then (if S 12 s = 0 ∨ S 12 t = 0 then zup S 19 0 1 else if S 13 s ≠ S 13 t then zup S 19 0 4 else if gCopy S s i t j n then nCopy S s i t j n else zup S 19 0 2) else S
theorem i_copyT {a b : Nat} {sp dp n : Int} {na nb : Nat} {M : zM} {f : zM → Prop} (h1 : zarr 0 a = some na) (h2 : zarr 0 b = some nb) (h3 : 0 ≤ sp ∧ 0 ≤ dp ∧ 0 ≤ n ∧ sp + n ≤ na ∧ dp + n ≤ nb) (h : f (zcpy M a sp b dp n)) : zcn zcopyT [.inr (.inr a), .inl sp, .inr (.inr b), .inl dp, .inl n] M f := zcns ⟨na, nb, h1, h2, h3, rfl, h⟩
set_option maxRecDepth 100000 in
set_option maxHeartbeats 4000000 in
theorem x_copy00 {S M : zM} {R : zP} {i j n : Int} (h : RX S M) (z1 : zIR i) (z2 : zIR j) (z3 : zIR n) (hR : ∀ M', RX (mCopy S 0 i 0 j n) M' → XF M M' → R (some (.inl (aCopy S 0 i 0 j n))) M') : tX7_copy [.inr (.inr 0), .inl 0, .inl i, .inl 0, .inl j, .inl n] M R := by
  unfold mCopy aCopy at hR
  have g0 : ((0 : Int) ≤ 0 ∧ (0 : Int) < 4) ∧ ((0 : Int) ≤ 0 ∧ (0 : Int) < 4) := by decide
  rw [if_pos g0, if_pos g0] at hR
  unfold zIR at z1 z2 z3
  obtain ⟨l1, l2, l3, l4⟩ := RX_L40 h
  obtain ⟨r1, r2, r3, r4⟩ := RX_L40 h
  by_cases e : S 12 0 = 0
  · have e1 := l2 e
    rw [if_pos (Or.inl e), if_pos (Or.inl e)] at hR
    have fin := hR _ (RX_find h (by decide)) XF_find
    simp only [↓eX7_copy, ↓rX7_copy_0, ↓rX7_copy_1, ↓rX7_copy_2, ↓rX7_copy_5, ↓rX7_copy_8, ↓rX7_copy_9, ↓rX7_copy_10, ↓rX7_copy_13, ↓rX7_copy_16, ↓rX7_copy_18, ↓rX7_copy_19, ↓rX7_copy_20, ↓rX7_copy_23, ↓rX7_copy_24, ↓rX7_copy_25, ↓rX7_copy_27, ↓rX7_copy_28, ↓rX7_copy_31, ↓rX7_copy_32, ↓rX7_copy_33, ↓rX7_copy_35, ↓rX7_copy_37, ↓rX7_copy_40, ↓rX7_copy_51, ↓rX7_copy_52, ↓rX7_copy_53, ↓rX7_copy_56, ↓hg_fX7_44_0, ↓hrow_22, ↓i_finding, ↓i_isLost38, ↓i_isLost40, ↓i_isLost42, ↓i_isLost44, ↓i_outside, ↓reduceIte, ↓hrw, ↓hgd0, ↓hgd1, ↓hgd2, ↓hgd3, zkeep_n, zkeep_i, zkeep_r, zkeep_l, zIR, zLR, List.length_cons, List.length_nil, Nat.reduceAdd, Nat.reduceLeDiff, Nat.reduceEqDiff, Nat.reduceSub, Int.reduceLE, Int.reduceLT, Int.reduceEq, Int.reduceNe, Int.reduceNeg, Int.reduceAdd, Int.reduceSub, Int.reduceMul, Int.reduceToNat, Nat.le_refl, Nat.zero_le, Nat.zero_add, Int.zero_add, Int.add_zero, and_true, true_and, and_false, false_and, not_true_eq_false, not_false_eq_true, eq_self, ne_eq, true_implies, false_implies, implies_true, or_true, true_or, or_false, false_or, reduceCtorEq, Option.some.injEq, Sum.inl.injEq, exists_eq_left', exists_eq_left, e1, zite]
    repeat' (first | with_reducible apply And.intro | with_reducible intro _)
    all_goals first | omega | (exact fin)
  · obtain ⟨l5, l6⟩ := l3 (by omega)
    have a1 := l5.1
    have a2 := l6.1
    by_cases e2 : S 12 0 = 0
    · have b1 := r2 e2
      rw [if_pos (Or.inr e2), if_pos (Or.inr e2)] at hR
      have fin := hR _ (RX_find h (by decide)) XF_find
      simp only [↓eX7_copy, ↓rX7_copy_0, ↓rX7_copy_1, ↓rX7_copy_2, ↓rX7_copy_5, ↓rX7_copy_8, ↓rX7_copy_9, ↓rX7_copy_10, ↓rX7_copy_13, ↓rX7_copy_16, ↓rX7_copy_18, ↓rX7_copy_19, ↓rX7_copy_20, ↓rX7_copy_23, ↓rX7_copy_24, ↓rX7_copy_25, ↓rX7_copy_27, ↓rX7_copy_28, ↓rX7_copy_31, ↓rX7_copy_32, ↓rX7_copy_33, ↓rX7_copy_35, ↓rX7_copy_37, ↓rX7_copy_40, ↓rX7_copy_43, ↓rX7_copy_45, ↓rX7_copy_48, ↓rX7_copy_51, ↓rX7_copy_52, ↓rX7_copy_53, ↓rX7_copy_56, ↓hg_fX7_44_0, ↓hrow_22, ↓i_finding, ↓i_isLost38, ↓i_isLost40, ↓i_isLost42, ↓i_isLost44, ↓i_outside, ↓reduceIte, ↓hrw, ↓hgd0, ↓hgd1, ↓hgd2, ↓hgd3, zkeep_n, zkeep_i, zkeep_r, zkeep_l, zIR, zLR, List.length_cons, List.length_nil, Nat.reduceAdd, Nat.reduceLeDiff, Nat.reduceEqDiff, Nat.reduceSub, Int.reduceLE, Int.reduceLT, Int.reduceEq, Int.reduceNe, Int.reduceNeg, Int.reduceAdd, Int.reduceSub, Int.reduceMul, Int.reduceToNat, Nat.le_refl, Nat.zero_le, Nat.zero_add, Int.zero_add, Int.add_zero, and_true, true_and, and_false, false_and, not_true_eq_false, not_false_eq_true, eq_self, ne_eq, true_implies, false_implies, implies_true, or_true, true_or, or_false, false_or, reduceCtorEq, Option.some.injEq, Sum.inl.injEq, exists_eq_left', exists_eq_left, a1, b1, zite]
      repeat' (first | with_reducible apply And.intro | with_reducible intro _)
      all_goals first | omega | (exact fin)
    · obtain ⟨r5, r6⟩ := r3 (by omega)
      have b1 := r5.1
      have b2 := r6.1
      have g1 : ¬ (S 12 0 = 0 ∨ S 12 0 = 0) := by omega
      rw [if_neg g1, if_neg g1] at hR
      have st : S 13 0 ≠ S 13 0 → R (some (.inl (-14))) (zup M 0 6 4) := fun q => by
        rw [if_pos q, if_pos q] at hR
        exact hR _ (RX_find h (by decide)) XF_find
      have no : S 13 0 = S 13 0 → ¬ gCopy S 0 i 0 j n → R (some (.inl (-12))) (zup M 0 6 2) := fun q q2 => by
        have q' : ¬ (S 13 0 ≠ S 13 0) := fun z => z q
        rw [if_neg q', if_neg q', if_neg q2, if_neg q2] at hR
        exact hR _ (RX_find h (by decide)) XF_find
      have yes : S 13 0 = S 13 0 → gCopy S 0 i 0 j n → zcn zcopyT [.inr (.inr 39), .inl i, .inr (.inr 39), .inl j, .inl n] M (fun M' => uX7_copy R 123 [some (.inr (.inr 0)), some (.inl 0), some (.inl i), some (.inl 0), some (.inl j), some (.inl n), some (.inr (.inr 38)), some (.inr (.inr 38))] [] M') := fun q q2 => by
        have q' : ¬ (S 13 0 ≠ S 13 0) := fun z => z q
        rw [if_neg q', if_neg q', if_pos q2, if_pos q2] at hR
        have en : ∀ x, nCopy S 0 i 0 j n 15 x = if j ≤ x ∧ x < j + n then S 15 (i + (x - j)) else S 15 x := fun x => by
          unfold nCopy
          by_cases c : j ≤ x ∧ x < j + n
          · rw [if_pos c, if_pos ⟨by decide, c⟩]; rfl
          · rw [if_neg c, if_neg (fun z => c z.2)]
        have eo : ∀ k x, k ≠ 15 → nCopy S 0 i 0 j n k x = S k x := fun k x hk => by
          unfold nCopy
          rw [if_neg (fun z => hk z.1)]
        refine i_copyT (na := 60) (nb := 60) rfl rfl (by omega) ?_
        have fin := hR (zcpy M 39 i 39 j n) (by
          refine RX_one0 h (fun k x hk => eo k x (by omega)) (fun k x h1 h2 h3 h4 h5 h6 => eo k x h1) (fun k x h1 h2 h3 => by unfold zcpy; rw [if_neg (fun z => h3 z.1)]) ?_
          have zo : ∀ x, zcpy M 39 i 39 j n 38 x = M 38 x := fun x => by unfold zcpy; rw [if_neg (fun z => absurd z.1 (by decide))]
          unfold L4
          rw [eo 12 _ (by decide), eo 13 _ (by decide), eo 14 _ (by decide), zo, zo]
          refine ⟨r1, r2, r3, fun x a b => ?_⟩
          rw [en]
          unfold zcpy
          by_cases c : j ≤ x ∧ x < j + n
          · rw [if_pos c, if_pos ⟨rfl, c⟩]
            exact l4 _ (by omega) (by omega)
          · rw [if_neg c, if_neg (fun z => c z.2)]
            exact r4 x a b) (fun k x hk => by unfold zcpy; rw [if_neg (fun z => by omega)])
        simp only [↓rX7_copy_123, ↓rX7_copy_124, ↓reduceIte, zkeep_n, zkeep_i, zkeep_r, zkeep_l, zup_eq, zIR, zLR, List.length_cons, List.length_nil, Nat.reduceAdd, Nat.reduceLeDiff, Nat.reduceEqDiff, Nat.reduceSub, Int.reduceLE, Int.reduceLT, Int.reduceEq, Int.reduceNe, Int.reduceNeg, Int.reduceAdd, Int.reduceSub, Int.reduceMul, Int.reduceToNat, Nat.le_refl, Nat.zero_le, Nat.zero_add, Int.zero_add, Int.add_zero, and_true, true_and, and_false, false_and, not_true_eq_false, not_false_eq_true, eq_self, ne_eq, true_implies, false_implies, implies_true, or_true, true_or, or_false, false_or, reduceCtorEq, Option.some.injEq, Sum.inl.injEq, exists_eq_left', exists_eq_left, zite]
        exact fin
      simp only [↓eX7_copy, ↓rX7_copy_0, ↓rX7_copy_1, ↓rX7_copy_2, ↓rX7_copy_5, ↓rX7_copy_8, ↓rX7_copy_9, ↓rX7_copy_10, ↓rX7_copy_13, ↓rX7_copy_16, ↓rX7_copy_18, ↓rX7_copy_19, ↓rX7_copy_20, ↓rX7_copy_23, ↓rX7_copy_24, ↓rX7_copy_25, ↓rX7_copy_27, ↓rX7_copy_28, ↓rX7_copy_31, ↓rX7_copy_32, ↓rX7_copy_33, ↓rX7_copy_35, ↓rX7_copy_37, ↓rX7_copy_40, ↓rX7_copy_43, ↓rX7_copy_45, ↓rX7_copy_48, ↓rX7_copy_51, ↓rX7_copy_52, ↓rX7_copy_53, ↓rX7_copy_56, ↓rX7_copy_57, ↓rX7_copy_59, ↓rX7_copy_62, ↓rX7_copy_64, ↓rX7_copy_67, ↓rX7_copy_70, ↓rX7_copy_71, ↓rX7_copy_72, ↓rX7_copy_75, ↓rX7_copy_76, ↓rX7_copy_78, ↓rX7_copy_79, ↓rX7_copy_81, ↓rX7_copy_84, ↓rX7_copy_87, ↓rX7_copy_89, ↓rX7_copy_91, ↓rX7_copy_93, ↓rX7_copy_96, ↓rX7_copy_99, ↓rX7_copy_100, ↓rX7_copy_101, ↓rX7_copy_104, ↓rX7_copy_105, ↓rX7_copy_107, ↓rX7_copy_110, ↓rX7_copy_111, ↓rX7_copy_113, ↓rX7_copy_116, ↓rX7_copy_118, ↓rX7_copy_120, ↓hg_fX7_137_38, ↓hg_fX7_137_40, ↓hg_fX7_137_42, ↓hg_fX7_137_44, ↓hg_fX7_299_38, ↓hg_fX7_299_40, ↓hg_fX7_299_42, ↓hg_fX7_299_44, ↓hg_fX7_44_0, ↓hrow_22, ↓i_finding, ↓i_hasRun38, ↓i_hasRun40, ↓i_hasRun42, ↓i_hasRun44, ↓i_isLost38, ↓i_isLost40, ↓i_isLost42, ↓i_isLost44, ↓i_outside, ↓reduceIte, ↓hrw, ↓hgd0, ↓hgd1, ↓hgd2, ↓hgd3, zkeep_n, zkeep_i, zkeep_r, zkeep_l, zIR, zLR, List.length_cons, List.length_nil, Nat.reduceAdd, Nat.reduceLeDiff, Nat.reduceEqDiff, Nat.reduceSub, Int.reduceLE, Int.reduceLT, Int.reduceEq, Int.reduceNe, Int.reduceNeg, Int.reduceAdd, Int.reduceSub, Int.reduceMul, Int.reduceToNat, Nat.le_refl, Nat.zero_le, Nat.zero_add, Int.zero_add, Int.add_zero, and_true, true_and, and_false, false_and, not_true_eq_false, not_false_eq_true, eq_self, ne_eq, true_implies, false_implies, implies_true, or_true, true_or, or_false, false_or, reduceCtorEq, Option.some.injEq, Sum.inl.injEq, exists_eq_left', exists_eq_left, a1, a2, b1, b2, zite]
      repeat' (first | with_reducible apply And.intro | with_reducible intro _)
      all_goals first | omega | (exact st (by omega)) | (exact no (by omega) (by omega)) | (exact yes (by omega) (by omega))
set_option maxRecDepth 100000 in
set_option maxHeartbeats 4000000 in
theorem x_copy01 {S M : zM} {R : zP} {i j n : Int} (h : RX S M) (z1 : zIR i) (z2 : zIR j) (z3 : zIR n) (hR : ∀ M', RX (mCopy S 0 i 1 j n) M' → XF M M' → R (some (.inl (aCopy S 0 i 1 j n))) M') : tX7_copy [.inr (.inr 0), .inl 0, .inl i, .inl 1, .inl j, .inl n] M R := by
  unfold mCopy aCopy at hR
  have g0 : ((0 : Int) ≤ 0 ∧ (0 : Int) < 4) ∧ ((0 : Int) ≤ 1 ∧ (1 : Int) < 4) := by decide
  rw [if_pos g0, if_pos g0] at hR
  unfold zIR at z1 z2 z3
  obtain ⟨l1, l2, l3, l4⟩ := RX_L40 h
  obtain ⟨r1, r2, r3, r4⟩ := RX_L41 h
  by_cases e : S 12 0 = 0
  · have e1 := l2 e
    rw [if_pos (Or.inl e), if_pos (Or.inl e)] at hR
    have fin := hR _ (RX_find h (by decide)) XF_find
    simp only [↓eX7_copy, ↓rX7_copy_0, ↓rX7_copy_1, ↓rX7_copy_2, ↓rX7_copy_5, ↓rX7_copy_8, ↓rX7_copy_9, ↓rX7_copy_10, ↓rX7_copy_13, ↓rX7_copy_16, ↓rX7_copy_18, ↓rX7_copy_19, ↓rX7_copy_20, ↓rX7_copy_23, ↓rX7_copy_24, ↓rX7_copy_25, ↓rX7_copy_27, ↓rX7_copy_28, ↓rX7_copy_31, ↓rX7_copy_32, ↓rX7_copy_33, ↓rX7_copy_35, ↓rX7_copy_37, ↓rX7_copy_40, ↓rX7_copy_51, ↓rX7_copy_52, ↓rX7_copy_53, ↓rX7_copy_56, ↓hg_fX7_44_0, ↓hrow_22, ↓i_finding, ↓i_isLost38, ↓i_isLost40, ↓i_isLost42, ↓i_isLost44, ↓i_outside, ↓reduceIte, ↓hrw, ↓hgd0, ↓hgd1, ↓hgd2, ↓hgd3, zkeep_n, zkeep_i, zkeep_r, zkeep_l, zIR, zLR, List.length_cons, List.length_nil, Nat.reduceAdd, Nat.reduceLeDiff, Nat.reduceEqDiff, Nat.reduceSub, Int.reduceLE, Int.reduceLT, Int.reduceEq, Int.reduceNe, Int.reduceNeg, Int.reduceAdd, Int.reduceSub, Int.reduceMul, Int.reduceToNat, Nat.le_refl, Nat.zero_le, Nat.zero_add, Int.zero_add, Int.add_zero, and_true, true_and, and_false, false_and, not_true_eq_false, not_false_eq_true, eq_self, ne_eq, true_implies, false_implies, implies_true, or_true, true_or, or_false, false_or, reduceCtorEq, Option.some.injEq, Sum.inl.injEq, exists_eq_left', exists_eq_left, e1, zite]
    repeat' (first | with_reducible apply And.intro | with_reducible intro _)
    all_goals first | omega | (exact fin)
  · obtain ⟨l5, l6⟩ := l3 (by omega)
    have a1 := l5.1
    have a2 := l6.1
    by_cases e2 : S 12 1 = 0
    · have b1 := r2 e2
      rw [if_pos (Or.inr e2), if_pos (Or.inr e2)] at hR
      have fin := hR _ (RX_find h (by decide)) XF_find
      simp only [↓eX7_copy, ↓rX7_copy_0, ↓rX7_copy_1, ↓rX7_copy_2, ↓rX7_copy_5, ↓rX7_copy_8, ↓rX7_copy_9, ↓rX7_copy_10, ↓rX7_copy_13, ↓rX7_copy_16, ↓rX7_copy_18, ↓rX7_copy_19, ↓rX7_copy_20, ↓rX7_copy_23, ↓rX7_copy_24, ↓rX7_copy_25, ↓rX7_copy_27, ↓rX7_copy_28, ↓rX7_copy_31, ↓rX7_copy_32, ↓rX7_copy_33, ↓rX7_copy_35, ↓rX7_copy_37, ↓rX7_copy_40, ↓rX7_copy_43, ↓rX7_copy_45, ↓rX7_copy_48, ↓rX7_copy_51, ↓rX7_copy_52, ↓rX7_copy_53, ↓rX7_copy_56, ↓hg_fX7_44_0, ↓hrow_22, ↓i_finding, ↓i_isLost38, ↓i_isLost40, ↓i_isLost42, ↓i_isLost44, ↓i_outside, ↓reduceIte, ↓hrw, ↓hgd0, ↓hgd1, ↓hgd2, ↓hgd3, zkeep_n, zkeep_i, zkeep_r, zkeep_l, zIR, zLR, List.length_cons, List.length_nil, Nat.reduceAdd, Nat.reduceLeDiff, Nat.reduceEqDiff, Nat.reduceSub, Int.reduceLE, Int.reduceLT, Int.reduceEq, Int.reduceNe, Int.reduceNeg, Int.reduceAdd, Int.reduceSub, Int.reduceMul, Int.reduceToNat, Nat.le_refl, Nat.zero_le, Nat.zero_add, Int.zero_add, Int.add_zero, and_true, true_and, and_false, false_and, not_true_eq_false, not_false_eq_true, eq_self, ne_eq, true_implies, false_implies, implies_true, or_true, true_or, or_false, false_or, reduceCtorEq, Option.some.injEq, Sum.inl.injEq, exists_eq_left', exists_eq_left, a1, b1, zite]
      repeat' (first | with_reducible apply And.intro | with_reducible intro _)
      all_goals first | omega | (exact fin)
    · obtain ⟨r5, r6⟩ := r3 (by omega)
      have b1 := r5.1
      have b2 := r6.1
      have g1 : ¬ (S 12 0 = 0 ∨ S 12 1 = 0) := by omega
      rw [if_neg g1, if_neg g1] at hR
      have st : S 13 0 ≠ S 13 1 → R (some (.inl (-14))) (zup M 0 6 4) := fun q => by
        rw [if_pos q, if_pos q] at hR
        exact hR _ (RX_find h (by decide)) XF_find
      have no : S 13 0 = S 13 1 → ¬ gCopy S 0 i 1 j n → R (some (.inl (-12))) (zup M 0 6 2) := fun q q2 => by
        have q' : ¬ (S 13 0 ≠ S 13 1) := fun z => z q
        rw [if_neg q', if_neg q', if_neg q2, if_neg q2] at hR
        exact hR _ (RX_find h (by decide)) XF_find
      have yes : S 13 0 = S 13 1 → gCopy S 0 i 1 j n → zcn zcopyT [.inr (.inr 39), .inl i, .inr (.inr 41), .inl j, .inl n] M (fun M' => uX7_copy R 123 [some (.inr (.inr 0)), some (.inl 0), some (.inl i), some (.inl 1), some (.inl j), some (.inl n), some (.inr (.inr 38)), some (.inr (.inr 40))] [] M') := fun q q2 => by
        have q' : ¬ (S 13 0 ≠ S 13 1) := fun z => z q
        rw [if_neg q', if_neg q', if_pos q2, if_pos q2] at hR
        have en : ∀ x, nCopy S 0 i 1 j n 16 x = if j ≤ x ∧ x < j + n then S 15 (i + (x - j)) else S 16 x := fun x => by
          unfold nCopy
          by_cases c : j ≤ x ∧ x < j + n
          · rw [if_pos c, if_pos ⟨by decide, c⟩]; rfl
          · rw [if_neg c, if_neg (fun z => c z.2)]
        have eo : ∀ k x, k ≠ 16 → nCopy S 0 i 1 j n k x = S k x := fun k x hk => by
          unfold nCopy
          rw [if_neg (fun z => hk z.1)]
        refine i_copyT (na := 60) (nb := 60) rfl rfl (by omega) ?_
        have fin := hR (zcpy M 39 i 41 j n) (by
          refine RX_one1 h (fun k x hk => eo k x (by omega)) (fun k x h1 h2 h3 h4 h5 h6 => eo k x h1) (fun k x h1 h2 h3 => by unfold zcpy; rw [if_neg (fun z => h3 z.1)]) ?_
          have zo : ∀ x, zcpy M 39 i 41 j n 40 x = M 40 x := fun x => by unfold zcpy; rw [if_neg (fun z => absurd z.1 (by decide))]
          unfold L4
          rw [eo 12 _ (by decide), eo 13 _ (by decide), eo 14 _ (by decide), zo, zo]
          refine ⟨r1, r2, r3, fun x a b => ?_⟩
          rw [en]
          unfold zcpy
          by_cases c : j ≤ x ∧ x < j + n
          · rw [if_pos c, if_pos ⟨rfl, c⟩]
            exact l4 _ (by omega) (by omega)
          · rw [if_neg c, if_neg (fun z => c z.2)]
            exact r4 x a b) (fun k x hk => by unfold zcpy; rw [if_neg (fun z => by omega)])
        simp only [↓rX7_copy_123, ↓rX7_copy_124, ↓reduceIte, zkeep_n, zkeep_i, zkeep_r, zkeep_l, zup_eq, zIR, zLR, List.length_cons, List.length_nil, Nat.reduceAdd, Nat.reduceLeDiff, Nat.reduceEqDiff, Nat.reduceSub, Int.reduceLE, Int.reduceLT, Int.reduceEq, Int.reduceNe, Int.reduceNeg, Int.reduceAdd, Int.reduceSub, Int.reduceMul, Int.reduceToNat, Nat.le_refl, Nat.zero_le, Nat.zero_add, Int.zero_add, Int.add_zero, and_true, true_and, and_false, false_and, not_true_eq_false, not_false_eq_true, eq_self, ne_eq, true_implies, false_implies, implies_true, or_true, true_or, or_false, false_or, reduceCtorEq, Option.some.injEq, Sum.inl.injEq, exists_eq_left', exists_eq_left, zite]
        exact fin
      simp only [↓eX7_copy, ↓rX7_copy_0, ↓rX7_copy_1, ↓rX7_copy_2, ↓rX7_copy_5, ↓rX7_copy_8, ↓rX7_copy_9, ↓rX7_copy_10, ↓rX7_copy_13, ↓rX7_copy_16, ↓rX7_copy_18, ↓rX7_copy_19, ↓rX7_copy_20, ↓rX7_copy_23, ↓rX7_copy_24, ↓rX7_copy_25, ↓rX7_copy_27, ↓rX7_copy_28, ↓rX7_copy_31, ↓rX7_copy_32, ↓rX7_copy_33, ↓rX7_copy_35, ↓rX7_copy_37, ↓rX7_copy_40, ↓rX7_copy_43, ↓rX7_copy_45, ↓rX7_copy_48, ↓rX7_copy_51, ↓rX7_copy_52, ↓rX7_copy_53, ↓rX7_copy_56, ↓rX7_copy_57, ↓rX7_copy_59, ↓rX7_copy_62, ↓rX7_copy_64, ↓rX7_copy_67, ↓rX7_copy_70, ↓rX7_copy_71, ↓rX7_copy_72, ↓rX7_copy_75, ↓rX7_copy_76, ↓rX7_copy_78, ↓rX7_copy_79, ↓rX7_copy_81, ↓rX7_copy_84, ↓rX7_copy_87, ↓rX7_copy_89, ↓rX7_copy_91, ↓rX7_copy_93, ↓rX7_copy_96, ↓rX7_copy_99, ↓rX7_copy_100, ↓rX7_copy_101, ↓rX7_copy_104, ↓rX7_copy_105, ↓rX7_copy_107, ↓rX7_copy_110, ↓rX7_copy_111, ↓rX7_copy_113, ↓rX7_copy_116, ↓rX7_copy_118, ↓rX7_copy_120, ↓hg_fX7_137_38, ↓hg_fX7_137_40, ↓hg_fX7_137_42, ↓hg_fX7_137_44, ↓hg_fX7_299_38, ↓hg_fX7_299_40, ↓hg_fX7_299_42, ↓hg_fX7_299_44, ↓hg_fX7_44_0, ↓hrow_22, ↓i_finding, ↓i_hasRun38, ↓i_hasRun40, ↓i_hasRun42, ↓i_hasRun44, ↓i_isLost38, ↓i_isLost40, ↓i_isLost42, ↓i_isLost44, ↓i_outside, ↓reduceIte, ↓hrw, ↓hgd0, ↓hgd1, ↓hgd2, ↓hgd3, zkeep_n, zkeep_i, zkeep_r, zkeep_l, zIR, zLR, List.length_cons, List.length_nil, Nat.reduceAdd, Nat.reduceLeDiff, Nat.reduceEqDiff, Nat.reduceSub, Int.reduceLE, Int.reduceLT, Int.reduceEq, Int.reduceNe, Int.reduceNeg, Int.reduceAdd, Int.reduceSub, Int.reduceMul, Int.reduceToNat, Nat.le_refl, Nat.zero_le, Nat.zero_add, Int.zero_add, Int.add_zero, and_true, true_and, and_false, false_and, not_true_eq_false, not_false_eq_true, eq_self, ne_eq, true_implies, false_implies, implies_true, or_true, true_or, or_false, false_or, reduceCtorEq, Option.some.injEq, Sum.inl.injEq, exists_eq_left', exists_eq_left, a1, a2, b1, b2, zite]
      repeat' (first | with_reducible apply And.intro | with_reducible intro _)
      all_goals first | omega | (exact st (by omega)) | (exact no (by omega) (by omega)) | (exact yes (by omega) (by omega))
set_option maxRecDepth 100000 in
set_option maxHeartbeats 4000000 in
theorem x_copy02 {S M : zM} {R : zP} {i j n : Int} (h : RX S M) (z1 : zIR i) (z2 : zIR j) (z3 : zIR n) (hR : ∀ M', RX (mCopy S 0 i 2 j n) M' → XF M M' → R (some (.inl (aCopy S 0 i 2 j n))) M') : tX7_copy [.inr (.inr 0), .inl 0, .inl i, .inl 2, .inl j, .inl n] M R := by
  unfold mCopy aCopy at hR
  have g0 : ((0 : Int) ≤ 0 ∧ (0 : Int) < 4) ∧ ((0 : Int) ≤ 2 ∧ (2 : Int) < 4) := by decide
  rw [if_pos g0, if_pos g0] at hR
  unfold zIR at z1 z2 z3
  obtain ⟨l1, l2, l3, l4⟩ := RX_L40 h
  obtain ⟨r1, r2, r3, r4⟩ := RX_L42 h
  by_cases e : S 12 0 = 0
  · have e1 := l2 e
    rw [if_pos (Or.inl e), if_pos (Or.inl e)] at hR
    have fin := hR _ (RX_find h (by decide)) XF_find
    simp only [↓eX7_copy, ↓rX7_copy_0, ↓rX7_copy_1, ↓rX7_copy_2, ↓rX7_copy_5, ↓rX7_copy_8, ↓rX7_copy_9, ↓rX7_copy_10, ↓rX7_copy_13, ↓rX7_copy_16, ↓rX7_copy_18, ↓rX7_copy_19, ↓rX7_copy_20, ↓rX7_copy_23, ↓rX7_copy_24, ↓rX7_copy_25, ↓rX7_copy_27, ↓rX7_copy_28, ↓rX7_copy_31, ↓rX7_copy_32, ↓rX7_copy_33, ↓rX7_copy_35, ↓rX7_copy_37, ↓rX7_copy_40, ↓rX7_copy_51, ↓rX7_copy_52, ↓rX7_copy_53, ↓rX7_copy_56, ↓hg_fX7_44_0, ↓hrow_22, ↓i_finding, ↓i_isLost38, ↓i_isLost40, ↓i_isLost42, ↓i_isLost44, ↓i_outside, ↓reduceIte, ↓hrw, ↓hgd0, ↓hgd1, ↓hgd2, ↓hgd3, zkeep_n, zkeep_i, zkeep_r, zkeep_l, zIR, zLR, List.length_cons, List.length_nil, Nat.reduceAdd, Nat.reduceLeDiff, Nat.reduceEqDiff, Nat.reduceSub, Int.reduceLE, Int.reduceLT, Int.reduceEq, Int.reduceNe, Int.reduceNeg, Int.reduceAdd, Int.reduceSub, Int.reduceMul, Int.reduceToNat, Nat.le_refl, Nat.zero_le, Nat.zero_add, Int.zero_add, Int.add_zero, and_true, true_and, and_false, false_and, not_true_eq_false, not_false_eq_true, eq_self, ne_eq, true_implies, false_implies, implies_true, or_true, true_or, or_false, false_or, reduceCtorEq, Option.some.injEq, Sum.inl.injEq, exists_eq_left', exists_eq_left, e1, zite]
    repeat' (first | with_reducible apply And.intro | with_reducible intro _)
    all_goals first | omega | (exact fin)
  · obtain ⟨l5, l6⟩ := l3 (by omega)
    have a1 := l5.1
    have a2 := l6.1
    by_cases e2 : S 12 2 = 0
    · have b1 := r2 e2
      rw [if_pos (Or.inr e2), if_pos (Or.inr e2)] at hR
      have fin := hR _ (RX_find h (by decide)) XF_find
      simp only [↓eX7_copy, ↓rX7_copy_0, ↓rX7_copy_1, ↓rX7_copy_2, ↓rX7_copy_5, ↓rX7_copy_8, ↓rX7_copy_9, ↓rX7_copy_10, ↓rX7_copy_13, ↓rX7_copy_16, ↓rX7_copy_18, ↓rX7_copy_19, ↓rX7_copy_20, ↓rX7_copy_23, ↓rX7_copy_24, ↓rX7_copy_25, ↓rX7_copy_27, ↓rX7_copy_28, ↓rX7_copy_31, ↓rX7_copy_32, ↓rX7_copy_33, ↓rX7_copy_35, ↓rX7_copy_37, ↓rX7_copy_40, ↓rX7_copy_43, ↓rX7_copy_45, ↓rX7_copy_48, ↓rX7_copy_51, ↓rX7_copy_52, ↓rX7_copy_53, ↓rX7_copy_56, ↓hg_fX7_44_0, ↓hrow_22, ↓i_finding, ↓i_isLost38, ↓i_isLost40, ↓i_isLost42, ↓i_isLost44, ↓i_outside, ↓reduceIte, ↓hrw, ↓hgd0, ↓hgd1, ↓hgd2, ↓hgd3, zkeep_n, zkeep_i, zkeep_r, zkeep_l, zIR, zLR, List.length_cons, List.length_nil, Nat.reduceAdd, Nat.reduceLeDiff, Nat.reduceEqDiff, Nat.reduceSub, Int.reduceLE, Int.reduceLT, Int.reduceEq, Int.reduceNe, Int.reduceNeg, Int.reduceAdd, Int.reduceSub, Int.reduceMul, Int.reduceToNat, Nat.le_refl, Nat.zero_le, Nat.zero_add, Int.zero_add, Int.add_zero, and_true, true_and, and_false, false_and, not_true_eq_false, not_false_eq_true, eq_self, ne_eq, true_implies, false_implies, implies_true, or_true, true_or, or_false, false_or, reduceCtorEq, Option.some.injEq, Sum.inl.injEq, exists_eq_left', exists_eq_left, a1, b1, zite]
      repeat' (first | with_reducible apply And.intro | with_reducible intro _)
      all_goals first | omega | (exact fin)
    · obtain ⟨r5, r6⟩ := r3 (by omega)
      have b1 := r5.1
      have b2 := r6.1
      have g1 : ¬ (S 12 0 = 0 ∨ S 12 2 = 0) := by omega
      rw [if_neg g1, if_neg g1] at hR
      have st : S 13 0 ≠ S 13 2 → R (some (.inl (-14))) (zup M 0 6 4) := fun q => by
        rw [if_pos q, if_pos q] at hR
        exact hR _ (RX_find h (by decide)) XF_find
      have no : S 13 0 = S 13 2 → ¬ gCopy S 0 i 2 j n → R (some (.inl (-12))) (zup M 0 6 2) := fun q q2 => by
        have q' : ¬ (S 13 0 ≠ S 13 2) := fun z => z q
        rw [if_neg q', if_neg q', if_neg q2, if_neg q2] at hR
        exact hR _ (RX_find h (by decide)) XF_find
      have yes : S 13 0 = S 13 2 → gCopy S 0 i 2 j n → zcn zcopyT [.inr (.inr 39), .inl i, .inr (.inr 43), .inl j, .inl n] M (fun M' => uX7_copy R 123 [some (.inr (.inr 0)), some (.inl 0), some (.inl i), some (.inl 2), some (.inl j), some (.inl n), some (.inr (.inr 38)), some (.inr (.inr 42))] [] M') := fun q q2 => by
        have q' : ¬ (S 13 0 ≠ S 13 2) := fun z => z q
        rw [if_neg q', if_neg q', if_pos q2, if_pos q2] at hR
        have en : ∀ x, nCopy S 0 i 2 j n 17 x = if j ≤ x ∧ x < j + n then S 15 (i + (x - j)) else S 17 x := fun x => by
          unfold nCopy
          by_cases c : j ≤ x ∧ x < j + n
          · rw [if_pos c, if_pos ⟨by decide, c⟩]; rfl
          · rw [if_neg c, if_neg (fun z => c z.2)]
        have eo : ∀ k x, k ≠ 17 → nCopy S 0 i 2 j n k x = S k x := fun k x hk => by
          unfold nCopy
          rw [if_neg (fun z => hk z.1)]
        refine i_copyT (na := 60) (nb := 60) rfl rfl (by omega) ?_
        have fin := hR (zcpy M 39 i 43 j n) (by
          refine RX_one2 h (fun k x hk => eo k x (by omega)) (fun k x h1 h2 h3 h4 h5 h6 => eo k x h1) (fun k x h1 h2 h3 => by unfold zcpy; rw [if_neg (fun z => h3 z.1)]) ?_
          have zo : ∀ x, zcpy M 39 i 43 j n 42 x = M 42 x := fun x => by unfold zcpy; rw [if_neg (fun z => absurd z.1 (by decide))]
          unfold L4
          rw [eo 12 _ (by decide), eo 13 _ (by decide), eo 14 _ (by decide), zo, zo]
          refine ⟨r1, r2, r3, fun x a b => ?_⟩
          rw [en]
          unfold zcpy
          by_cases c : j ≤ x ∧ x < j + n
          · rw [if_pos c, if_pos ⟨rfl, c⟩]
            exact l4 _ (by omega) (by omega)
          · rw [if_neg c, if_neg (fun z => c z.2)]
            exact r4 x a b) (fun k x hk => by unfold zcpy; rw [if_neg (fun z => by omega)])
        simp only [↓rX7_copy_123, ↓rX7_copy_124, ↓reduceIte, zkeep_n, zkeep_i, zkeep_r, zkeep_l, zup_eq, zIR, zLR, List.length_cons, List.length_nil, Nat.reduceAdd, Nat.reduceLeDiff, Nat.reduceEqDiff, Nat.reduceSub, Int.reduceLE, Int.reduceLT, Int.reduceEq, Int.reduceNe, Int.reduceNeg, Int.reduceAdd, Int.reduceSub, Int.reduceMul, Int.reduceToNat, Nat.le_refl, Nat.zero_le, Nat.zero_add, Int.zero_add, Int.add_zero, and_true, true_and, and_false, false_and, not_true_eq_false, not_false_eq_true, eq_self, ne_eq, true_implies, false_implies, implies_true, or_true, true_or, or_false, false_or, reduceCtorEq, Option.some.injEq, Sum.inl.injEq, exists_eq_left', exists_eq_left, zite]
        exact fin
      simp only [↓eX7_copy, ↓rX7_copy_0, ↓rX7_copy_1, ↓rX7_copy_2, ↓rX7_copy_5, ↓rX7_copy_8, ↓rX7_copy_9, ↓rX7_copy_10, ↓rX7_copy_13, ↓rX7_copy_16, ↓rX7_copy_18, ↓rX7_copy_19, ↓rX7_copy_20, ↓rX7_copy_23, ↓rX7_copy_24, ↓rX7_copy_25, ↓rX7_copy_27, ↓rX7_copy_28, ↓rX7_copy_31, ↓rX7_copy_32, ↓rX7_copy_33, ↓rX7_copy_35, ↓rX7_copy_37, ↓rX7_copy_40, ↓rX7_copy_43, ↓rX7_copy_45, ↓rX7_copy_48, ↓rX7_copy_51, ↓rX7_copy_52, ↓rX7_copy_53, ↓rX7_copy_56, ↓rX7_copy_57, ↓rX7_copy_59, ↓rX7_copy_62, ↓rX7_copy_64, ↓rX7_copy_67, ↓rX7_copy_70, ↓rX7_copy_71, ↓rX7_copy_72, ↓rX7_copy_75, ↓rX7_copy_76, ↓rX7_copy_78, ↓rX7_copy_79, ↓rX7_copy_81, ↓rX7_copy_84, ↓rX7_copy_87, ↓rX7_copy_89, ↓rX7_copy_91, ↓rX7_copy_93, ↓rX7_copy_96, ↓rX7_copy_99, ↓rX7_copy_100, ↓rX7_copy_101, ↓rX7_copy_104, ↓rX7_copy_105, ↓rX7_copy_107, ↓rX7_copy_110, ↓rX7_copy_111, ↓rX7_copy_113, ↓rX7_copy_116, ↓rX7_copy_118, ↓rX7_copy_120, ↓hg_fX7_137_38, ↓hg_fX7_137_40, ↓hg_fX7_137_42, ↓hg_fX7_137_44, ↓hg_fX7_299_38, ↓hg_fX7_299_40, ↓hg_fX7_299_42, ↓hg_fX7_299_44, ↓hg_fX7_44_0, ↓hrow_22, ↓i_finding, ↓i_hasRun38, ↓i_hasRun40, ↓i_hasRun42, ↓i_hasRun44, ↓i_isLost38, ↓i_isLost40, ↓i_isLost42, ↓i_isLost44, ↓i_outside, ↓reduceIte, ↓hrw, ↓hgd0, ↓hgd1, ↓hgd2, ↓hgd3, zkeep_n, zkeep_i, zkeep_r, zkeep_l, zIR, zLR, List.length_cons, List.length_nil, Nat.reduceAdd, Nat.reduceLeDiff, Nat.reduceEqDiff, Nat.reduceSub, Int.reduceLE, Int.reduceLT, Int.reduceEq, Int.reduceNe, Int.reduceNeg, Int.reduceAdd, Int.reduceSub, Int.reduceMul, Int.reduceToNat, Nat.le_refl, Nat.zero_le, Nat.zero_add, Int.zero_add, Int.add_zero, and_true, true_and, and_false, false_and, not_true_eq_false, not_false_eq_true, eq_self, ne_eq, true_implies, false_implies, implies_true, or_true, true_or, or_false, false_or, reduceCtorEq, Option.some.injEq, Sum.inl.injEq, exists_eq_left', exists_eq_left, a1, a2, b1, b2, zite]
      repeat' (first | with_reducible apply And.intro | with_reducible intro _)
      all_goals first | omega | (exact st (by omega)) | (exact no (by omega) (by omega)) | (exact yes (by omega) (by omega))
set_option maxRecDepth 100000 in
set_option maxHeartbeats 4000000 in
theorem x_copy03 {S M : zM} {R : zP} {i j n : Int} (h : RX S M) (z1 : zIR i) (z2 : zIR j) (z3 : zIR n) (hR : ∀ M', RX (mCopy S 0 i 3 j n) M' → XF M M' → R (some (.inl (aCopy S 0 i 3 j n))) M') : tX7_copy [.inr (.inr 0), .inl 0, .inl i, .inl 3, .inl j, .inl n] M R := by
  unfold mCopy aCopy at hR
  have g0 : ((0 : Int) ≤ 0 ∧ (0 : Int) < 4) ∧ ((0 : Int) ≤ 3 ∧ (3 : Int) < 4) := by decide
  rw [if_pos g0, if_pos g0] at hR
  unfold zIR at z1 z2 z3
  obtain ⟨l1, l2, l3, l4⟩ := RX_L40 h
  obtain ⟨r1, r2, r3, r4⟩ := RX_L43 h
  by_cases e : S 12 0 = 0
  · have e1 := l2 e
    rw [if_pos (Or.inl e), if_pos (Or.inl e)] at hR
    have fin := hR _ (RX_find h (by decide)) XF_find
    simp only [↓eX7_copy, ↓rX7_copy_0, ↓rX7_copy_1, ↓rX7_copy_2, ↓rX7_copy_5, ↓rX7_copy_8, ↓rX7_copy_9, ↓rX7_copy_10, ↓rX7_copy_13, ↓rX7_copy_16, ↓rX7_copy_18, ↓rX7_copy_19, ↓rX7_copy_20, ↓rX7_copy_23, ↓rX7_copy_24, ↓rX7_copy_25, ↓rX7_copy_27, ↓rX7_copy_28, ↓rX7_copy_31, ↓rX7_copy_32, ↓rX7_copy_33, ↓rX7_copy_35, ↓rX7_copy_37, ↓rX7_copy_40, ↓rX7_copy_51, ↓rX7_copy_52, ↓rX7_copy_53, ↓rX7_copy_56, ↓hg_fX7_44_0, ↓hrow_22, ↓i_finding, ↓i_isLost38, ↓i_isLost40, ↓i_isLost42, ↓i_isLost44, ↓i_outside, ↓reduceIte, ↓hrw, ↓hgd0, ↓hgd1, ↓hgd2, ↓hgd3, zkeep_n, zkeep_i, zkeep_r, zkeep_l, zIR, zLR, List.length_cons, List.length_nil, Nat.reduceAdd, Nat.reduceLeDiff, Nat.reduceEqDiff, Nat.reduceSub, Int.reduceLE, Int.reduceLT, Int.reduceEq, Int.reduceNe, Int.reduceNeg, Int.reduceAdd, Int.reduceSub, Int.reduceMul, Int.reduceToNat, Nat.le_refl, Nat.zero_le, Nat.zero_add, Int.zero_add, Int.add_zero, and_true, true_and, and_false, false_and, not_true_eq_false, not_false_eq_true, eq_self, ne_eq, true_implies, false_implies, implies_true, or_true, true_or, or_false, false_or, reduceCtorEq, Option.some.injEq, Sum.inl.injEq, exists_eq_left', exists_eq_left, e1, zite]
    repeat' (first | with_reducible apply And.intro | with_reducible intro _)
    all_goals first | omega | (exact fin)
  · obtain ⟨l5, l6⟩ := l3 (by omega)
    have a1 := l5.1
    have a2 := l6.1
    by_cases e2 : S 12 3 = 0
    · have b1 := r2 e2
      rw [if_pos (Or.inr e2), if_pos (Or.inr e2)] at hR
      have fin := hR _ (RX_find h (by decide)) XF_find
      simp only [↓eX7_copy, ↓rX7_copy_0, ↓rX7_copy_1, ↓rX7_copy_2, ↓rX7_copy_5, ↓rX7_copy_8, ↓rX7_copy_9, ↓rX7_copy_10, ↓rX7_copy_13, ↓rX7_copy_16, ↓rX7_copy_18, ↓rX7_copy_19, ↓rX7_copy_20, ↓rX7_copy_23, ↓rX7_copy_24, ↓rX7_copy_25, ↓rX7_copy_27, ↓rX7_copy_28, ↓rX7_copy_31, ↓rX7_copy_32, ↓rX7_copy_33, ↓rX7_copy_35, ↓rX7_copy_37, ↓rX7_copy_40, ↓rX7_copy_43, ↓rX7_copy_45, ↓rX7_copy_48, ↓rX7_copy_51, ↓rX7_copy_52, ↓rX7_copy_53, ↓rX7_copy_56, ↓hg_fX7_44_0, ↓hrow_22, ↓i_finding, ↓i_isLost38, ↓i_isLost40, ↓i_isLost42, ↓i_isLost44, ↓i_outside, ↓reduceIte, ↓hrw, ↓hgd0, ↓hgd1, ↓hgd2, ↓hgd3, zkeep_n, zkeep_i, zkeep_r, zkeep_l, zIR, zLR, List.length_cons, List.length_nil, Nat.reduceAdd, Nat.reduceLeDiff, Nat.reduceEqDiff, Nat.reduceSub, Int.reduceLE, Int.reduceLT, Int.reduceEq, Int.reduceNe, Int.reduceNeg, Int.reduceAdd, Int.reduceSub, Int.reduceMul, Int.reduceToNat, Nat.le_refl, Nat.zero_le, Nat.zero_add, Int.zero_add, Int.add_zero, and_true, true_and, and_false, false_and, not_true_eq_false, not_false_eq_true, eq_self, ne_eq, true_implies, false_implies, implies_true, or_true, true_or, or_false, false_or, reduceCtorEq, Option.some.injEq, Sum.inl.injEq, exists_eq_left', exists_eq_left, a1, b1, zite]
      repeat' (first | with_reducible apply And.intro | with_reducible intro _)
      all_goals first | omega | (exact fin)
    · obtain ⟨r5, r6⟩ := r3 (by omega)
      have b1 := r5.1
      have b2 := r6.1
      have g1 : ¬ (S 12 0 = 0 ∨ S 12 3 = 0) := by omega
      rw [if_neg g1, if_neg g1] at hR
      have st : S 13 0 ≠ S 13 3 → R (some (.inl (-14))) (zup M 0 6 4) := fun q => by
        rw [if_pos q, if_pos q] at hR
        exact hR _ (RX_find h (by decide)) XF_find
      have no : S 13 0 = S 13 3 → ¬ gCopy S 0 i 3 j n → R (some (.inl (-12))) (zup M 0 6 2) := fun q q2 => by
        have q' : ¬ (S 13 0 ≠ S 13 3) := fun z => z q
        rw [if_neg q', if_neg q', if_neg q2, if_neg q2] at hR
        exact hR _ (RX_find h (by decide)) XF_find
      have yes : S 13 0 = S 13 3 → gCopy S 0 i 3 j n → zcn zcopyT [.inr (.inr 39), .inl i, .inr (.inr 45), .inl j, .inl n] M (fun M' => uX7_copy R 123 [some (.inr (.inr 0)), some (.inl 0), some (.inl i), some (.inl 3), some (.inl j), some (.inl n), some (.inr (.inr 38)), some (.inr (.inr 44))] [] M') := fun q q2 => by
        have q' : ¬ (S 13 0 ≠ S 13 3) := fun z => z q
        rw [if_neg q', if_neg q', if_pos q2, if_pos q2] at hR
        have en : ∀ x, nCopy S 0 i 3 j n 18 x = if j ≤ x ∧ x < j + n then S 15 (i + (x - j)) else S 18 x := fun x => by
          unfold nCopy
          by_cases c : j ≤ x ∧ x < j + n
          · rw [if_pos c, if_pos ⟨by decide, c⟩]; rfl
          · rw [if_neg c, if_neg (fun z => c z.2)]
        have eo : ∀ k x, k ≠ 18 → nCopy S 0 i 3 j n k x = S k x := fun k x hk => by
          unfold nCopy
          rw [if_neg (fun z => hk z.1)]
        refine i_copyT (na := 60) (nb := 60) rfl rfl (by omega) ?_
        have fin := hR (zcpy M 39 i 45 j n) (by
          refine RX_one3 h (fun k x hk => eo k x (by omega)) (fun k x h1 h2 h3 h4 h5 h6 => eo k x h1) (fun k x h1 h2 h3 => by unfold zcpy; rw [if_neg (fun z => h3 z.1)]) ?_
          have zo : ∀ x, zcpy M 39 i 45 j n 44 x = M 44 x := fun x => by unfold zcpy; rw [if_neg (fun z => absurd z.1 (by decide))]
          unfold L4
          rw [eo 12 _ (by decide), eo 13 _ (by decide), eo 14 _ (by decide), zo, zo]
          refine ⟨r1, r2, r3, fun x a b => ?_⟩
          rw [en]
          unfold zcpy
          by_cases c : j ≤ x ∧ x < j + n
          · rw [if_pos c, if_pos ⟨rfl, c⟩]
            exact l4 _ (by omega) (by omega)
          · rw [if_neg c, if_neg (fun z => c z.2)]
            exact r4 x a b) (fun k x hk => by unfold zcpy; rw [if_neg (fun z => by omega)])
        simp only [↓rX7_copy_123, ↓rX7_copy_124, ↓reduceIte, zkeep_n, zkeep_i, zkeep_r, zkeep_l, zup_eq, zIR, zLR, List.length_cons, List.length_nil, Nat.reduceAdd, Nat.reduceLeDiff, Nat.reduceEqDiff, Nat.reduceSub, Int.reduceLE, Int.reduceLT, Int.reduceEq, Int.reduceNe, Int.reduceNeg, Int.reduceAdd, Int.reduceSub, Int.reduceMul, Int.reduceToNat, Nat.le_refl, Nat.zero_le, Nat.zero_add, Int.zero_add, Int.add_zero, and_true, true_and, and_false, false_and, not_true_eq_false, not_false_eq_true, eq_self, ne_eq, true_implies, false_implies, implies_true, or_true, true_or, or_false, false_or, reduceCtorEq, Option.some.injEq, Sum.inl.injEq, exists_eq_left', exists_eq_left, zite]
        exact fin
      simp only [↓eX7_copy, ↓rX7_copy_0, ↓rX7_copy_1, ↓rX7_copy_2, ↓rX7_copy_5, ↓rX7_copy_8, ↓rX7_copy_9, ↓rX7_copy_10, ↓rX7_copy_13, ↓rX7_copy_16, ↓rX7_copy_18, ↓rX7_copy_19, ↓rX7_copy_20, ↓rX7_copy_23, ↓rX7_copy_24, ↓rX7_copy_25, ↓rX7_copy_27, ↓rX7_copy_28, ↓rX7_copy_31, ↓rX7_copy_32, ↓rX7_copy_33, ↓rX7_copy_35, ↓rX7_copy_37, ↓rX7_copy_40, ↓rX7_copy_43, ↓rX7_copy_45, ↓rX7_copy_48, ↓rX7_copy_51, ↓rX7_copy_52, ↓rX7_copy_53, ↓rX7_copy_56, ↓rX7_copy_57, ↓rX7_copy_59, ↓rX7_copy_62, ↓rX7_copy_64, ↓rX7_copy_67, ↓rX7_copy_70, ↓rX7_copy_71, ↓rX7_copy_72, ↓rX7_copy_75, ↓rX7_copy_76, ↓rX7_copy_78, ↓rX7_copy_79, ↓rX7_copy_81, ↓rX7_copy_84, ↓rX7_copy_87, ↓rX7_copy_89, ↓rX7_copy_91, ↓rX7_copy_93, ↓rX7_copy_96, ↓rX7_copy_99, ↓rX7_copy_100, ↓rX7_copy_101, ↓rX7_copy_104, ↓rX7_copy_105, ↓rX7_copy_107, ↓rX7_copy_110, ↓rX7_copy_111, ↓rX7_copy_113, ↓rX7_copy_116, ↓rX7_copy_118, ↓rX7_copy_120, ↓hg_fX7_137_38, ↓hg_fX7_137_40, ↓hg_fX7_137_42, ↓hg_fX7_137_44, ↓hg_fX7_299_38, ↓hg_fX7_299_40, ↓hg_fX7_299_42, ↓hg_fX7_299_44, ↓hg_fX7_44_0, ↓hrow_22, ↓i_finding, ↓i_hasRun38, ↓i_hasRun40, ↓i_hasRun42, ↓i_hasRun44, ↓i_isLost38, ↓i_isLost40, ↓i_isLost42, ↓i_isLost44, ↓i_outside, ↓reduceIte, ↓hrw, ↓hgd0, ↓hgd1, ↓hgd2, ↓hgd3, zkeep_n, zkeep_i, zkeep_r, zkeep_l, zIR, zLR, List.length_cons, List.length_nil, Nat.reduceAdd, Nat.reduceLeDiff, Nat.reduceEqDiff, Nat.reduceSub, Int.reduceLE, Int.reduceLT, Int.reduceEq, Int.reduceNe, Int.reduceNeg, Int.reduceAdd, Int.reduceSub, Int.reduceMul, Int.reduceToNat, Nat.le_refl, Nat.zero_le, Nat.zero_add, Int.zero_add, Int.add_zero, and_true, true_and, and_false, false_and, not_true_eq_false, not_false_eq_true, eq_self, ne_eq, true_implies, false_implies, implies_true, or_true, true_or, or_false, false_or, reduceCtorEq, Option.some.injEq, Sum.inl.injEq, exists_eq_left', exists_eq_left, a1, a2, b1, b2, zite]
      repeat' (first | with_reducible apply And.intro | with_reducible intro _)
      all_goals first | omega | (exact st (by omega)) | (exact no (by omega) (by omega)) | (exact yes (by omega) (by omega))
set_option maxRecDepth 100000 in
set_option maxHeartbeats 4000000 in
theorem x_copy10 {S M : zM} {R : zP} {i j n : Int} (h : RX S M) (z1 : zIR i) (z2 : zIR j) (z3 : zIR n) (hR : ∀ M', RX (mCopy S 1 i 0 j n) M' → XF M M' → R (some (.inl (aCopy S 1 i 0 j n))) M') : tX7_copy [.inr (.inr 0), .inl 1, .inl i, .inl 0, .inl j, .inl n] M R := by
  unfold mCopy aCopy at hR
  have g0 : ((0 : Int) ≤ 1 ∧ (1 : Int) < 4) ∧ ((0 : Int) ≤ 0 ∧ (0 : Int) < 4) := by decide
  rw [if_pos g0, if_pos g0] at hR
  unfold zIR at z1 z2 z3
  obtain ⟨l1, l2, l3, l4⟩ := RX_L41 h
  obtain ⟨r1, r2, r3, r4⟩ := RX_L40 h
  by_cases e : S 12 1 = 0
  · have e1 := l2 e
    rw [if_pos (Or.inl e), if_pos (Or.inl e)] at hR
    have fin := hR _ (RX_find h (by decide)) XF_find
    simp only [↓eX7_copy, ↓rX7_copy_0, ↓rX7_copy_1, ↓rX7_copy_2, ↓rX7_copy_5, ↓rX7_copy_8, ↓rX7_copy_9, ↓rX7_copy_10, ↓rX7_copy_13, ↓rX7_copy_16, ↓rX7_copy_18, ↓rX7_copy_19, ↓rX7_copy_20, ↓rX7_copy_23, ↓rX7_copy_24, ↓rX7_copy_25, ↓rX7_copy_27, ↓rX7_copy_28, ↓rX7_copy_31, ↓rX7_copy_32, ↓rX7_copy_33, ↓rX7_copy_35, ↓rX7_copy_37, ↓rX7_copy_40, ↓rX7_copy_51, ↓rX7_copy_52, ↓rX7_copy_53, ↓rX7_copy_56, ↓hg_fX7_44_0, ↓hrow_22, ↓i_finding, ↓i_isLost38, ↓i_isLost40, ↓i_isLost42, ↓i_isLost44, ↓i_outside, ↓reduceIte, ↓hrw, ↓hgd0, ↓hgd1, ↓hgd2, ↓hgd3, zkeep_n, zkeep_i, zkeep_r, zkeep_l, zIR, zLR, List.length_cons, List.length_nil, Nat.reduceAdd, Nat.reduceLeDiff, Nat.reduceEqDiff, Nat.reduceSub, Int.reduceLE, Int.reduceLT, Int.reduceEq, Int.reduceNe, Int.reduceNeg, Int.reduceAdd, Int.reduceSub, Int.reduceMul, Int.reduceToNat, Nat.le_refl, Nat.zero_le, Nat.zero_add, Int.zero_add, Int.add_zero, and_true, true_and, and_false, false_and, not_true_eq_false, not_false_eq_true, eq_self, ne_eq, true_implies, false_implies, implies_true, or_true, true_or, or_false, false_or, reduceCtorEq, Option.some.injEq, Sum.inl.injEq, exists_eq_left', exists_eq_left, e1, zite]
    repeat' (first | with_reducible apply And.intro | with_reducible intro _)
    all_goals first | omega | (exact fin)
  · obtain ⟨l5, l6⟩ := l3 (by omega)
    have a1 := l5.1
    have a2 := l6.1
    by_cases e2 : S 12 0 = 0
    · have b1 := r2 e2
      rw [if_pos (Or.inr e2), if_pos (Or.inr e2)] at hR
      have fin := hR _ (RX_find h (by decide)) XF_find
      simp only [↓eX7_copy, ↓rX7_copy_0, ↓rX7_copy_1, ↓rX7_copy_2, ↓rX7_copy_5, ↓rX7_copy_8, ↓rX7_copy_9, ↓rX7_copy_10, ↓rX7_copy_13, ↓rX7_copy_16, ↓rX7_copy_18, ↓rX7_copy_19, ↓rX7_copy_20, ↓rX7_copy_23, ↓rX7_copy_24, ↓rX7_copy_25, ↓rX7_copy_27, ↓rX7_copy_28, ↓rX7_copy_31, ↓rX7_copy_32, ↓rX7_copy_33, ↓rX7_copy_35, ↓rX7_copy_37, ↓rX7_copy_40, ↓rX7_copy_43, ↓rX7_copy_45, ↓rX7_copy_48, ↓rX7_copy_51, ↓rX7_copy_52, ↓rX7_copy_53, ↓rX7_copy_56, ↓hg_fX7_44_0, ↓hrow_22, ↓i_finding, ↓i_isLost38, ↓i_isLost40, ↓i_isLost42, ↓i_isLost44, ↓i_outside, ↓reduceIte, ↓hrw, ↓hgd0, ↓hgd1, ↓hgd2, ↓hgd3, zkeep_n, zkeep_i, zkeep_r, zkeep_l, zIR, zLR, List.length_cons, List.length_nil, Nat.reduceAdd, Nat.reduceLeDiff, Nat.reduceEqDiff, Nat.reduceSub, Int.reduceLE, Int.reduceLT, Int.reduceEq, Int.reduceNe, Int.reduceNeg, Int.reduceAdd, Int.reduceSub, Int.reduceMul, Int.reduceToNat, Nat.le_refl, Nat.zero_le, Nat.zero_add, Int.zero_add, Int.add_zero, and_true, true_and, and_false, false_and, not_true_eq_false, not_false_eq_true, eq_self, ne_eq, true_implies, false_implies, implies_true, or_true, true_or, or_false, false_or, reduceCtorEq, Option.some.injEq, Sum.inl.injEq, exists_eq_left', exists_eq_left, a1, b1, zite]
      repeat' (first | with_reducible apply And.intro | with_reducible intro _)
      all_goals first | omega | (exact fin)
    · obtain ⟨r5, r6⟩ := r3 (by omega)
      have b1 := r5.1
      have b2 := r6.1
      have g1 : ¬ (S 12 1 = 0 ∨ S 12 0 = 0) := by omega
      rw [if_neg g1, if_neg g1] at hR
      have st : S 13 1 ≠ S 13 0 → R (some (.inl (-14))) (zup M 0 6 4) := fun q => by
        rw [if_pos q, if_pos q] at hR
        exact hR _ (RX_find h (by decide)) XF_find
      have no : S 13 1 = S 13 0 → ¬ gCopy S 1 i 0 j n → R (some (.inl (-12))) (zup M 0 6 2) := fun q q2 => by
        have q' : ¬ (S 13 1 ≠ S 13 0) := fun z => z q
        rw [if_neg q', if_neg q', if_neg q2, if_neg q2] at hR
        exact hR _ (RX_find h (by decide)) XF_find
      have yes : S 13 1 = S 13 0 → gCopy S 1 i 0 j n → zcn zcopyT [.inr (.inr 41), .inl i, .inr (.inr 39), .inl j, .inl n] M (fun M' => uX7_copy R 123 [some (.inr (.inr 0)), some (.inl 1), some (.inl i), some (.inl 0), some (.inl j), some (.inl n), some (.inr (.inr 40)), some (.inr (.inr 38))] [] M') := fun q q2 => by
        have q' : ¬ (S 13 1 ≠ S 13 0) := fun z => z q
        rw [if_neg q', if_neg q', if_pos q2, if_pos q2] at hR
        have en : ∀ x, nCopy S 1 i 0 j n 15 x = if j ≤ x ∧ x < j + n then S 16 (i + (x - j)) else S 15 x := fun x => by
          unfold nCopy
          by_cases c : j ≤ x ∧ x < j + n
          · rw [if_pos c, if_pos ⟨by decide, c⟩]; rfl
          · rw [if_neg c, if_neg (fun z => c z.2)]
        have eo : ∀ k x, k ≠ 15 → nCopy S 1 i 0 j n k x = S k x := fun k x hk => by
          unfold nCopy
          rw [if_neg (fun z => hk z.1)]
        refine i_copyT (na := 60) (nb := 60) rfl rfl (by omega) ?_
        have fin := hR (zcpy M 41 i 39 j n) (by
          refine RX_one0 h (fun k x hk => eo k x (by omega)) (fun k x h1 h2 h3 h4 h5 h6 => eo k x h1) (fun k x h1 h2 h3 => by unfold zcpy; rw [if_neg (fun z => h3 z.1)]) ?_
          have zo : ∀ x, zcpy M 41 i 39 j n 38 x = M 38 x := fun x => by unfold zcpy; rw [if_neg (fun z => absurd z.1 (by decide))]
          unfold L4
          rw [eo 12 _ (by decide), eo 13 _ (by decide), eo 14 _ (by decide), zo, zo]
          refine ⟨r1, r2, r3, fun x a b => ?_⟩
          rw [en]
          unfold zcpy
          by_cases c : j ≤ x ∧ x < j + n
          · rw [if_pos c, if_pos ⟨rfl, c⟩]
            exact l4 _ (by omega) (by omega)
          · rw [if_neg c, if_neg (fun z => c z.2)]
            exact r4 x a b) (fun k x hk => by unfold zcpy; rw [if_neg (fun z => by omega)])
        simp only [↓rX7_copy_123, ↓rX7_copy_124, ↓reduceIte, zkeep_n, zkeep_i, zkeep_r, zkeep_l, zup_eq, zIR, zLR, List.length_cons, List.length_nil, Nat.reduceAdd, Nat.reduceLeDiff, Nat.reduceEqDiff, Nat.reduceSub, Int.reduceLE, Int.reduceLT, Int.reduceEq, Int.reduceNe, Int.reduceNeg, Int.reduceAdd, Int.reduceSub, Int.reduceMul, Int.reduceToNat, Nat.le_refl, Nat.zero_le, Nat.zero_add, Int.zero_add, Int.add_zero, and_true, true_and, and_false, false_and, not_true_eq_false, not_false_eq_true, eq_self, ne_eq, true_implies, false_implies, implies_true, or_true, true_or, or_false, false_or, reduceCtorEq, Option.some.injEq, Sum.inl.injEq, exists_eq_left', exists_eq_left, zite]
        exact fin
      simp only [↓eX7_copy, ↓rX7_copy_0, ↓rX7_copy_1, ↓rX7_copy_2, ↓rX7_copy_5, ↓rX7_copy_8, ↓rX7_copy_9, ↓rX7_copy_10, ↓rX7_copy_13, ↓rX7_copy_16, ↓rX7_copy_18, ↓rX7_copy_19, ↓rX7_copy_20, ↓rX7_copy_23, ↓rX7_copy_24, ↓rX7_copy_25, ↓rX7_copy_27, ↓rX7_copy_28, ↓rX7_copy_31, ↓rX7_copy_32, ↓rX7_copy_33, ↓rX7_copy_35, ↓rX7_copy_37, ↓rX7_copy_40, ↓rX7_copy_43, ↓rX7_copy_45, ↓rX7_copy_48, ↓rX7_copy_51, ↓rX7_copy_52, ↓rX7_copy_53, ↓rX7_copy_56, ↓rX7_copy_57, ↓rX7_copy_59, ↓rX7_copy_62, ↓rX7_copy_64, ↓rX7_copy_67, ↓rX7_copy_70, ↓rX7_copy_71, ↓rX7_copy_72, ↓rX7_copy_75, ↓rX7_copy_76, ↓rX7_copy_78, ↓rX7_copy_79, ↓rX7_copy_81, ↓rX7_copy_84, ↓rX7_copy_87, ↓rX7_copy_89, ↓rX7_copy_91, ↓rX7_copy_93, ↓rX7_copy_96, ↓rX7_copy_99, ↓rX7_copy_100, ↓rX7_copy_101, ↓rX7_copy_104, ↓rX7_copy_105, ↓rX7_copy_107, ↓rX7_copy_110, ↓rX7_copy_111, ↓rX7_copy_113, ↓rX7_copy_116, ↓rX7_copy_118, ↓rX7_copy_120, ↓hg_fX7_137_38, ↓hg_fX7_137_40, ↓hg_fX7_137_42, ↓hg_fX7_137_44, ↓hg_fX7_299_38, ↓hg_fX7_299_40, ↓hg_fX7_299_42, ↓hg_fX7_299_44, ↓hg_fX7_44_0, ↓hrow_22, ↓i_finding, ↓i_hasRun38, ↓i_hasRun40, ↓i_hasRun42, ↓i_hasRun44, ↓i_isLost38, ↓i_isLost40, ↓i_isLost42, ↓i_isLost44, ↓i_outside, ↓reduceIte, ↓hrw, ↓hgd0, ↓hgd1, ↓hgd2, ↓hgd3, zkeep_n, zkeep_i, zkeep_r, zkeep_l, zIR, zLR, List.length_cons, List.length_nil, Nat.reduceAdd, Nat.reduceLeDiff, Nat.reduceEqDiff, Nat.reduceSub, Int.reduceLE, Int.reduceLT, Int.reduceEq, Int.reduceNe, Int.reduceNeg, Int.reduceAdd, Int.reduceSub, Int.reduceMul, Int.reduceToNat, Nat.le_refl, Nat.zero_le, Nat.zero_add, Int.zero_add, Int.add_zero, and_true, true_and, and_false, false_and, not_true_eq_false, not_false_eq_true, eq_self, ne_eq, true_implies, false_implies, implies_true, or_true, true_or, or_false, false_or, reduceCtorEq, Option.some.injEq, Sum.inl.injEq, exists_eq_left', exists_eq_left, a1, a2, b1, b2, zite]
      repeat' (first | with_reducible apply And.intro | with_reducible intro _)
      all_goals first | omega | (exact st (by omega)) | (exact no (by omega) (by omega)) | (exact yes (by omega) (by omega))
set_option maxRecDepth 100000 in
set_option maxHeartbeats 4000000 in
theorem x_copy11 {S M : zM} {R : zP} {i j n : Int} (h : RX S M) (z1 : zIR i) (z2 : zIR j) (z3 : zIR n) (hR : ∀ M', RX (mCopy S 1 i 1 j n) M' → XF M M' → R (some (.inl (aCopy S 1 i 1 j n))) M') : tX7_copy [.inr (.inr 0), .inl 1, .inl i, .inl 1, .inl j, .inl n] M R := by
  unfold mCopy aCopy at hR
  have g0 : ((0 : Int) ≤ 1 ∧ (1 : Int) < 4) ∧ ((0 : Int) ≤ 1 ∧ (1 : Int) < 4) := by decide
  rw [if_pos g0, if_pos g0] at hR
  unfold zIR at z1 z2 z3
  obtain ⟨l1, l2, l3, l4⟩ := RX_L41 h
  obtain ⟨r1, r2, r3, r4⟩ := RX_L41 h
  by_cases e : S 12 1 = 0
  · have e1 := l2 e
    rw [if_pos (Or.inl e), if_pos (Or.inl e)] at hR
    have fin := hR _ (RX_find h (by decide)) XF_find
    simp only [↓eX7_copy, ↓rX7_copy_0, ↓rX7_copy_1, ↓rX7_copy_2, ↓rX7_copy_5, ↓rX7_copy_8, ↓rX7_copy_9, ↓rX7_copy_10, ↓rX7_copy_13, ↓rX7_copy_16, ↓rX7_copy_18, ↓rX7_copy_19, ↓rX7_copy_20, ↓rX7_copy_23, ↓rX7_copy_24, ↓rX7_copy_25, ↓rX7_copy_27, ↓rX7_copy_28, ↓rX7_copy_31, ↓rX7_copy_32, ↓rX7_copy_33, ↓rX7_copy_35, ↓rX7_copy_37, ↓rX7_copy_40, ↓rX7_copy_51, ↓rX7_copy_52, ↓rX7_copy_53, ↓rX7_copy_56, ↓hg_fX7_44_0, ↓hrow_22, ↓i_finding, ↓i_isLost38, ↓i_isLost40, ↓i_isLost42, ↓i_isLost44, ↓i_outside, ↓reduceIte, ↓hrw, ↓hgd0, ↓hgd1, ↓hgd2, ↓hgd3, zkeep_n, zkeep_i, zkeep_r, zkeep_l, zIR, zLR, List.length_cons, List.length_nil, Nat.reduceAdd, Nat.reduceLeDiff, Nat.reduceEqDiff, Nat.reduceSub, Int.reduceLE, Int.reduceLT, Int.reduceEq, Int.reduceNe, Int.reduceNeg, Int.reduceAdd, Int.reduceSub, Int.reduceMul, Int.reduceToNat, Nat.le_refl, Nat.zero_le, Nat.zero_add, Int.zero_add, Int.add_zero, and_true, true_and, and_false, false_and, not_true_eq_false, not_false_eq_true, eq_self, ne_eq, true_implies, false_implies, implies_true, or_true, true_or, or_false, false_or, reduceCtorEq, Option.some.injEq, Sum.inl.injEq, exists_eq_left', exists_eq_left, e1, zite]
    repeat' (first | with_reducible apply And.intro | with_reducible intro _)
    all_goals first | omega | (exact fin)
  · obtain ⟨l5, l6⟩ := l3 (by omega)
    have a1 := l5.1
    have a2 := l6.1
    by_cases e2 : S 12 1 = 0
    · have b1 := r2 e2
      rw [if_pos (Or.inr e2), if_pos (Or.inr e2)] at hR
      have fin := hR _ (RX_find h (by decide)) XF_find
      simp only [↓eX7_copy, ↓rX7_copy_0, ↓rX7_copy_1, ↓rX7_copy_2, ↓rX7_copy_5, ↓rX7_copy_8, ↓rX7_copy_9, ↓rX7_copy_10, ↓rX7_copy_13, ↓rX7_copy_16, ↓rX7_copy_18, ↓rX7_copy_19, ↓rX7_copy_20, ↓rX7_copy_23, ↓rX7_copy_24, ↓rX7_copy_25, ↓rX7_copy_27, ↓rX7_copy_28, ↓rX7_copy_31, ↓rX7_copy_32, ↓rX7_copy_33, ↓rX7_copy_35, ↓rX7_copy_37, ↓rX7_copy_40, ↓rX7_copy_43, ↓rX7_copy_45, ↓rX7_copy_48, ↓rX7_copy_51, ↓rX7_copy_52, ↓rX7_copy_53, ↓rX7_copy_56, ↓hg_fX7_44_0, ↓hrow_22, ↓i_finding, ↓i_isLost38, ↓i_isLost40, ↓i_isLost42, ↓i_isLost44, ↓i_outside, ↓reduceIte, ↓hrw, ↓hgd0, ↓hgd1, ↓hgd2, ↓hgd3, zkeep_n, zkeep_i, zkeep_r, zkeep_l, zIR, zLR, List.length_cons, List.length_nil, Nat.reduceAdd, Nat.reduceLeDiff, Nat.reduceEqDiff, Nat.reduceSub, Int.reduceLE, Int.reduceLT, Int.reduceEq, Int.reduceNe, Int.reduceNeg, Int.reduceAdd, Int.reduceSub, Int.reduceMul, Int.reduceToNat, Nat.le_refl, Nat.zero_le, Nat.zero_add, Int.zero_add, Int.add_zero, and_true, true_and, and_false, false_and, not_true_eq_false, not_false_eq_true, eq_self, ne_eq, true_implies, false_implies, implies_true, or_true, true_or, or_false, false_or, reduceCtorEq, Option.some.injEq, Sum.inl.injEq, exists_eq_left', exists_eq_left, a1, b1, zite]
      repeat' (first | with_reducible apply And.intro | with_reducible intro _)
      all_goals first | omega | (exact fin)
    · obtain ⟨r5, r6⟩ := r3 (by omega)
      have b1 := r5.1
      have b2 := r6.1
      have g1 : ¬ (S 12 1 = 0 ∨ S 12 1 = 0) := by omega
      rw [if_neg g1, if_neg g1] at hR
      have st : S 13 1 ≠ S 13 1 → R (some (.inl (-14))) (zup M 0 6 4) := fun q => by
        rw [if_pos q, if_pos q] at hR
        exact hR _ (RX_find h (by decide)) XF_find
      have no : S 13 1 = S 13 1 → ¬ gCopy S 1 i 1 j n → R (some (.inl (-12))) (zup M 0 6 2) := fun q q2 => by
        have q' : ¬ (S 13 1 ≠ S 13 1) := fun z => z q
        rw [if_neg q', if_neg q', if_neg q2, if_neg q2] at hR
        exact hR _ (RX_find h (by decide)) XF_find
      have yes : S 13 1 = S 13 1 → gCopy S 1 i 1 j n → zcn zcopyT [.inr (.inr 41), .inl i, .inr (.inr 41), .inl j, .inl n] M (fun M' => uX7_copy R 123 [some (.inr (.inr 0)), some (.inl 1), some (.inl i), some (.inl 1), some (.inl j), some (.inl n), some (.inr (.inr 40)), some (.inr (.inr 40))] [] M') := fun q q2 => by
        have q' : ¬ (S 13 1 ≠ S 13 1) := fun z => z q
        rw [if_neg q', if_neg q', if_pos q2, if_pos q2] at hR
        have en : ∀ x, nCopy S 1 i 1 j n 16 x = if j ≤ x ∧ x < j + n then S 16 (i + (x - j)) else S 16 x := fun x => by
          unfold nCopy
          by_cases c : j ≤ x ∧ x < j + n
          · rw [if_pos c, if_pos ⟨by decide, c⟩]; rfl
          · rw [if_neg c, if_neg (fun z => c z.2)]
        have eo : ∀ k x, k ≠ 16 → nCopy S 1 i 1 j n k x = S k x := fun k x hk => by
          unfold nCopy
          rw [if_neg (fun z => hk z.1)]
        refine i_copyT (na := 60) (nb := 60) rfl rfl (by omega) ?_
        have fin := hR (zcpy M 41 i 41 j n) (by
          refine RX_one1 h (fun k x hk => eo k x (by omega)) (fun k x h1 h2 h3 h4 h5 h6 => eo k x h1) (fun k x h1 h2 h3 => by unfold zcpy; rw [if_neg (fun z => h3 z.1)]) ?_
          have zo : ∀ x, zcpy M 41 i 41 j n 40 x = M 40 x := fun x => by unfold zcpy; rw [if_neg (fun z => absurd z.1 (by decide))]
          unfold L4
          rw [eo 12 _ (by decide), eo 13 _ (by decide), eo 14 _ (by decide), zo, zo]
          refine ⟨r1, r2, r3, fun x a b => ?_⟩
          rw [en]
          unfold zcpy
          by_cases c : j ≤ x ∧ x < j + n
          · rw [if_pos c, if_pos ⟨rfl, c⟩]
            exact l4 _ (by omega) (by omega)
          · rw [if_neg c, if_neg (fun z => c z.2)]
            exact r4 x a b) (fun k x hk => by unfold zcpy; rw [if_neg (fun z => by omega)])
        simp only [↓rX7_copy_123, ↓rX7_copy_124, ↓reduceIte, zkeep_n, zkeep_i, zkeep_r, zkeep_l, zup_eq, zIR, zLR, List.length_cons, List.length_nil, Nat.reduceAdd, Nat.reduceLeDiff, Nat.reduceEqDiff, Nat.reduceSub, Int.reduceLE, Int.reduceLT, Int.reduceEq, Int.reduceNe, Int.reduceNeg, Int.reduceAdd, Int.reduceSub, Int.reduceMul, Int.reduceToNat, Nat.le_refl, Nat.zero_le, Nat.zero_add, Int.zero_add, Int.add_zero, and_true, true_and, and_false, false_and, not_true_eq_false, not_false_eq_true, eq_self, ne_eq, true_implies, false_implies, implies_true, or_true, true_or, or_false, false_or, reduceCtorEq, Option.some.injEq, Sum.inl.injEq, exists_eq_left', exists_eq_left, zite]
        exact fin
      simp only [↓eX7_copy, ↓rX7_copy_0, ↓rX7_copy_1, ↓rX7_copy_2, ↓rX7_copy_5, ↓rX7_copy_8, ↓rX7_copy_9, ↓rX7_copy_10, ↓rX7_copy_13, ↓rX7_copy_16, ↓rX7_copy_18, ↓rX7_copy_19, ↓rX7_copy_20, ↓rX7_copy_23, ↓rX7_copy_24, ↓rX7_copy_25, ↓rX7_copy_27, ↓rX7_copy_28, ↓rX7_copy_31, ↓rX7_copy_32, ↓rX7_copy_33, ↓rX7_copy_35, ↓rX7_copy_37, ↓rX7_copy_40, ↓rX7_copy_43, ↓rX7_copy_45, ↓rX7_copy_48, ↓rX7_copy_51, ↓rX7_copy_52, ↓rX7_copy_53, ↓rX7_copy_56, ↓rX7_copy_57, ↓rX7_copy_59, ↓rX7_copy_62, ↓rX7_copy_64, ↓rX7_copy_67, ↓rX7_copy_70, ↓rX7_copy_71, ↓rX7_copy_72, ↓rX7_copy_75, ↓rX7_copy_76, ↓rX7_copy_78, ↓rX7_copy_79, ↓rX7_copy_81, ↓rX7_copy_84, ↓rX7_copy_87, ↓rX7_copy_89, ↓rX7_copy_91, ↓rX7_copy_93, ↓rX7_copy_96, ↓rX7_copy_99, ↓rX7_copy_100, ↓rX7_copy_101, ↓rX7_copy_104, ↓rX7_copy_105, ↓rX7_copy_107, ↓rX7_copy_110, ↓rX7_copy_111, ↓rX7_copy_113, ↓rX7_copy_116, ↓rX7_copy_118, ↓rX7_copy_120, ↓hg_fX7_137_38, ↓hg_fX7_137_40, ↓hg_fX7_137_42, ↓hg_fX7_137_44, ↓hg_fX7_299_38, ↓hg_fX7_299_40, ↓hg_fX7_299_42, ↓hg_fX7_299_44, ↓hg_fX7_44_0, ↓hrow_22, ↓i_finding, ↓i_hasRun38, ↓i_hasRun40, ↓i_hasRun42, ↓i_hasRun44, ↓i_isLost38, ↓i_isLost40, ↓i_isLost42, ↓i_isLost44, ↓i_outside, ↓reduceIte, ↓hrw, ↓hgd0, ↓hgd1, ↓hgd2, ↓hgd3, zkeep_n, zkeep_i, zkeep_r, zkeep_l, zIR, zLR, List.length_cons, List.length_nil, Nat.reduceAdd, Nat.reduceLeDiff, Nat.reduceEqDiff, Nat.reduceSub, Int.reduceLE, Int.reduceLT, Int.reduceEq, Int.reduceNe, Int.reduceNeg, Int.reduceAdd, Int.reduceSub, Int.reduceMul, Int.reduceToNat, Nat.le_refl, Nat.zero_le, Nat.zero_add, Int.zero_add, Int.add_zero, and_true, true_and, and_false, false_and, not_true_eq_false, not_false_eq_true, eq_self, ne_eq, true_implies, false_implies, implies_true, or_true, true_or, or_false, false_or, reduceCtorEq, Option.some.injEq, Sum.inl.injEq, exists_eq_left', exists_eq_left, a1, a2, b1, b2, zite]
      repeat' (first | with_reducible apply And.intro | with_reducible intro _)
      all_goals first | omega | (exact st (by omega)) | (exact no (by omega) (by omega)) | (exact yes (by omega) (by omega))
set_option maxRecDepth 100000 in
set_option maxHeartbeats 4000000 in
theorem x_copy12 {S M : zM} {R : zP} {i j n : Int} (h : RX S M) (z1 : zIR i) (z2 : zIR j) (z3 : zIR n) (hR : ∀ M', RX (mCopy S 1 i 2 j n) M' → XF M M' → R (some (.inl (aCopy S 1 i 2 j n))) M') : tX7_copy [.inr (.inr 0), .inl 1, .inl i, .inl 2, .inl j, .inl n] M R := by
  unfold mCopy aCopy at hR
  have g0 : ((0 : Int) ≤ 1 ∧ (1 : Int) < 4) ∧ ((0 : Int) ≤ 2 ∧ (2 : Int) < 4) := by decide
  rw [if_pos g0, if_pos g0] at hR
  unfold zIR at z1 z2 z3
  obtain ⟨l1, l2, l3, l4⟩ := RX_L41 h
  obtain ⟨r1, r2, r3, r4⟩ := RX_L42 h
  by_cases e : S 12 1 = 0
  · have e1 := l2 e
    rw [if_pos (Or.inl e), if_pos (Or.inl e)] at hR
    have fin := hR _ (RX_find h (by decide)) XF_find
    simp only [↓eX7_copy, ↓rX7_copy_0, ↓rX7_copy_1, ↓rX7_copy_2, ↓rX7_copy_5, ↓rX7_copy_8, ↓rX7_copy_9, ↓rX7_copy_10, ↓rX7_copy_13, ↓rX7_copy_16, ↓rX7_copy_18, ↓rX7_copy_19, ↓rX7_copy_20, ↓rX7_copy_23, ↓rX7_copy_24, ↓rX7_copy_25, ↓rX7_copy_27, ↓rX7_copy_28, ↓rX7_copy_31, ↓rX7_copy_32, ↓rX7_copy_33, ↓rX7_copy_35, ↓rX7_copy_37, ↓rX7_copy_40, ↓rX7_copy_51, ↓rX7_copy_52, ↓rX7_copy_53, ↓rX7_copy_56, ↓hg_fX7_44_0, ↓hrow_22, ↓i_finding, ↓i_isLost38, ↓i_isLost40, ↓i_isLost42, ↓i_isLost44, ↓i_outside, ↓reduceIte, ↓hrw, ↓hgd0, ↓hgd1, ↓hgd2, ↓hgd3, zkeep_n, zkeep_i, zkeep_r, zkeep_l, zIR, zLR, List.length_cons, List.length_nil, Nat.reduceAdd, Nat.reduceLeDiff, Nat.reduceEqDiff, Nat.reduceSub, Int.reduceLE, Int.reduceLT, Int.reduceEq, Int.reduceNe, Int.reduceNeg, Int.reduceAdd, Int.reduceSub, Int.reduceMul, Int.reduceToNat, Nat.le_refl, Nat.zero_le, Nat.zero_add, Int.zero_add, Int.add_zero, and_true, true_and, and_false, false_and, not_true_eq_false, not_false_eq_true, eq_self, ne_eq, true_implies, false_implies, implies_true, or_true, true_or, or_false, false_or, reduceCtorEq, Option.some.injEq, Sum.inl.injEq, exists_eq_left', exists_eq_left, e1, zite]
    repeat' (first | with_reducible apply And.intro | with_reducible intro _)
    all_goals first | omega | (exact fin)
  · obtain ⟨l5, l6⟩ := l3 (by omega)
    have a1 := l5.1
    have a2 := l6.1
    by_cases e2 : S 12 2 = 0
    · have b1 := r2 e2
      rw [if_pos (Or.inr e2), if_pos (Or.inr e2)] at hR
      have fin := hR _ (RX_find h (by decide)) XF_find
      simp only [↓eX7_copy, ↓rX7_copy_0, ↓rX7_copy_1, ↓rX7_copy_2, ↓rX7_copy_5, ↓rX7_copy_8, ↓rX7_copy_9, ↓rX7_copy_10, ↓rX7_copy_13, ↓rX7_copy_16, ↓rX7_copy_18, ↓rX7_copy_19, ↓rX7_copy_20, ↓rX7_copy_23, ↓rX7_copy_24, ↓rX7_copy_25, ↓rX7_copy_27, ↓rX7_copy_28, ↓rX7_copy_31, ↓rX7_copy_32, ↓rX7_copy_33, ↓rX7_copy_35, ↓rX7_copy_37, ↓rX7_copy_40, ↓rX7_copy_43, ↓rX7_copy_45, ↓rX7_copy_48, ↓rX7_copy_51, ↓rX7_copy_52, ↓rX7_copy_53, ↓rX7_copy_56, ↓hg_fX7_44_0, ↓hrow_22, ↓i_finding, ↓i_isLost38, ↓i_isLost40, ↓i_isLost42, ↓i_isLost44, ↓i_outside, ↓reduceIte, ↓hrw, ↓hgd0, ↓hgd1, ↓hgd2, ↓hgd3, zkeep_n, zkeep_i, zkeep_r, zkeep_l, zIR, zLR, List.length_cons, List.length_nil, Nat.reduceAdd, Nat.reduceLeDiff, Nat.reduceEqDiff, Nat.reduceSub, Int.reduceLE, Int.reduceLT, Int.reduceEq, Int.reduceNe, Int.reduceNeg, Int.reduceAdd, Int.reduceSub, Int.reduceMul, Int.reduceToNat, Nat.le_refl, Nat.zero_le, Nat.zero_add, Int.zero_add, Int.add_zero, and_true, true_and, and_false, false_and, not_true_eq_false, not_false_eq_true, eq_self, ne_eq, true_implies, false_implies, implies_true, or_true, true_or, or_false, false_or, reduceCtorEq, Option.some.injEq, Sum.inl.injEq, exists_eq_left', exists_eq_left, a1, b1, zite]
      repeat' (first | with_reducible apply And.intro | with_reducible intro _)
      all_goals first | omega | (exact fin)
    · obtain ⟨r5, r6⟩ := r3 (by omega)
      have b1 := r5.1
      have b2 := r6.1
      have g1 : ¬ (S 12 1 = 0 ∨ S 12 2 = 0) := by omega
      rw [if_neg g1, if_neg g1] at hR
      have st : S 13 1 ≠ S 13 2 → R (some (.inl (-14))) (zup M 0 6 4) := fun q => by
        rw [if_pos q, if_pos q] at hR
        exact hR _ (RX_find h (by decide)) XF_find
      have no : S 13 1 = S 13 2 → ¬ gCopy S 1 i 2 j n → R (some (.inl (-12))) (zup M 0 6 2) := fun q q2 => by
        have q' : ¬ (S 13 1 ≠ S 13 2) := fun z => z q
        rw [if_neg q', if_neg q', if_neg q2, if_neg q2] at hR
        exact hR _ (RX_find h (by decide)) XF_find
      have yes : S 13 1 = S 13 2 → gCopy S 1 i 2 j n → zcn zcopyT [.inr (.inr 41), .inl i, .inr (.inr 43), .inl j, .inl n] M (fun M' => uX7_copy R 123 [some (.inr (.inr 0)), some (.inl 1), some (.inl i), some (.inl 2), some (.inl j), some (.inl n), some (.inr (.inr 40)), some (.inr (.inr 42))] [] M') := fun q q2 => by
        have q' : ¬ (S 13 1 ≠ S 13 2) := fun z => z q
        rw [if_neg q', if_neg q', if_pos q2, if_pos q2] at hR
        have en : ∀ x, nCopy S 1 i 2 j n 17 x = if j ≤ x ∧ x < j + n then S 16 (i + (x - j)) else S 17 x := fun x => by
          unfold nCopy
          by_cases c : j ≤ x ∧ x < j + n
          · rw [if_pos c, if_pos ⟨by decide, c⟩]; rfl
          · rw [if_neg c, if_neg (fun z => c z.2)]
        have eo : ∀ k x, k ≠ 17 → nCopy S 1 i 2 j n k x = S k x := fun k x hk => by
          unfold nCopy
          rw [if_neg (fun z => hk z.1)]
        refine i_copyT (na := 60) (nb := 60) rfl rfl (by omega) ?_
        have fin := hR (zcpy M 41 i 43 j n) (by
          refine RX_one2 h (fun k x hk => eo k x (by omega)) (fun k x h1 h2 h3 h4 h5 h6 => eo k x h1) (fun k x h1 h2 h3 => by unfold zcpy; rw [if_neg (fun z => h3 z.1)]) ?_
          have zo : ∀ x, zcpy M 41 i 43 j n 42 x = M 42 x := fun x => by unfold zcpy; rw [if_neg (fun z => absurd z.1 (by decide))]
          unfold L4
          rw [eo 12 _ (by decide), eo 13 _ (by decide), eo 14 _ (by decide), zo, zo]
          refine ⟨r1, r2, r3, fun x a b => ?_⟩
          rw [en]
          unfold zcpy
          by_cases c : j ≤ x ∧ x < j + n
          · rw [if_pos c, if_pos ⟨rfl, c⟩]
            exact l4 _ (by omega) (by omega)
          · rw [if_neg c, if_neg (fun z => c z.2)]
            exact r4 x a b) (fun k x hk => by unfold zcpy; rw [if_neg (fun z => by omega)])
        simp only [↓rX7_copy_123, ↓rX7_copy_124, ↓reduceIte, zkeep_n, zkeep_i, zkeep_r, zkeep_l, zup_eq, zIR, zLR, List.length_cons, List.length_nil, Nat.reduceAdd, Nat.reduceLeDiff, Nat.reduceEqDiff, Nat.reduceSub, Int.reduceLE, Int.reduceLT, Int.reduceEq, Int.reduceNe, Int.reduceNeg, Int.reduceAdd, Int.reduceSub, Int.reduceMul, Int.reduceToNat, Nat.le_refl, Nat.zero_le, Nat.zero_add, Int.zero_add, Int.add_zero, and_true, true_and, and_false, false_and, not_true_eq_false, not_false_eq_true, eq_self, ne_eq, true_implies, false_implies, implies_true, or_true, true_or, or_false, false_or, reduceCtorEq, Option.some.injEq, Sum.inl.injEq, exists_eq_left', exists_eq_left, zite]
        exact fin
      simp only [↓eX7_copy, ↓rX7_copy_0, ↓rX7_copy_1, ↓rX7_copy_2, ↓rX7_copy_5, ↓rX7_copy_8, ↓rX7_copy_9, ↓rX7_copy_10, ↓rX7_copy_13, ↓rX7_copy_16, ↓rX7_copy_18, ↓rX7_copy_19, ↓rX7_copy_20, ↓rX7_copy_23, ↓rX7_copy_24, ↓rX7_copy_25, ↓rX7_copy_27, ↓rX7_copy_28, ↓rX7_copy_31, ↓rX7_copy_32, ↓rX7_copy_33, ↓rX7_copy_35, ↓rX7_copy_37, ↓rX7_copy_40, ↓rX7_copy_43, ↓rX7_copy_45, ↓rX7_copy_48, ↓rX7_copy_51, ↓rX7_copy_52, ↓rX7_copy_53, ↓rX7_copy_56, ↓rX7_copy_57, ↓rX7_copy_59, ↓rX7_copy_62, ↓rX7_copy_64, ↓rX7_copy_67, ↓rX7_copy_70, ↓rX7_copy_71, ↓rX7_copy_72, ↓rX7_copy_75, ↓rX7_copy_76, ↓rX7_copy_78, ↓rX7_copy_79, ↓rX7_copy_81, ↓rX7_copy_84, ↓rX7_copy_87, ↓rX7_copy_89, ↓rX7_copy_91, ↓rX7_copy_93, ↓rX7_copy_96, ↓rX7_copy_99, ↓rX7_copy_100, ↓rX7_copy_101, ↓rX7_copy_104, ↓rX7_copy_105, ↓rX7_copy_107, ↓rX7_copy_110, ↓rX7_copy_111, ↓rX7_copy_113, ↓rX7_copy_116, ↓rX7_copy_118, ↓rX7_copy_120, ↓hg_fX7_137_38, ↓hg_fX7_137_40, ↓hg_fX7_137_42, ↓hg_fX7_137_44, ↓hg_fX7_299_38, ↓hg_fX7_299_40, ↓hg_fX7_299_42, ↓hg_fX7_299_44, ↓hg_fX7_44_0, ↓hrow_22, ↓i_finding, ↓i_hasRun38, ↓i_hasRun40, ↓i_hasRun42, ↓i_hasRun44, ↓i_isLost38, ↓i_isLost40, ↓i_isLost42, ↓i_isLost44, ↓i_outside, ↓reduceIte, ↓hrw, ↓hgd0, ↓hgd1, ↓hgd2, ↓hgd3, zkeep_n, zkeep_i, zkeep_r, zkeep_l, zIR, zLR, List.length_cons, List.length_nil, Nat.reduceAdd, Nat.reduceLeDiff, Nat.reduceEqDiff, Nat.reduceSub, Int.reduceLE, Int.reduceLT, Int.reduceEq, Int.reduceNe, Int.reduceNeg, Int.reduceAdd, Int.reduceSub, Int.reduceMul, Int.reduceToNat, Nat.le_refl, Nat.zero_le, Nat.zero_add, Int.zero_add, Int.add_zero, and_true, true_and, and_false, false_and, not_true_eq_false, not_false_eq_true, eq_self, ne_eq, true_implies, false_implies, implies_true, or_true, true_or, or_false, false_or, reduceCtorEq, Option.some.injEq, Sum.inl.injEq, exists_eq_left', exists_eq_left, a1, a2, b1, b2, zite]
      repeat' (first | with_reducible apply And.intro | with_reducible intro _)
      all_goals first | omega | (exact st (by omega)) | (exact no (by omega) (by omega)) | (exact yes (by omega) (by omega))
set_option maxRecDepth 100000 in
set_option maxHeartbeats 4000000 in
theorem x_copy13 {S M : zM} {R : zP} {i j n : Int} (h : RX S M) (z1 : zIR i) (z2 : zIR j) (z3 : zIR n) (hR : ∀ M', RX (mCopy S 1 i 3 j n) M' → XF M M' → R (some (.inl (aCopy S 1 i 3 j n))) M') : tX7_copy [.inr (.inr 0), .inl 1, .inl i, .inl 3, .inl j, .inl n] M R := by
  unfold mCopy aCopy at hR
  have g0 : ((0 : Int) ≤ 1 ∧ (1 : Int) < 4) ∧ ((0 : Int) ≤ 3 ∧ (3 : Int) < 4) := by decide
  rw [if_pos g0, if_pos g0] at hR
  unfold zIR at z1 z2 z3
  obtain ⟨l1, l2, l3, l4⟩ := RX_L41 h
  obtain ⟨r1, r2, r3, r4⟩ := RX_L43 h
  by_cases e : S 12 1 = 0
  · have e1 := l2 e
    rw [if_pos (Or.inl e), if_pos (Or.inl e)] at hR
    have fin := hR _ (RX_find h (by decide)) XF_find
    simp only [↓eX7_copy, ↓rX7_copy_0, ↓rX7_copy_1, ↓rX7_copy_2, ↓rX7_copy_5, ↓rX7_copy_8, ↓rX7_copy_9, ↓rX7_copy_10, ↓rX7_copy_13, ↓rX7_copy_16, ↓rX7_copy_18, ↓rX7_copy_19, ↓rX7_copy_20, ↓rX7_copy_23, ↓rX7_copy_24, ↓rX7_copy_25, ↓rX7_copy_27, ↓rX7_copy_28, ↓rX7_copy_31, ↓rX7_copy_32, ↓rX7_copy_33, ↓rX7_copy_35, ↓rX7_copy_37, ↓rX7_copy_40, ↓rX7_copy_51, ↓rX7_copy_52, ↓rX7_copy_53, ↓rX7_copy_56, ↓hg_fX7_44_0, ↓hrow_22, ↓i_finding, ↓i_isLost38, ↓i_isLost40, ↓i_isLost42, ↓i_isLost44, ↓i_outside, ↓reduceIte, ↓hrw, ↓hgd0, ↓hgd1, ↓hgd2, ↓hgd3, zkeep_n, zkeep_i, zkeep_r, zkeep_l, zIR, zLR, List.length_cons, List.length_nil, Nat.reduceAdd, Nat.reduceLeDiff, Nat.reduceEqDiff, Nat.reduceSub, Int.reduceLE, Int.reduceLT, Int.reduceEq, Int.reduceNe, Int.reduceNeg, Int.reduceAdd, Int.reduceSub, Int.reduceMul, Int.reduceToNat, Nat.le_refl, Nat.zero_le, Nat.zero_add, Int.zero_add, Int.add_zero, and_true, true_and, and_false, false_and, not_true_eq_false, not_false_eq_true, eq_self, ne_eq, true_implies, false_implies, implies_true, or_true, true_or, or_false, false_or, reduceCtorEq, Option.some.injEq, Sum.inl.injEq, exists_eq_left', exists_eq_left, e1, zite]
    repeat' (first | with_reducible apply And.intro | with_reducible intro _)
    all_goals first | omega | (exact fin)
  · obtain ⟨l5, l6⟩ := l3 (by omega)
    have a1 := l5.1
    have a2 := l6.1
    by_cases e2 : S 12 3 = 0
    · have b1 := r2 e2
      rw [if_pos (Or.inr e2), if_pos (Or.inr e2)] at hR
      have fin := hR _ (RX_find h (by decide)) XF_find
      simp only [↓eX7_copy, ↓rX7_copy_0, ↓rX7_copy_1, ↓rX7_copy_2, ↓rX7_copy_5, ↓rX7_copy_8, ↓rX7_copy_9, ↓rX7_copy_10, ↓rX7_copy_13, ↓rX7_copy_16, ↓rX7_copy_18, ↓rX7_copy_19, ↓rX7_copy_20, ↓rX7_copy_23, ↓rX7_copy_24, ↓rX7_copy_25, ↓rX7_copy_27, ↓rX7_copy_28, ↓rX7_copy_31, ↓rX7_copy_32, ↓rX7_copy_33, ↓rX7_copy_35, ↓rX7_copy_37, ↓rX7_copy_40, ↓rX7_copy_43, ↓rX7_copy_45, ↓rX7_copy_48, ↓rX7_copy_51, ↓rX7_copy_52, ↓rX7_copy_53, ↓rX7_copy_56, ↓hg_fX7_44_0, ↓hrow_22, ↓i_finding, ↓i_isLost38, ↓i_isLost40, ↓i_isLost42, ↓i_isLost44, ↓i_outside, ↓reduceIte, ↓hrw, ↓hgd0, ↓hgd1, ↓hgd2, ↓hgd3, zkeep_n, zkeep_i, zkeep_r, zkeep_l, zIR, zLR, List.length_cons, List.length_nil, Nat.reduceAdd, Nat.reduceLeDiff, Nat.reduceEqDiff, Nat.reduceSub, Int.reduceLE, Int.reduceLT, Int.reduceEq, Int.reduceNe, Int.reduceNeg, Int.reduceAdd, Int.reduceSub, Int.reduceMul, Int.reduceToNat, Nat.le_refl, Nat.zero_le, Nat.zero_add, Int.zero_add, Int.add_zero, and_true, true_and, and_false, false_and, not_true_eq_false, not_false_eq_true, eq_self, ne_eq, true_implies, false_implies, implies_true, or_true, true_or, or_false, false_or, reduceCtorEq, Option.some.injEq, Sum.inl.injEq, exists_eq_left', exists_eq_left, a1, b1, zite]
      repeat' (first | with_reducible apply And.intro | with_reducible intro _)
      all_goals first | omega | (exact fin)
    · obtain ⟨r5, r6⟩ := r3 (by omega)
      have b1 := r5.1
      have b2 := r6.1
      have g1 : ¬ (S 12 1 = 0 ∨ S 12 3 = 0) := by omega
      rw [if_neg g1, if_neg g1] at hR
      have st : S 13 1 ≠ S 13 3 → R (some (.inl (-14))) (zup M 0 6 4) := fun q => by
        rw [if_pos q, if_pos q] at hR
        exact hR _ (RX_find h (by decide)) XF_find
      have no : S 13 1 = S 13 3 → ¬ gCopy S 1 i 3 j n → R (some (.inl (-12))) (zup M 0 6 2) := fun q q2 => by
        have q' : ¬ (S 13 1 ≠ S 13 3) := fun z => z q
        rw [if_neg q', if_neg q', if_neg q2, if_neg q2] at hR
        exact hR _ (RX_find h (by decide)) XF_find
      have yes : S 13 1 = S 13 3 → gCopy S 1 i 3 j n → zcn zcopyT [.inr (.inr 41), .inl i, .inr (.inr 45), .inl j, .inl n] M (fun M' => uX7_copy R 123 [some (.inr (.inr 0)), some (.inl 1), some (.inl i), some (.inl 3), some (.inl j), some (.inl n), some (.inr (.inr 40)), some (.inr (.inr 44))] [] M') := fun q q2 => by
        have q' : ¬ (S 13 1 ≠ S 13 3) := fun z => z q
        rw [if_neg q', if_neg q', if_pos q2, if_pos q2] at hR
        have en : ∀ x, nCopy S 1 i 3 j n 18 x = if j ≤ x ∧ x < j + n then S 16 (i + (x - j)) else S 18 x := fun x => by
          unfold nCopy
          by_cases c : j ≤ x ∧ x < j + n
          · rw [if_pos c, if_pos ⟨by decide, c⟩]; rfl
          · rw [if_neg c, if_neg (fun z => c z.2)]
        have eo : ∀ k x, k ≠ 18 → nCopy S 1 i 3 j n k x = S k x := fun k x hk => by
          unfold nCopy
          rw [if_neg (fun z => hk z.1)]
        refine i_copyT (na := 60) (nb := 60) rfl rfl (by omega) ?_
        have fin := hR (zcpy M 41 i 45 j n) (by
          refine RX_one3 h (fun k x hk => eo k x (by omega)) (fun k x h1 h2 h3 h4 h5 h6 => eo k x h1) (fun k x h1 h2 h3 => by unfold zcpy; rw [if_neg (fun z => h3 z.1)]) ?_
          have zo : ∀ x, zcpy M 41 i 45 j n 44 x = M 44 x := fun x => by unfold zcpy; rw [if_neg (fun z => absurd z.1 (by decide))]
          unfold L4
          rw [eo 12 _ (by decide), eo 13 _ (by decide), eo 14 _ (by decide), zo, zo]
          refine ⟨r1, r2, r3, fun x a b => ?_⟩
          rw [en]
          unfold zcpy
          by_cases c : j ≤ x ∧ x < j + n
          · rw [if_pos c, if_pos ⟨rfl, c⟩]
            exact l4 _ (by omega) (by omega)
          · rw [if_neg c, if_neg (fun z => c z.2)]
            exact r4 x a b) (fun k x hk => by unfold zcpy; rw [if_neg (fun z => by omega)])
        simp only [↓rX7_copy_123, ↓rX7_copy_124, ↓reduceIte, zkeep_n, zkeep_i, zkeep_r, zkeep_l, zup_eq, zIR, zLR, List.length_cons, List.length_nil, Nat.reduceAdd, Nat.reduceLeDiff, Nat.reduceEqDiff, Nat.reduceSub, Int.reduceLE, Int.reduceLT, Int.reduceEq, Int.reduceNe, Int.reduceNeg, Int.reduceAdd, Int.reduceSub, Int.reduceMul, Int.reduceToNat, Nat.le_refl, Nat.zero_le, Nat.zero_add, Int.zero_add, Int.add_zero, and_true, true_and, and_false, false_and, not_true_eq_false, not_false_eq_true, eq_self, ne_eq, true_implies, false_implies, implies_true, or_true, true_or, or_false, false_or, reduceCtorEq, Option.some.injEq, Sum.inl.injEq, exists_eq_left', exists_eq_left, zite]
        exact fin
      simp only [↓eX7_copy, ↓rX7_copy_0, ↓rX7_copy_1, ↓rX7_copy_2, ↓rX7_copy_5, ↓rX7_copy_8, ↓rX7_copy_9, ↓rX7_copy_10, ↓rX7_copy_13, ↓rX7_copy_16, ↓rX7_copy_18, ↓rX7_copy_19, ↓rX7_copy_20, ↓rX7_copy_23, ↓rX7_copy_24, ↓rX7_copy_25, ↓rX7_copy_27, ↓rX7_copy_28, ↓rX7_copy_31, ↓rX7_copy_32, ↓rX7_copy_33, ↓rX7_copy_35, ↓rX7_copy_37, ↓rX7_copy_40, ↓rX7_copy_43, ↓rX7_copy_45, ↓rX7_copy_48, ↓rX7_copy_51, ↓rX7_copy_52, ↓rX7_copy_53, ↓rX7_copy_56, ↓rX7_copy_57, ↓rX7_copy_59, ↓rX7_copy_62, ↓rX7_copy_64, ↓rX7_copy_67, ↓rX7_copy_70, ↓rX7_copy_71, ↓rX7_copy_72, ↓rX7_copy_75, ↓rX7_copy_76, ↓rX7_copy_78, ↓rX7_copy_79, ↓rX7_copy_81, ↓rX7_copy_84, ↓rX7_copy_87, ↓rX7_copy_89, ↓rX7_copy_91, ↓rX7_copy_93, ↓rX7_copy_96, ↓rX7_copy_99, ↓rX7_copy_100, ↓rX7_copy_101, ↓rX7_copy_104, ↓rX7_copy_105, ↓rX7_copy_107, ↓rX7_copy_110, ↓rX7_copy_111, ↓rX7_copy_113, ↓rX7_copy_116, ↓rX7_copy_118, ↓rX7_copy_120, ↓hg_fX7_137_38, ↓hg_fX7_137_40, ↓hg_fX7_137_42, ↓hg_fX7_137_44, ↓hg_fX7_299_38, ↓hg_fX7_299_40, ↓hg_fX7_299_42, ↓hg_fX7_299_44, ↓hg_fX7_44_0, ↓hrow_22, ↓i_finding, ↓i_hasRun38, ↓i_hasRun40, ↓i_hasRun42, ↓i_hasRun44, ↓i_isLost38, ↓i_isLost40, ↓i_isLost42, ↓i_isLost44, ↓i_outside, ↓reduceIte, ↓hrw, ↓hgd0, ↓hgd1, ↓hgd2, ↓hgd3, zkeep_n, zkeep_i, zkeep_r, zkeep_l, zIR, zLR, List.length_cons, List.length_nil, Nat.reduceAdd, Nat.reduceLeDiff, Nat.reduceEqDiff, Nat.reduceSub, Int.reduceLE, Int.reduceLT, Int.reduceEq, Int.reduceNe, Int.reduceNeg, Int.reduceAdd, Int.reduceSub, Int.reduceMul, Int.reduceToNat, Nat.le_refl, Nat.zero_le, Nat.zero_add, Int.zero_add, Int.add_zero, and_true, true_and, and_false, false_and, not_true_eq_false, not_false_eq_true, eq_self, ne_eq, true_implies, false_implies, implies_true, or_true, true_or, or_false, false_or, reduceCtorEq, Option.some.injEq, Sum.inl.injEq, exists_eq_left', exists_eq_left, a1, a2, b1, b2, zite]
      repeat' (first | with_reducible apply And.intro | with_reducible intro _)
      all_goals first | omega | (exact st (by omega)) | (exact no (by omega) (by omega)) | (exact yes (by omega) (by omega))
set_option maxRecDepth 100000 in
set_option maxHeartbeats 4000000 in
theorem x_copy20 {S M : zM} {R : zP} {i j n : Int} (h : RX S M) (z1 : zIR i) (z2 : zIR j) (z3 : zIR n) (hR : ∀ M', RX (mCopy S 2 i 0 j n) M' → XF M M' → R (some (.inl (aCopy S 2 i 0 j n))) M') : tX7_copy [.inr (.inr 0), .inl 2, .inl i, .inl 0, .inl j, .inl n] M R := by
  unfold mCopy aCopy at hR
  have g0 : ((0 : Int) ≤ 2 ∧ (2 : Int) < 4) ∧ ((0 : Int) ≤ 0 ∧ (0 : Int) < 4) := by decide
  rw [if_pos g0, if_pos g0] at hR
  unfold zIR at z1 z2 z3
  obtain ⟨l1, l2, l3, l4⟩ := RX_L42 h
  obtain ⟨r1, r2, r3, r4⟩ := RX_L40 h
  by_cases e : S 12 2 = 0
  · have e1 := l2 e
    rw [if_pos (Or.inl e), if_pos (Or.inl e)] at hR
    have fin := hR _ (RX_find h (by decide)) XF_find
    simp only [↓eX7_copy, ↓rX7_copy_0, ↓rX7_copy_1, ↓rX7_copy_2, ↓rX7_copy_5, ↓rX7_copy_8, ↓rX7_copy_9, ↓rX7_copy_10, ↓rX7_copy_13, ↓rX7_copy_16, ↓rX7_copy_18, ↓rX7_copy_19, ↓rX7_copy_20, ↓rX7_copy_23, ↓rX7_copy_24, ↓rX7_copy_25, ↓rX7_copy_27, ↓rX7_copy_28, ↓rX7_copy_31, ↓rX7_copy_32, ↓rX7_copy_33, ↓rX7_copy_35, ↓rX7_copy_37, ↓rX7_copy_40, ↓rX7_copy_51, ↓rX7_copy_52, ↓rX7_copy_53, ↓rX7_copy_56, ↓hg_fX7_44_0, ↓hrow_22, ↓i_finding, ↓i_isLost38, ↓i_isLost40, ↓i_isLost42, ↓i_isLost44, ↓i_outside, ↓reduceIte, ↓hrw, ↓hgd0, ↓hgd1, ↓hgd2, ↓hgd3, zkeep_n, zkeep_i, zkeep_r, zkeep_l, zIR, zLR, List.length_cons, List.length_nil, Nat.reduceAdd, Nat.reduceLeDiff, Nat.reduceEqDiff, Nat.reduceSub, Int.reduceLE, Int.reduceLT, Int.reduceEq, Int.reduceNe, Int.reduceNeg, Int.reduceAdd, Int.reduceSub, Int.reduceMul, Int.reduceToNat, Nat.le_refl, Nat.zero_le, Nat.zero_add, Int.zero_add, Int.add_zero, and_true, true_and, and_false, false_and, not_true_eq_false, not_false_eq_true, eq_self, ne_eq, true_implies, false_implies, implies_true, or_true, true_or, or_false, false_or, reduceCtorEq, Option.some.injEq, Sum.inl.injEq, exists_eq_left', exists_eq_left, e1, zite]
    repeat' (first | with_reducible apply And.intro | with_reducible intro _)
    all_goals first | omega | (exact fin)
  · obtain ⟨l5, l6⟩ := l3 (by omega)
    have a1 := l5.1
    have a2 := l6.1
    by_cases e2 : S 12 0 = 0
    · have b1 := r2 e2
      rw [if_pos (Or.inr e2), if_pos (Or.inr e2)] at hR
      have fin := hR _ (RX_find h (by decide)) XF_find
      simp only [↓eX7_copy, ↓rX7_copy_0, ↓rX7_copy_1, ↓rX7_copy_2, ↓rX7_copy_5, ↓rX7_copy_8, ↓rX7_copy_9, ↓rX7_copy_10, ↓rX7_copy_13, ↓rX7_copy_16, ↓rX7_copy_18, ↓rX7_copy_19, ↓rX7_copy_20, ↓rX7_copy_23, ↓rX7_copy_24, ↓rX7_copy_25, ↓rX7_copy_27, ↓rX7_copy_28, ↓rX7_copy_31, ↓rX7_copy_32, ↓rX7_copy_33, ↓rX7_copy_35, ↓rX7_copy_37, ↓rX7_copy_40, ↓rX7_copy_43, ↓rX7_copy_45, ↓rX7_copy_48, ↓rX7_copy_51, ↓rX7_copy_52, ↓rX7_copy_53, ↓rX7_copy_56, ↓hg_fX7_44_0, ↓hrow_22, ↓i_finding, ↓i_isLost38, ↓i_isLost40, ↓i_isLost42, ↓i_isLost44, ↓i_outside, ↓reduceIte, ↓hrw, ↓hgd0, ↓hgd1, ↓hgd2, ↓hgd3, zkeep_n, zkeep_i, zkeep_r, zkeep_l, zIR, zLR, List.length_cons, List.length_nil, Nat.reduceAdd, Nat.reduceLeDiff, Nat.reduceEqDiff, Nat.reduceSub, Int.reduceLE, Int.reduceLT, Int.reduceEq, Int.reduceNe, Int.reduceNeg, Int.reduceAdd, Int.reduceSub, Int.reduceMul, Int.reduceToNat, Nat.le_refl, Nat.zero_le, Nat.zero_add, Int.zero_add, Int.add_zero, and_true, true_and, and_false, false_and, not_true_eq_false, not_false_eq_true, eq_self, ne_eq, true_implies, false_implies, implies_true, or_true, true_or, or_false, false_or, reduceCtorEq, Option.some.injEq, Sum.inl.injEq, exists_eq_left', exists_eq_left, a1, b1, zite]
      repeat' (first | with_reducible apply And.intro | with_reducible intro _)
      all_goals first | omega | (exact fin)
    · obtain ⟨r5, r6⟩ := r3 (by omega)
      have b1 := r5.1
      have b2 := r6.1
      have g1 : ¬ (S 12 2 = 0 ∨ S 12 0 = 0) := by omega
      rw [if_neg g1, if_neg g1] at hR
      have st : S 13 2 ≠ S 13 0 → R (some (.inl (-14))) (zup M 0 6 4) := fun q => by
        rw [if_pos q, if_pos q] at hR
        exact hR _ (RX_find h (by decide)) XF_find
      have no : S 13 2 = S 13 0 → ¬ gCopy S 2 i 0 j n → R (some (.inl (-12))) (zup M 0 6 2) := fun q q2 => by
        have q' : ¬ (S 13 2 ≠ S 13 0) := fun z => z q
        rw [if_neg q', if_neg q', if_neg q2, if_neg q2] at hR
        exact hR _ (RX_find h (by decide)) XF_find
      have yes : S 13 2 = S 13 0 → gCopy S 2 i 0 j n → zcn zcopyT [.inr (.inr 43), .inl i, .inr (.inr 39), .inl j, .inl n] M (fun M' => uX7_copy R 123 [some (.inr (.inr 0)), some (.inl 2), some (.inl i), some (.inl 0), some (.inl j), some (.inl n), some (.inr (.inr 42)), some (.inr (.inr 38))] [] M') := fun q q2 => by
        have q' : ¬ (S 13 2 ≠ S 13 0) := fun z => z q
        rw [if_neg q', if_neg q', if_pos q2, if_pos q2] at hR
        have en : ∀ x, nCopy S 2 i 0 j n 15 x = if j ≤ x ∧ x < j + n then S 17 (i + (x - j)) else S 15 x := fun x => by
          unfold nCopy
          by_cases c : j ≤ x ∧ x < j + n
          · rw [if_pos c, if_pos ⟨by decide, c⟩]; rfl
          · rw [if_neg c, if_neg (fun z => c z.2)]
        have eo : ∀ k x, k ≠ 15 → nCopy S 2 i 0 j n k x = S k x := fun k x hk => by
          unfold nCopy
          rw [if_neg (fun z => hk z.1)]
        refine i_copyT (na := 60) (nb := 60) rfl rfl (by omega) ?_
        have fin := hR (zcpy M 43 i 39 j n) (by
          refine RX_one0 h (fun k x hk => eo k x (by omega)) (fun k x h1 h2 h3 h4 h5 h6 => eo k x h1) (fun k x h1 h2 h3 => by unfold zcpy; rw [if_neg (fun z => h3 z.1)]) ?_
          have zo : ∀ x, zcpy M 43 i 39 j n 38 x = M 38 x := fun x => by unfold zcpy; rw [if_neg (fun z => absurd z.1 (by decide))]
          unfold L4
          rw [eo 12 _ (by decide), eo 13 _ (by decide), eo 14 _ (by decide), zo, zo]
          refine ⟨r1, r2, r3, fun x a b => ?_⟩
          rw [en]
          unfold zcpy
          by_cases c : j ≤ x ∧ x < j + n
          · rw [if_pos c, if_pos ⟨rfl, c⟩]
            exact l4 _ (by omega) (by omega)
          · rw [if_neg c, if_neg (fun z => c z.2)]
            exact r4 x a b) (fun k x hk => by unfold zcpy; rw [if_neg (fun z => by omega)])
        simp only [↓rX7_copy_123, ↓rX7_copy_124, ↓reduceIte, zkeep_n, zkeep_i, zkeep_r, zkeep_l, zup_eq, zIR, zLR, List.length_cons, List.length_nil, Nat.reduceAdd, Nat.reduceLeDiff, Nat.reduceEqDiff, Nat.reduceSub, Int.reduceLE, Int.reduceLT, Int.reduceEq, Int.reduceNe, Int.reduceNeg, Int.reduceAdd, Int.reduceSub, Int.reduceMul, Int.reduceToNat, Nat.le_refl, Nat.zero_le, Nat.zero_add, Int.zero_add, Int.add_zero, and_true, true_and, and_false, false_and, not_true_eq_false, not_false_eq_true, eq_self, ne_eq, true_implies, false_implies, implies_true, or_true, true_or, or_false, false_or, reduceCtorEq, Option.some.injEq, Sum.inl.injEq, exists_eq_left', exists_eq_left, zite]
        exact fin
      simp only [↓eX7_copy, ↓rX7_copy_0, ↓rX7_copy_1, ↓rX7_copy_2, ↓rX7_copy_5, ↓rX7_copy_8, ↓rX7_copy_9, ↓rX7_copy_10, ↓rX7_copy_13, ↓rX7_copy_16, ↓rX7_copy_18, ↓rX7_copy_19, ↓rX7_copy_20, ↓rX7_copy_23, ↓rX7_copy_24, ↓rX7_copy_25, ↓rX7_copy_27, ↓rX7_copy_28, ↓rX7_copy_31, ↓rX7_copy_32, ↓rX7_copy_33, ↓rX7_copy_35, ↓rX7_copy_37, ↓rX7_copy_40, ↓rX7_copy_43, ↓rX7_copy_45, ↓rX7_copy_48, ↓rX7_copy_51, ↓rX7_copy_52, ↓rX7_copy_53, ↓rX7_copy_56, ↓rX7_copy_57, ↓rX7_copy_59, ↓rX7_copy_62, ↓rX7_copy_64, ↓rX7_copy_67, ↓rX7_copy_70, ↓rX7_copy_71, ↓rX7_copy_72, ↓rX7_copy_75, ↓rX7_copy_76, ↓rX7_copy_78, ↓rX7_copy_79, ↓rX7_copy_81, ↓rX7_copy_84, ↓rX7_copy_87, ↓rX7_copy_89, ↓rX7_copy_91, ↓rX7_copy_93, ↓rX7_copy_96, ↓rX7_copy_99, ↓rX7_copy_100, ↓rX7_copy_101, ↓rX7_copy_104, ↓rX7_copy_105, ↓rX7_copy_107, ↓rX7_copy_110, ↓rX7_copy_111, ↓rX7_copy_113, ↓rX7_copy_116, ↓rX7_copy_118, ↓rX7_copy_120, ↓hg_fX7_137_38, ↓hg_fX7_137_40, ↓hg_fX7_137_42, ↓hg_fX7_137_44, ↓hg_fX7_299_38, ↓hg_fX7_299_40, ↓hg_fX7_299_42, ↓hg_fX7_299_44, ↓hg_fX7_44_0, ↓hrow_22, ↓i_finding, ↓i_hasRun38, ↓i_hasRun40, ↓i_hasRun42, ↓i_hasRun44, ↓i_isLost38, ↓i_isLost40, ↓i_isLost42, ↓i_isLost44, ↓i_outside, ↓reduceIte, ↓hrw, ↓hgd0, ↓hgd1, ↓hgd2, ↓hgd3, zkeep_n, zkeep_i, zkeep_r, zkeep_l, zIR, zLR, List.length_cons, List.length_nil, Nat.reduceAdd, Nat.reduceLeDiff, Nat.reduceEqDiff, Nat.reduceSub, Int.reduceLE, Int.reduceLT, Int.reduceEq, Int.reduceNe, Int.reduceNeg, Int.reduceAdd, Int.reduceSub, Int.reduceMul, Int.reduceToNat, Nat.le_refl, Nat.zero_le, Nat.zero_add, Int.zero_add, Int.add_zero, and_true, true_and, and_false, false_and, not_true_eq_false, not_false_eq_true, eq_self, ne_eq, true_implies, false_implies, implies_true, or_true, true_or, or_false, false_or, reduceCtorEq, Option.some.injEq, Sum.inl.injEq, exists_eq_left', exists_eq_left, a1, a2, b1, b2, zite]
      repeat' (first | with_reducible apply And.intro | with_reducible intro _)
      all_goals first | omega | (exact st (by omega)) | (exact no (by omega) (by omega)) | (exact yes (by omega) (by omega))
set_option maxRecDepth 100000 in
set_option maxHeartbeats 4000000 in
theorem x_copy21 {S M : zM} {R : zP} {i j n : Int} (h : RX S M) (z1 : zIR i) (z2 : zIR j) (z3 : zIR n) (hR : ∀ M', RX (mCopy S 2 i 1 j n) M' → XF M M' → R (some (.inl (aCopy S 2 i 1 j n))) M') : tX7_copy [.inr (.inr 0), .inl 2, .inl i, .inl 1, .inl j, .inl n] M R := by
  unfold mCopy aCopy at hR
  have g0 : ((0 : Int) ≤ 2 ∧ (2 : Int) < 4) ∧ ((0 : Int) ≤ 1 ∧ (1 : Int) < 4) := by decide
  rw [if_pos g0, if_pos g0] at hR
  unfold zIR at z1 z2 z3
  obtain ⟨l1, l2, l3, l4⟩ := RX_L42 h
  obtain ⟨r1, r2, r3, r4⟩ := RX_L41 h
  by_cases e : S 12 2 = 0
  · have e1 := l2 e
    rw [if_pos (Or.inl e), if_pos (Or.inl e)] at hR
    have fin := hR _ (RX_find h (by decide)) XF_find
    simp only [↓eX7_copy, ↓rX7_copy_0, ↓rX7_copy_1, ↓rX7_copy_2, ↓rX7_copy_5, ↓rX7_copy_8, ↓rX7_copy_9, ↓rX7_copy_10, ↓rX7_copy_13, ↓rX7_copy_16, ↓rX7_copy_18, ↓rX7_copy_19, ↓rX7_copy_20, ↓rX7_copy_23, ↓rX7_copy_24, ↓rX7_copy_25, ↓rX7_copy_27, ↓rX7_copy_28, ↓rX7_copy_31, ↓rX7_copy_32, ↓rX7_copy_33, ↓rX7_copy_35, ↓rX7_copy_37, ↓rX7_copy_40, ↓rX7_copy_51, ↓rX7_copy_52, ↓rX7_copy_53, ↓rX7_copy_56, ↓hg_fX7_44_0, ↓hrow_22, ↓i_finding, ↓i_isLost38, ↓i_isLost40, ↓i_isLost42, ↓i_isLost44, ↓i_outside, ↓reduceIte, ↓hrw, ↓hgd0, ↓hgd1, ↓hgd2, ↓hgd3, zkeep_n, zkeep_i, zkeep_r, zkeep_l, zIR, zLR, List.length_cons, List.length_nil, Nat.reduceAdd, Nat.reduceLeDiff, Nat.reduceEqDiff, Nat.reduceSub, Int.reduceLE, Int.reduceLT, Int.reduceEq, Int.reduceNe, Int.reduceNeg, Int.reduceAdd, Int.reduceSub, Int.reduceMul, Int.reduceToNat, Nat.le_refl, Nat.zero_le, Nat.zero_add, Int.zero_add, Int.add_zero, and_true, true_and, and_false, false_and, not_true_eq_false, not_false_eq_true, eq_self, ne_eq, true_implies, false_implies, implies_true, or_true, true_or, or_false, false_or, reduceCtorEq, Option.some.injEq, Sum.inl.injEq, exists_eq_left', exists_eq_left, e1, zite]
    repeat' (first | with_reducible apply And.intro | with_reducible intro _)
    all_goals first | omega | (exact fin)
  · obtain ⟨l5, l6⟩ := l3 (by omega)
    have a1 := l5.1
    have a2 := l6.1
    by_cases e2 : S 12 1 = 0
    · have b1 := r2 e2
      rw [if_pos (Or.inr e2), if_pos (Or.inr e2)] at hR
      have fin := hR _ (RX_find h (by decide)) XF_find
      simp only [↓eX7_copy, ↓rX7_copy_0, ↓rX7_copy_1, ↓rX7_copy_2, ↓rX7_copy_5, ↓rX7_copy_8, ↓rX7_copy_9, ↓rX7_copy_10, ↓rX7_copy_13, ↓rX7_copy_16, ↓rX7_copy_18, ↓rX7_copy_19, ↓rX7_copy_20, ↓rX7_copy_23, ↓rX7_copy_24, ↓rX7_copy_25, ↓rX7_copy_27, ↓rX7_copy_28, ↓rX7_copy_31, ↓rX7_copy_32, ↓rX7_copy_33, ↓rX7_copy_35, ↓rX7_copy_37, ↓rX7_copy_40, ↓rX7_copy_43, ↓rX7_copy_45, ↓rX7_copy_48, ↓rX7_copy_51, ↓rX7_copy_52, ↓rX7_copy_53, ↓rX7_copy_56, ↓hg_fX7_44_0, ↓hrow_22, ↓i_finding, ↓i_isLost38, ↓i_isLost40, ↓i_isLost42, ↓i_isLost44, ↓i_outside, ↓reduceIte, ↓hrw, ↓hgd0, ↓hgd1, ↓hgd2, ↓hgd3, zkeep_n, zkeep_i, zkeep_r, zkeep_l, zIR, zLR, List.length_cons, List.length_nil, Nat.reduceAdd, Nat.reduceLeDiff, Nat.reduceEqDiff, Nat.reduceSub, Int.reduceLE, Int.reduceLT, Int.reduceEq, Int.reduceNe, Int.reduceNeg, Int.reduceAdd, Int.reduceSub, Int.reduceMul, Int.reduceToNat, Nat.le_refl, Nat.zero_le, Nat.zero_add, Int.zero_add, Int.add_zero, and_true, true_and, and_false, false_and, not_true_eq_false, not_false_eq_true, eq_self, ne_eq, true_implies, false_implies, implies_true, or_true, true_or, or_false, false_or, reduceCtorEq, Option.some.injEq, Sum.inl.injEq, exists_eq_left', exists_eq_left, a1, b1, zite]
      repeat' (first | with_reducible apply And.intro | with_reducible intro _)
      all_goals first | omega | (exact fin)
    · obtain ⟨r5, r6⟩ := r3 (by omega)
      have b1 := r5.1
      have b2 := r6.1
      have g1 : ¬ (S 12 2 = 0 ∨ S 12 1 = 0) := by omega
      rw [if_neg g1, if_neg g1] at hR
      have st : S 13 2 ≠ S 13 1 → R (some (.inl (-14))) (zup M 0 6 4) := fun q => by
        rw [if_pos q, if_pos q] at hR
        exact hR _ (RX_find h (by decide)) XF_find
      have no : S 13 2 = S 13 1 → ¬ gCopy S 2 i 1 j n → R (some (.inl (-12))) (zup M 0 6 2) := fun q q2 => by
        have q' : ¬ (S 13 2 ≠ S 13 1) := fun z => z q
        rw [if_neg q', if_neg q', if_neg q2, if_neg q2] at hR
        exact hR _ (RX_find h (by decide)) XF_find
      have yes : S 13 2 = S 13 1 → gCopy S 2 i 1 j n → zcn zcopyT [.inr (.inr 43), .inl i, .inr (.inr 41), .inl j, .inl n] M (fun M' => uX7_copy R 123 [some (.inr (.inr 0)), some (.inl 2), some (.inl i), some (.inl 1), some (.inl j), some (.inl n), some (.inr (.inr 42)), some (.inr (.inr 40))] [] M') := fun q q2 => by
        have q' : ¬ (S 13 2 ≠ S 13 1) := fun z => z q
        rw [if_neg q', if_neg q', if_pos q2, if_pos q2] at hR
        have en : ∀ x, nCopy S 2 i 1 j n 16 x = if j ≤ x ∧ x < j + n then S 17 (i + (x - j)) else S 16 x := fun x => by
          unfold nCopy
          by_cases c : j ≤ x ∧ x < j + n
          · rw [if_pos c, if_pos ⟨by decide, c⟩]; rfl
          · rw [if_neg c, if_neg (fun z => c z.2)]
        have eo : ∀ k x, k ≠ 16 → nCopy S 2 i 1 j n k x = S k x := fun k x hk => by
          unfold nCopy
          rw [if_neg (fun z => hk z.1)]
        refine i_copyT (na := 60) (nb := 60) rfl rfl (by omega) ?_
        have fin := hR (zcpy M 43 i 41 j n) (by
          refine RX_one1 h (fun k x hk => eo k x (by omega)) (fun k x h1 h2 h3 h4 h5 h6 => eo k x h1) (fun k x h1 h2 h3 => by unfold zcpy; rw [if_neg (fun z => h3 z.1)]) ?_
          have zo : ∀ x, zcpy M 43 i 41 j n 40 x = M 40 x := fun x => by unfold zcpy; rw [if_neg (fun z => absurd z.1 (by decide))]
          unfold L4
          rw [eo 12 _ (by decide), eo 13 _ (by decide), eo 14 _ (by decide), zo, zo]
          refine ⟨r1, r2, r3, fun x a b => ?_⟩
          rw [en]
          unfold zcpy
          by_cases c : j ≤ x ∧ x < j + n
          · rw [if_pos c, if_pos ⟨rfl, c⟩]
            exact l4 _ (by omega) (by omega)
          · rw [if_neg c, if_neg (fun z => c z.2)]
            exact r4 x a b) (fun k x hk => by unfold zcpy; rw [if_neg (fun z => by omega)])
        simp only [↓rX7_copy_123, ↓rX7_copy_124, ↓reduceIte, zkeep_n, zkeep_i, zkeep_r, zkeep_l, zup_eq, zIR, zLR, List.length_cons, List.length_nil, Nat.reduceAdd, Nat.reduceLeDiff, Nat.reduceEqDiff, Nat.reduceSub, Int.reduceLE, Int.reduceLT, Int.reduceEq, Int.reduceNe, Int.reduceNeg, Int.reduceAdd, Int.reduceSub, Int.reduceMul, Int.reduceToNat, Nat.le_refl, Nat.zero_le, Nat.zero_add, Int.zero_add, Int.add_zero, and_true, true_and, and_false, false_and, not_true_eq_false, not_false_eq_true, eq_self, ne_eq, true_implies, false_implies, implies_true, or_true, true_or, or_false, false_or, reduceCtorEq, Option.some.injEq, Sum.inl.injEq, exists_eq_left', exists_eq_left, zite]
        exact fin
      simp only [↓eX7_copy, ↓rX7_copy_0, ↓rX7_copy_1, ↓rX7_copy_2, ↓rX7_copy_5, ↓rX7_copy_8, ↓rX7_copy_9, ↓rX7_copy_10, ↓rX7_copy_13, ↓rX7_copy_16, ↓rX7_copy_18, ↓rX7_copy_19, ↓rX7_copy_20, ↓rX7_copy_23, ↓rX7_copy_24, ↓rX7_copy_25, ↓rX7_copy_27, ↓rX7_copy_28, ↓rX7_copy_31, ↓rX7_copy_32, ↓rX7_copy_33, ↓rX7_copy_35, ↓rX7_copy_37, ↓rX7_copy_40, ↓rX7_copy_43, ↓rX7_copy_45, ↓rX7_copy_48, ↓rX7_copy_51, ↓rX7_copy_52, ↓rX7_copy_53, ↓rX7_copy_56, ↓rX7_copy_57, ↓rX7_copy_59, ↓rX7_copy_62, ↓rX7_copy_64, ↓rX7_copy_67, ↓rX7_copy_70, ↓rX7_copy_71, ↓rX7_copy_72, ↓rX7_copy_75, ↓rX7_copy_76, ↓rX7_copy_78, ↓rX7_copy_79, ↓rX7_copy_81, ↓rX7_copy_84, ↓rX7_copy_87, ↓rX7_copy_89, ↓rX7_copy_91, ↓rX7_copy_93, ↓rX7_copy_96, ↓rX7_copy_99, ↓rX7_copy_100, ↓rX7_copy_101, ↓rX7_copy_104, ↓rX7_copy_105, ↓rX7_copy_107, ↓rX7_copy_110, ↓rX7_copy_111, ↓rX7_copy_113, ↓rX7_copy_116, ↓rX7_copy_118, ↓rX7_copy_120, ↓hg_fX7_137_38, ↓hg_fX7_137_40, ↓hg_fX7_137_42, ↓hg_fX7_137_44, ↓hg_fX7_299_38, ↓hg_fX7_299_40, ↓hg_fX7_299_42, ↓hg_fX7_299_44, ↓hg_fX7_44_0, ↓hrow_22, ↓i_finding, ↓i_hasRun38, ↓i_hasRun40, ↓i_hasRun42, ↓i_hasRun44, ↓i_isLost38, ↓i_isLost40, ↓i_isLost42, ↓i_isLost44, ↓i_outside, ↓reduceIte, ↓hrw, ↓hgd0, ↓hgd1, ↓hgd2, ↓hgd3, zkeep_n, zkeep_i, zkeep_r, zkeep_l, zIR, zLR, List.length_cons, List.length_nil, Nat.reduceAdd, Nat.reduceLeDiff, Nat.reduceEqDiff, Nat.reduceSub, Int.reduceLE, Int.reduceLT, Int.reduceEq, Int.reduceNe, Int.reduceNeg, Int.reduceAdd, Int.reduceSub, Int.reduceMul, Int.reduceToNat, Nat.le_refl, Nat.zero_le, Nat.zero_add, Int.zero_add, Int.add_zero, and_true, true_and, and_false, false_and, not_true_eq_false, not_false_eq_true, eq_self, ne_eq, true_implies, false_implies, implies_true, or_true, true_or, or_false, false_or, reduceCtorEq, Option.some.injEq, Sum.inl.injEq, exists_eq_left', exists_eq_left, a1, a2, b1, b2, zite]
      repeat' (first | with_reducible apply And.intro | with_reducible intro _)
      all_goals first | omega | (exact st (by omega)) | (exact no (by omega) (by omega)) | (exact yes (by omega) (by omega))
set_option maxRecDepth 100000 in
set_option maxHeartbeats 4000000 in
theorem x_copy22 {S M : zM} {R : zP} {i j n : Int} (h : RX S M) (z1 : zIR i) (z2 : zIR j) (z3 : zIR n) (hR : ∀ M', RX (mCopy S 2 i 2 j n) M' → XF M M' → R (some (.inl (aCopy S 2 i 2 j n))) M') : tX7_copy [.inr (.inr 0), .inl 2, .inl i, .inl 2, .inl j, .inl n] M R := by
  unfold mCopy aCopy at hR
  have g0 : ((0 : Int) ≤ 2 ∧ (2 : Int) < 4) ∧ ((0 : Int) ≤ 2 ∧ (2 : Int) < 4) := by decide
  rw [if_pos g0, if_pos g0] at hR
  unfold zIR at z1 z2 z3
  obtain ⟨l1, l2, l3, l4⟩ := RX_L42 h
  obtain ⟨r1, r2, r3, r4⟩ := RX_L42 h
  by_cases e : S 12 2 = 0
  · have e1 := l2 e
    rw [if_pos (Or.inl e), if_pos (Or.inl e)] at hR
    have fin := hR _ (RX_find h (by decide)) XF_find
    simp only [↓eX7_copy, ↓rX7_copy_0, ↓rX7_copy_1, ↓rX7_copy_2, ↓rX7_copy_5, ↓rX7_copy_8, ↓rX7_copy_9, ↓rX7_copy_10, ↓rX7_copy_13, ↓rX7_copy_16, ↓rX7_copy_18, ↓rX7_copy_19, ↓rX7_copy_20, ↓rX7_copy_23, ↓rX7_copy_24, ↓rX7_copy_25, ↓rX7_copy_27, ↓rX7_copy_28, ↓rX7_copy_31, ↓rX7_copy_32, ↓rX7_copy_33, ↓rX7_copy_35, ↓rX7_copy_37, ↓rX7_copy_40, ↓rX7_copy_51, ↓rX7_copy_52, ↓rX7_copy_53, ↓rX7_copy_56, ↓hg_fX7_44_0, ↓hrow_22, ↓i_finding, ↓i_isLost38, ↓i_isLost40, ↓i_isLost42, ↓i_isLost44, ↓i_outside, ↓reduceIte, ↓hrw, ↓hgd0, ↓hgd1, ↓hgd2, ↓hgd3, zkeep_n, zkeep_i, zkeep_r, zkeep_l, zIR, zLR, List.length_cons, List.length_nil, Nat.reduceAdd, Nat.reduceLeDiff, Nat.reduceEqDiff, Nat.reduceSub, Int.reduceLE, Int.reduceLT, Int.reduceEq, Int.reduceNe, Int.reduceNeg, Int.reduceAdd, Int.reduceSub, Int.reduceMul, Int.reduceToNat, Nat.le_refl, Nat.zero_le, Nat.zero_add, Int.zero_add, Int.add_zero, and_true, true_and, and_false, false_and, not_true_eq_false, not_false_eq_true, eq_self, ne_eq, true_implies, false_implies, implies_true, or_true, true_or, or_false, false_or, reduceCtorEq, Option.some.injEq, Sum.inl.injEq, exists_eq_left', exists_eq_left, e1, zite]
    repeat' (first | with_reducible apply And.intro | with_reducible intro _)
    all_goals first | omega | (exact fin)
  · obtain ⟨l5, l6⟩ := l3 (by omega)
    have a1 := l5.1
    have a2 := l6.1
    by_cases e2 : S 12 2 = 0
    · have b1 := r2 e2
      rw [if_pos (Or.inr e2), if_pos (Or.inr e2)] at hR
      have fin := hR _ (RX_find h (by decide)) XF_find
      simp only [↓eX7_copy, ↓rX7_copy_0, ↓rX7_copy_1, ↓rX7_copy_2, ↓rX7_copy_5, ↓rX7_copy_8, ↓rX7_copy_9, ↓rX7_copy_10, ↓rX7_copy_13, ↓rX7_copy_16, ↓rX7_copy_18, ↓rX7_copy_19, ↓rX7_copy_20, ↓rX7_copy_23, ↓rX7_copy_24, ↓rX7_copy_25, ↓rX7_copy_27, ↓rX7_copy_28, ↓rX7_copy_31, ↓rX7_copy_32, ↓rX7_copy_33, ↓rX7_copy_35, ↓rX7_copy_37, ↓rX7_copy_40, ↓rX7_copy_43, ↓rX7_copy_45, ↓rX7_copy_48, ↓rX7_copy_51, ↓rX7_copy_52, ↓rX7_copy_53, ↓rX7_copy_56, ↓hg_fX7_44_0, ↓hrow_22, ↓i_finding, ↓i_isLost38, ↓i_isLost40, ↓i_isLost42, ↓i_isLost44, ↓i_outside, ↓reduceIte, ↓hrw, ↓hgd0, ↓hgd1, ↓hgd2, ↓hgd3, zkeep_n, zkeep_i, zkeep_r, zkeep_l, zIR, zLR, List.length_cons, List.length_nil, Nat.reduceAdd, Nat.reduceLeDiff, Nat.reduceEqDiff, Nat.reduceSub, Int.reduceLE, Int.reduceLT, Int.reduceEq, Int.reduceNe, Int.reduceNeg, Int.reduceAdd, Int.reduceSub, Int.reduceMul, Int.reduceToNat, Nat.le_refl, Nat.zero_le, Nat.zero_add, Int.zero_add, Int.add_zero, and_true, true_and, and_false, false_and, not_true_eq_false, not_false_eq_true, eq_self, ne_eq, true_implies, false_implies, implies_true, or_true, true_or, or_false, false_or, reduceCtorEq, Option.some.injEq, Sum.inl.injEq, exists_eq_left', exists_eq_left, a1, b1, zite]
      repeat' (first | with_reducible apply And.intro | with_reducible intro _)
      all_goals first | omega | (exact fin)
    · obtain ⟨r5, r6⟩ := r3 (by omega)
      have b1 := r5.1
      have b2 := r6.1
      have g1 : ¬ (S 12 2 = 0 ∨ S 12 2 = 0) := by omega
      rw [if_neg g1, if_neg g1] at hR
      have st : S 13 2 ≠ S 13 2 → R (some (.inl (-14))) (zup M 0 6 4) := fun q => by
        rw [if_pos q, if_pos q] at hR
        exact hR _ (RX_find h (by decide)) XF_find
      have no : S 13 2 = S 13 2 → ¬ gCopy S 2 i 2 j n → R (some (.inl (-12))) (zup M 0 6 2) := fun q q2 => by
        have q' : ¬ (S 13 2 ≠ S 13 2) := fun z => z q
        rw [if_neg q', if_neg q', if_neg q2, if_neg q2] at hR
        exact hR _ (RX_find h (by decide)) XF_find
      have yes : S 13 2 = S 13 2 → gCopy S 2 i 2 j n → zcn zcopyT [.inr (.inr 43), .inl i, .inr (.inr 43), .inl j, .inl n] M (fun M' => uX7_copy R 123 [some (.inr (.inr 0)), some (.inl 2), some (.inl i), some (.inl 2), some (.inl j), some (.inl n), some (.inr (.inr 42)), some (.inr (.inr 42))] [] M') := fun q q2 => by
        have q' : ¬ (S 13 2 ≠ S 13 2) := fun z => z q
        rw [if_neg q', if_neg q', if_pos q2, if_pos q2] at hR
        have en : ∀ x, nCopy S 2 i 2 j n 17 x = if j ≤ x ∧ x < j + n then S 17 (i + (x - j)) else S 17 x := fun x => by
          unfold nCopy
          by_cases c : j ≤ x ∧ x < j + n
          · rw [if_pos c, if_pos ⟨by decide, c⟩]; rfl
          · rw [if_neg c, if_neg (fun z => c z.2)]
        have eo : ∀ k x, k ≠ 17 → nCopy S 2 i 2 j n k x = S k x := fun k x hk => by
          unfold nCopy
          rw [if_neg (fun z => hk z.1)]
        refine i_copyT (na := 60) (nb := 60) rfl rfl (by omega) ?_
        have fin := hR (zcpy M 43 i 43 j n) (by
          refine RX_one2 h (fun k x hk => eo k x (by omega)) (fun k x h1 h2 h3 h4 h5 h6 => eo k x h1) (fun k x h1 h2 h3 => by unfold zcpy; rw [if_neg (fun z => h3 z.1)]) ?_
          have zo : ∀ x, zcpy M 43 i 43 j n 42 x = M 42 x := fun x => by unfold zcpy; rw [if_neg (fun z => absurd z.1 (by decide))]
          unfold L4
          rw [eo 12 _ (by decide), eo 13 _ (by decide), eo 14 _ (by decide), zo, zo]
          refine ⟨r1, r2, r3, fun x a b => ?_⟩
          rw [en]
          unfold zcpy
          by_cases c : j ≤ x ∧ x < j + n
          · rw [if_pos c, if_pos ⟨rfl, c⟩]
            exact l4 _ (by omega) (by omega)
          · rw [if_neg c, if_neg (fun z => c z.2)]
            exact r4 x a b) (fun k x hk => by unfold zcpy; rw [if_neg (fun z => by omega)])
        simp only [↓rX7_copy_123, ↓rX7_copy_124, ↓reduceIte, zkeep_n, zkeep_i, zkeep_r, zkeep_l, zup_eq, zIR, zLR, List.length_cons, List.length_nil, Nat.reduceAdd, Nat.reduceLeDiff, Nat.reduceEqDiff, Nat.reduceSub, Int.reduceLE, Int.reduceLT, Int.reduceEq, Int.reduceNe, Int.reduceNeg, Int.reduceAdd, Int.reduceSub, Int.reduceMul, Int.reduceToNat, Nat.le_refl, Nat.zero_le, Nat.zero_add, Int.zero_add, Int.add_zero, and_true, true_and, and_false, false_and, not_true_eq_false, not_false_eq_true, eq_self, ne_eq, true_implies, false_implies, implies_true, or_true, true_or, or_false, false_or, reduceCtorEq, Option.some.injEq, Sum.inl.injEq, exists_eq_left', exists_eq_left, zite]
        exact fin
      simp only [↓eX7_copy, ↓rX7_copy_0, ↓rX7_copy_1, ↓rX7_copy_2, ↓rX7_copy_5, ↓rX7_copy_8, ↓rX7_copy_9, ↓rX7_copy_10, ↓rX7_copy_13, ↓rX7_copy_16, ↓rX7_copy_18, ↓rX7_copy_19, ↓rX7_copy_20, ↓rX7_copy_23, ↓rX7_copy_24, ↓rX7_copy_25, ↓rX7_copy_27, ↓rX7_copy_28, ↓rX7_copy_31, ↓rX7_copy_32, ↓rX7_copy_33, ↓rX7_copy_35, ↓rX7_copy_37, ↓rX7_copy_40, ↓rX7_copy_43, ↓rX7_copy_45, ↓rX7_copy_48, ↓rX7_copy_51, ↓rX7_copy_52, ↓rX7_copy_53, ↓rX7_copy_56, ↓rX7_copy_57, ↓rX7_copy_59, ↓rX7_copy_62, ↓rX7_copy_64, ↓rX7_copy_67, ↓rX7_copy_70, ↓rX7_copy_71, ↓rX7_copy_72, ↓rX7_copy_75, ↓rX7_copy_76, ↓rX7_copy_78, ↓rX7_copy_79, ↓rX7_copy_81, ↓rX7_copy_84, ↓rX7_copy_87, ↓rX7_copy_89, ↓rX7_copy_91, ↓rX7_copy_93, ↓rX7_copy_96, ↓rX7_copy_99, ↓rX7_copy_100, ↓rX7_copy_101, ↓rX7_copy_104, ↓rX7_copy_105, ↓rX7_copy_107, ↓rX7_copy_110, ↓rX7_copy_111, ↓rX7_copy_113, ↓rX7_copy_116, ↓rX7_copy_118, ↓rX7_copy_120, ↓hg_fX7_137_38, ↓hg_fX7_137_40, ↓hg_fX7_137_42, ↓hg_fX7_137_44, ↓hg_fX7_299_38, ↓hg_fX7_299_40, ↓hg_fX7_299_42, ↓hg_fX7_299_44, ↓hg_fX7_44_0, ↓hrow_22, ↓i_finding, ↓i_hasRun38, ↓i_hasRun40, ↓i_hasRun42, ↓i_hasRun44, ↓i_isLost38, ↓i_isLost40, ↓i_isLost42, ↓i_isLost44, ↓i_outside, ↓reduceIte, ↓hrw, ↓hgd0, ↓hgd1, ↓hgd2, ↓hgd3, zkeep_n, zkeep_i, zkeep_r, zkeep_l, zIR, zLR, List.length_cons, List.length_nil, Nat.reduceAdd, Nat.reduceLeDiff, Nat.reduceEqDiff, Nat.reduceSub, Int.reduceLE, Int.reduceLT, Int.reduceEq, Int.reduceNe, Int.reduceNeg, Int.reduceAdd, Int.reduceSub, Int.reduceMul, Int.reduceToNat, Nat.le_refl, Nat.zero_le, Nat.zero_add, Int.zero_add, Int.add_zero, and_true, true_and, and_false, false_and, not_true_eq_false, not_false_eq_true, eq_self, ne_eq, true_implies, false_implies, implies_true, or_true, true_or, or_false, false_or, reduceCtorEq, Option.some.injEq, Sum.inl.injEq, exists_eq_left', exists_eq_left, a1, a2, b1, b2, zite]
      repeat' (first | with_reducible apply And.intro | with_reducible intro _)
      all_goals first | omega | (exact st (by omega)) | (exact no (by omega) (by omega)) | (exact yes (by omega) (by omega))
set_option maxRecDepth 100000 in
set_option maxHeartbeats 4000000 in
theorem x_copy23 {S M : zM} {R : zP} {i j n : Int} (h : RX S M) (z1 : zIR i) (z2 : zIR j) (z3 : zIR n) (hR : ∀ M', RX (mCopy S 2 i 3 j n) M' → XF M M' → R (some (.inl (aCopy S 2 i 3 j n))) M') : tX7_copy [.inr (.inr 0), .inl 2, .inl i, .inl 3, .inl j, .inl n] M R := by
  unfold mCopy aCopy at hR
  have g0 : ((0 : Int) ≤ 2 ∧ (2 : Int) < 4) ∧ ((0 : Int) ≤ 3 ∧ (3 : Int) < 4) := by decide
  rw [if_pos g0, if_pos g0] at hR
  unfold zIR at z1 z2 z3
  obtain ⟨l1, l2, l3, l4⟩ := RX_L42 h
  obtain ⟨r1, r2, r3, r4⟩ := RX_L43 h
  by_cases e : S 12 2 = 0
  · have e1 := l2 e
    rw [if_pos (Or.inl e), if_pos (Or.inl e)] at hR
    have fin := hR _ (RX_find h (by decide)) XF_find
    simp only [↓eX7_copy, ↓rX7_copy_0, ↓rX7_copy_1, ↓rX7_copy_2, ↓rX7_copy_5, ↓rX7_copy_8, ↓rX7_copy_9, ↓rX7_copy_10, ↓rX7_copy_13, ↓rX7_copy_16, ↓rX7_copy_18, ↓rX7_copy_19, ↓rX7_copy_20, ↓rX7_copy_23, ↓rX7_copy_24, ↓rX7_copy_25, ↓rX7_copy_27, ↓rX7_copy_28, ↓rX7_copy_31, ↓rX7_copy_32, ↓rX7_copy_33, ↓rX7_copy_35, ↓rX7_copy_37, ↓rX7_copy_40, ↓rX7_copy_51, ↓rX7_copy_52, ↓rX7_copy_53, ↓rX7_copy_56, ↓hg_fX7_44_0, ↓hrow_22, ↓i_finding, ↓i_isLost38, ↓i_isLost40, ↓i_isLost42, ↓i_isLost44, ↓i_outside, ↓reduceIte, ↓hrw, ↓hgd0, ↓hgd1, ↓hgd2, ↓hgd3, zkeep_n, zkeep_i, zkeep_r, zkeep_l, zIR, zLR, List.length_cons, List.length_nil, Nat.reduceAdd, Nat.reduceLeDiff, Nat.reduceEqDiff, Nat.reduceSub, Int.reduceLE, Int.reduceLT, Int.reduceEq, Int.reduceNe, Int.reduceNeg, Int.reduceAdd, Int.reduceSub, Int.reduceMul, Int.reduceToNat, Nat.le_refl, Nat.zero_le, Nat.zero_add, Int.zero_add, Int.add_zero, and_true, true_and, and_false, false_and, not_true_eq_false, not_false_eq_true, eq_self, ne_eq, true_implies, false_implies, implies_true, or_true, true_or, or_false, false_or, reduceCtorEq, Option.some.injEq, Sum.inl.injEq, exists_eq_left', exists_eq_left, e1, zite]
    repeat' (first | with_reducible apply And.intro | with_reducible intro _)
    all_goals first | omega | (exact fin)
  · obtain ⟨l5, l6⟩ := l3 (by omega)
    have a1 := l5.1
    have a2 := l6.1
    by_cases e2 : S 12 3 = 0
    · have b1 := r2 e2
      rw [if_pos (Or.inr e2), if_pos (Or.inr e2)] at hR
      have fin := hR _ (RX_find h (by decide)) XF_find
      simp only [↓eX7_copy, ↓rX7_copy_0, ↓rX7_copy_1, ↓rX7_copy_2, ↓rX7_copy_5, ↓rX7_copy_8, ↓rX7_copy_9, ↓rX7_copy_10, ↓rX7_copy_13, ↓rX7_copy_16, ↓rX7_copy_18, ↓rX7_copy_19, ↓rX7_copy_20, ↓rX7_copy_23, ↓rX7_copy_24, ↓rX7_copy_25, ↓rX7_copy_27, ↓rX7_copy_28, ↓rX7_copy_31, ↓rX7_copy_32, ↓rX7_copy_33, ↓rX7_copy_35, ↓rX7_copy_37, ↓rX7_copy_40, ↓rX7_copy_43, ↓rX7_copy_45, ↓rX7_copy_48, ↓rX7_copy_51, ↓rX7_copy_52, ↓rX7_copy_53, ↓rX7_copy_56, ↓hg_fX7_44_0, ↓hrow_22, ↓i_finding, ↓i_isLost38, ↓i_isLost40, ↓i_isLost42, ↓i_isLost44, ↓i_outside, ↓reduceIte, ↓hrw, ↓hgd0, ↓hgd1, ↓hgd2, ↓hgd3, zkeep_n, zkeep_i, zkeep_r, zkeep_l, zIR, zLR, List.length_cons, List.length_nil, Nat.reduceAdd, Nat.reduceLeDiff, Nat.reduceEqDiff, Nat.reduceSub, Int.reduceLE, Int.reduceLT, Int.reduceEq, Int.reduceNe, Int.reduceNeg, Int.reduceAdd, Int.reduceSub, Int.reduceMul, Int.reduceToNat, Nat.le_refl, Nat.zero_le, Nat.zero_add, Int.zero_add, Int.add_zero, and_true, true_and, and_false, false_and, not_true_eq_false, not_false_eq_true, eq_self, ne_eq, true_implies, false_implies, implies_true, or_true, true_or, or_false, false_or, reduceCtorEq, Option.some.injEq, Sum.inl.injEq, exists_eq_left', exists_eq_left, a1, b1, zite]
      repeat' (first | with_reducible apply And.intro | with_reducible intro _)
      all_goals first | omega | (exact fin)
    · obtain ⟨r5, r6⟩ := r3 (by omega)
      have b1 := r5.1
      have b2 := r6.1
      have g1 : ¬ (S 12 2 = 0 ∨ S 12 3 = 0) := by omega
      rw [if_neg g1, if_neg g1] at hR
      have st : S 13 2 ≠ S 13 3 → R (some (.inl (-14))) (zup M 0 6 4) := fun q => by
        rw [if_pos q, if_pos q] at hR
        exact hR _ (RX_find h (by decide)) XF_find
      have no : S 13 2 = S 13 3 → ¬ gCopy S 2 i 3 j n → R (some (.inl (-12))) (zup M 0 6 2) := fun q q2 => by
        have q' : ¬ (S 13 2 ≠ S 13 3) := fun z => z q
        rw [if_neg q', if_neg q', if_neg q2, if_neg q2] at hR
        exact hR _ (RX_find h (by decide)) XF_find
      have yes : S 13 2 = S 13 3 → gCopy S 2 i 3 j n → zcn zcopyT [.inr (.inr 43), .inl i, .inr (.inr 45), .inl j, .inl n] M (fun M' => uX7_copy R 123 [some (.inr (.inr 0)), some (.inl 2), some (.inl i), some (.inl 3), some (.inl j), some (.inl n), some (.inr (.inr 42)), some (.inr (.inr 44))] [] M') := fun q q2 => by
        have q' : ¬ (S 13 2 ≠ S 13 3) := fun z => z q
        rw [if_neg q', if_neg q', if_pos q2, if_pos q2] at hR
        have en : ∀ x, nCopy S 2 i 3 j n 18 x = if j ≤ x ∧ x < j + n then S 17 (i + (x - j)) else S 18 x := fun x => by
          unfold nCopy
          by_cases c : j ≤ x ∧ x < j + n
          · rw [if_pos c, if_pos ⟨by decide, c⟩]; rfl
          · rw [if_neg c, if_neg (fun z => c z.2)]
        have eo : ∀ k x, k ≠ 18 → nCopy S 2 i 3 j n k x = S k x := fun k x hk => by
          unfold nCopy
          rw [if_neg (fun z => hk z.1)]
        refine i_copyT (na := 60) (nb := 60) rfl rfl (by omega) ?_
        have fin := hR (zcpy M 43 i 45 j n) (by
          refine RX_one3 h (fun k x hk => eo k x (by omega)) (fun k x h1 h2 h3 h4 h5 h6 => eo k x h1) (fun k x h1 h2 h3 => by unfold zcpy; rw [if_neg (fun z => h3 z.1)]) ?_
          have zo : ∀ x, zcpy M 43 i 45 j n 44 x = M 44 x := fun x => by unfold zcpy; rw [if_neg (fun z => absurd z.1 (by decide))]
          unfold L4
          rw [eo 12 _ (by decide), eo 13 _ (by decide), eo 14 _ (by decide), zo, zo]
          refine ⟨r1, r2, r3, fun x a b => ?_⟩
          rw [en]
          unfold zcpy
          by_cases c : j ≤ x ∧ x < j + n
          · rw [if_pos c, if_pos ⟨rfl, c⟩]
            exact l4 _ (by omega) (by omega)
          · rw [if_neg c, if_neg (fun z => c z.2)]
            exact r4 x a b) (fun k x hk => by unfold zcpy; rw [if_neg (fun z => by omega)])
        simp only [↓rX7_copy_123, ↓rX7_copy_124, ↓reduceIte, zkeep_n, zkeep_i, zkeep_r, zkeep_l, zup_eq, zIR, zLR, List.length_cons, List.length_nil, Nat.reduceAdd, Nat.reduceLeDiff, Nat.reduceEqDiff, Nat.reduceSub, Int.reduceLE, Int.reduceLT, Int.reduceEq, Int.reduceNe, Int.reduceNeg, Int.reduceAdd, Int.reduceSub, Int.reduceMul, Int.reduceToNat, Nat.le_refl, Nat.zero_le, Nat.zero_add, Int.zero_add, Int.add_zero, and_true, true_and, and_false, false_and, not_true_eq_false, not_false_eq_true, eq_self, ne_eq, true_implies, false_implies, implies_true, or_true, true_or, or_false, false_or, reduceCtorEq, Option.some.injEq, Sum.inl.injEq, exists_eq_left', exists_eq_left, zite]
        exact fin
      simp only [↓eX7_copy, ↓rX7_copy_0, ↓rX7_copy_1, ↓rX7_copy_2, ↓rX7_copy_5, ↓rX7_copy_8, ↓rX7_copy_9, ↓rX7_copy_10, ↓rX7_copy_13, ↓rX7_copy_16, ↓rX7_copy_18, ↓rX7_copy_19, ↓rX7_copy_20, ↓rX7_copy_23, ↓rX7_copy_24, ↓rX7_copy_25, ↓rX7_copy_27, ↓rX7_copy_28, ↓rX7_copy_31, ↓rX7_copy_32, ↓rX7_copy_33, ↓rX7_copy_35, ↓rX7_copy_37, ↓rX7_copy_40, ↓rX7_copy_43, ↓rX7_copy_45, ↓rX7_copy_48, ↓rX7_copy_51, ↓rX7_copy_52, ↓rX7_copy_53, ↓rX7_copy_56, ↓rX7_copy_57, ↓rX7_copy_59, ↓rX7_copy_62, ↓rX7_copy_64, ↓rX7_copy_67, ↓rX7_copy_70, ↓rX7_copy_71, ↓rX7_copy_72, ↓rX7_copy_75, ↓rX7_copy_76, ↓rX7_copy_78, ↓rX7_copy_79, ↓rX7_copy_81, ↓rX7_copy_84, ↓rX7_copy_87, ↓rX7_copy_89, ↓rX7_copy_91, ↓rX7_copy_93, ↓rX7_copy_96, ↓rX7_copy_99, ↓rX7_copy_100, ↓rX7_copy_101, ↓rX7_copy_104, ↓rX7_copy_105, ↓rX7_copy_107, ↓rX7_copy_110, ↓rX7_copy_111, ↓rX7_copy_113, ↓rX7_copy_116, ↓rX7_copy_118, ↓rX7_copy_120, ↓hg_fX7_137_38, ↓hg_fX7_137_40, ↓hg_fX7_137_42, ↓hg_fX7_137_44, ↓hg_fX7_299_38, ↓hg_fX7_299_40, ↓hg_fX7_299_42, ↓hg_fX7_299_44, ↓hg_fX7_44_0, ↓hrow_22, ↓i_finding, ↓i_hasRun38, ↓i_hasRun40, ↓i_hasRun42, ↓i_hasRun44, ↓i_isLost38, ↓i_isLost40, ↓i_isLost42, ↓i_isLost44, ↓i_outside, ↓reduceIte, ↓hrw, ↓hgd0, ↓hgd1, ↓hgd2, ↓hgd3, zkeep_n, zkeep_i, zkeep_r, zkeep_l, zIR, zLR, List.length_cons, List.length_nil, Nat.reduceAdd, Nat.reduceLeDiff, Nat.reduceEqDiff, Nat.reduceSub, Int.reduceLE, Int.reduceLT, Int.reduceEq, Int.reduceNe, Int.reduceNeg, Int.reduceAdd, Int.reduceSub, Int.reduceMul, Int.reduceToNat, Nat.le_refl, Nat.zero_le, Nat.zero_add, Int.zero_add, Int.add_zero, and_true, true_and, and_false, false_and, not_true_eq_false, not_false_eq_true, eq_self, ne_eq, true_implies, false_implies, implies_true, or_true, true_or, or_false, false_or, reduceCtorEq, Option.some.injEq, Sum.inl.injEq, exists_eq_left', exists_eq_left, a1, a2, b1, b2, zite]
      repeat' (first | with_reducible apply And.intro | with_reducible intro _)
      all_goals first | omega | (exact st (by omega)) | (exact no (by omega) (by omega)) | (exact yes (by omega) (by omega))
set_option maxRecDepth 100000 in
set_option maxHeartbeats 4000000 in
theorem x_copy30 {S M : zM} {R : zP} {i j n : Int} (h : RX S M) (z1 : zIR i) (z2 : zIR j) (z3 : zIR n) (hR : ∀ M', RX (mCopy S 3 i 0 j n) M' → XF M M' → R (some (.inl (aCopy S 3 i 0 j n))) M') : tX7_copy [.inr (.inr 0), .inl 3, .inl i, .inl 0, .inl j, .inl n] M R := by
  unfold mCopy aCopy at hR
  have g0 : ((0 : Int) ≤ 3 ∧ (3 : Int) < 4) ∧ ((0 : Int) ≤ 0 ∧ (0 : Int) < 4) := by decide
  rw [if_pos g0, if_pos g0] at hR
  unfold zIR at z1 z2 z3
  obtain ⟨l1, l2, l3, l4⟩ := RX_L43 h
  obtain ⟨r1, r2, r3, r4⟩ := RX_L40 h
  by_cases e : S 12 3 = 0
  · have e1 := l2 e
    rw [if_pos (Or.inl e), if_pos (Or.inl e)] at hR
    have fin := hR _ (RX_find h (by decide)) XF_find
    simp only [↓eX7_copy, ↓rX7_copy_0, ↓rX7_copy_1, ↓rX7_copy_2, ↓rX7_copy_5, ↓rX7_copy_8, ↓rX7_copy_9, ↓rX7_copy_10, ↓rX7_copy_13, ↓rX7_copy_16, ↓rX7_copy_18, ↓rX7_copy_19, ↓rX7_copy_20, ↓rX7_copy_23, ↓rX7_copy_24, ↓rX7_copy_25, ↓rX7_copy_27, ↓rX7_copy_28, ↓rX7_copy_31, ↓rX7_copy_32, ↓rX7_copy_33, ↓rX7_copy_35, ↓rX7_copy_37, ↓rX7_copy_40, ↓rX7_copy_51, ↓rX7_copy_52, ↓rX7_copy_53, ↓rX7_copy_56, ↓hg_fX7_44_0, ↓hrow_22, ↓i_finding, ↓i_isLost38, ↓i_isLost40, ↓i_isLost42, ↓i_isLost44, ↓i_outside, ↓reduceIte, ↓hrw, ↓hgd0, ↓hgd1, ↓hgd2, ↓hgd3, zkeep_n, zkeep_i, zkeep_r, zkeep_l, zIR, zLR, List.length_cons, List.length_nil, Nat.reduceAdd, Nat.reduceLeDiff, Nat.reduceEqDiff, Nat.reduceSub, Int.reduceLE, Int.reduceLT, Int.reduceEq, Int.reduceNe, Int.reduceNeg, Int.reduceAdd, Int.reduceSub, Int.reduceMul, Int.reduceToNat, Nat.le_refl, Nat.zero_le, Nat.zero_add, Int.zero_add, Int.add_zero, and_true, true_and, and_false, false_and, not_true_eq_false, not_false_eq_true, eq_self, ne_eq, true_implies, false_implies, implies_true, or_true, true_or, or_false, false_or, reduceCtorEq, Option.some.injEq, Sum.inl.injEq, exists_eq_left', exists_eq_left, e1, zite]
    repeat' (first | with_reducible apply And.intro | with_reducible intro _)
    all_goals first | omega | (exact fin)
  · obtain ⟨l5, l6⟩ := l3 (by omega)
    have a1 := l5.1
    have a2 := l6.1
    by_cases e2 : S 12 0 = 0
    · have b1 := r2 e2
      rw [if_pos (Or.inr e2), if_pos (Or.inr e2)] at hR
      have fin := hR _ (RX_find h (by decide)) XF_find
      simp only [↓eX7_copy, ↓rX7_copy_0, ↓rX7_copy_1, ↓rX7_copy_2, ↓rX7_copy_5, ↓rX7_copy_8, ↓rX7_copy_9, ↓rX7_copy_10, ↓rX7_copy_13, ↓rX7_copy_16, ↓rX7_copy_18, ↓rX7_copy_19, ↓rX7_copy_20, ↓rX7_copy_23, ↓rX7_copy_24, ↓rX7_copy_25, ↓rX7_copy_27, ↓rX7_copy_28, ↓rX7_copy_31, ↓rX7_copy_32, ↓rX7_copy_33, ↓rX7_copy_35, ↓rX7_copy_37, ↓rX7_copy_40, ↓rX7_copy_43, ↓rX7_copy_45, ↓rX7_copy_48, ↓rX7_copy_51, ↓rX7_copy_52, ↓rX7_copy_53, ↓rX7_copy_56, ↓hg_fX7_44_0, ↓hrow_22, ↓i_finding, ↓i_isLost38, ↓i_isLost40, ↓i_isLost42, ↓i_isLost44, ↓i_outside, ↓reduceIte, ↓hrw, ↓hgd0, ↓hgd1, ↓hgd2, ↓hgd3, zkeep_n, zkeep_i, zkeep_r, zkeep_l, zIR, zLR, List.length_cons, List.length_nil, Nat.reduceAdd, Nat.reduceLeDiff, Nat.reduceEqDiff, Nat.reduceSub, Int.reduceLE, Int.reduceLT, Int.reduceEq, Int.reduceNe, Int.reduceNeg, Int.reduceAdd, Int.reduceSub, Int.reduceMul, Int.reduceToNat, Nat.le_refl, Nat.zero_le, Nat.zero_add, Int.zero_add, Int.add_zero, and_true, true_and, and_false, false_and, not_true_eq_false, not_false_eq_true, eq_self, ne_eq, true_implies, false_implies, implies_true, or_true, true_or, or_false, false_or, reduceCtorEq, Option.some.injEq, Sum.inl.injEq, exists_eq_left', exists_eq_left, a1, b1, zite]
      repeat' (first | with_reducible apply And.intro | with_reducible intro _)
      all_goals first | omega | (exact fin)
    · obtain ⟨r5, r6⟩ := r3 (by omega)
      have b1 := r5.1
      have b2 := r6.1
      have g1 : ¬ (S 12 3 = 0 ∨ S 12 0 = 0) := by omega
      rw [if_neg g1, if_neg g1] at hR
      have st : S 13 3 ≠ S 13 0 → R (some (.inl (-14))) (zup M 0 6 4) := fun q => by
        rw [if_pos q, if_pos q] at hR
        exact hR _ (RX_find h (by decide)) XF_find
      have no : S 13 3 = S 13 0 → ¬ gCopy S 3 i 0 j n → R (some (.inl (-12))) (zup M 0 6 2) := fun q q2 => by
        have q' : ¬ (S 13 3 ≠ S 13 0) := fun z => z q
        rw [if_neg q', if_neg q', if_neg q2, if_neg q2] at hR
        exact hR _ (RX_find h (by decide)) XF_find
      have yes : S 13 3 = S 13 0 → gCopy S 3 i 0 j n → zcn zcopyT [.inr (.inr 45), .inl i, .inr (.inr 39), .inl j, .inl n] M (fun M' => uX7_copy R 123 [some (.inr (.inr 0)), some (.inl 3), some (.inl i), some (.inl 0), some (.inl j), some (.inl n), some (.inr (.inr 44)), some (.inr (.inr 38))] [] M') := fun q q2 => by
        have q' : ¬ (S 13 3 ≠ S 13 0) := fun z => z q
        rw [if_neg q', if_neg q', if_pos q2, if_pos q2] at hR
        have en : ∀ x, nCopy S 3 i 0 j n 15 x = if j ≤ x ∧ x < j + n then S 18 (i + (x - j)) else S 15 x := fun x => by
          unfold nCopy
          by_cases c : j ≤ x ∧ x < j + n
          · rw [if_pos c, if_pos ⟨by decide, c⟩]; rfl
          · rw [if_neg c, if_neg (fun z => c z.2)]
        have eo : ∀ k x, k ≠ 15 → nCopy S 3 i 0 j n k x = S k x := fun k x hk => by
          unfold nCopy
          rw [if_neg (fun z => hk z.1)]
        refine i_copyT (na := 60) (nb := 60) rfl rfl (by omega) ?_
        have fin := hR (zcpy M 45 i 39 j n) (by
          refine RX_one0 h (fun k x hk => eo k x (by omega)) (fun k x h1 h2 h3 h4 h5 h6 => eo k x h1) (fun k x h1 h2 h3 => by unfold zcpy; rw [if_neg (fun z => h3 z.1)]) ?_
          have zo : ∀ x, zcpy M 45 i 39 j n 38 x = M 38 x := fun x => by unfold zcpy; rw [if_neg (fun z => absurd z.1 (by decide))]
          unfold L4
          rw [eo 12 _ (by decide), eo 13 _ (by decide), eo 14 _ (by decide), zo, zo]
          refine ⟨r1, r2, r3, fun x a b => ?_⟩
          rw [en]
          unfold zcpy
          by_cases c : j ≤ x ∧ x < j + n
          · rw [if_pos c, if_pos ⟨rfl, c⟩]
            exact l4 _ (by omega) (by omega)
          · rw [if_neg c, if_neg (fun z => c z.2)]
            exact r4 x a b) (fun k x hk => by unfold zcpy; rw [if_neg (fun z => by omega)])
        simp only [↓rX7_copy_123, ↓rX7_copy_124, ↓reduceIte, zkeep_n, zkeep_i, zkeep_r, zkeep_l, zup_eq, zIR, zLR, List.length_cons, List.length_nil, Nat.reduceAdd, Nat.reduceLeDiff, Nat.reduceEqDiff, Nat.reduceSub, Int.reduceLE, Int.reduceLT, Int.reduceEq, Int.reduceNe, Int.reduceNeg, Int.reduceAdd, Int.reduceSub, Int.reduceMul, Int.reduceToNat, Nat.le_refl, Nat.zero_le, Nat.zero_add, Int.zero_add, Int.add_zero, and_true, true_and, and_false, false_and, not_true_eq_false, not_false_eq_true, eq_self, ne_eq, true_implies, false_implies, implies_true, or_true, true_or, or_false, false_or, reduceCtorEq, Option.some.injEq, Sum.inl.injEq, exists_eq_left', exists_eq_left, zite]
        exact fin
      simp only [↓eX7_copy, ↓rX7_copy_0, ↓rX7_copy_1, ↓rX7_copy_2, ↓rX7_copy_5, ↓rX7_copy_8, ↓rX7_copy_9, ↓rX7_copy_10, ↓rX7_copy_13, ↓rX7_copy_16, ↓rX7_copy_18, ↓rX7_copy_19, ↓rX7_copy_20, ↓rX7_copy_23, ↓rX7_copy_24, ↓rX7_copy_25, ↓rX7_copy_27, ↓rX7_copy_28, ↓rX7_copy_31, ↓rX7_copy_32, ↓rX7_copy_33, ↓rX7_copy_35, ↓rX7_copy_37, ↓rX7_copy_40, ↓rX7_copy_43, ↓rX7_copy_45, ↓rX7_copy_48, ↓rX7_copy_51, ↓rX7_copy_52, ↓rX7_copy_53, ↓rX7_copy_56, ↓rX7_copy_57, ↓rX7_copy_59, ↓rX7_copy_62, ↓rX7_copy_64, ↓rX7_copy_67, ↓rX7_copy_70, ↓rX7_copy_71, ↓rX7_copy_72, ↓rX7_copy_75, ↓rX7_copy_76, ↓rX7_copy_78, ↓rX7_copy_79, ↓rX7_copy_81, ↓rX7_copy_84, ↓rX7_copy_87, ↓rX7_copy_89, ↓rX7_copy_91, ↓rX7_copy_93, ↓rX7_copy_96, ↓rX7_copy_99, ↓rX7_copy_100, ↓rX7_copy_101, ↓rX7_copy_104, ↓rX7_copy_105, ↓rX7_copy_107, ↓rX7_copy_110, ↓rX7_copy_111, ↓rX7_copy_113, ↓rX7_copy_116, ↓rX7_copy_118, ↓rX7_copy_120, ↓hg_fX7_137_38, ↓hg_fX7_137_40, ↓hg_fX7_137_42, ↓hg_fX7_137_44, ↓hg_fX7_299_38, ↓hg_fX7_299_40, ↓hg_fX7_299_42, ↓hg_fX7_299_44, ↓hg_fX7_44_0, ↓hrow_22, ↓i_finding, ↓i_hasRun38, ↓i_hasRun40, ↓i_hasRun42, ↓i_hasRun44, ↓i_isLost38, ↓i_isLost40, ↓i_isLost42, ↓i_isLost44, ↓i_outside, ↓reduceIte, ↓hrw, ↓hgd0, ↓hgd1, ↓hgd2, ↓hgd3, zkeep_n, zkeep_i, zkeep_r, zkeep_l, zIR, zLR, List.length_cons, List.length_nil, Nat.reduceAdd, Nat.reduceLeDiff, Nat.reduceEqDiff, Nat.reduceSub, Int.reduceLE, Int.reduceLT, Int.reduceEq, Int.reduceNe, Int.reduceNeg, Int.reduceAdd, Int.reduceSub, Int.reduceMul, Int.reduceToNat, Nat.le_refl, Nat.zero_le, Nat.zero_add, Int.zero_add, Int.add_zero, and_true, true_and, and_false, false_and, not_true_eq_false, not_false_eq_true, eq_self, ne_eq, true_implies, false_implies, implies_true, or_true, true_or, or_false, false_or, reduceCtorEq, Option.some.injEq, Sum.inl.injEq, exists_eq_left', exists_eq_left, a1, a2, b1, b2, zite]
      repeat' (first | with_reducible apply And.intro | with_reducible intro _)
      all_goals first | omega | (exact st (by omega)) | (exact no (by omega) (by omega)) | (exact yes (by omega) (by omega))
set_option maxRecDepth 100000 in
set_option maxHeartbeats 4000000 in
theorem x_copy31 {S M : zM} {R : zP} {i j n : Int} (h : RX S M) (z1 : zIR i) (z2 : zIR j) (z3 : zIR n) (hR : ∀ M', RX (mCopy S 3 i 1 j n) M' → XF M M' → R (some (.inl (aCopy S 3 i 1 j n))) M') : tX7_copy [.inr (.inr 0), .inl 3, .inl i, .inl 1, .inl j, .inl n] M R := by
  unfold mCopy aCopy at hR
  have g0 : ((0 : Int) ≤ 3 ∧ (3 : Int) < 4) ∧ ((0 : Int) ≤ 1 ∧ (1 : Int) < 4) := by decide
  rw [if_pos g0, if_pos g0] at hR
  unfold zIR at z1 z2 z3
  obtain ⟨l1, l2, l3, l4⟩ := RX_L43 h
  obtain ⟨r1, r2, r3, r4⟩ := RX_L41 h
  by_cases e : S 12 3 = 0
  · have e1 := l2 e
    rw [if_pos (Or.inl e), if_pos (Or.inl e)] at hR
    have fin := hR _ (RX_find h (by decide)) XF_find
    simp only [↓eX7_copy, ↓rX7_copy_0, ↓rX7_copy_1, ↓rX7_copy_2, ↓rX7_copy_5, ↓rX7_copy_8, ↓rX7_copy_9, ↓rX7_copy_10, ↓rX7_copy_13, ↓rX7_copy_16, ↓rX7_copy_18, ↓rX7_copy_19, ↓rX7_copy_20, ↓rX7_copy_23, ↓rX7_copy_24, ↓rX7_copy_25, ↓rX7_copy_27, ↓rX7_copy_28, ↓rX7_copy_31, ↓rX7_copy_32, ↓rX7_copy_33, ↓rX7_copy_35, ↓rX7_copy_37, ↓rX7_copy_40, ↓rX7_copy_51, ↓rX7_copy_52, ↓rX7_copy_53, ↓rX7_copy_56, ↓hg_fX7_44_0, ↓hrow_22, ↓i_finding, ↓i_isLost38, ↓i_isLost40, ↓i_isLost42, ↓i_isLost44, ↓i_outside, ↓reduceIte, ↓hrw, ↓hgd0, ↓hgd1, ↓hgd2, ↓hgd3, zkeep_n, zkeep_i, zkeep_r, zkeep_l, zIR, zLR, List.length_cons, List.length_nil, Nat.reduceAdd, Nat.reduceLeDiff, Nat.reduceEqDiff, Nat.reduceSub, Int.reduceLE, Int.reduceLT, Int.reduceEq, Int.reduceNe, Int.reduceNeg, Int.reduceAdd, Int.reduceSub, Int.reduceMul, Int.reduceToNat, Nat.le_refl, Nat.zero_le, Nat.zero_add, Int.zero_add, Int.add_zero, and_true, true_and, and_false, false_and, not_true_eq_false, not_false_eq_true, eq_self, ne_eq, true_implies, false_implies, implies_true, or_true, true_or, or_false, false_or, reduceCtorEq, Option.some.injEq, Sum.inl.injEq, exists_eq_left', exists_eq_left, e1, zite]
    repeat' (first | with_reducible apply And.intro | with_reducible intro _)
    all_goals first | omega | (exact fin)
  · obtain ⟨l5, l6⟩ := l3 (by omega)
    have a1 := l5.1
    have a2 := l6.1
    by_cases e2 : S 12 1 = 0
    · have b1 := r2 e2
      rw [if_pos (Or.inr e2), if_pos (Or.inr e2)] at hR
      have fin := hR _ (RX_find h (by decide)) XF_find
      simp only [↓eX7_copy, ↓rX7_copy_0, ↓rX7_copy_1, ↓rX7_copy_2, ↓rX7_copy_5, ↓rX7_copy_8, ↓rX7_copy_9, ↓rX7_copy_10, ↓rX7_copy_13, ↓rX7_copy_16, ↓rX7_copy_18, ↓rX7_copy_19, ↓rX7_copy_20, ↓rX7_copy_23, ↓rX7_copy_24, ↓rX7_copy_25, ↓rX7_copy_27, ↓rX7_copy_28, ↓rX7_copy_31, ↓rX7_copy_32, ↓rX7_copy_33, ↓rX7_copy_35, ↓rX7_copy_37, ↓rX7_copy_40, ↓rX7_copy_43, ↓rX7_copy_45, ↓rX7_copy_48, ↓rX7_copy_51, ↓rX7_copy_52, ↓rX7_copy_53, ↓rX7_copy_56, ↓hg_fX7_44_0, ↓hrow_22, ↓i_finding, ↓i_isLost38, ↓i_isLost40, ↓i_isLost42, ↓i_isLost44, ↓i_outside, ↓reduceIte, ↓hrw, ↓hgd0, ↓hgd1, ↓hgd2, ↓hgd3, zkeep_n, zkeep_i, zkeep_r, zkeep_l, zIR, zLR, List.length_cons, List.length_nil, Nat.reduceAdd, Nat.reduceLeDiff, Nat.reduceEqDiff, Nat.reduceSub, Int.reduceLE, Int.reduceLT, Int.reduceEq, Int.reduceNe, Int.reduceNeg, Int.reduceAdd, Int.reduceSub, Int.reduceMul, Int.reduceToNat, Nat.le_refl, Nat.zero_le, Nat.zero_add, Int.zero_add, Int.add_zero, and_true, true_and, and_false, false_and, not_true_eq_false, not_false_eq_true, eq_self, ne_eq, true_implies, false_implies, implies_true, or_true, true_or, or_false, false_or, reduceCtorEq, Option.some.injEq, Sum.inl.injEq, exists_eq_left', exists_eq_left, a1, b1, zite]
      repeat' (first | with_reducible apply And.intro | with_reducible intro _)
      all_goals first | omega | (exact fin)
    · obtain ⟨r5, r6⟩ := r3 (by omega)
      have b1 := r5.1
      have b2 := r6.1
      have g1 : ¬ (S 12 3 = 0 ∨ S 12 1 = 0) := by omega
      rw [if_neg g1, if_neg g1] at hR
      have st : S 13 3 ≠ S 13 1 → R (some (.inl (-14))) (zup M 0 6 4) := fun q => by
        rw [if_pos q, if_pos q] at hR
        exact hR _ (RX_find h (by decide)) XF_find
      have no : S 13 3 = S 13 1 → ¬ gCopy S 3 i 1 j n → R (some (.inl (-12))) (zup M 0 6 2) := fun q q2 => by
        have q' : ¬ (S 13 3 ≠ S 13 1) := fun z => z q
        rw [if_neg q', if_neg q', if_neg q2, if_neg q2] at hR
        exact hR _ (RX_find h (by decide)) XF_find
      have yes : S 13 3 = S 13 1 → gCopy S 3 i 1 j n → zcn zcopyT [.inr (.inr 45), .inl i, .inr (.inr 41), .inl j, .inl n] M (fun M' => uX7_copy R 123 [some (.inr (.inr 0)), some (.inl 3), some (.inl i), some (.inl 1), some (.inl j), some (.inl n), some (.inr (.inr 44)), some (.inr (.inr 40))] [] M') := fun q q2 => by
        have q' : ¬ (S 13 3 ≠ S 13 1) := fun z => z q
        rw [if_neg q', if_neg q', if_pos q2, if_pos q2] at hR
        have en : ∀ x, nCopy S 3 i 1 j n 16 x = if j ≤ x ∧ x < j + n then S 18 (i + (x - j)) else S 16 x := fun x => by
          unfold nCopy
          by_cases c : j ≤ x ∧ x < j + n
          · rw [if_pos c, if_pos ⟨by decide, c⟩]; rfl
          · rw [if_neg c, if_neg (fun z => c z.2)]
        have eo : ∀ k x, k ≠ 16 → nCopy S 3 i 1 j n k x = S k x := fun k x hk => by
          unfold nCopy
          rw [if_neg (fun z => hk z.1)]
        refine i_copyT (na := 60) (nb := 60) rfl rfl (by omega) ?_
        have fin := hR (zcpy M 45 i 41 j n) (by
          refine RX_one1 h (fun k x hk => eo k x (by omega)) (fun k x h1 h2 h3 h4 h5 h6 => eo k x h1) (fun k x h1 h2 h3 => by unfold zcpy; rw [if_neg (fun z => h3 z.1)]) ?_
          have zo : ∀ x, zcpy M 45 i 41 j n 40 x = M 40 x := fun x => by unfold zcpy; rw [if_neg (fun z => absurd z.1 (by decide))]
          unfold L4
          rw [eo 12 _ (by decide), eo 13 _ (by decide), eo 14 _ (by decide), zo, zo]
          refine ⟨r1, r2, r3, fun x a b => ?_⟩
          rw [en]
          unfold zcpy
          by_cases c : j ≤ x ∧ x < j + n
          · rw [if_pos c, if_pos ⟨rfl, c⟩]
            exact l4 _ (by omega) (by omega)
          · rw [if_neg c, if_neg (fun z => c z.2)]
            exact r4 x a b) (fun k x hk => by unfold zcpy; rw [if_neg (fun z => by omega)])
        simp only [↓rX7_copy_123, ↓rX7_copy_124, ↓reduceIte, zkeep_n, zkeep_i, zkeep_r, zkeep_l, zup_eq, zIR, zLR, List.length_cons, List.length_nil, Nat.reduceAdd, Nat.reduceLeDiff, Nat.reduceEqDiff, Nat.reduceSub, Int.reduceLE, Int.reduceLT, Int.reduceEq, Int.reduceNe, Int.reduceNeg, Int.reduceAdd, Int.reduceSub, Int.reduceMul, Int.reduceToNat, Nat.le_refl, Nat.zero_le, Nat.zero_add, Int.zero_add, Int.add_zero, and_true, true_and, and_false, false_and, not_true_eq_false, not_false_eq_true, eq_self, ne_eq, true_implies, false_implies, implies_true, or_true, true_or, or_false, false_or, reduceCtorEq, Option.some.injEq, Sum.inl.injEq, exists_eq_left', exists_eq_left, zite]
        exact fin
      simp only [↓eX7_copy, ↓rX7_copy_0, ↓rX7_copy_1, ↓rX7_copy_2, ↓rX7_copy_5, ↓rX7_copy_8, ↓rX7_copy_9, ↓rX7_copy_10, ↓rX7_copy_13, ↓rX7_copy_16, ↓rX7_copy_18, ↓rX7_copy_19, ↓rX7_copy_20, ↓rX7_copy_23, ↓rX7_copy_24, ↓rX7_copy_25, ↓rX7_copy_27, ↓rX7_copy_28, ↓rX7_copy_31, ↓rX7_copy_32, ↓rX7_copy_33, ↓rX7_copy_35, ↓rX7_copy_37, ↓rX7_copy_40, ↓rX7_copy_43, ↓rX7_copy_45, ↓rX7_copy_48, ↓rX7_copy_51, ↓rX7_copy_52, ↓rX7_copy_53, ↓rX7_copy_56, ↓rX7_copy_57, ↓rX7_copy_59, ↓rX7_copy_62, ↓rX7_copy_64, ↓rX7_copy_67, ↓rX7_copy_70, ↓rX7_copy_71, ↓rX7_copy_72, ↓rX7_copy_75, ↓rX7_copy_76, ↓rX7_copy_78, ↓rX7_copy_79, ↓rX7_copy_81, ↓rX7_copy_84, ↓rX7_copy_87, ↓rX7_copy_89, ↓rX7_copy_91, ↓rX7_copy_93, ↓rX7_copy_96, ↓rX7_copy_99, ↓rX7_copy_100, ↓rX7_copy_101, ↓rX7_copy_104, ↓rX7_copy_105, ↓rX7_copy_107, ↓rX7_copy_110, ↓rX7_copy_111, ↓rX7_copy_113, ↓rX7_copy_116, ↓rX7_copy_118, ↓rX7_copy_120, ↓hg_fX7_137_38, ↓hg_fX7_137_40, ↓hg_fX7_137_42, ↓hg_fX7_137_44, ↓hg_fX7_299_38, ↓hg_fX7_299_40, ↓hg_fX7_299_42, ↓hg_fX7_299_44, ↓hg_fX7_44_0, ↓hrow_22, ↓i_finding, ↓i_hasRun38, ↓i_hasRun40, ↓i_hasRun42, ↓i_hasRun44, ↓i_isLost38, ↓i_isLost40, ↓i_isLost42, ↓i_isLost44, ↓i_outside, ↓reduceIte, ↓hrw, ↓hgd0, ↓hgd1, ↓hgd2, ↓hgd3, zkeep_n, zkeep_i, zkeep_r, zkeep_l, zIR, zLR, List.length_cons, List.length_nil, Nat.reduceAdd, Nat.reduceLeDiff, Nat.reduceEqDiff, Nat.reduceSub, Int.reduceLE, Int.reduceLT, Int.reduceEq, Int.reduceNe, Int.reduceNeg, Int.reduceAdd, Int.reduceSub, Int.reduceMul, Int.reduceToNat, Nat.le_refl, Nat.zero_le, Nat.zero_add, Int.zero_add, Int.add_zero, and_true, true_and, and_false, false_and, not_true_eq_false, not_false_eq_true, eq_self, ne_eq, true_implies, false_implies, implies_true, or_true, true_or, or_false, false_or, reduceCtorEq, Option.some.injEq, Sum.inl.injEq, exists_eq_left', exists_eq_left, a1, a2, b1, b2, zite]
      repeat' (first | with_reducible apply And.intro | with_reducible intro _)
      all_goals first | omega | (exact st (by omega)) | (exact no (by omega) (by omega)) | (exact yes (by omega) (by omega))
set_option maxRecDepth 100000 in
set_option maxHeartbeats 4000000 in
theorem x_copy32 {S M : zM} {R : zP} {i j n : Int} (h : RX S M) (z1 : zIR i) (z2 : zIR j) (z3 : zIR n) (hR : ∀ M', RX (mCopy S 3 i 2 j n) M' → XF M M' → R (some (.inl (aCopy S 3 i 2 j n))) M') : tX7_copy [.inr (.inr 0), .inl 3, .inl i, .inl 2, .inl j, .inl n] M R := by
  unfold mCopy aCopy at hR
  have g0 : ((0 : Int) ≤ 3 ∧ (3 : Int) < 4) ∧ ((0 : Int) ≤ 2 ∧ (2 : Int) < 4) := by decide
  rw [if_pos g0, if_pos g0] at hR
  unfold zIR at z1 z2 z3
  obtain ⟨l1, l2, l3, l4⟩ := RX_L43 h
  obtain ⟨r1, r2, r3, r4⟩ := RX_L42 h
  by_cases e : S 12 3 = 0
  · have e1 := l2 e
    rw [if_pos (Or.inl e), if_pos (Or.inl e)] at hR
    have fin := hR _ (RX_find h (by decide)) XF_find
    simp only [↓eX7_copy, ↓rX7_copy_0, ↓rX7_copy_1, ↓rX7_copy_2, ↓rX7_copy_5, ↓rX7_copy_8, ↓rX7_copy_9, ↓rX7_copy_10, ↓rX7_copy_13, ↓rX7_copy_16, ↓rX7_copy_18, ↓rX7_copy_19, ↓rX7_copy_20, ↓rX7_copy_23, ↓rX7_copy_24, ↓rX7_copy_25, ↓rX7_copy_27, ↓rX7_copy_28, ↓rX7_copy_31, ↓rX7_copy_32, ↓rX7_copy_33, ↓rX7_copy_35, ↓rX7_copy_37, ↓rX7_copy_40, ↓rX7_copy_51, ↓rX7_copy_52, ↓rX7_copy_53, ↓rX7_copy_56, ↓hg_fX7_44_0, ↓hrow_22, ↓i_finding, ↓i_isLost38, ↓i_isLost40, ↓i_isLost42, ↓i_isLost44, ↓i_outside, ↓reduceIte, ↓hrw, ↓hgd0, ↓hgd1, ↓hgd2, ↓hgd3, zkeep_n, zkeep_i, zkeep_r, zkeep_l, zIR, zLR, List.length_cons, List.length_nil, Nat.reduceAdd, Nat.reduceLeDiff, Nat.reduceEqDiff, Nat.reduceSub, Int.reduceLE, Int.reduceLT, Int.reduceEq, Int.reduceNe, Int.reduceNeg, Int.reduceAdd, Int.reduceSub, Int.reduceMul, Int.reduceToNat, Nat.le_refl, Nat.zero_le, Nat.zero_add, Int.zero_add, Int.add_zero, and_true, true_and, and_false, false_and, not_true_eq_false, not_false_eq_true, eq_self, ne_eq, true_implies, false_implies, implies_true, or_true, true_or, or_false, false_or, reduceCtorEq, Option.some.injEq, Sum.inl.injEq, exists_eq_left', exists_eq_left, e1, zite]
    repeat' (first | with_reducible apply And.intro | with_reducible intro _)
    all_goals first | omega | (exact fin)
  · obtain ⟨l5, l6⟩ := l3 (by omega)
    have a1 := l5.1
    have a2 := l6.1
    by_cases e2 : S 12 2 = 0
    · have b1 := r2 e2
      rw [if_pos (Or.inr e2), if_pos (Or.inr e2)] at hR
      have fin := hR _ (RX_find h (by decide)) XF_find
      simp only [↓eX7_copy, ↓rX7_copy_0, ↓rX7_copy_1, ↓rX7_copy_2, ↓rX7_copy_5, ↓rX7_copy_8, ↓rX7_copy_9, ↓rX7_copy_10, ↓rX7_copy_13, ↓rX7_copy_16, ↓rX7_copy_18, ↓rX7_copy_19, ↓rX7_copy_20, ↓rX7_copy_23, ↓rX7_copy_24, ↓rX7_copy_25, ↓rX7_copy_27, ↓rX7_copy_28, ↓rX7_copy_31, ↓rX7_copy_32, ↓rX7_copy_33, ↓rX7_copy_35, ↓rX7_copy_37, ↓rX7_copy_40, ↓rX7_copy_43, ↓rX7_copy_45, ↓rX7_copy_48, ↓rX7_copy_51, ↓rX7_copy_52, ↓rX7_copy_53, ↓rX7_copy_56, ↓hg_fX7_44_0, ↓hrow_22, ↓i_finding, ↓i_isLost38, ↓i_isLost40, ↓i_isLost42, ↓i_isLost44, ↓i_outside, ↓reduceIte, ↓hrw, ↓hgd0, ↓hgd1, ↓hgd2, ↓hgd3, zkeep_n, zkeep_i, zkeep_r, zkeep_l, zIR, zLR, List.length_cons, List.length_nil, Nat.reduceAdd, Nat.reduceLeDiff, Nat.reduceEqDiff, Nat.reduceSub, Int.reduceLE, Int.reduceLT, Int.reduceEq, Int.reduceNe, Int.reduceNeg, Int.reduceAdd, Int.reduceSub, Int.reduceMul, Int.reduceToNat, Nat.le_refl, Nat.zero_le, Nat.zero_add, Int.zero_add, Int.add_zero, and_true, true_and, and_false, false_and, not_true_eq_false, not_false_eq_true, eq_self, ne_eq, true_implies, false_implies, implies_true, or_true, true_or, or_false, false_or, reduceCtorEq, Option.some.injEq, Sum.inl.injEq, exists_eq_left', exists_eq_left, a1, b1, zite]
      repeat' (first | with_reducible apply And.intro | with_reducible intro _)
      all_goals first | omega | (exact fin)
    · obtain ⟨r5, r6⟩ := r3 (by omega)
      have b1 := r5.1
      have b2 := r6.1
      have g1 : ¬ (S 12 3 = 0 ∨ S 12 2 = 0) := by omega
      rw [if_neg g1, if_neg g1] at hR
      have st : S 13 3 ≠ S 13 2 → R (some (.inl (-14))) (zup M 0 6 4) := fun q => by
        rw [if_pos q, if_pos q] at hR
        exact hR _ (RX_find h (by decide)) XF_find
      have no : S 13 3 = S 13 2 → ¬ gCopy S 3 i 2 j n → R (some (.inl (-12))) (zup M 0 6 2) := fun q q2 => by
        have q' : ¬ (S 13 3 ≠ S 13 2) := fun z => z q
        rw [if_neg q', if_neg q', if_neg q2, if_neg q2] at hR
        exact hR _ (RX_find h (by decide)) XF_find
      have yes : S 13 3 = S 13 2 → gCopy S 3 i 2 j n → zcn zcopyT [.inr (.inr 45), .inl i, .inr (.inr 43), .inl j, .inl n] M (fun M' => uX7_copy R 123 [some (.inr (.inr 0)), some (.inl 3), some (.inl i), some (.inl 2), some (.inl j), some (.inl n), some (.inr (.inr 44)), some (.inr (.inr 42))] [] M') := fun q q2 => by
        have q' : ¬ (S 13 3 ≠ S 13 2) := fun z => z q
        rw [if_neg q', if_neg q', if_pos q2, if_pos q2] at hR
        have en : ∀ x, nCopy S 3 i 2 j n 17 x = if j ≤ x ∧ x < j + n then S 18 (i + (x - j)) else S 17 x := fun x => by
          unfold nCopy
          by_cases c : j ≤ x ∧ x < j + n
          · rw [if_pos c, if_pos ⟨by decide, c⟩]; rfl
          · rw [if_neg c, if_neg (fun z => c z.2)]
        have eo : ∀ k x, k ≠ 17 → nCopy S 3 i 2 j n k x = S k x := fun k x hk => by
          unfold nCopy
          rw [if_neg (fun z => hk z.1)]
        refine i_copyT (na := 60) (nb := 60) rfl rfl (by omega) ?_
        have fin := hR (zcpy M 45 i 43 j n) (by
          refine RX_one2 h (fun k x hk => eo k x (by omega)) (fun k x h1 h2 h3 h4 h5 h6 => eo k x h1) (fun k x h1 h2 h3 => by unfold zcpy; rw [if_neg (fun z => h3 z.1)]) ?_
          have zo : ∀ x, zcpy M 45 i 43 j n 42 x = M 42 x := fun x => by unfold zcpy; rw [if_neg (fun z => absurd z.1 (by decide))]
          unfold L4
          rw [eo 12 _ (by decide), eo 13 _ (by decide), eo 14 _ (by decide), zo, zo]
          refine ⟨r1, r2, r3, fun x a b => ?_⟩
          rw [en]
          unfold zcpy
          by_cases c : j ≤ x ∧ x < j + n
          · rw [if_pos c, if_pos ⟨rfl, c⟩]
            exact l4 _ (by omega) (by omega)
          · rw [if_neg c, if_neg (fun z => c z.2)]
            exact r4 x a b) (fun k x hk => by unfold zcpy; rw [if_neg (fun z => by omega)])
        simp only [↓rX7_copy_123, ↓rX7_copy_124, ↓reduceIte, zkeep_n, zkeep_i, zkeep_r, zkeep_l, zup_eq, zIR, zLR, List.length_cons, List.length_nil, Nat.reduceAdd, Nat.reduceLeDiff, Nat.reduceEqDiff, Nat.reduceSub, Int.reduceLE, Int.reduceLT, Int.reduceEq, Int.reduceNe, Int.reduceNeg, Int.reduceAdd, Int.reduceSub, Int.reduceMul, Int.reduceToNat, Nat.le_refl, Nat.zero_le, Nat.zero_add, Int.zero_add, Int.add_zero, and_true, true_and, and_false, false_and, not_true_eq_false, not_false_eq_true, eq_self, ne_eq, true_implies, false_implies, implies_true, or_true, true_or, or_false, false_or, reduceCtorEq, Option.some.injEq, Sum.inl.injEq, exists_eq_left', exists_eq_left, zite]
        exact fin
      simp only [↓eX7_copy, ↓rX7_copy_0, ↓rX7_copy_1, ↓rX7_copy_2, ↓rX7_copy_5, ↓rX7_copy_8, ↓rX7_copy_9, ↓rX7_copy_10, ↓rX7_copy_13, ↓rX7_copy_16, ↓rX7_copy_18, ↓rX7_copy_19, ↓rX7_copy_20, ↓rX7_copy_23, ↓rX7_copy_24, ↓rX7_copy_25, ↓rX7_copy_27, ↓rX7_copy_28, ↓rX7_copy_31, ↓rX7_copy_32, ↓rX7_copy_33, ↓rX7_copy_35, ↓rX7_copy_37, ↓rX7_copy_40, ↓rX7_copy_43, ↓rX7_copy_45, ↓rX7_copy_48, ↓rX7_copy_51, ↓rX7_copy_52, ↓rX7_copy_53, ↓rX7_copy_56, ↓rX7_copy_57, ↓rX7_copy_59, ↓rX7_copy_62, ↓rX7_copy_64, ↓rX7_copy_67, ↓rX7_copy_70, ↓rX7_copy_71, ↓rX7_copy_72, ↓rX7_copy_75, ↓rX7_copy_76, ↓rX7_copy_78, ↓rX7_copy_79, ↓rX7_copy_81, ↓rX7_copy_84, ↓rX7_copy_87, ↓rX7_copy_89, ↓rX7_copy_91, ↓rX7_copy_93, ↓rX7_copy_96, ↓rX7_copy_99, ↓rX7_copy_100, ↓rX7_copy_101, ↓rX7_copy_104, ↓rX7_copy_105, ↓rX7_copy_107, ↓rX7_copy_110, ↓rX7_copy_111, ↓rX7_copy_113, ↓rX7_copy_116, ↓rX7_copy_118, ↓rX7_copy_120, ↓hg_fX7_137_38, ↓hg_fX7_137_40, ↓hg_fX7_137_42, ↓hg_fX7_137_44, ↓hg_fX7_299_38, ↓hg_fX7_299_40, ↓hg_fX7_299_42, ↓hg_fX7_299_44, ↓hg_fX7_44_0, ↓hrow_22, ↓i_finding, ↓i_hasRun38, ↓i_hasRun40, ↓i_hasRun42, ↓i_hasRun44, ↓i_isLost38, ↓i_isLost40, ↓i_isLost42, ↓i_isLost44, ↓i_outside, ↓reduceIte, ↓hrw, ↓hgd0, ↓hgd1, ↓hgd2, ↓hgd3, zkeep_n, zkeep_i, zkeep_r, zkeep_l, zIR, zLR, List.length_cons, List.length_nil, Nat.reduceAdd, Nat.reduceLeDiff, Nat.reduceEqDiff, Nat.reduceSub, Int.reduceLE, Int.reduceLT, Int.reduceEq, Int.reduceNe, Int.reduceNeg, Int.reduceAdd, Int.reduceSub, Int.reduceMul, Int.reduceToNat, Nat.le_refl, Nat.zero_le, Nat.zero_add, Int.zero_add, Int.add_zero, and_true, true_and, and_false, false_and, not_true_eq_false, not_false_eq_true, eq_self, ne_eq, true_implies, false_implies, implies_true, or_true, true_or, or_false, false_or, reduceCtorEq, Option.some.injEq, Sum.inl.injEq, exists_eq_left', exists_eq_left, a1, a2, b1, b2, zite]
      repeat' (first | with_reducible apply And.intro | with_reducible intro _)
      all_goals first | omega | (exact st (by omega)) | (exact no (by omega) (by omega)) | (exact yes (by omega) (by omega))
set_option maxRecDepth 100000 in
set_option maxHeartbeats 4000000 in
theorem x_copy33 {S M : zM} {R : zP} {i j n : Int} (h : RX S M) (z1 : zIR i) (z2 : zIR j) (z3 : zIR n) (hR : ∀ M', RX (mCopy S 3 i 3 j n) M' → XF M M' → R (some (.inl (aCopy S 3 i 3 j n))) M') : tX7_copy [.inr (.inr 0), .inl 3, .inl i, .inl 3, .inl j, .inl n] M R := by
  unfold mCopy aCopy at hR
  have g0 : ((0 : Int) ≤ 3 ∧ (3 : Int) < 4) ∧ ((0 : Int) ≤ 3 ∧ (3 : Int) < 4) := by decide
  rw [if_pos g0, if_pos g0] at hR
  unfold zIR at z1 z2 z3
  obtain ⟨l1, l2, l3, l4⟩ := RX_L43 h
  obtain ⟨r1, r2, r3, r4⟩ := RX_L43 h
  by_cases e : S 12 3 = 0
  · have e1 := l2 e
    rw [if_pos (Or.inl e), if_pos (Or.inl e)] at hR
    have fin := hR _ (RX_find h (by decide)) XF_find
    simp only [↓eX7_copy, ↓rX7_copy_0, ↓rX7_copy_1, ↓rX7_copy_2, ↓rX7_copy_5, ↓rX7_copy_8, ↓rX7_copy_9, ↓rX7_copy_10, ↓rX7_copy_13, ↓rX7_copy_16, ↓rX7_copy_18, ↓rX7_copy_19, ↓rX7_copy_20, ↓rX7_copy_23, ↓rX7_copy_24, ↓rX7_copy_25, ↓rX7_copy_27, ↓rX7_copy_28, ↓rX7_copy_31, ↓rX7_copy_32, ↓rX7_copy_33, ↓rX7_copy_35, ↓rX7_copy_37, ↓rX7_copy_40, ↓rX7_copy_51, ↓rX7_copy_52, ↓rX7_copy_53, ↓rX7_copy_56, ↓hg_fX7_44_0, ↓hrow_22, ↓i_finding, ↓i_isLost38, ↓i_isLost40, ↓i_isLost42, ↓i_isLost44, ↓i_outside, ↓reduceIte, ↓hrw, ↓hgd0, ↓hgd1, ↓hgd2, ↓hgd3, zkeep_n, zkeep_i, zkeep_r, zkeep_l, zIR, zLR, List.length_cons, List.length_nil, Nat.reduceAdd, Nat.reduceLeDiff, Nat.reduceEqDiff, Nat.reduceSub, Int.reduceLE, Int.reduceLT, Int.reduceEq, Int.reduceNe, Int.reduceNeg, Int.reduceAdd, Int.reduceSub, Int.reduceMul, Int.reduceToNat, Nat.le_refl, Nat.zero_le, Nat.zero_add, Int.zero_add, Int.add_zero, and_true, true_and, and_false, false_and, not_true_eq_false, not_false_eq_true, eq_self, ne_eq, true_implies, false_implies, implies_true, or_true, true_or, or_false, false_or, reduceCtorEq, Option.some.injEq, Sum.inl.injEq, exists_eq_left', exists_eq_left, e1, zite]
    repeat' (first | with_reducible apply And.intro | with_reducible intro _)
    all_goals first | omega | (exact fin)
  · obtain ⟨l5, l6⟩ := l3 (by omega)
    have a1 := l5.1
    have a2 := l6.1
    by_cases e2 : S 12 3 = 0
    · have b1 := r2 e2
      rw [if_pos (Or.inr e2), if_pos (Or.inr e2)] at hR
      have fin := hR _ (RX_find h (by decide)) XF_find
      simp only [↓eX7_copy, ↓rX7_copy_0, ↓rX7_copy_1, ↓rX7_copy_2, ↓rX7_copy_5, ↓rX7_copy_8, ↓rX7_copy_9, ↓rX7_copy_10, ↓rX7_copy_13, ↓rX7_copy_16, ↓rX7_copy_18, ↓rX7_copy_19, ↓rX7_copy_20, ↓rX7_copy_23, ↓rX7_copy_24, ↓rX7_copy_25, ↓rX7_copy_27, ↓rX7_copy_28, ↓rX7_copy_31, ↓rX7_copy_32, ↓rX7_copy_33, ↓rX7_copy_35, ↓rX7_copy_37, ↓rX7_copy_40, ↓rX7_copy_43, ↓rX7_copy_45, ↓rX7_copy_48, ↓rX7_copy_51, ↓rX7_copy_52, ↓rX7_copy_53, ↓rX7_copy_56, ↓hg_fX7_44_0, ↓hrow_22, ↓i_finding, ↓i_isLost38, ↓i_isLost40, ↓i_isLost42, ↓i_isLost44, ↓i_outside, ↓reduceIte, ↓hrw, ↓hgd0, ↓hgd1, ↓hgd2, ↓hgd3, zkeep_n, zkeep_i, zkeep_r, zkeep_l, zIR, zLR, List.length_cons, List.length_nil, Nat.reduceAdd, Nat.reduceLeDiff, Nat.reduceEqDiff, Nat.reduceSub, Int.reduceLE, Int.reduceLT, Int.reduceEq, Int.reduceNe, Int.reduceNeg, Int.reduceAdd, Int.reduceSub, Int.reduceMul, Int.reduceToNat, Nat.le_refl, Nat.zero_le, Nat.zero_add, Int.zero_add, Int.add_zero, and_true, true_and, and_false, false_and, not_true_eq_false, not_false_eq_true, eq_self, ne_eq, true_implies, false_implies, implies_true, or_true, true_or, or_false, false_or, reduceCtorEq, Option.some.injEq, Sum.inl.injEq, exists_eq_left', exists_eq_left, a1, b1, zite]
      repeat' (first | with_reducible apply And.intro | with_reducible intro _)
      all_goals first | omega | (exact fin)
    · obtain ⟨r5, r6⟩ := r3 (by omega)
      have b1 := r5.1
      have b2 := r6.1
      have g1 : ¬ (S 12 3 = 0 ∨ S 12 3 = 0) := by omega
      rw [if_neg g1, if_neg g1] at hR
      have st : S 13 3 ≠ S 13 3 → R (some (.inl (-14))) (zup M 0 6 4) := fun q => by
        rw [if_pos q, if_pos q] at hR
        exact hR _ (RX_find h (by decide)) XF_find
      have no : S 13 3 = S 13 3 → ¬ gCopy S 3 i 3 j n → R (some (.inl (-12))) (zup M 0 6 2) := fun q q2 => by
        have q' : ¬ (S 13 3 ≠ S 13 3) := fun z => z q
        rw [if_neg q', if_neg q', if_neg q2, if_neg q2] at hR
        exact hR _ (RX_find h (by decide)) XF_find
      have yes : S 13 3 = S 13 3 → gCopy S 3 i 3 j n → zcn zcopyT [.inr (.inr 45), .inl i, .inr (.inr 45), .inl j, .inl n] M (fun M' => uX7_copy R 123 [some (.inr (.inr 0)), some (.inl 3), some (.inl i), some (.inl 3), some (.inl j), some (.inl n), some (.inr (.inr 44)), some (.inr (.inr 44))] [] M') := fun q q2 => by
        have q' : ¬ (S 13 3 ≠ S 13 3) := fun z => z q
        rw [if_neg q', if_neg q', if_pos q2, if_pos q2] at hR
        have en : ∀ x, nCopy S 3 i 3 j n 18 x = if j ≤ x ∧ x < j + n then S 18 (i + (x - j)) else S 18 x := fun x => by
          unfold nCopy
          by_cases c : j ≤ x ∧ x < j + n
          · rw [if_pos c, if_pos ⟨by decide, c⟩]; rfl
          · rw [if_neg c, if_neg (fun z => c z.2)]
        have eo : ∀ k x, k ≠ 18 → nCopy S 3 i 3 j n k x = S k x := fun k x hk => by
          unfold nCopy
          rw [if_neg (fun z => hk z.1)]
        refine i_copyT (na := 60) (nb := 60) rfl rfl (by omega) ?_
        have fin := hR (zcpy M 45 i 45 j n) (by
          refine RX_one3 h (fun k x hk => eo k x (by omega)) (fun k x h1 h2 h3 h4 h5 h6 => eo k x h1) (fun k x h1 h2 h3 => by unfold zcpy; rw [if_neg (fun z => h3 z.1)]) ?_
          have zo : ∀ x, zcpy M 45 i 45 j n 44 x = M 44 x := fun x => by unfold zcpy; rw [if_neg (fun z => absurd z.1 (by decide))]
          unfold L4
          rw [eo 12 _ (by decide), eo 13 _ (by decide), eo 14 _ (by decide), zo, zo]
          refine ⟨r1, r2, r3, fun x a b => ?_⟩
          rw [en]
          unfold zcpy
          by_cases c : j ≤ x ∧ x < j + n
          · rw [if_pos c, if_pos ⟨rfl, c⟩]
            exact l4 _ (by omega) (by omega)
          · rw [if_neg c, if_neg (fun z => c z.2)]
            exact r4 x a b) (fun k x hk => by unfold zcpy; rw [if_neg (fun z => by omega)])
        simp only [↓rX7_copy_123, ↓rX7_copy_124, ↓reduceIte, zkeep_n, zkeep_i, zkeep_r, zkeep_l, zup_eq, zIR, zLR, List.length_cons, List.length_nil, Nat.reduceAdd, Nat.reduceLeDiff, Nat.reduceEqDiff, Nat.reduceSub, Int.reduceLE, Int.reduceLT, Int.reduceEq, Int.reduceNe, Int.reduceNeg, Int.reduceAdd, Int.reduceSub, Int.reduceMul, Int.reduceToNat, Nat.le_refl, Nat.zero_le, Nat.zero_add, Int.zero_add, Int.add_zero, and_true, true_and, and_false, false_and, not_true_eq_false, not_false_eq_true, eq_self, ne_eq, true_implies, false_implies, implies_true, or_true, true_or, or_false, false_or, reduceCtorEq, Option.some.injEq, Sum.inl.injEq, exists_eq_left', exists_eq_left, zite]
        exact fin
      simp only [↓eX7_copy, ↓rX7_copy_0, ↓rX7_copy_1, ↓rX7_copy_2, ↓rX7_copy_5, ↓rX7_copy_8, ↓rX7_copy_9, ↓rX7_copy_10, ↓rX7_copy_13, ↓rX7_copy_16, ↓rX7_copy_18, ↓rX7_copy_19, ↓rX7_copy_20, ↓rX7_copy_23, ↓rX7_copy_24, ↓rX7_copy_25, ↓rX7_copy_27, ↓rX7_copy_28, ↓rX7_copy_31, ↓rX7_copy_32, ↓rX7_copy_33, ↓rX7_copy_35, ↓rX7_copy_37, ↓rX7_copy_40, ↓rX7_copy_43, ↓rX7_copy_45, ↓rX7_copy_48, ↓rX7_copy_51, ↓rX7_copy_52, ↓rX7_copy_53, ↓rX7_copy_56, ↓rX7_copy_57, ↓rX7_copy_59, ↓rX7_copy_62, ↓rX7_copy_64, ↓rX7_copy_67, ↓rX7_copy_70, ↓rX7_copy_71, ↓rX7_copy_72, ↓rX7_copy_75, ↓rX7_copy_76, ↓rX7_copy_78, ↓rX7_copy_79, ↓rX7_copy_81, ↓rX7_copy_84, ↓rX7_copy_87, ↓rX7_copy_89, ↓rX7_copy_91, ↓rX7_copy_93, ↓rX7_copy_96, ↓rX7_copy_99, ↓rX7_copy_100, ↓rX7_copy_101, ↓rX7_copy_104, ↓rX7_copy_105, ↓rX7_copy_107, ↓rX7_copy_110, ↓rX7_copy_111, ↓rX7_copy_113, ↓rX7_copy_116, ↓rX7_copy_118, ↓rX7_copy_120, ↓hg_fX7_137_38, ↓hg_fX7_137_40, ↓hg_fX7_137_42, ↓hg_fX7_137_44, ↓hg_fX7_299_38, ↓hg_fX7_299_40, ↓hg_fX7_299_42, ↓hg_fX7_299_44, ↓hg_fX7_44_0, ↓hrow_22, ↓i_finding, ↓i_hasRun38, ↓i_hasRun40, ↓i_hasRun42, ↓i_hasRun44, ↓i_isLost38, ↓i_isLost40, ↓i_isLost42, ↓i_isLost44, ↓i_outside, ↓reduceIte, ↓hrw, ↓hgd0, ↓hgd1, ↓hgd2, ↓hgd3, zkeep_n, zkeep_i, zkeep_r, zkeep_l, zIR, zLR, List.length_cons, List.length_nil, Nat.reduceAdd, Nat.reduceLeDiff, Nat.reduceEqDiff, Nat.reduceSub, Int.reduceLE, Int.reduceLT, Int.reduceEq, Int.reduceNe, Int.reduceNeg, Int.reduceAdd, Int.reduceSub, Int.reduceMul, Int.reduceToNat, Nat.le_refl, Nat.zero_le, Nat.zero_add, Int.zero_add, Int.add_zero, and_true, true_and, and_false, false_and, not_true_eq_false, not_false_eq_true, eq_self, ne_eq, true_implies, false_implies, implies_true, or_true, true_or, or_false, false_or, reduceCtorEq, Option.some.injEq, Sum.inl.injEq, exists_eq_left', exists_eq_left, a1, a2, b1, b2, zite]
      repeat' (first | with_reducible apply And.intro | with_reducible intro _)
      all_goals first | omega | (exact st (by omega)) | (exact no (by omega) (by omega)) | (exact yes (by omega) (by omega))
set_option maxRecDepth 100000 in
set_option maxHeartbeats 4000000 in
theorem x_copy {S M : zM} {R : zP} {s i t j n : Int} (h : RX S M) (z0 : zIR s) (z1 : zIR i) (z4 : zIR t) (z2 : zIR j) (z3 : zIR n) (hR : ∀ M', RX (mCopy S s i t j n) M' → XF M M' → R (some (.inl (aCopy S s i t j n))) M') : tX7_copy [.inr (.inr 0), .inl s, .inl i, .inl t, .inl j, .inl n] M R := by
  by_cases hs : (0 ≤ s ∧ s < 4) ∧ (0 ≤ t ∧ t < 4)
  · have e : s = 0 ∨ s = 1 ∨ s = 2 ∨ s = 3 := by omega
    have e2 : t = 0 ∨ t = 1 ∨ t = 2 ∨ t = 3 := by omega
    rcases e with rfl | rfl | rfl | rfl <;> rcases e2 with rfl | rfl | rfl | rfl
    · exact x_copy00 h z1 z2 z3 hR
    · exact x_copy01 h z1 z2 z3 hR
    · exact x_copy02 h z1 z2 z3 hR
    · exact x_copy03 h z1 z2 z3 hR
    · exact x_copy10 h z1 z2 z3 hR
    · exact x_copy11 h z1 z2 z3 hR
    · exact x_copy12 h z1 z2 z3 hR
    · exact x_copy13 h z1 z2 z3 hR
    · exact x_copy20 h z1 z2 z3 hR
    · exact x_copy21 h z1 z2 z3 hR
    · exact x_copy22 h z1 z2 z3 hR
    · exact x_copy23 h z1 z2 z3 hR
    · exact x_copy30 h z1 z2 z3 hR
    · exact x_copy31 h z1 z2 z3 hR
    · exact x_copy32 h z1 z2 z3 hR
    · exact x_copy33 h z1 z2 z3 hR
  · have fin := hR M (by unfold mCopy; rw [if_neg hs]; exact h) XF.rfl
    unfold aCopy at fin
    rw [if_neg hs] at fin
    unfold zIR at z0 z4
    simp only [↓eX7_copy, ↓rX7_copy_0, ↓rX7_copy_1, ↓rX7_copy_2, ↓rX7_copy_5, ↓rX7_copy_8, ↓rX7_copy_9, ↓rX7_copy_10, ↓rX7_copy_13, ↓rX7_copy_16, ↓rX7_copy_18, ↓i_outside, ↓reduceIte, zkeep_n, zkeep_i, zkeep_r, zkeep_l, zup_eq, zIR, zLR, List.length_cons, List.length_nil, Nat.reduceAdd, Nat.reduceLeDiff, Nat.reduceEqDiff, Nat.reduceSub, Int.reduceLE, Int.reduceLT, Int.reduceEq, Int.reduceNe, Int.reduceNeg, Int.reduceAdd, Int.reduceSub, Int.reduceMul, Int.reduceToNat, Nat.le_refl, Nat.zero_le, Nat.zero_add, Int.zero_add, Int.add_zero, and_true, true_and, and_false, false_and, not_true_eq_false, not_false_eq_true, eq_self, ne_eq, true_implies, false_implies, implies_true, or_true, true_or, or_false, false_or, reduceCtorEq, Option.some.injEq, Sum.inl.injEq, exists_eq_left', exists_eq_left, zite]
    repeat' (first | with_reducible apply And.intro | with_reducible intro _)
    all_goals first | omega | (exact fin)
def aCount (S : zM) (w : Int) : Int := if w = 0 then qn S 0 else if w = 1 then qn S 1 else if w = 2 then S 0 0 else if w = 3 then S 0 1 else if w = 4 then S 3 0 else if w = 5 then wct (unk S kall) (qk S) else if w = 6 then wsum (fun m => wV S m 19 13) (qk S) else if w = 7 then S 7 0 else if w = 8 then S 19 0 else -2
set_option maxRecDepth 100000 in
set_option maxHeartbeats 4000000 in
theorem x_count {S M : zM} {R : zP} {w : Int} (h : RX S M) (z0 : zIR w) (hR : ∀ M', QF M M' → R (some (.inl (aCount S w))) M') : tX7_count [.inr (.inr 0), .inl w] M R := by
  unfold aCount at hR
  unfold zIR at z0
  have hqn := (h.2.2.2.1.1 0 (by decide)).1
  have hk8 : qk S ≤ 8 := by unfold qk; omega
  have hn8 := h.2.2.2.2.1.2.2.1
  have hn : (nf S : Int) = S 3 0 := by have := h.2.2.2.2.1.1; unfold nf; omega
  have e0 : M 1 5 = qn S 0 := h.2.2.2.1.2.1
  have e1 : M 4 5 = qn S 1 := h.2.2.2.1.2.2.1
  have e2 : M 1 3 = S 0 0 := h.2.1.1
  have e3 : M 4 3 = S 0 1 := h.2.2.1.1
  have e4 : M 7 4 = S 3 0 := hn ▸ h.2.2.2.2.1.2.1
  have e7 : M 17 4 = S 7 0 := h.2.2.2.2.2.1.1
  have e8 : M 0 6 = S 19 0 := h.2.2.2.2.2.2.2.1
  have f := hR M QF.rfl
  have k255 : ∀ f : Nat, f < nf S → kpm 255 f = kall f := fun f hf => kpm_255d ⟨f, by omega⟩
  have c5 : w = 5 → zcv (zv 7 tX7_unknowing) [.inr (.inr 0), .inr (.inr 7), .inl 255] M (fun v M' => uX7_count R 103 [some (.inr (.inr 0)), some (.inl w)] [v] M') := fun hw => by
    refine RX_unk h (kp := kall) k255 (fun M' f1 => ?_)
    have fin := hR M' (QF.of f1)
    rw [if_neg (by omega), if_neg (by omega), if_neg (by omega), if_neg (by omega), if_neg (by omega), if_pos hw] at fin
    have h8 := wbs_8 (unk S kall) hk8
    have eb := zbc_at h8.1 h8.2
    rw [wones_wbs _ _ hk8] at eb
    simp only [↓rX7_count_103, ↓rX7_count_106, ↓i_bitCount, ↓reduceIte, zkeep_n, zkeep_i, zkeep_r, zkeep_l, zup_eq, zIR, zLR, List.length_cons, List.length_nil, Nat.reduceAdd, Nat.reduceLeDiff, Nat.reduceEqDiff, Nat.reduceSub, Int.reduceLE, Int.reduceLT, Int.reduceEq, Int.reduceNe, Int.reduceNeg, Int.reduceAdd, Int.reduceSub, Int.reduceMul, Int.reduceToNat, Nat.le_refl, Nat.zero_le, Nat.zero_add, Int.zero_add, Int.add_zero, and_true, true_and, and_false, false_and, not_true_eq_false, not_false_eq_true, eq_self, ne_eq, true_implies, false_implies, implies_true, or_true, true_or, or_false, false_or, reduceCtorEq, Option.some.injEq, Sum.inl.injEq, exists_eq_left', exists_eq_left, eb, zite]
    exact fin
  have c6 : w = 6 → zcv (zv 7 tX7_sickness) [.inr (.inr 0), .inr (.inr 7)] M (fun v M' => uX7_count R 115 [some (.inr (.inr 0)), some (.inl w)] [v] M') := fun hw => by
    refine zcvv rfl (s_sickness7 (S := S) (g := gt S) (n := nf S) h.2.2.2.1 h.2.2.2.2.1.2 (fun M' f1 => ⟨_, rfl, ?_⟩))
    have fin := hR M' (QF.of f1)
    rw [if_neg (by omega), if_neg (by omega), if_neg (by omega), if_neg (by omega), if_neg (by omega), if_neg (by omega), if_pos hw] at fin
    have e255 := fun m => wvec_255 (S := S) (g := gt S) (m := m) (T := 19) hn8
    simp only [e255]
    simp only [↓rX7_count_115, ↓reduceIte, zkeep_n, zkeep_i, zkeep_r, zkeep_l, zup_eq, zIR, zLR, List.length_cons, List.length_nil, Nat.reduceAdd, Nat.reduceLeDiff, Nat.reduceEqDiff, Nat.reduceSub, Int.reduceLE, Int.reduceLT, Int.reduceEq, Int.reduceNe, Int.reduceNeg, Int.reduceAdd, Int.reduceSub, Int.reduceMul, Int.reduceToNat, Nat.le_refl, Nat.zero_le, Nat.zero_add, Int.zero_add, Int.add_zero, and_true, true_and, and_false, false_and, not_true_eq_false, not_false_eq_true, eq_self, ne_eq, true_implies, false_implies, implies_true, or_true, true_or, or_false, false_or, reduceCtorEq, Option.some.injEq, Sum.inl.injEq, exists_eq_left', exists_eq_left, zite]
    exact fin
  simp only [↓eX7_count, ↓rX7_count_0, ↓rX7_count_1, ↓rX7_count_124, ↓rX7_count_125, ↓rX7_count_128, ↓rX7_count_116, ↓rX7_count_117, ↓rX7_count_120, ↓rX7_count_123, ↓rX7_count_107, ↓rX7_count_108, ↓rX7_count_109, ↓rX7_count_112, ↓rX7_count_92, ↓rX7_count_93, ↓rX7_count_94, ↓rX7_count_97, ↓rX7_count_100, ↓rX7_count_84, ↓rX7_count_85, ↓rX7_count_88, ↓rX7_count_91, ↓rX7_count_76, ↓rX7_count_77, ↓rX7_count_80, ↓rX7_count_83, ↓rX7_count_68, ↓rX7_count_69, ↓rX7_count_72, ↓rX7_count_75, ↓rX7_count_60, ↓rX7_count_61, ↓rX7_count_64, ↓rX7_count_67, ↓rX7_count_52, ↓rX7_count_53, ↓rX7_count_56, ↓rX7_count_59, ↓rX7_count_129, ↓rX7_count_131, ↓hg_fX7_116_1, ↓hg_fX7_116_4, ↓hg_fX7_14_0, ↓hg_fX7_22_0, ↓hg_fX7_234_12, ↓hg_fX7_234_7, ↓hg_fX7_28_0, ↓hg_fX7_316_1, ↓hg_fX7_316_4, ↓hg_fX7_319_17, ↓hg_fX7_38_0, ↓hg_fX7_48_0, ↓reduceIte, zkeep_n, zkeep_i, zkeep_r, zkeep_l, zup_eq, zIR, zLR, List.length_cons, List.length_nil, Nat.reduceAdd, Nat.reduceLeDiff, Nat.reduceEqDiff, Nat.reduceSub, Int.reduceLE, Int.reduceLT, Int.reduceEq, Int.reduceNe, Int.reduceNeg, Int.reduceAdd, Int.reduceSub, Int.reduceMul, Int.reduceToNat, Nat.le_refl, Nat.zero_le, Nat.zero_add, Int.zero_add, Int.add_zero, and_true, true_and, and_false, false_and, not_true_eq_false, not_false_eq_true, eq_self, ne_eq, true_implies, false_implies, implies_true, or_true, true_or, or_false, false_or, reduceCtorEq, Option.some.injEq, Sum.inl.injEq, exists_eq_left', exists_eq_left, e0, e1, e2, e3, e4, e7, e8, zite]
  repeat' (first | with_reducible apply And.intro | with_reducible intro _)
  all_goals first | omega | (rw [if_pos (by omega)] at f; exact f) | (rw [if_neg (by omega), if_pos (by omega)] at f; exact f) | (rw [if_neg (by omega), if_neg (by omega), if_pos (by omega)] at f; exact f) | (rw [if_neg (by omega), if_neg (by omega), if_neg (by omega), if_pos (by omega)] at f; exact f) | (rw [if_neg (by omega), if_neg (by omega), if_neg (by omega), if_neg (by omega), if_pos (by omega)] at f; exact f) | (rw [if_neg (by omega), if_neg (by omega), if_neg (by omega), if_neg (by omega), if_neg (by omega), if_neg (by omega), if_neg (by omega), if_pos (by omega)] at f; exact f) | (rw [if_neg (by omega), if_neg (by omega), if_neg (by omega), if_neg (by omega), if_neg (by omega), if_neg (by omega), if_neg (by omega), if_neg (by omega), if_pos (by omega)] at f; exact f) | (rw [if_neg (by omega), if_neg (by omega), if_neg (by omega), if_neg (by omega), if_neg (by omega), if_neg (by omega), if_neg (by omega), if_neg (by omega), if_neg (by omega)] at f; exact f) | (exact c5 (by omega)) | (exact c6 (by omega))
