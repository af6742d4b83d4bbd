set_option maxRecDepth 100000 in
set_option maxHeartbeats 8000000 in
theorem y_copy {S M : zM} {R : zP} {s i t j n : Int} (hW : WX S) (h : RM S M) (z0 : zIR s) (z1 : zIR i) (z4 : zIR t) (z2 : zIR j) (z3 : zIR n) (hR : ∀ M', RM (mCopy S s i t j n) M' → YF M M' → R (some (.inl (aCopy S s i t j n))) M') : tX8_copy [.inr (.inr 46), .inl s, .inl i, .inl t, .inl j, .inl n] M R := by
  unfold zIR at z0 z1 z2 z3 z4
  unfold mCopy aCopy at hR
  by_cases hs : (0 ≤ s ∧ s < 4) ∧ (0 ≤ t ∧ t < 4)
  · rw [if_pos hs, if_pos hs] at hR
    obtain ⟨w1, w2, w3⟩ := W_sheet hW hs.1.1 hs.1.2
    obtain ⟨l1, l2, l3⟩ := (RM_iff.mp h).2.2.2.1 s hs.1.1 hs.1.2
    obtain ⟨u1, u2, u3⟩ := W_sheet hW hs.2.1 hs.2.2
    obtain ⟨r1, r2, r3⟩ := (RM_iff.mp h).2.2.2.1 t hs.2.1 hs.2.2
    by_cases e : S 12 s = 0 ∨ S 12 t = 0
    · rw [if_pos e, if_pos e] at hR
      have fin := hR _ (RM_find h) YF_find
      simp only [↓eX8_copy, ↓rX8_copy_0, ↓rX8_copy_1, ↓rX8_copy_4, ↓rX8_copy_7, ↓rX8_copy_8, ↓rX8_copy_11, ↓rX8_copy_14, ↓rX8_copy_16, ↓rX8_copy_17, ↓rX8_copy_18, ↓rX8_copy_21, ↓rX8_copy_22, ↓rX8_copy_23, ↓rX8_copy_26, ↓rX8_copy_27, ↓rX8_copy_30, ↓rX8_copy_31, ↓rX8_copy_32, ↓rX8_copy_35, ↓rX8_copy_36, ↓rX8_copy_37, ↓rX8_copy_40, ↓hg_fX8_94_46, ↓hr_47, ↓hr_48, ↓hr_49, ↓hr_50, ↓hr_51, ↓hr_52, ↓hr_53, ↓hr_54, ↓hr_55, ↓hr_56, ↓hr_57, ↓hr_58, ↓hr_59, ↓hr_60, ↓hr_61, ↓hr_62, ↓hr_63, ↓hr_64, ↓hr_65, ↓hr_66, ↓hr_67, ↓hr_68, ↓hr_69, ↓hr_70, ↓hr_71, ↓hr_72, ↓hr_73, ↓hr_74, ↓hr_75, ↓hr_76, ↓hr_77, ↓hr_78, ↓hr_79, ↓hw_47, ↓hw_48, ↓hw_49, ↓hw_50, ↓hw_51, ↓hw_52, ↓hw_53, ↓hw_54, ↓hw_55, ↓hw_56, ↓hw_57, ↓hw_58, ↓hw_59, ↓hw_60, ↓hw_61, ↓hw_62, ↓hw_63, ↓hw_64, ↓hw_65, ↓hw_66, ↓hw_67, ↓hw_68, ↓hw_69, ↓hw_70, ↓hw_71, ↓hw_72, ↓hw_73, ↓hw_74, ↓hw_75, ↓hw_76, ↓hw_77, ↓hw_78, ↓hw_79, ↓i_isSheet, ↓reduceIte, ↓i_meets, zkeep_n, zkeep_i, zkeep_r, zkeep_l, zIR, zLR, List.length_cons, List.length_nil, Nat.reduceAdd, Nat.reduceLeDiff, Nat.reduceEqDiff, Nat.reduceSub, Int.reduceLE, Int.reduceLT, Int.reduceEq, Int.reduceNe, Int.reduceNeg, Int.reduceAdd, Int.reduceSub, Int.reduceMul, Int.reduceToNat, Nat.le_refl, Nat.zero_le, Nat.zero_add, Int.zero_add, Int.add_zero, and_true, true_and, and_false, false_and, not_true_eq_false, not_false_eq_true, eq_self, ne_eq, true_implies, false_implies, implies_true, or_true, true_or, or_false, false_or, reduceCtorEq, Option.some.injEq, Sum.inl.injEq, exists_eq_left', exists_eq_left, l1, r1, zite]
      repeat' (first | with_reducible apply And.intro | with_reducible intro _)
      all_goals first | omega | (exact fin)
    · rw [if_neg e, if_neg e] at hR
      have s1 : S 12 s = 1 := by omega
      have t1 : S 12 t = 1 := by omega
      obtain ⟨a1, a2⟩ := l2 s1
      obtain ⟨b1, b2⟩ := r2 t1
      have w2 := w2 s1
      have u2 := u2 t1
      rw [s1] at l1
      rw [t1] at r1
      have st : S 13 s ≠ S 13 t → R (some (.inl (-14))) (zup M 46 39 4) := fun q => by
        rw [if_pos q, if_pos q] at hR
        exact hR _ (RM_find h) YF_find
      have no : S 13 s = S 13 t → ¬ gCopy S s i t j n → R (some (.inl (-12))) (zup M 46 39 2) := fun q q2 => by
        have q' : ¬ (S 13 s ≠ S 13 t) := fun z => z q
        rw [if_neg q', if_neg q', if_neg q2, if_neg q2] at hR
        exact hR _ (RM_find h) YF_find
      have yes : S 13 s = S 13 t → gCopy S s i t j n → uX8_copy R 120 [some (.inr (.inr 46)), some (.inl s), some (.inl i), some (.inl t), some (.inl j), some (.inl n), some (.inl 0)] [] M := fun q q2 => by
        have q' : ¬ (S 13 s ≠ S 13 t) := fun z => z q
        rw [if_neg q', if_neg q', if_pos q2, if_pos q2] at hR
        have L2 : ∀ u : Int × zM, ((0 ≤ u.1 ∧ u.1 ≤ n) ∧ (∀ k x, k ≠ 78 → k ≠ 79 → u.2 k x = M k x) ∧ (∀ x, 0 ≤ x → x < n → u.2 79 x = S (15 + s.toNat) (i + x)) ∧ (∀ x, u.2 78 x = if 60 * t + j ≤ x ∧ x < 60 * t + j + u.1 then S (15 + s.toNat) (i + (x - (60 * t + j))) else M 78 x)) → uX8_copy R 157 [some (.inr (.inr 46)), some (.inl s), some (.inl i), some (.inl t), some (.inl j), some (.inl n), some (.inl u.1)] [] u.2 := by
          refine zind (fun u => (n - u.1).toNat) ?_
          rintro ⟨x, N⟩ ⟨hx, hfr, h79, h78⟩ ih
          simp only at hx hfr h79 h78 ih
          refine rX8_copy_157.mpr ?_
          by_cases he : x = n
          · have fin := hR N (RM_sheets h (fun k y a => by
              unfold nCopy
              rw [if_neg (by omega)]) (fun k y a => hfr k y (by omega) (by omega)) (fun s' a b => by
              have old := (RM_iff.mp h).2.2.2.1 s' a b
              have eo : ∀ k y, k < 15 → nCopy S s i t j n k y = S k y := fun k y hk => by unfold nCopy; rw [if_neg (by omega)]
              rw [eo 12 _ (by decide), eo 13 _ (by decide), eo 14 _ (by decide), hfr _ _ (by decide) (by decide), hfr _ _ (by decide) (by decide), hfr _ _ (by decide) (by decide)]
              refine ⟨old.1, old.2.1, fun y c d => ?_⟩
              rw [h78]
              unfold nCopy
              by_cases es : s' = t
              · subst es
                by_cases cy : j ≤ y ∧ y < j + n
                · rw [if_pos (by omega), if_pos ⟨rfl, cy⟩]
                  congr 1
                  omega
                · rw [if_neg (by omega), if_neg (fun z => cy z.2)]
                  exact old.2.2 y c d
              · rw [if_neg (by omega), if_neg (by omega)]
                exact old.2.2 y c d)) (fun k y hk => hfr k y (by omega) (by omega))
            simp only [↓rX8_copy_159, ↓rX8_copy_161, ↓rX8_copy_192, ↓rX8_copy_193, ↓reduceIte, zkeep_n, zkeep_i, zkeep_r, zkeep_l, zup_eq, zIR, zLR, List.length_cons, List.length_nil, Nat.reduceAdd, Nat.reduceLeDiff, Nat.reduceEqDiff, Nat.reduceSub, Int.reduceLE, Int.reduceLT, Int.reduceEq, Int.reduceNe, Int.reduceNeg, Int.reduceAdd, Int.reduceSub, Int.reduceMul, Int.reduceToNat, Nat.le_refl, Nat.zero_le, Nat.zero_add, Int.zero_add, Int.add_zero, and_true, true_and, and_false, false_and, not_true_eq_false, not_false_eq_true, eq_self, ne_eq, true_implies, false_implies, implies_true, or_true, true_or, or_false, false_or, reduceCtorEq, Option.some.injEq, Sum.inl.injEq, exists_eq_left', exists_eq_left, zite]
            repeat' (first | with_reducible apply And.intro | with_reducible intro _)
            all_goals first | omega | (exact fin)
          · have e79 := h79 x hx.1 (by omega)
            have nx := ih (x + 1, zup N 78 (60 * t + j + x) (S (15 + s.toNat) (i + x))) ⟨by simp only; omega, fun k y a b => (zup_ne a).trans (hfr k y a b), fun y a b => by simp only [zup_ne (show 79 ≠ 78 by decide)]; exact h79 y a b, fun y => by
              simp only [zup_in]
              rw [h78]
              by_cases ey : y = 60 * t + j + x
              · rw [if_pos ey, if_pos (by omega)]
                congr 1
                omega
              · rw [if_neg ey]
                by_cases cy : 60 * t + j ≤ y ∧ y < 60 * t + j + x
                · rw [if_pos cy, if_pos (by omega)]
                · rw [if_neg cy, if_neg (by omega)]⟩ (by simp only; omega)
            simp only [↓rX8_copy_159, ↓rX8_copy_161, ↓rX8_copy_164, ↓rX8_copy_165, ↓rX8_copy_168, ↓rX8_copy_170, ↓rX8_copy_171, ↓rX8_copy_172, ↓rX8_copy_174, ↓rX8_copy_175, ↓rX8_copy_177, ↓rX8_copy_178, ↓rX8_copy_179, ↓rX8_copy_182, ↓rX8_copy_184, ↓rX8_copy_185, ↓rX8_copy_186, ↓rX8_copy_189, ↓hg_fX8_104_46, ↓hg_fX8_107_46, ↓hr_47, ↓hr_48, ↓hr_49, ↓hr_50, ↓hr_51, ↓hr_52, ↓hr_53, ↓hr_54, ↓hr_55, ↓hr_56, ↓hr_57, ↓hr_58, ↓hr_59, ↓hr_60, ↓hr_61, ↓hr_62, ↓hr_63, ↓hr_64, ↓hr_65, ↓hr_66, ↓hr_67, ↓hr_68, ↓hr_69, ↓hr_70, ↓hr_71, ↓hr_72, ↓hr_73, ↓hr_74, ↓hr_75, ↓hr_76, ↓hr_77, ↓hr_78, ↓hr_79, ↓hw_47, ↓hw_48, ↓hw_49, ↓hw_50, ↓hw_51, ↓hw_52, ↓hw_53, ↓hw_54, ↓hw_55, ↓hw_56, ↓hw_57, ↓hw_58, ↓hw_59, ↓hw_60, ↓hw_61, ↓hw_62, ↓hw_63, ↓hw_64, ↓hw_65, ↓hw_66, ↓hw_67, ↓hw_68, ↓hw_69, ↓hw_70, ↓hw_71, ↓hw_72, ↓hw_73, ↓hw_74, ↓hw_75, ↓hw_76, ↓hw_77, ↓hw_78, ↓hw_79, ↓reduceIte, zkeep_n, zkeep_i, zkeep_r, zkeep_l, zIR, zLR, List.length_cons, List.length_nil, Nat.reduceAdd, Nat.reduceLeDiff, Nat.reduceEqDiff, Nat.reduceSub, Int.reduceLE, Int.reduceLT, Int.reduceEq, Int.reduceNe, Int.reduceNeg, Int.reduceAdd, Int.reduceSub, Int.reduceMul, Int.reduceToNat, Nat.le_refl, Nat.zero_le, Nat.zero_add, Int.zero_add, Int.add_zero, and_true, true_and, and_false, false_and, not_true_eq_false, not_false_eq_true, eq_self, ne_eq, true_implies, false_implies, implies_true, or_true, true_or, or_false, false_or, reduceCtorEq, Option.some.injEq, Sum.inl.injEq, exists_eq_left', exists_eq_left, e79, zite]
            repeat' (first | with_reducible apply And.intro | with_reducible intro _)
            all_goals first | omega | (exact nx)
        have L1 : ∀ u : Int × zM, ((0 ≤ u.1 ∧ u.1 ≤ n) ∧ (∀ k x, k ≠ 79 → u.2 k x = M k x) ∧ (∀ x, 0 ≤ x → x < u.1 → u.2 79 x = S (15 + s.toNat) (i + x))) → uX8_copy R 120 [some (.inr (.inr 46)), some (.inl s), some (.inl i), some (.inl t), some (.inl j), some (.inl n), some (.inl u.1)] [] u.2 := by
          refine zind (fun u => (n - u.1).toNat) ?_
          rintro ⟨x, N⟩ ⟨hx, hfr, h79⟩ ih
          simp only at hx hfr h79 ih
          refine rX8_copy_120.mpr ?_
          by_cases he : x = n
          · have fin := L2 (0, N) ⟨by simp only; omega, fun k y a b => hfr k y b, fun y a b => h79 y a (by omega), fun y => by
              rw [if_neg (by simp only; omega)]
              exact hfr 78 y (by decide)⟩
            simp only [↓rX8_copy_122, ↓rX8_copy_124, ↓rX8_copy_154, ↓rX8_copy_155, ↓reduceIte, zkeep_n, zkeep_i, zkeep_r, zkeep_l, zup_eq, zIR, zLR, List.length_cons, List.length_nil, Nat.reduceAdd, Nat.reduceLeDiff, Nat.reduceEqDiff, Nat.reduceSub, Int.reduceLE, Int.reduceLT, Int.reduceEq, Int.reduceNe, Int.reduceNeg, Int.reduceAdd, Int.reduceSub, Int.reduceMul, Int.reduceToNat, Nat.le_refl, Nat.zero_le, Nat.zero_add, Int.zero_add, Int.add_zero, and_true, true_and, and_false, false_and, not_true_eq_false, not_false_eq_true, eq_self, ne_eq, true_implies, false_implies, implies_true, or_true, true_or, or_false, false_or, reduceCtorEq, Option.some.injEq, Sum.inl.injEq, exists_eq_left', exists_eq_left, zite]
            repeat' (first | with_reducible apply And.intro | with_reducible intro _)
            all_goals first | omega | (exact fin)
          · have e78 : N 78 (60 * s + i + x) = S (15 + s.toNat) (i + x) := by
              rw [hfr _ _ (by decide), show 60 * s + i + x = 60 * s + (i + x) by omega]
              exact l3 (i + x) (by omega) (by omega)
            have nx := ih (x + 1, zup N 79 x (S (15 + s.toNat) (i + x))) ⟨by simp only; omega, fun k y a => (zup_ne a).trans (hfr k y a), fun y a b => by
              simp only [zup_in] at b ⊢
              by_cases ey : y = x
              · rw [if_pos ey, ey]
              · rw [if_neg ey]
                exact h79 y a (by omega)⟩ (by simp only; omega)
            simp only [↓rX8_copy_122, ↓rX8_copy_124, ↓rX8_copy_127, ↓rX8_copy_128, ↓rX8_copy_131, ↓rX8_copy_133, ↓rX8_copy_134, ↓rX8_copy_137, ↓rX8_copy_139, ↓rX8_copy_140, ↓rX8_copy_141, ↓rX8_copy_142, ↓rX8_copy_143, ↓rX8_copy_145, ↓rX8_copy_146, ↓rX8_copy_147, ↓rX8_copy_148, ↓rX8_copy_151, ↓hg_fX8_104_46, ↓hg_fX8_107_46, ↓hr_47, ↓hr_48, ↓hr_49, ↓hr_50, ↓hr_51, ↓hr_52, ↓hr_53, ↓hr_54, ↓hr_55, ↓hr_56, ↓hr_57, ↓hr_58, ↓hr_59, ↓hr_60, ↓hr_61, ↓hr_62, ↓hr_63, ↓hr_64, ↓hr_65, ↓hr_66, ↓hr_67, ↓hr_68, ↓hr_69, ↓hr_70, ↓hr_71, ↓hr_72, ↓hr_73, ↓hr_74, ↓hr_75, ↓hr_76, ↓hr_77, ↓hr_78, ↓hr_79, ↓hw_47, ↓hw_48, ↓hw_49, ↓hw_50, ↓hw_51, ↓hw_52, ↓hw_53, ↓hw_54, ↓hw_55, ↓hw_56, ↓hw_57, ↓hw_58, ↓hw_59, ↓hw_60, ↓hw_61, ↓hw_62, ↓hw_63, ↓hw_64, ↓hw_65, ↓hw_66, ↓hw_67, ↓hw_68, ↓hw_69, ↓hw_70, ↓hw_71, ↓hw_72, ↓hw_73, ↓hw_74, ↓hw_75, ↓hw_76, ↓hw_77, ↓hw_78, ↓hw_79, ↓reduceIte, zkeep_n, zkeep_i, zkeep_r, zkeep_l, zIR, zLR, List.length_cons, List.length_nil, Nat.reduceAdd, Nat.reduceLeDiff, Nat.reduceEqDiff, Nat.reduceSub, Int.reduceLE, Int.reduceLT, Int.reduceEq, Int.reduceNe, Int.reduceNeg, Int.reduceAdd, Int.reduceSub, Int.reduceMul, Int.reduceToNat, Nat.le_refl, Nat.zero_le, Nat.zero_add, Int.zero_add, Int.add_zero, and_true, true_and, and_false, false_and, not_true_eq_false, not_false_eq_true, eq_self, ne_eq, true_implies, false_implies, implies_true, or_true, true_or, or_false, false_or, reduceCtorEq, Option.some.injEq, Sum.inl.injEq, exists_eq_left', exists_eq_left, e78, zite]
            repeat' (first | with_reducible apply And.intro | with_reducible intro _)
            all_goals first | omega | (exact nx)
        exact L1 (0, M) ⟨by simp only; omega, fun _ _ _ => rfl, fun y a b => by simp only at b; omega⟩
      have zc1 : ∀ a b : Int, zcmp a b ≤ 0 ↔ a ≤ b := fun a b => by unfold zcmp; (repeat' split) <;> omega
      have zc2 : ∀ a b : Int, -1 ≤ zcmp a b ∧ zcmp a b ≤ 1 := fun a b => by unfold zcmp; (repeat' split) <;> omega
      have y1 := zc1 (i + n) (S 14 s)
      have y2 := zc1 (j + n) (S 14 t)
      have y3 := zc2 (i + n) (S 14 s)
      have y4 := zc2 (j + n) (S 14 t)
      simp only [↓eX8_copy, ↓rX8_copy_0, ↓rX8_copy_1, ↓rX8_copy_4, ↓rX8_copy_7, ↓rX8_copy_8, ↓rX8_copy_11, ↓rX8_copy_14, ↓rX8_copy_16, ↓rX8_copy_17, ↓rX8_copy_18, ↓rX8_copy_21, ↓rX8_copy_22, ↓rX8_copy_23, ↓rX8_copy_26, ↓rX8_copy_27, ↓rX8_copy_30, ↓rX8_copy_31, ↓rX8_copy_32, ↓rX8_copy_35, ↓rX8_copy_36, ↓rX8_copy_37, ↓rX8_copy_40, ↓rX8_copy_41, ↓rX8_copy_42, ↓rX8_copy_45, ↓rX8_copy_46, ↓rX8_copy_47, ↓rX8_copy_48, ↓rX8_copy_51, ↓rX8_copy_52, ↓rX8_copy_53, ↓rX8_copy_56, ↓rX8_copy_57, ↓rX8_copy_58, ↓rX8_copy_61, ↓rX8_copy_62, ↓rX8_copy_63, ↓rX8_copy_66, ↓rX8_copy_68, ↓rX8_copy_71, ↓rX8_copy_73, ↓rX8_copy_76, ↓rX8_copy_77, ↓rX8_copy_78, ↓rX8_copy_80, ↓rX8_copy_81, ↓rX8_copy_82, ↓rX8_copy_83, ↓rX8_copy_86, ↓rX8_copy_87, ↓rX8_copy_88, ↓rX8_copy_89, ↓rX8_copy_90, ↓rX8_copy_93, ↓rX8_copy_95, ↓rX8_copy_96, ↓rX8_copy_98, ↓rX8_copy_99, ↓rX8_copy_100, ↓rX8_copy_101, ↓rX8_copy_104, ↓rX8_copy_105, ↓rX8_copy_106, ↓rX8_copy_107, ↓rX8_copy_108, ↓rX8_copy_111, ↓rX8_copy_112, ↓rX8_copy_113, ↓rX8_copy_116, ↓rX8_copy_117, ↓rX8_copy_118, ↓hg_fX8_101_46, ↓hg_fX8_94_46, ↓hg_fX8_98_46, ↓hr_47, ↓hr_48, ↓hr_49, ↓hr_50, ↓hr_51, ↓hr_52, ↓hr_53, ↓hr_54, ↓hr_55, ↓hr_56, ↓hr_57, ↓hr_58, ↓hr_59, ↓hr_60, ↓hr_61, ↓hr_62, ↓hr_63, ↓hr_64, ↓hr_65, ↓hr_66, ↓hr_67, ↓hr_68, ↓hr_69, ↓hr_70, ↓hr_71, ↓hr_72, ↓hr_73, ↓hr_74, ↓hr_75, ↓hr_76, ↓hr_77, ↓hr_78, ↓hr_79, ↓hw_47, ↓hw_48, ↓hw_49, ↓hw_50, ↓hw_51, ↓hw_52, ↓hw_53, ↓hw_54, ↓hw_55, ↓hw_56, ↓hw_57, ↓hw_58, ↓hw_59, ↓hw_60, ↓hw_61, ↓hw_62, ↓hw_63, ↓hw_64, ↓hw_65, ↓hw_66, ↓hw_67, ↓hw_68, ↓hw_69, ↓hw_70, ↓hw_71, ↓hw_72, ↓hw_73, ↓hw_74, ↓hw_75, ↓hw_76, ↓hw_77, ↓hw_78, ↓hw_79, ↓i_isSheet, ↓reduceIte, ↓i_meets, zkeep_n, zkeep_i, zkeep_r, zkeep_l, zIR, zLR, List.length_cons, List.length_nil, Nat.reduceAdd, Nat.reduceLeDiff, Nat.reduceEqDiff, Nat.reduceSub, Int.reduceLE, Int.reduceLT, Int.reduceEq, Int.reduceNe, Int.reduceNeg, Int.reduceAdd, Int.reduceSub, Int.reduceMul, Int.reduceToNat, Nat.le_refl, Nat.zero_le, Nat.zero_add, Int.zero_add, Int.add_zero, and_true, true_and, and_false, false_and, not_true_eq_false, not_false_eq_true, eq_self, ne_eq, true_implies, false_implies, implies_true, or_true, true_or, or_false, false_or, reduceCtorEq, Option.some.injEq, Sum.inl.injEq, exists_eq_left', exists_eq_left, l1, r1, a1, a2, b1, b2, zite]
      repeat' (first | with_reducible apply And.intro | with_reducible intro _)
      all_goals first | omega | (exact st (by omega)) | (exact no (by omega) (by omega)) | (exact yes (by omega) (by omega))
  · rw [if_neg hs, if_neg hs] at hR
    have fin := hR M h YF.rfl
    simp only [↓eX8_copy, ↓rX8_copy_0, ↓rX8_copy_1, ↓rX8_copy_4, ↓rX8_copy_7, ↓rX8_copy_8, ↓rX8_copy_11, ↓rX8_copy_14, ↓rX8_copy_16, ↓i_isSheet, ↓reduceIte, zkeep_n, zkeep_i, zkeep_r, zkeep_l, zup_eq, zIR, zLR, List.length_cons, List.length_nil, Nat.reduceAdd, Nat.reduceLeDiff, Nat.reduceEqDiff, Nat.reduceSub, Int.reduceLE, Int.reduceLT, Int.reduceEq, Int.reduceNe, Int.reduceNeg, Int.reduceAdd, Int.reduceSub, Int.reduceMul, Int.reduceToNat, Nat.le_refl, Nat.zero_le, Nat.zero_add, Int.zero_add, Int.add_zero, and_true, true_and, and_false, false_and, not_true_eq_false, not_false_eq_true, eq_self, ne_eq, true_implies, false_implies, implies_true, or_true, true_or, or_false, false_or, reduceCtorEq, Option.some.injEq, Sum.inl.injEq, exists_eq_left', exists_eq_left, zite]
    repeat' (first | with_reducible apply And.intro | with_reducible intro _)
    all_goals first | omega | (exact fin)
set_option maxRecDepth 100000 in
set_option maxHeartbeats 8000000 in
theorem y_write {S M : zM} {R : zP} {me qu s : Int} (hW : WX S) (h : RM S M) (z1 : zIR me) (z2 : zIR qu) (z3 : zIR s) (hR : ∀ M', RM (mWrite S me qu s) M' → YF M M' → R (some (.inl (aWrite S me qu s))) M') : tX8_write [.inr (.inr 46), .inl me, .inl qu, .inl s] M R := by
  have hk := W_k hW
  unfold mWrite aWrite at hR
  simp only [↓eX8_write, ↓rX8_write_0, ↓rX8_write_1, ↓rX8_write_2, ↓reduceIte, zkeep_n, zkeep_i, zkeep_r, zkeep_l, zup_eq, zIR, zLR, List.length_cons, List.length_nil, Nat.reduceAdd, Nat.reduceLeDiff, Nat.reduceEqDiff, Nat.reduceSub, Int.reduceLE, Int.reduceLT, Int.reduceEq, Int.reduceNe, Int.reduceNeg, Int.reduceAdd, Int.reduceSub, Int.reduceMul, Int.reduceToNat, Nat.le_refl, Nat.zero_le, Nat.zero_add, Int.zero_add, Int.add_zero, and_true, true_and, and_false, false_and, not_true_eq_false, not_false_eq_true, eq_self, ne_eq, true_implies, false_implies, implies_true, or_true, true_or, or_false, false_or, reduceCtorEq, Option.some.injEq, Sum.inl.injEq, exists_eq_left', exists_eq_left, zite]
  refine s_isMember hW h z1 (fun hm M1 f1 f2 => ?_) (fun hm M1 f1 f2 => ?_)
  · unfold zIR at z1 z2 z3
    have hM1 := RM_yq h f1.yq
    have bad : ¬ ((0 ≤ qu ∧ qu < 4) ∧ (0 ≤ s ∧ s < 4)) → R (some (.inl (-2))) M1 := fun q => by
      have q' : ¬ ((0 ≤ me ∧ me < qn S 0) ∧ (0 ≤ qu ∧ qu < 4) ∧ (0 ≤ s ∧ s < 4)) := fun z => q z.2
      rw [if_neg q', if_neg q'] at hR
      exact hR M1 hM1 f1.yq.yf
    by_cases hg : (0 ≤ qu ∧ qu < 4) ∧ (0 ≤ s ∧ s < 4)
    · have g : ((0 ≤ me ∧ me < qn S 0) ∧ (0 ≤ qu ∧ qu < 4) ∧ (0 ≤ s ∧ s < 4)) := ⟨hm, hg⟩
      rw [if_pos g, if_pos g] at hR
      obtain ⟨w1, w2, w3⟩ := W_sheet hW hg.2.1 hg.2.2
      obtain ⟨l1, l2, l3⟩ := (RM_iff.mp hM1).2.2.2.1 s hg.2.1 hg.2.2
      by_cases e : S 12 s = 0
      · rw [if_pos e, if_pos e] at hR
        rw [e] at l1
        have fin := hR _ (RM_find hM1) (f1.yq.yf.trans YF_find)
        simp only [↓rX8_write_5, ↓rX8_write_8, ↓rX8_write_9, ↓rX8_write_12, ↓rX8_write_15, ↓rX8_write_16, ↓rX8_write_19, ↓rX8_write_22, ↓rX8_write_24, ↓rX8_write_25, ↓rX8_write_26, ↓rX8_write_29, ↓rX8_write_30, ↓rX8_write_31, ↓rX8_write_34, ↓rX8_write_35, ↓rX8_write_36, ↓rX8_write_39, ↓hg_fX8_94_46, ↓hr_47, ↓hr_48, ↓hr_49, ↓hr_50, ↓hr_51, ↓hr_52, ↓hr_53, ↓hr_54, ↓hr_55, ↓hr_56, ↓hr_57, ↓hr_58, ↓hr_59, ↓hr_60, ↓hr_61, ↓hr_62, ↓hr_63, ↓hr_64, ↓hr_65, ↓hr_66, ↓hr_67, ↓hr_68, ↓hr_69, ↓hr_70, ↓hr_71, ↓hr_72, ↓hr_73, ↓hr_74, ↓hr_75, ↓hr_76, ↓hr_77, ↓hr_78, ↓hr_79, ↓hw_47, ↓hw_48, ↓hw_49, ↓hw_50, ↓hw_51, ↓hw_52, ↓hw_53, ↓hw_54, ↓hw_55, ↓hw_56, ↓hw_57, ↓hw_58, ↓hw_59, ↓hw_60, ↓hw_61, ↓hw_62, ↓hw_63, ↓hw_64, ↓hw_65, ↓hw_66, ↓hw_67, ↓hw_68, ↓hw_69, ↓hw_70, ↓hw_71, ↓hw_72, ↓hw_73, ↓hw_74, ↓hw_75, ↓hw_76, ↓hw_77, ↓hw_78, ↓hw_79, ↓i_isQuestion, ↓i_isSheet, ↓reduceIte, ↓i_meets, zkeep_n, zkeep_i, zkeep_r, zkeep_l, zIR, zLR, List.length_cons, List.length_nil, Nat.reduceAdd, Nat.reduceLeDiff, Nat.reduceEqDiff, Nat.reduceSub, Int.reduceLE, Int.reduceLT, Int.reduceEq, Int.reduceNe, Int.reduceNeg, Int.reduceAdd, Int.reduceSub, Int.reduceMul, Int.reduceToNat, Nat.le_refl, Nat.zero_le, Nat.zero_add, Int.zero_add, Int.add_zero, and_true, true_and, and_false, false_and, not_true_eq_false, not_false_eq_true, eq_self, ne_eq, true_implies, false_implies, implies_true, or_true, true_or, or_false, false_or, reduceCtorEq, Option.some.injEq, Sum.inl.injEq, exists_eq_left', exists_eq_left, l1, zite]
        repeat' (first | with_reducible apply And.intro | with_reducible intro _)
        all_goals first | omega | (exact fin)
      · rw [if_neg e, if_neg e] at hR
        have e1 : S 12 s = 1 := by omega
        rw [e1] at l1
        have w2 := w2 e1
        have mR : 0 ≤ mn20 (S 14 s) ∧ mn20 (S 14 s) ≤ 20 ∧ mn20 (S 14 s) ≤ S 14 s ∧ (mn20 (S 14 s) = 20 ∨ mn20 (S 14 s) = S 14 s) := by unfold mn20; split <;> omega
        have go : zcn (zv 8 tX8_runsTold) [.inr (.inr 46)] M1 (fun M' => uX8_write R 44 [some (.inr (.inr 46)), some (.inl me), some (.inl qu), some (.inl s), none] [] M') := by
          refine s_runsTold hW hM1 (fun M2 g1 g2 g3 => ?_)
          have hM2 := RM_yq hM1 g1
          obtain ⟨p1, p2, p3⟩ := (RM_iff.mp hM2).2.2.2.1 s hg.2.1 hg.2.2
          obtain ⟨a1, a2⟩ := p2 e1
          have L : ∀ u : Nat × zM, ((u.1 : Int) ≤ mn20 (S 14 s) ∧ (∀ k x, k ≠ 78 → u.2 k x = M2 k x) ∧ (∀ x, u.2 78 x = if 60 * s ≤ x ∧ x < 60 * s + u.1 then wV S me (x - 60 * s).toNat qu else M2 78 x)) → uX8_write R 47 [some (.inr (.inr 46)), some (.inl me), some (.inl qu), some (.inl s), some (.inl (u.1 : Int))] [] u.2 := by
            refine zind (fun u => 20 - u.1) ?_
            rintro ⟨x, N⟩ ⟨hx, hfr, h78⟩ ih
            simp only at hx hfr h78 ih
            have n77 : N 77 s = S 14 s := (hfr _ _ (by decide)).trans a2
            have n76 : N 76 s = S 13 s := (hfr _ _ (by decide)).trans a1
            refine rX8_write_47.mpr ?_
            by_cases he : (x : Int) = mn20 (S 14 s)
            · have fin := hR N (RM_sheets hM2 (fun k y a => by
                unfold nWrite
                rw [if_neg (by omega)]) (fun k y a => hfr k y (by omega)) (fun s' a b => by
                have old := (RM_iff.mp hM2).2.2.2.1 s' a b
                have eo : ∀ k y, k < 15 → nWrite S me qu s k y = S k y := fun k y hk => by unfold nWrite; rw [if_neg (by omega)]
                rw [eo 12 _ (by decide), eo 13 _ (by decide), eo 14 _ (by decide), hfr _ _ (by decide), hfr _ _ (by decide), hfr _ _ (by decide)]
                refine ⟨old.1, old.2.1, fun y c d => ?_⟩
                rw [h78, he]
                unfold nWrite
                by_cases es : s' = s
                · subst es
                  by_cases cy : y < mn20 (S 14 s')
                  · rw [if_pos (by omega), if_pos ⟨rfl, c, cy⟩]
                    congr 1
                    omega
                  · rw [if_neg (by omega), if_neg (fun z => cy z.2.2)]
                    exact old.2.2 y c d
                · rw [if_neg (by omega), if_neg (by omega)]
                  exact old.2.2 y c d)) (f1.yq.yf.trans (g1.yf.trans (fun k y hk => hfr k y (by omega))))
              rw [← he] at fin
              simp only [↓rX8_write_49, ↓rX8_write_50, ↓rX8_write_53, ↓rX8_write_54, ↓rX8_write_55, ↓rX8_write_58, ↓rX8_write_60, ↓rX8_write_62, ↓rX8_write_94, ↓rX8_write_96, ↓hg_fX8_101_46, ↓hr_47, ↓hr_48, ↓hr_49, ↓hr_50, ↓hr_51, ↓hr_52, ↓hr_53, ↓hr_54, ↓hr_55, ↓hr_56, ↓hr_57, ↓hr_58, ↓hr_59, ↓hr_60, ↓hr_61, ↓hr_62, ↓hr_63, ↓hr_64, ↓hr_65, ↓hr_66, ↓hr_67, ↓hr_68, ↓hr_69, ↓hr_70, ↓hr_71, ↓hr_72, ↓hr_73, ↓hr_74, ↓hr_75, ↓hr_76, ↓hr_77, ↓hr_78, ↓hr_79, ↓hw_47, ↓hw_48, ↓hw_49, ↓hw_50, ↓hw_51, ↓hw_52, ↓hw_53, ↓hw_54, ↓hw_55, ↓hw_56, ↓hw_57, ↓hw_58, ↓hw_59, ↓hw_60, ↓hw_61, ↓hw_62, ↓hw_63, ↓hw_64, ↓hw_65, ↓hw_66, ↓hw_67, ↓hw_68, ↓hw_69, ↓hw_70, ↓hw_71, ↓hw_72, ↓hw_73, ↓hw_74, ↓hw_75, ↓hw_76, ↓hw_77, ↓hw_78, ↓hw_79, ↓reduceIte, zkeep_n, zkeep_i, zkeep_r, zkeep_l, zup_eq, zIR, zLR, List.length_cons, List.length_nil, Nat.reduceAdd, Nat.reduceLeDiff, Nat.reduceEqDiff, Nat.reduceSub, Int.reduceLE, Int.reduceLT, Int.reduceEq, Int.reduceNe, Int.reduceNeg, Int.reduceAdd, Int.reduceSub, Int.reduceMul, Int.reduceToNat, Nat.le_refl, Nat.zero_le, Nat.zero_add, Int.zero_add, Int.add_zero, and_true, true_and, and_false, false_and, not_true_eq_false, not_false_eq_true, eq_self, ne_eq, true_implies, false_implies, implies_true, or_true, true_or, or_false, false_or, reduceCtorEq, Option.some.injEq, Sum.inl.injEq, exists_eq_left', exists_eq_left, n77, zite]
              repeat' (first | with_reducible apply And.intro | with_reducible intro _)
              all_goals first | omega | (exact fin)
            · have ha := (HV_at g3 (k := me) (t := x) (q := qu) hm.1 hm.2 (by omega) (by omega) hg.1.1 hg.1.2).1
              rw [Int.toNat_natCast] at ha
              have e64 : N 64 (32 * x + 4 * me + qu) = wV S me x qu := (hfr _ _ (by decide)).trans ha
              have hv := (wV_R hW me hm.1 hm.2 x (by omega)).1 qu (by omega) (by omega)
              have call : zcn (zv 8 tX8_keep) [.inr (.inr 46), .inl s, .inl (x : Int), .inl (wV S me x qu)] N (fun M' => uX8_write R 88 [some (.inr (.inr 46)), some (.inl me), some (.inl qu), some (.inl s), some (.inl (x : Int))] [] M') := by
                refine s_keep (f := S 13 s) hg.2 (by omega) n76 w2.1 ?_
                rw [zconv_s hv]
                have nx := ih (x + 1, zup N 78 (60 * s + x) (wV S me x qu)) ⟨by simp only; omega, fun k y a => (zup_ne a).trans (hfr k y a), fun y => by
                  simp only [zup_in]
                  rw [h78]
                  by_cases ey : y = 60 * s + x
                  · rw [if_pos ey, if_pos (by omega)]
                    congr 1
                    omega
                  · rw [if_neg ey]
                    by_cases cy : 60 * s ≤ y ∧ y < 60 * s + x
                    · rw [if_pos cy, if_pos (by omega)]
                    · rw [if_neg cy, if_neg (by omega)]⟩ (by simp only; omega)
                simp only [↓rX8_write_88, ↓rX8_write_91, ↓reduceIte, zkeep_n, zkeep_i, zkeep_r, zkeep_l, zup_eq, zIR, zLR, List.length_cons, List.length_nil, Nat.reduceAdd, Nat.reduceLeDiff, Nat.reduceEqDiff, Nat.reduceSub, Int.reduceLE, Int.reduceLT, Int.reduceEq, Int.reduceNe, Int.reduceNeg, Int.reduceAdd, Int.reduceSub, Int.reduceMul, Int.reduceToNat, Nat.le_refl, Nat.zero_le, Nat.zero_add, Int.zero_add, Int.add_zero, and_true, true_and, and_false, false_and, not_true_eq_false, not_false_eq_true, eq_self, ne_eq, true_implies, false_implies, implies_true, or_true, true_or, or_false, false_or, reduceCtorEq, Option.some.injEq, Sum.inl.injEq, exists_eq_left', exists_eq_left, zite]
                exact nx
              simp only [↓rX8_write_49, ↓rX8_write_50, ↓rX8_write_53, ↓rX8_write_54, ↓rX8_write_55, ↓rX8_write_58, ↓rX8_write_60, ↓rX8_write_62, ↓rX8_write_65, ↓rX8_write_66, ↓rX8_write_67, ↓rX8_write_69, ↓rX8_write_70, ↓rX8_write_73, ↓rX8_write_75, ↓rX8_write_77, ↓rX8_write_78, ↓rX8_write_79, ↓rX8_write_80, ↓rX8_write_81, ↓rX8_write_82, ↓rX8_write_83, ↓rX8_write_84, ↓rX8_write_85, ↓hg_fX8_101_46, ↓hg_fX8_61_46, ↓hr_47, ↓hr_48, ↓hr_49, ↓hr_50, ↓hr_51, ↓hr_52, ↓hr_53, ↓hr_54, ↓hr_55, ↓hr_56, ↓hr_57, ↓hr_58, ↓hr_59, ↓hr_60, ↓hr_61, ↓hr_62, ↓hr_63, ↓hr_64, ↓hr_65, ↓hr_66, ↓hr_67, ↓hr_68, ↓hr_69, ↓hr_70, ↓hr_71, ↓hr_72, ↓hr_73, ↓hr_74, ↓hr_75, ↓hr_76, ↓hr_77, ↓hr_78, ↓hr_79, ↓hw_47, ↓hw_48, ↓hw_49, ↓hw_50, ↓hw_51, ↓hw_52, ↓hw_53, ↓hw_54, ↓hw_55, ↓hw_56, ↓hw_57, ↓hw_58, ↓hw_59, ↓hw_60, ↓hw_61, ↓hw_62, ↓hw_63, ↓hw_64, ↓hw_65, ↓hw_66, ↓hw_67, ↓hw_68, ↓hw_69, ↓hw_70, ↓hw_71, ↓hw_72, ↓hw_73, ↓hw_74, ↓hw_75, ↓hw_76, ↓hw_77, ↓hw_78, ↓hw_79, ↓reduceIte, zkeep_n, zkeep_i, zkeep_r, zkeep_l, zup_eq, zIR, zLR, List.length_cons, List.length_nil, Nat.reduceAdd, Nat.reduceLeDiff, Nat.reduceEqDiff, Nat.reduceSub, Int.reduceLE, Int.reduceLT, Int.reduceEq, Int.reduceNe, Int.reduceNeg, Int.reduceAdd, Int.reduceSub, Int.reduceMul, Int.reduceToNat, Nat.le_refl, Nat.zero_le, Nat.zero_add, Int.zero_add, Int.add_zero, and_true, true_and, and_false, false_and, not_true_eq_false, not_false_eq_true, eq_self, ne_eq, true_implies, false_implies, implies_true, or_true, true_or, or_false, false_or, reduceCtorEq, Option.some.injEq, Sum.inl.injEq, exists_eq_left', exists_eq_left, n77, e64, zite]
              repeat' (first | with_reducible apply And.intro | with_reducible intro _)
              all_goals first | omega | (exact call)
          have st := L (0, M2) ⟨by simp only; omega, fun _ _ _ => rfl, fun y => by rw [if_neg (by simp only; omega)]⟩
          simp only [↓rX8_write_44, ↓rX8_write_45, ↓reduceIte, zkeep_n, zkeep_i, zkeep_r, zkeep_l, zup_eq, zIR, zLR, List.length_cons, List.length_nil, Nat.reduceAdd, Nat.reduceLeDiff, Nat.reduceEqDiff, Nat.reduceSub, Int.reduceLE, Int.reduceLT, Int.reduceEq, Int.reduceNe, Int.reduceNeg, Int.reduceAdd, Int.reduceSub, Int.reduceMul, Int.reduceToNat, Nat.le_refl, Nat.zero_le, Nat.zero_add, Int.zero_add, Int.add_zero, and_true, true_and, and_false, false_and, not_true_eq_false, not_false_eq_true, eq_self, ne_eq, true_implies, false_implies, implies_true, or_true, true_or, or_false, false_or, reduceCtorEq, Option.some.injEq, Sum.inl.injEq, exists_eq_left', exists_eq_left, zite]
          exact st
        simp only [↓rX8_write_5, ↓rX8_write_8, ↓rX8_write_9, ↓rX8_write_12, ↓rX8_write_15, ↓rX8_write_16, ↓rX8_write_19, ↓rX8_write_22, ↓rX8_write_24, ↓rX8_write_25, ↓rX8_write_26, ↓rX8_write_29, ↓rX8_write_30, ↓rX8_write_31, ↓rX8_write_34, ↓rX8_write_35, ↓rX8_write_36, ↓rX8_write_40, ↓rX8_write_41, ↓hg_fX8_94_46, ↓hr_47, ↓hr_48, ↓hr_49, ↓hr_50, ↓hr_51, ↓hr_52, ↓hr_53, ↓hr_54, ↓hr_55, ↓hr_56, ↓hr_57, ↓hr_58, ↓hr_59, ↓hr_60, ↓hr_61, ↓hr_62, ↓hr_63, ↓hr_64, ↓hr_65, ↓hr_66, ↓hr_67, ↓hr_68, ↓hr_69, ↓hr_70, ↓hr_71, ↓hr_72, ↓hr_73, ↓hr_74, ↓hr_75, ↓hr_76, ↓hr_77, ↓hr_78, ↓hr_79, ↓hw_47, ↓hw_48, ↓hw_49, ↓hw_50, ↓hw_51, ↓hw_52, ↓hw_53, ↓hw_54, ↓hw_55, ↓hw_56, ↓hw_57, ↓hw_58, ↓hw_59, ↓hw_60, ↓hw_61, ↓hw_62, ↓hw_63, ↓hw_64, ↓hw_65, ↓hw_66, ↓hw_67, ↓hw_68, ↓hw_69, ↓hw_70, ↓hw_71, ↓hw_72, ↓hw_73, ↓hw_74, ↓hw_75, ↓hw_76, ↓hw_77, ↓hw_78, ↓hw_79, ↓i_isQuestion, ↓i_isSheet, ↓reduceIte, zkeep_n, zkeep_i, zkeep_r, zkeep_l, zup_eq, zIR, zLR, List.length_cons, List.length_nil, Nat.reduceAdd, Nat.reduceLeDiff, Nat.reduceEqDiff, Nat.reduceSub, Int.reduceLE, Int.reduceLT, Int.reduceEq, Int.reduceNe, Int.reduceNeg, Int.reduceAdd, Int.reduceSub, Int.reduceMul, Int.reduceToNat, Nat.le_refl, Nat.zero_le, Nat.zero_add, Int.zero_add, Int.add_zero, and_true, true_and, and_false, false_and, not_true_eq_false, not_false_eq_true, eq_self, ne_eq, true_implies, false_implies, implies_true, or_true, true_or, or_false, false_or, reduceCtorEq, Option.some.injEq, Sum.inl.injEq, exists_eq_left', exists_eq_left, l1, zite]
        repeat' (first | with_reducible apply And.intro | with_reducible intro _)
        all_goals first | omega | (exact go)
    · simp only [↓rX8_write_5, ↓rX8_write_8, ↓rX8_write_9, ↓rX8_write_12, ↓rX8_write_15, ↓rX8_write_16, ↓rX8_write_19, ↓rX8_write_22, ↓rX8_write_24, ↓i_isQuestion, ↓i_isSheet, ↓reduceIte, zkeep_n, zkeep_i, zkeep_r, zkeep_l, zup_eq, zIR, zLR, List.length_cons, List.length_nil, Nat.reduceAdd, Nat.reduceLeDiff, Nat.reduceEqDiff, Nat.reduceSub, Int.reduceLE, Int.reduceLT, Int.reduceEq, Int.reduceNe, Int.reduceNeg, Int.reduceAdd, Int.reduceSub, Int.reduceMul, Int.reduceToNat, Nat.le_refl, Nat.zero_le, Nat.zero_add, Int.zero_add, Int.add_zero, and_true, true_and, and_false, false_and, not_true_eq_false, not_false_eq_true, eq_self, ne_eq, true_implies, false_implies, implies_true, or_true, true_or, or_false, false_or, reduceCtorEq, Option.some.injEq, Sum.inl.injEq, exists_eq_left', exists_eq_left, zite]
      repeat' (first | with_reducible apply And.intro | with_reducible intro _)
      all_goals first | omega | (exact bad (by omega))
  · have q' : ¬ ((0 ≤ me ∧ me < qn S 0) ∧ (0 ≤ qu ∧ qu < 4) ∧ (0 ≤ s ∧ s < 4)) := fun z => hm z.1
    rw [if_neg q', if_neg q'] at hR
    have fin := hR M1 (RM_yq h f1.yq) f1.yq.yf
    simp only [↓rX8_write_5, ↓rX8_write_22, ↓rX8_write_24, ↓reduceIte, zkeep_n, zkeep_i, zkeep_r, zkeep_l, zup_eq, zIR, zLR, List.length_cons, List.length_nil, Nat.reduceAdd, Nat.reduceLeDiff, Nat.reduceEqDiff, Nat.reduceSub, Int.reduceLE, Int.reduceLT, Int.reduceEq, Int.reduceNe, Int.reduceNeg, Int.reduceAdd, Int.reduceSub, Int.reduceMul, Int.reduceToNat, Nat.le_refl, Nat.zero_le, Nat.zero_add, Int.zero_add, Int.add_zero, and_true, true_and, and_false, false_and, not_true_eq_false, not_false_eq_true, eq_self, ne_eq, true_implies, false_implies, implies_true, or_true, true_or, or_false, false_or, reduceCtorEq, Option.some.injEq, Sum.inl.injEq, exists_eq_left', exists_eq_left, zite]
    exact fin
set_option maxRecDepth 100000 in
set_option maxHeartbeats 8000000 in
theorem y_read {S M : zM} {R : zP} {s : Int} (hW : WX S) (h : RM S M) (z1 : zIR s) (hR : ∀ M', RM (mRead S s) M' → YF M M' → R (some (.inl (aRead S s))) M') : tX8_read [.inr (.inr 46), .inl s] M R := by
  unfold zIR at z1
  unfold mRead aRead at hR
  by_cases hs : 0 ≤ s ∧ s < 4
  · rw [if_pos hs, if_pos hs] at hR
    have h30 : 0 ≤ S 3 0 ∧ S 3 0 ≤ 8 := by obtain ⟨M0, hX⟩ := hW; exact hX.2.2.2.2.1.1
    obtain ⟨w1, w2, w3⟩ := W_sheet hW hs.1 hs.2
    obtain ⟨l1, l2, l3⟩ := (RM_iff.mp h).2.2.2.1 s hs.1 hs.2
    by_cases e : S 12 s = 0
    · rw [if_pos e, if_pos e] at hR
      rw [e] at l1
      have fin := hR _ (RM_find h) YF_find
      simp only [↓eX8_read, ↓rX8_read_0, ↓rX8_read_1, ↓rX8_read_4, ↓rX8_read_7, ↓rX8_read_9, ↓rX8_read_10, ↓rX8_read_11, ↓rX8_read_14, ↓rX8_read_15, ↓rX8_read_16, ↓rX8_read_19, ↓rX8_read_20, ↓rX8_read_21, ↓rX8_read_24, ↓hg_fX8_94_46, ↓hr_47, ↓hr_48, ↓hr_49, ↓hr_50, ↓hr_51, ↓hr_52, ↓hr_53, ↓hr_54, ↓hr_55, ↓hr_56, ↓hr_57, ↓hr_58, ↓hr_59, ↓hr_60, ↓hr_61, ↓hr_62, ↓hr_63, ↓hr_64, ↓hr_65, ↓hr_66, ↓hr_67, ↓hr_68, ↓hr_69, ↓hr_70, ↓hr_71, ↓hr_72, ↓hr_73, ↓hr_74, ↓hr_75, ↓hr_76, ↓hr_77, ↓hr_78, ↓hr_79, ↓hw_47, ↓hw_48, ↓hw_49, ↓hw_50, ↓hw_51, ↓hw_52, ↓hw_53, ↓hw_54, ↓hw_55, ↓hw_56, ↓hw_57, ↓hw_58, ↓hw_59, ↓hw_60, ↓hw_61, ↓hw_62, ↓hw_63, ↓hw_64, ↓hw_65, ↓hw_66, ↓hw_67, ↓hw_68, ↓hw_69, ↓hw_70, ↓hw_71, ↓hw_72, ↓hw_73, ↓hw_74, ↓hw_75, ↓hw_76, ↓hw_77, ↓hw_78, ↓hw_79, ↓i_isSheet, ↓reduceIte, ↓i_meets, zkeep_n, zkeep_i, zkeep_r, zkeep_l, zIR, zLR, List.length_cons, List.length_nil, Nat.reduceAdd, Nat.reduceLeDiff, Nat.reduceEqDiff, Nat.reduceSub, Int.reduceLE, Int.reduceLT, Int.reduceEq, Int.reduceNe, Int.reduceNeg, Int.reduceAdd, Int.reduceSub, Int.reduceMul, Int.reduceToNat, Nat.le_refl, Nat.zero_le, Nat.zero_add, Int.zero_add, Int.add_zero, and_true, true_and, and_false, false_and, not_true_eq_false, not_false_eq_true, eq_self, ne_eq, true_implies, false_implies, implies_true, or_true, true_or, or_false, false_or, reduceCtorEq, Option.some.injEq, Sum.inl.injEq, exists_eq_left', exists_eq_left, l1, zite]
      repeat' (first | with_reducible apply And.intro | with_reducible intro _)
      all_goals first | omega | (exact fin)
    · rw [if_neg e, if_neg e] at hR
      have e1 : S 12 s = 1 := by omega
      rw [e1] at l1
      obtain ⟨a1, a2⟩ := l2 e1
      have w2 := w2 e1
      generalize hit : S (15 + s.toNat) = it at hR
      have L : ∀ (f n : Nat) (T N : zM), n + f = 21 → 3 * (n : Int) ≤ S 14 s + 2 → RM T N → (0 ≤ T 3 0 ∧ T 3 0 ≤ 8) → YF M N → (∀ k i, 75 ≤ k → k ≤ 78 → N k i = M k i) → rdS it (S 14 s) f n T = rdS it (S 14 s) 21 0 S → uX8_read R 32 [some (.inr (.inr 46)), some (.inl s), some (.inl (n : Int)), some (.inl (60 * s))] [] N := by
        intro f
        induction f with
        | zero => intro n T N h1 h2; omega
        | succ f ih =>
          intro n T N h1 h2 hT hT3 hX hN hrd
          have c2 : N 77 s = S 14 s := (hN _ _ (by decide) (by decide)).trans a2
          have stop : ¬ (3 * (n : Int) + 2 < S 14 s ∧ 0 < aFeed T (it (3 * n)) (it (3 * n + 1)) (it (3 * n + 2))) → ∀ N', RM T N' → YF M N' → R (some (.inl (n : Int))) N' := fun q N' q1 q2 => by
            rw [← hrd] at hR
            unfold rdS at hR
            rw [if_neg q] at hR
            exact hR N' q1 q2
          refine rX8_read_32.mpr ?_
          by_cases hlt : 3 * (n : Int) + 2 < S 14 s
          · have i0 := l3 (3 * n) (by omega) (by omega)
            have i1 := l3 (3 * n + 1) (by omega) (by omega)
            have i2 := l3 (3 * n + 2) (by omega) (by omega)
            have r0 := w3 (3 * n) (by omega) (by omega)
            have r1 := w3 (3 * n + 1) (by omega) (by omega)
            have r2 := w3 (3 * n + 2) (by omega) (by omega)
            rw [hit] at i0 i1 i2 r0 r1 r2
            have c0 : N 78 (60 * s + 3 * n) = it (3 * n) := (hN _ _ (by decide) (by decide)).trans i0
            have c1 : N 78 (60 * s + 3 * n + 1) = it (3 * n + 1) := by rw [hN _ _ (by decide) (by decide), show 60 * s + 3 * (n : Int) + 1 = 60 * s + (3 * n + 1) by omega]; exact i1
            have c3 : N 78 (60 * s + 3 * n + 2) = it (3 * n + 2) := by rw [hN _ _ (by decide) (by decide), show 60 * s + 3 * (n : Int) + 2 = 60 * s + (3 * n + 2) by omega]; exact i2
            have aR := aFeed_R hT3 (it (3 * n)) (it (3 * n + 1)) (it (3 * n + 2))
            have mR : 0 ≤ mFeed T (it (3 * n)) (it (3 * n + 1)) (it (3 * n + 2)) 3 0 ∧ mFeed T (it (3 * n)) (it (3 * n + 1)) (it (3 * n + 2)) 3 0 ≤ 8 := by
              unfold mFeed
              split
              · unfold nFeed
                rw [zup_in, if_pos rfl]
                omega
              · exact hT3
            have call : zcv (zv 8 tX8_feed) [.inr (.inr 46), .inl (it (3 * n)), .inl (it (3 * n + 1)), .inl (it (3 * n + 2))] N (fun v M' => uX8_read R 84 [some (.inr (.inr 46)), some (.inl s), some (.inl (n : Int)), some (.inl (60 * s))] [v] M') := by
              refine zcvv rfl (y_feed hT3 hT r0 r1 r2 (fun N' g1 g2 => ⟨_, rfl, ?_⟩))
              have xf : YF M N' := fun k i hk => (g2 k i (by omega) (fun e => by omega)).trans (hX k i hk)
              have no : ¬ 0 < aFeed T (it (3 * n)) (it (3 * n + 1)) (it (3 * n + 2)) → R (some (.inl (n : Int))) N' := fun q => by
                refine stop (by omega) N' ?_ xf
                rw [aR.2.2.2 (by omega)] at g1
                exact g1
              have yes : 0 < aFeed T (it (3 * n)) (it (3 * n + 1)) (it (3 * n + 2)) → uX8_read R 32 [some (.inr (.inr 46)), some (.inl s), some (.inl ((n : Int) + 1)), some (.inl (60 * s))] [] N' := fun q => by
                exact ih (n + 1) (mFeed T (it (3 * n)) (it (3 * n + 1)) (it (3 * n + 2))) N' (by omega) (by omega) g1 mR xf (fun k i a b => (g2 k i (by omega) (fun e => by omega)).trans (hN k i a b)) (by
                  rw [← hrd]
                  conv => rhs; unfold rdS
                  rw [if_pos ⟨hlt, q⟩]
                  rfl)
              simp only [↓rX8_read_84, ↓rX8_read_87, ↓rX8_read_90, ↓rX8_read_93, ↓rX8_read_94, ↓reduceIte, zkeep_n, zkeep_i, zkeep_r, zkeep_l, zup_eq, zIR, zLR, List.length_cons, List.length_nil, Nat.reduceAdd, Nat.reduceLeDiff, Nat.reduceEqDiff, Nat.reduceSub, Int.reduceLE, Int.reduceLT, Int.reduceEq, Int.reduceNe, Int.reduceNeg, Int.reduceAdd, Int.reduceSub, Int.reduceMul, Int.reduceToNat, Nat.le_refl, Nat.zero_le, Nat.zero_add, Int.zero_add, Int.add_zero, and_true, true_and, and_false, false_and, not_true_eq_false, not_false_eq_true, eq_self, ne_eq, true_implies, false_implies, implies_true, or_true, true_or, or_false, false_or, reduceCtorEq, Option.some.injEq, Sum.inl.injEq, exists_eq_left', exists_eq_left, zite]
              repeat' (first | with_reducible apply And.intro | with_reducible intro _)
              all_goals first | omega | (exact no (by omega)) | (exact yes (by omega))
            simp only [↓rX8_read_33, ↓rX8_read_34, ↓rX8_read_35, ↓rX8_read_36, ↓rX8_read_37, ↓rX8_read_38, ↓rX8_read_41, ↓rX8_read_42, ↓rX8_read_43, ↓rX8_read_46, ↓rX8_read_47, ↓rX8_read_48, ↓rX8_read_51, ↓rX8_read_52, ↓rX8_read_53, ↓rX8_read_54, ↓rX8_read_55, ↓rX8_read_56, ↓rX8_read_57, ↓rX8_read_58, ↓rX8_read_61, ↓rX8_read_62, ↓rX8_read_63, ↓rX8_read_64, ↓rX8_read_65, ↓rX8_read_66, ↓rX8_read_67, ↓rX8_read_68, ↓rX8_read_69, ↓rX8_read_70, ↓rX8_read_73, ↓rX8_read_74, ↓rX8_read_75, ↓rX8_read_76, ↓rX8_read_77, ↓rX8_read_78, ↓rX8_read_79, ↓rX8_read_80, ↓rX8_read_81, ↓hg_fX8_101_46, ↓hg_fX8_104_46, ↓hr_47, ↓hr_48, ↓hr_49, ↓hr_50, ↓hr_51, ↓hr_52, ↓hr_53, ↓hr_54, ↓hr_55, ↓hr_56, ↓hr_57, ↓hr_58, ↓hr_59, ↓hr_60, ↓hr_61, ↓hr_62, ↓hr_63, ↓hr_64, ↓hr_65, ↓hr_66, ↓hr_67, ↓hr_68, ↓hr_69, ↓hr_70, ↓hr_71, ↓hr_72, ↓hr_73, ↓hr_74, ↓hr_75, ↓hr_76, ↓hr_77, ↓hr_78, ↓hr_79, ↓hw_47, ↓hw_48, ↓hw_49, ↓hw_50, ↓hw_51, ↓hw_52, ↓hw_53, ↓hw_54, ↓hw_55, ↓hw_56, ↓hw_57, ↓hw_58, ↓hw_59, ↓hw_60, ↓hw_61, ↓hw_62, ↓hw_63, ↓hw_64, ↓hw_65, ↓hw_66, ↓hw_67, ↓hw_68, ↓hw_69, ↓hw_70, ↓hw_71, ↓hw_72, ↓hw_73, ↓hw_74, ↓hw_75, ↓hw_76, ↓hw_77, ↓hw_78, ↓hw_79, ↓reduceIte, zkeep_n, zkeep_i, zkeep_r, zkeep_l, zup_eq, zIR, zLR, List.length_cons, List.length_nil, Nat.reduceAdd, Nat.reduceLeDiff, Nat.reduceEqDiff, Nat.reduceSub, Int.reduceLE, Int.reduceLT, Int.reduceEq, Int.reduceNe, Int.reduceNeg, Int.reduceAdd, Int.reduceSub, Int.reduceMul, Int.reduceToNat, Nat.le_refl, Nat.zero_le, Nat.zero_add, Int.zero_add, Int.add_zero, and_true, true_and, and_false, false_and, not_true_eq_false, not_false_eq_true, eq_self, ne_eq, true_implies, false_implies, implies_true, or_true, true_or, or_false, false_or, reduceCtorEq, Option.some.injEq, Sum.inl.injEq, exists_eq_left', exists_eq_left, c2, c0, c1, c3, zite]
            repeat' (first | with_reducible apply And.intro | with_reducible intro _)
            all_goals first | omega | (exact call)
          · have fin := stop (fun q => hlt q.1) N hT hX
            simp only [↓rX8_read_33, ↓rX8_read_34, ↓rX8_read_35, ↓rX8_read_36, ↓rX8_read_37, ↓rX8_read_38, ↓rX8_read_41, ↓rX8_read_42, ↓rX8_read_43, ↓rX8_read_93, ↓rX8_read_94, ↓hg_fX8_101_46, ↓hr_47, ↓hr_48, ↓hr_49, ↓hr_50, ↓hr_51, ↓hr_52, ↓hr_53, ↓hr_54, ↓hr_55, ↓hr_56, ↓hr_57, ↓hr_58, ↓hr_59, ↓hr_60, ↓hr_61, ↓hr_62, ↓hr_63, ↓hr_64, ↓hr_65, ↓hr_66, ↓hr_67, ↓hr_68, ↓hr_69, ↓hr_70, ↓hr_71, ↓hr_72, ↓hr_73, ↓hr_74, ↓hr_75, ↓hr_76, ↓hr_77, ↓hr_78, ↓hr_79, ↓hw_47, ↓hw_48, ↓hw_49, ↓hw_50, ↓hw_51, ↓hw_52, ↓hw_53, ↓hw_54, ↓hw_55, ↓hw_56, ↓hw_57, ↓hw_58, ↓hw_59, ↓hw_60, ↓hw_61, ↓hw_62, ↓hw_63, ↓hw_64, ↓hw_65, ↓hw_66, ↓hw_67, ↓hw_68, ↓hw_69, ↓hw_70, ↓hw_71, ↓hw_72, ↓hw_73, ↓hw_74, ↓hw_75, ↓hw_76, ↓hw_77, ↓hw_78, ↓hw_79, ↓reduceIte, zkeep_n, zkeep_i, zkeep_r, zkeep_l, zup_eq, zIR, zLR, List.length_cons, List.length_nil, Nat.reduceAdd, Nat.reduceLeDiff, Nat.reduceEqDiff, Nat.reduceSub, Int.reduceLE, Int.reduceLT, Int.reduceEq, Int.reduceNe, Int.reduceNeg, Int.reduceAdd, Int.reduceSub, Int.reduceMul, Int.reduceToNat, Nat.le_refl, Nat.zero_le, Nat.zero_add, Int.zero_add, Int.add_zero, and_true, true_and, and_false, false_and, not_true_eq_false, not_false_eq_true, eq_self, ne_eq, true_implies, false_implies, implies_true, or_true, true_or, or_false, false_or, reduceCtorEq, Option.some.injEq, Sum.inl.injEq, exists_eq_left', exists_eq_left, c2, zite]
            repeat' (first | with_reducible apply And.intro | with_reducible intro _)
            all_goals first | omega | (exact fin)
      have st := L 21 0 S M (by decide) (by omega) h h30 YF.rfl (fun _ _ _ _ => rfl) rfl
      simp only [↓eX8_read, ↓rX8_read_0, ↓rX8_read_1, ↓rX8_read_4, ↓rX8_read_7, ↓rX8_read_9, ↓rX8_read_10, ↓rX8_read_11, ↓rX8_read_14, ↓rX8_read_15, ↓rX8_read_16, ↓rX8_read_19, ↓rX8_read_20, ↓rX8_read_21, ↓rX8_read_25, ↓rX8_read_26, ↓rX8_read_27, ↓rX8_read_29, ↓rX8_read_30, ↓rX8_read_31, ↓hg_fX8_94_46, ↓hr_47, ↓hr_48, ↓hr_49, ↓hr_50, ↓hr_51, ↓hr_52, ↓hr_53, ↓hr_54, ↓hr_55, ↓hr_56, ↓hr_57, ↓hr_58, ↓hr_59, ↓hr_60, ↓hr_61, ↓hr_62, ↓hr_63, ↓hr_64, ↓hr_65, ↓hr_66, ↓hr_67, ↓hr_68, ↓hr_69, ↓hr_70, ↓hr_71, ↓hr_72, ↓hr_73, ↓hr_74, ↓hr_75, ↓hr_76, ↓hr_77, ↓hr_78, ↓hr_79, ↓hw_47, ↓hw_48, ↓hw_49, ↓hw_50, ↓hw_51, ↓hw_52, ↓hw_53, ↓hw_54, ↓hw_55, ↓hw_56, ↓hw_57, ↓hw_58, ↓hw_59, ↓hw_60, ↓hw_61, ↓hw_62, ↓hw_63, ↓hw_64, ↓hw_65, ↓hw_66, ↓hw_67, ↓hw_68, ↓hw_69, ↓hw_70, ↓hw_71, ↓hw_72, ↓hw_73, ↓hw_74, ↓hw_75, ↓hw_76, ↓hw_77, ↓hw_78, ↓hw_79, ↓i_isSheet, ↓reduceIte, zkeep_n, zkeep_i, zkeep_r, zkeep_l, zup_eq, zIR, zLR, List.length_cons, List.length_nil, Nat.reduceAdd, Nat.reduceLeDiff, Nat.reduceEqDiff, Nat.reduceSub, Int.reduceLE, Int.reduceLT, Int.reduceEq, Int.reduceNe, Int.reduceNeg, Int.reduceAdd, Int.reduceSub, Int.reduceMul, Int.reduceToNat, Nat.le_refl, Nat.zero_le, Nat.zero_add, Int.zero_add, Int.add_zero, and_true, true_and, and_false, false_and, not_true_eq_false, not_false_eq_true, eq_self, ne_eq, true_implies, false_implies, implies_true, or_true, true_or, or_false, false_or, reduceCtorEq, Option.some.injEq, Sum.inl.injEq, exists_eq_left', exists_eq_left, l1, zite]
      repeat' (first | with_reducible apply And.intro | with_reducible intro _)
      all_goals first | omega | (exact st)
  · rw [if_neg hs, if_neg hs] at hR
    have fin := hR M h YF.rfl
    simp only [↓eX8_read, ↓rX8_read_0, ↓rX8_read_1, ↓rX8_read_4, ↓rX8_read_7, ↓rX8_read_9, ↓i_isSheet, ↓reduceIte, zkeep_n, zkeep_i, zkeep_r, zkeep_l, zup_eq, zIR, zLR, List.length_cons, List.length_nil, Nat.reduceAdd, Nat.reduceLeDiff, Nat.reduceEqDiff, Nat.reduceSub, Int.reduceLE, Int.reduceLT, Int.reduceEq, Int.reduceNe, Int.reduceNeg, Int.reduceAdd, Int.reduceSub, Int.reduceMul, Int.reduceToNat, Nat.le_refl, Nat.zero_le, Nat.zero_add, Int.zero_add, Int.add_zero, and_true, true_and, and_false, false_and, not_true_eq_false, not_false_eq_true, eq_self, ne_eq, true_implies, false_implies, implies_true, or_true, true_or, or_false, false_or, reduceCtorEq, Option.some.injEq, Sum.inl.injEq, exists_eq_left', exists_eq_left, zite]
    repeat' (first | with_reducible apply And.intro | with_reducible intro _)
    all_goals first | omega | (exact fin)
