theorem W_sheet {S : zM} (hW : WX S) {s : Int} (h0 : 0 ≤ s) (h1 : s < 4) : (S 12 s = 0 ∨ S 12 s = 1) ∧ (S 12 s = 1 → (0 ≤ S 13 s ∧ S 13 s ≤ 2) ∧ (0 ≤ S 14 s ∧ S 14 s ≤ 60)) ∧ ∀ i, 0 ≤ i → i < 60 → zIR (S (15 + s.toNat) i) := by
  obtain ⟨M0, hX⟩ := hW
  have := hX.2.2.2.2.2.2.1 s.toNat (by omega)
  rw [Int.toNat_of_nonneg h0] at this
  exact ⟨this.1, fun q => ⟨(this.2.2.1 q).1.2, (this.2.2.1 q).2.2⟩, fun i a b => (this.2.2.2 i a b).2⟩
theorem RM_sheets {S S' M M' : zM} (h : RM S M) (hS : ∀ k i, ¬ (12 ≤ k ∧ k ≤ 18) → S' k i = S k i) (hM : ∀ k i, ¬ (75 ≤ k ∧ k ≤ 79) → M' k i = M k i) (hT : PL S' M') : RM S' M' := by
  rw [RM_iff] at h ⊢
  obtain ⟨h1, h2, h3, h4, h5⟩ := h
  exact ⟨PT_fr h1 (fun k i a => hS k i (by omega)) (fun k i a b => hM k i (by omega)), PG_fr h2 (fun k i a b => hS k i (by omega)) (hM _ _ (by decide)) (fun k i a b => hM k i (by omega)), PE_fr h3 (fun k i a b => hS k i (by omega)) (hM _ _ (by decide)) (fun k i a b => hM k i (by omega)), hT, by rw [hM _ _ (by decide), hS _ _ (by decide)]; exact h5⟩
set_option maxRecDepth 100000 in
set_option maxHeartbeats 4000000 in
theorem s_lacks {S M : zM} {F : zV → zM → Prop} {s f i : Int} (hW : WX S) (h : RM S M) (hs : 0 ≤ s ∧ s < 4) (hf : 0 ≤ f ∧ f < 3) (z2 : zIR i) (hR : F (.inl (lk S s f i)) M) : zcv (zv 8 tX8_lacks) [.inr (.inr 46), .inl s, .inl f, .inl i] M F := by
  refine zcvv rfl ?_
  unfold zIR at z2
  obtain ⟨w1, w2, w3⟩ := W_sheet hW hs.1 hs.2
  obtain ⟨l1, l2, l3⟩ := (RM_iff.mp h).2.2.2.1 s hs.1 hs.2
  unfold lk at hR
  by_cases e : S 12 s = 0
  · rw [if_pos e] at hR
    rw [e] at l1
    simp only [↓eX8_lacks, ↓rX8_lacks_0, ↓rX8_lacks_1, ↓rX8_lacks_4, ↓rX8_lacks_5, ↓rX8_lacks_6, ↓rX8_lacks_9, ↓rX8_lacks_10, ↓rX8_lacks_48, ↓rX8_lacks_13, ↓rX8_lacks_14, ↓rX8_lacks_17, ↓rX8_lacks_18, ↓rX8_lacks_19, ↓rX8_lacks_20, ↓rX8_lacks_23, ↓rX8_lacks_24, ↓rX8_lacks_27, ↓rX8_lacks_28, ↓rX8_lacks_29, ↓rX8_lacks_30, ↓rX8_lacks_33, ↓rX8_lacks_34, ↓rX8_lacks_35, ↓rX8_lacks_36, ↓rX8_lacks_37, ↓rX8_lacks_40, ↓rX8_lacks_43, ↓rX8_lacks_44, ↓rX8_lacks_47, ↓hg_fX8_101_46, ↓hg_fX8_94_46, ↓hg_fX8_98_46, ↓hr_47, ↓hr_48, ↓hr_49, ↓hr_50, ↓hr_51, ↓hr_52, ↓hr_53, ↓hr_54, ↓hr_55, ↓hr_56, ↓hr_57, ↓hr_58, ↓hr_59, ↓hr_60, ↓hr_61, ↓hr_62, ↓hr_63, ↓hr_64, ↓hr_65, ↓hr_66, ↓hr_67, ↓hr_68, ↓hr_69, ↓hr_70, ↓hr_71, ↓hr_72, ↓hr_73, ↓hr_74, ↓hr_75, ↓hr_76, ↓hr_77, ↓hr_78, ↓hr_79, ↓hw_47, ↓hw_48, ↓hw_49, ↓hw_50, ↓hw_51, ↓hw_52, ↓hw_53, ↓hw_54, ↓hw_55, ↓hw_56, ↓hw_57, ↓hw_58, ↓hw_59, ↓hw_60, ↓hw_61, ↓hw_62, ↓hw_63, ↓hw_64, ↓hw_65, ↓hw_66, ↓hw_67, ↓hw_68, ↓hw_69, ↓hw_70, ↓hw_71, ↓hw_72, ↓hw_73, ↓hw_74, ↓hw_75, ↓hw_76, ↓hw_77, ↓hw_78, ↓hw_79, ↓i_in, ↓reduceIte, zkeep_n, zkeep_i, zkeep_r, zkeep_l, zup_eq, zIR, zLR, List.length_cons, List.length_nil, Nat.reduceAdd, Nat.reduceLeDiff, Nat.reduceEqDiff, Nat.reduceSub, Int.reduceLE, Int.reduceLT, Int.reduceEq, Int.reduceNe, Int.reduceNeg, Int.reduceAdd, Int.reduceSub, Int.reduceMul, Int.reduceToNat, Nat.le_refl, Nat.zero_le, Nat.zero_add, Int.zero_add, Int.add_zero, and_true, true_and, and_false, false_and, not_true_eq_false, not_false_eq_true, eq_self, ne_eq, true_implies, false_implies, implies_true, or_true, true_or, or_false, false_or, reduceCtorEq, Option.some.injEq, Sum.inl.injEq, exists_eq_left', exists_eq_left, l1, zite]
    repeat' (first | with_reducible apply And.intro | with_reducible intro _)
    all_goals first | omega | (exact hR)
  · rw [if_neg e] at hR
    have e1 : S 12 s = 1 := by omega
    rw [e1] at l1
    obtain ⟨a1, a2⟩ := l2 e1
    have w2 := w2 e1
    simp only [↓eX8_lacks, ↓rX8_lacks_0, ↓rX8_lacks_1, ↓rX8_lacks_4, ↓rX8_lacks_5, ↓rX8_lacks_6, ↓rX8_lacks_9, ↓rX8_lacks_10, ↓rX8_lacks_48, ↓rX8_lacks_13, ↓rX8_lacks_14, ↓rX8_lacks_17, ↓rX8_lacks_18, ↓rX8_lacks_19, ↓rX8_lacks_20, ↓rX8_lacks_23, ↓rX8_lacks_24, ↓rX8_lacks_27, ↓rX8_lacks_28, ↓rX8_lacks_29, ↓rX8_lacks_30, ↓rX8_lacks_33, ↓rX8_lacks_34, ↓rX8_lacks_35, ↓rX8_lacks_36, ↓rX8_lacks_37, ↓rX8_lacks_40, ↓rX8_lacks_43, ↓rX8_lacks_44, ↓rX8_lacks_47, ↓hg_fX8_101_46, ↓hg_fX8_94_46, ↓hg_fX8_98_46, ↓hr_47, ↓hr_48, ↓hr_49, ↓hr_50, ↓hr_51, ↓hr_52, ↓hr_53, ↓hr_54, ↓hr_55, ↓hr_56, ↓hr_57, ↓hr_58, ↓hr_59, ↓hr_60, ↓hr_61, ↓hr_62, ↓hr_63, ↓hr_64, ↓hr_65, ↓hr_66, ↓hr_67, ↓hr_68, ↓hr_69, ↓hr_70, ↓hr_71, ↓hr_72, ↓hr_73, ↓hr_74, ↓hr_75, ↓hr_76, ↓hr_77, ↓hr_78, ↓hr_79, ↓hw_47, ↓hw_48, ↓hw_49, ↓hw_50, ↓hw_51, ↓hw_52, ↓hw_53, ↓hw_54, ↓hw_55, ↓hw_56, ↓hw_57, ↓hw_58, ↓hw_59, ↓hw_60, ↓hw_61, ↓hw_62, ↓hw_63, ↓hw_64, ↓hw_65, ↓hw_66, ↓hw_67, ↓hw_68, ↓hw_69, ↓hw_70, ↓hw_71, ↓hw_72, ↓hw_73, ↓hw_74, ↓hw_75, ↓hw_76, ↓hw_77, ↓hw_78, ↓hw_79, ↓i_in, ↓reduceIte, zkeep_n, zkeep_i, zkeep_r, zkeep_l, zup_eq, zIR, zLR, List.length_cons, List.length_nil, Nat.reduceAdd, Nat.reduceLeDiff, Nat.reduceEqDiff, Nat.reduceSub, Int.reduceLE, Int.reduceLT, Int.reduceEq, Int.reduceNe, Int.reduceNeg, Int.reduceAdd, Int.reduceSub, Int.reduceMul, Int.reduceToNat, Nat.le_refl, Nat.zero_le, Nat.zero_add, Int.zero_add, Int.add_zero, and_true, true_and, and_false, false_and, not_true_eq_false, not_false_eq_true, eq_self, ne_eq, true_implies, false_implies, implies_true, or_true, true_or, or_false, false_or, reduceCtorEq, Option.some.injEq, Sum.inl.injEq, exists_eq_left', exists_eq_left, l1, a1, a2, zite]
    repeat' (first | with_reducible apply And.intro | with_reducible intro _)
    all_goals first | omega | (rw [if_pos (by omega)] at hR; exact hR) | (rw [if_neg (by omega), if_pos (by omega)] at hR; exact hR) | (rw [if_neg (by omega), if_neg (by omega)] at hR; exact hR)
set_option maxRecDepth 100000 in
set_option maxHeartbeats 4000000 in
theorem s_keep {M : zM} {F : zM → Prop} {s i v f : Int} (hs : 0 ≤ s ∧ s < 4) (hi : 0 ≤ i ∧ i < 60) (e : M 76 s = f) (hf : 0 ≤ f ∧ f ≤ 2) (hR : F (zup M 78 (60 * s + i) (zconv f v))) : zcn (zv 8 tX8_keep) [.inr (.inr 46), .inl s, .inl i, .inl v] M F := by
  refine zcnv rfl ?_
  have c0 : f = 0 → F (zup M 78 (60 * s + i) (zi2b v)) := fun q => by unfold zconv at hR; rw [if_pos q] at hR; exact hR
  have c1 : f = 1 → F (zup M 78 (60 * s + i) (zi2s v)) := fun q => by unfold zconv at hR; rw [if_neg (by omega), if_pos q] at hR; exact hR
  have c2 : f ≠ 0 → f ≠ 1 → F (zup M 78 (60 * s + i) v) := fun q q2 => by unfold zconv at hR; rw [if_neg q, if_neg q2] at hR; exact hR
  simp only [↓eX8_keep, ↓rX8_keep_0, ↓rX8_keep_1, ↓rX8_keep_4, ↓rX8_keep_6, ↓rX8_keep_7, ↓rX8_keep_8, ↓rX8_keep_9, ↓rX8_keep_10, ↓rX8_keep_11, ↓rX8_keep_14, ↓rX8_keep_15, ↓rX8_keep_16, ↓rX8_keep_19, ↓rX8_keep_20, ↓rX8_keep_21, ↓rX8_keep_40, ↓rX8_keep_41, ↓rX8_keep_24, ↓rX8_keep_25, ↓rX8_keep_28, ↓rX8_keep_29, ↓rX8_keep_30, ↓rX8_keep_31, ↓rX8_keep_34, ↓rX8_keep_35, ↓rX8_keep_36, ↓rX8_keep_39, ↓hg_fX8_104_46, ↓hg_fX8_98_46, ↓hr_47, ↓hr_48, ↓hr_49, ↓hr_50, ↓hr_51, ↓hr_52, ↓hr_53, ↓hr_54, ↓hr_55, ↓hr_56, ↓hr_57, ↓hr_58, ↓hr_59, ↓hr_60, ↓hr_61, ↓hr_62, ↓hr_63, ↓hr_64, ↓hr_65, ↓hr_66, ↓hr_67, ↓hr_68, ↓hr_69, ↓hr_70, ↓hr_71, ↓hr_72, ↓hr_73, ↓hr_74, ↓hr_75, ↓hr_76, ↓hr_77, ↓hr_78, ↓hr_79, ↓hw_47, ↓hw_48, ↓hw_49, ↓hw_50, ↓hw_51, ↓hw_52, ↓hw_53, ↓hw_54, ↓hw_55, ↓hw_56, ↓hw_57, ↓hw_58, ↓hw_59, ↓hw_60, ↓hw_61, ↓hw_62, ↓hw_63, ↓hw_64, ↓hw_65, ↓hw_66, ↓hw_67, ↓hw_68, ↓hw_69, ↓hw_70, ↓hw_71, ↓hw_72, ↓hw_73, ↓hw_74, ↓hw_75, ↓hw_76, ↓hw_77, ↓hw_78, ↓hw_79, ↓reduceIte, zkeep_n, zkeep_i, zkeep_r, zkeep_l, zIR, zLR, List.length_cons, List.length_nil, Nat.reduceAdd, Nat.reduceLeDiff, Nat.reduceEqDiff, Nat.reduceSub, Int.reduceLE, Int.reduceLT, Int.reduceEq, Int.reduceNe, Int.reduceNeg, Int.reduceAdd, Int.reduceSub, Int.reduceMul, Int.reduceToNat, Nat.le_refl, Nat.zero_le, Nat.zero_add, Int.zero_add, Int.add_zero, and_true, true_and, and_false, false_and, not_true_eq_false, not_false_eq_true, eq_self, ne_eq, true_implies, false_implies, implies_true, or_true, true_or, or_false, false_or, reduceCtorEq, Option.some.injEq, Sum.inl.injEq, exists_eq_left', exists_eq_left, e, zite]
  repeat' (first | with_reducible apply And.intro | with_reducible intro _)
  all_goals first | omega | (exact c0 (by omega)) | (exact c1 (by omega)) | (exact c2 (by omega) (by omega))
set_option maxRecDepth 100000 in
set_option maxHeartbeats 4000000 in
theorem y_sheet {S M : zM} {R : zP} {s f n : Int} (hW : WX S) (h : RM S M) (z0 : zIR s) (z1 : zIR f) (z2 : zIR n) (hR : ∀ M', RM (mSheet S s f n) M' → YF M M' → R (some (.inl (aSheet S s f n))) M') : tX8_sheet [.inr (.inr 46), .inl s, .inl f, .inl n] M R := by
  unfold zIR at z0 z1 z2
  unfold mSheet aSheet at hR
  have bad : ¬ ((0 ≤ s ∧ s < 4) ∧ (0 ≤ f ∧ f < 3) ∧ n ≤ 60) → R (some (.inl (-2))) M := fun q => by
    rw [if_neg q, if_neg q] at hR
    exact hR M h YF.rfl
  have neg : (0 ≤ s ∧ s < 4) → (0 ≤ f ∧ f < 3) → n < 0 → R (some (.inl (-15))) (zup M 46 39 5) := fun q0 q1 q2 => by
    have g : (0 ≤ s ∧ s < 4) ∧ (0 ≤ f ∧ f < 3) ∧ n ≤ 60 := ⟨q0, q1, by omega⟩
    rw [if_pos g, if_pos g, if_pos q2, if_pos q2] at hR
    exact hR _ (RM_find h) YF_find
  have go : (0 ≤ s ∧ s < 4) → (0 ≤ f ∧ f < 3) → (0 ≤ n ∧ n ≤ 60) → uX8_sheet R 59 [some (.inr (.inr 46)), some (.inl s), some (.inl f), some (.inl n), some (.inl 0)] [] (zup (zup (zup M 75 s 1) 76 s f) 77 s n) := fun q0 q1 q2 => by
    have g : (0 ≤ s ∧ s < 4) ∧ (0 ≤ f ∧ f < 3) ∧ n ≤ 60 := ⟨q0, q1, by omega⟩
    have g2 : ¬ n < 0 := by omega
    rw [if_pos g, if_pos g, if_neg g2, if_neg g2] at hR
    have L : ∀ t : Int × zM, ((0 ≤ t.1 ∧ t.1 ≤ 60) ∧ (∀ k i, k ≠ 78 → t.2 k i = zup (zup (zup M 75 s 1) 76 s f) 77 s n k i) ∧ (∀ i, 0 ≤ i → i < t.1 → t.2 78 (60 * s + i) = 0) ∧ (∀ i, ¬ (60 * s ≤ i ∧ i < 60 * s + 60) → t.2 78 i = M 78 i)) → uX8_sheet R 59 [some (.inr (.inr 46)), some (.inl s), some (.inl f), some (.inl n), some (.inl t.1)] [] t.2 := by
      refine zind (fun t => (60 - t.1).toNat) ?_
      rintro ⟨i, N⟩ ⟨hi, hfr, hx, ho⟩ ih
      simp only at hi hfr hx ho ih
      refine rX8_sheet_59.mpr ?_
      by_cases he : i = 60
      · have fin := hR N (RM_sheets h (fun k j a => by
          unfold nSheet
          rw [if_neg (by omega), if_neg (by omega), if_neg (by omega), if_neg (by omega)]) (fun k j a => by rw [hfr k j (by omega), zup_ne (by omega), zup_ne (by omega), zup_ne (by omega)]) (fun s' a b => by
          have old := (RM_iff.mp h).2.2.2.1 s' a b
          by_cases es : s' = s
          · subst es
            refine ⟨?_, fun _ => ⟨?_, ?_⟩, fun j c d => ?_⟩
            · rw [hfr _ _ (by decide)]
              simp [zup_eq, nSheet]
            · rw [hfr _ _ (by decide)]
              simp [zup_eq, nSheet]
            · rw [hfr _ _ (by decide)]
              simp [zup_eq, nSheet]
            · rw [hx j c (by omega)]
              unfold nSheet
              rw [if_neg (by omega), if_neg (by omega), if_neg (by omega), if_pos rfl]
          · have e12 : nSheet S s f n 12 s' = S 12 s' := by unfold nSheet; rw [if_neg (fun z => es z.2), if_neg (by omega), if_neg (by omega), if_neg (by omega)]
            have e13 : nSheet S s f n 13 s' = S 13 s' := by unfold nSheet; rw [if_neg (by omega), if_neg (fun z => es z.2), if_neg (by omega), if_neg (by omega)]
            have e14 : nSheet S s f n 14 s' = S 14 s' := by unfold nSheet; rw [if_neg (by omega), if_neg (by omega), if_neg (fun z => es z.2), if_neg (by omega)]
            rw [e12, e13, e14, hfr 75 _ (by decide), hfr 76 _ (by decide), hfr 77 _ (by decide)]
            simp only [zup_eq, Nat.reduceEqDiff, false_and, true_and, if_false, es]
            refine ⟨old.1, old.2.1, fun j c d => ?_⟩
            rw [ho _ (by omega)]
            have ei : nSheet S s f n (15 + s'.toNat) j = S (15 + s'.toNat) j := by unfold nSheet; rw [if_neg (by omega), if_neg (by omega), if_neg (by omega), if_neg (by omega)]
            rw [ei]
            exact old.2.2 j c d)) (fun k j hk => by rw [hfr k j (by omega), zup_ne (by omega), zup_ne (by omega), zup_ne (by omega)])
        simp only [↓rX8_sheet_61, ↓rX8_sheet_63, ↓rX8_sheet_85, ↓rX8_sheet_86, ↓reduceIte, zkeep_n, zkeep_i, zkeep_r, zkeep_l, zup_eq, zIR, zLR, List.length_cons, List.length_nil, Nat.reduceAdd, Nat.reduceLeDiff, Nat.reduceEqDiff, Nat.reduceSub, Int.reduceLE, Int.reduceLT, Int.reduceEq, Int.reduceNe, Int.reduceNeg, Int.reduceAdd, Int.reduceSub, Int.reduceMul, Int.reduceToNat, Nat.le_refl, Nat.zero_le, Nat.zero_add, Int.zero_add, Int.add_zero, and_true, true_and, and_false, false_and, not_true_eq_false, not_false_eq_true, eq_self, ne_eq, true_implies, false_implies, implies_true, or_true, true_or, or_false, false_or, reduceCtorEq, Option.some.injEq, Sum.inl.injEq, exists_eq_left', exists_eq_left, zite]
        repeat' (first | with_reducible apply And.intro | with_reducible intro _)
        all_goals first | omega | (exact fin)
      · have nx := ih (i + 1, zup N 78 (60 * s + i) 0) ⟨by simp only; omega, fun k j hk => (zup_ne hk).trans (hfr k j hk), fun j c d => by
          simp only [zup_in] at d ⊢
          split
          · rfl
          · exact hx j c (by omega), fun j hj => by
          simp only [zup_in]
          rw [if_neg (by omega)]
          exact ho j hj⟩ (by simp only; omega)
        simp only [↓rX8_sheet_61, ↓rX8_sheet_63, ↓rX8_sheet_66, ↓rX8_sheet_67, ↓rX8_sheet_70, ↓rX8_sheet_72, ↓rX8_sheet_73, ↓rX8_sheet_74, ↓rX8_sheet_76, ↓rX8_sheet_77, ↓rX8_sheet_78, ↓rX8_sheet_79, ↓rX8_sheet_82, ↓hg_fX8_104_46, ↓hr_47, ↓hr_48, ↓hr_49, ↓hr_50, ↓hr_51, ↓hr_52, ↓hr_53, ↓hr_54, ↓hr_55, ↓hr_56, ↓hr_57, ↓hr_58, ↓hr_59, ↓hr_60, ↓hr_61, ↓hr_62, ↓hr_63, ↓hr_64, ↓hr_65, ↓hr_66, ↓hr_67, ↓hr_68, ↓hr_69, ↓hr_70, ↓hr_71, ↓hr_72, ↓hr_73, ↓hr_74, ↓hr_75, ↓hr_76, ↓hr_77, ↓hr_78, ↓hr_79, ↓hw_47, ↓hw_48, ↓hw_49, ↓hw_50, ↓hw_51, ↓hw_52, ↓hw_53, ↓hw_54, ↓hw_55, ↓hw_56, ↓hw_57, ↓hw_58, ↓hw_59, ↓hw_60, ↓hw_61, ↓hw_62, ↓hw_63, ↓hw_64, ↓hw_65, ↓hw_66, ↓hw_67, ↓hw_68, ↓hw_69, ↓hw_70, ↓hw_71, ↓hw_72, ↓hw_73, ↓hw_74, ↓hw_75, ↓hw_76, ↓hw_77, ↓hw_78, ↓hw_79, ↓reduceIte, zkeep_n, zkeep_i, zkeep_r, zkeep_l, zIR, zLR, List.length_cons, List.length_nil, Nat.reduceAdd, Nat.reduceLeDiff, Nat.reduceEqDiff, Nat.reduceSub, Int.reduceLE, Int.reduceLT, Int.reduceEq, Int.reduceNe, Int.reduceNeg, Int.reduceAdd, Int.reduceSub, Int.reduceMul, Int.reduceToNat, Nat.le_refl, Nat.zero_le, Nat.zero_add, Int.zero_add, Int.add_zero, and_true, true_and, and_false, false_and, not_true_eq_false, not_false_eq_true, eq_self, ne_eq, true_implies, false_implies, implies_true, or_true, true_or, or_false, false_or, reduceCtorEq, Option.some.injEq, Sum.inl.injEq, exists_eq_left', exists_eq_left, zite]
        repeat' (first | with_reducible apply And.intro | with_reducible intro _)
        all_goals first | omega | (exact nx)
    exact L (0, zup (zup (zup M 75 s 1) 76 s f) 77 s n) ⟨by simp only; omega, fun _ _ _ => rfl, fun i a b => by simp only at b; omega, fun i hi => by show zup (zup (zup M 75 s 1) 76 s f) 77 s n 78 i = _; rw [zup_ne (by decide), zup_ne (by decide), zup_ne (by decide)]⟩
  simp only [↓eX8_sheet, ↓rX8_sheet_0, ↓rX8_sheet_1, ↓rX8_sheet_4, ↓rX8_sheet_7, ↓rX8_sheet_8, ↓rX8_sheet_9, ↓rX8_sheet_10, ↓rX8_sheet_13, ↓rX8_sheet_16, ↓rX8_sheet_17, ↓rX8_sheet_19, ↓rX8_sheet_22, ↓rX8_sheet_24, ↓rX8_sheet_25, ↓rX8_sheet_26, ↓rX8_sheet_29, ↓rX8_sheet_30, ↓rX8_sheet_31, ↓rX8_sheet_34, ↓rX8_sheet_35, ↓rX8_sheet_36, ↓rX8_sheet_39, ↓rX8_sheet_40, ↓rX8_sheet_41, ↓rX8_sheet_42, ↓rX8_sheet_43, ↓rX8_sheet_46, ↓rX8_sheet_47, ↓rX8_sheet_48, ↓rX8_sheet_49, ↓rX8_sheet_50, ↓rX8_sheet_53, ↓rX8_sheet_54, ↓rX8_sheet_55, ↓rX8_sheet_56, ↓rX8_sheet_57, ↓hg_fX8_101_46, ↓hg_fX8_94_46, ↓hg_fX8_98_46, ↓hr_47, ↓hr_48, ↓hr_49, ↓hr_50, ↓hr_51, ↓hr_52, ↓hr_53, ↓hr_54, ↓hr_55, ↓hr_56, ↓hr_57, ↓hr_58, ↓hr_59, ↓hr_60, ↓hr_61, ↓hr_62, ↓hr_63, ↓hr_64, ↓hr_65, ↓hr_66, ↓hr_67, ↓hr_68, ↓hr_69, ↓hr_70, ↓hr_71, ↓hr_72, ↓hr_73, ↓hr_74, ↓hr_75, ↓hr_76, ↓hr_77, ↓hr_78, ↓hr_79, ↓hw_47, ↓hw_48, ↓hw_49, ↓hw_50, ↓hw_51, ↓hw_52, ↓hw_53, ↓hw_54, ↓hw_55, ↓hw_56, ↓hw_57, ↓hw_58, ↓hw_59, ↓hw_60, ↓hw_61, ↓hw_62, ↓hw_63, ↓hw_64, ↓hw_65, ↓hw_66, ↓hw_67, ↓hw_68, ↓hw_69, ↓hw_70, ↓hw_71, ↓hw_72, ↓hw_73, ↓hw_74, ↓hw_75, ↓hw_76, ↓hw_77, ↓hw_78, ↓hw_79, ↓i_in, ↓i_isSheet, ↓reduceIte, ↓i_meets, zkeep_n, zkeep_i, zkeep_r, zkeep_l, zIR, zLR, List.length_cons, List.length_nil, Nat.reduceAdd, Nat.reduceLeDiff, Nat.reduceEqDiff, Nat.reduceSub, Int.reduceLE, Int.reduceLT, Int.reduceEq, Int.reduceNe, Int.reduceNeg, Int.reduceAdd, Int.reduceSub, Int.reduceMul, Int.reduceToNat, Nat.le_refl, Nat.zero_le, Nat.zero_add, Int.zero_add, Int.add_zero, and_true, true_and, and_false, false_and, not_true_eq_false, not_false_eq_true, eq_self, ne_eq, true_implies, false_implies, implies_true, or_true, true_or, or_false, false_or, reduceCtorEq, Option.some.injEq, Sum.inl.injEq, exists_eq_left', exists_eq_left, zite]
  repeat' (first | with_reducible apply And.intro | with_reducible intro _)
  all_goals first | omega | (exact bad (by omega)) | (exact neg (by omega) (by omega) (by omega)) | (exact go (by omega) (by omega) (by omega))
set_option maxRecDepth 100000 in
set_option maxHeartbeats 4000000 in
theorem y_lose {S M : zM} {R : zP} {s : Int} (hW : WX S) (h : RM S M) (z1 : zIR s) (hR : ∀ M', RM (mLose S s) M' → YF M M' → R (some (.inl (aLose S s))) M') : tX8_lose [.inr (.inr 46), .inl s] M R := by
  unfold zIR at z1
  unfold mLose aLose at hR
  by_cases hs : 0 ≤ s ∧ s < 4
  · rw [if_pos hs, if_pos hs] at hR
    obtain ⟨w1, w2, w3⟩ := W_sheet hW hs.1 hs.2
    obtain ⟨l1, l2, l3⟩ := (RM_iff.mp h).2.2.2.1 s hs.1 hs.2
    by_cases e : S 12 s = 0
    · rw [if_pos e, if_pos e] at hR
      rw [e] at l1
      have fin := hR _ (RM_find h) YF_find
      simp only [↓eX8_lose, ↓rX8_lose_0, ↓rX8_lose_1, ↓rX8_lose_4, ↓rX8_lose_7, ↓rX8_lose_9, ↓rX8_lose_10, ↓rX8_lose_11, ↓rX8_lose_14, ↓rX8_lose_15, ↓rX8_lose_16, ↓rX8_lose_19, ↓rX8_lose_20, ↓rX8_lose_21, ↓rX8_lose_24, ↓rX8_lose_25, ↓rX8_lose_26, ↓rX8_lose_29, ↓rX8_lose_30, ↓rX8_lose_31, ↓rX8_lose_32, ↓rX8_lose_33, ↓rX8_lose_36, ↓rX8_lose_37, ↓rX8_lose_38, ↓hg_fX8_101_46, ↓hg_fX8_94_46, ↓hr_47, ↓hr_48, ↓hr_49, ↓hr_50, ↓hr_51, ↓hr_52, ↓hr_53, ↓hr_54, ↓hr_55, ↓hr_56, ↓hr_57, ↓hr_58, ↓hr_59, ↓hr_60, ↓hr_61, ↓hr_62, ↓hr_63, ↓hr_64, ↓hr_65, ↓hr_66, ↓hr_67, ↓hr_68, ↓hr_69, ↓hr_70, ↓hr_71, ↓hr_72, ↓hr_73, ↓hr_74, ↓hr_75, ↓hr_76, ↓hr_77, ↓hr_78, ↓hr_79, ↓hw_47, ↓hw_48, ↓hw_49, ↓hw_50, ↓hw_51, ↓hw_52, ↓hw_53, ↓hw_54, ↓hw_55, ↓hw_56, ↓hw_57, ↓hw_58, ↓hw_59, ↓hw_60, ↓hw_61, ↓hw_62, ↓hw_63, ↓hw_64, ↓hw_65, ↓hw_66, ↓hw_67, ↓hw_68, ↓hw_69, ↓hw_70, ↓hw_71, ↓hw_72, ↓hw_73, ↓hw_74, ↓hw_75, ↓hw_76, ↓hw_77, ↓hw_78, ↓hw_79, ↓i_isSheet, ↓reduceIte, ↓i_meets, zkeep_n, zkeep_i, zkeep_r, zkeep_l, zIR, zLR, List.length_cons, List.length_nil, Nat.reduceAdd, Nat.reduceLeDiff, Nat.reduceEqDiff, Nat.reduceSub, Int.reduceLE, Int.reduceLT, Int.reduceEq, Int.reduceNe, Int.reduceNeg, Int.reduceAdd, Int.reduceSub, Int.reduceMul, Int.reduceToNat, Nat.le_refl, Nat.zero_le, Nat.zero_add, Int.zero_add, Int.add_zero, and_true, true_and, and_false, false_and, not_true_eq_false, not_false_eq_true, eq_self, ne_eq, true_implies, false_implies, implies_true, or_true, true_or, or_false, false_or, reduceCtorEq, Option.some.injEq, Sum.inl.injEq, exists_eq_left', exists_eq_left, l1, zite]
      repeat' (first | with_reducible apply And.intro | with_reducible intro _)
      all_goals first | omega | (exact fin)
    · rw [if_neg e, if_neg e] at hR
      have e1 : S 12 s = 1 := by omega
      rw [e1] at l1
      obtain ⟨a1, a2⟩ := l2 e1
      have fin := hR (zup M 75 s 0) (RM_sheets h (fun k i a => zup_ne (by omega)) (fun k i a => zup_ne (by omega)) (fun s' a b => by
        have old := (RM_iff.mp h).2.2.2.1 s' a b
        simp only [zup_eq, Nat.reduceEqDiff, false_and, true_and, if_false]
        by_cases es : s' = s
        · simp only [es, if_true]
          refine ⟨trivial, fun q => by omega, fun j c d => ?_⟩
          rw [if_neg (by omega)]
          exact l3 j c d
        · simp only [es, if_false]
          refine ⟨old.1, old.2.1, fun j c d => ?_⟩
          rw [if_neg (by omega)]
          exact old.2.2 j c d)) (fun k i hk => zup_ne (by omega))
      simp only [↓eX8_lose, ↓rX8_lose_0, ↓rX8_lose_1, ↓rX8_lose_4, ↓rX8_lose_7, ↓rX8_lose_9, ↓rX8_lose_10, ↓rX8_lose_11, ↓rX8_lose_14, ↓rX8_lose_15, ↓rX8_lose_16, ↓rX8_lose_25, ↓rX8_lose_26, ↓rX8_lose_29, ↓rX8_lose_30, ↓rX8_lose_31, ↓rX8_lose_32, ↓rX8_lose_33, ↓rX8_lose_36, ↓rX8_lose_37, ↓rX8_lose_38, ↓hg_fX8_101_46, ↓hg_fX8_94_46, ↓hr_47, ↓hr_48, ↓hr_49, ↓hr_50, ↓hr_51, ↓hr_52, ↓hr_53, ↓hr_54, ↓hr_55, ↓hr_56, ↓hr_57, ↓hr_58, ↓hr_59, ↓hr_60, ↓hr_61, ↓hr_62, ↓hr_63, ↓hr_64, ↓hr_65, ↓hr_66, ↓hr_67, ↓hr_68, ↓hr_69, ↓hr_70, ↓hr_71, ↓hr_72, ↓hr_73, ↓hr_74, ↓hr_75, ↓hr_76, ↓hr_77, ↓hr_78, ↓hr_79, ↓hw_47, ↓hw_48, ↓hw_49, ↓hw_50, ↓hw_51, ↓hw_52, ↓hw_53, ↓hw_54, ↓hw_55, ↓hw_56, ↓hw_57, ↓hw_58, ↓hw_59, ↓hw_60, ↓hw_61, ↓hw_62, ↓hw_63, ↓hw_64, ↓hw_65, ↓hw_66, ↓hw_67, ↓hw_68, ↓hw_69, ↓hw_70, ↓hw_71, ↓hw_72, ↓hw_73, ↓hw_74, ↓hw_75, ↓hw_76, ↓hw_77, ↓hw_78, ↓hw_79, ↓i_isSheet, ↓reduceIte, zkeep_n, zkeep_i, zkeep_r, zkeep_l, zIR, zLR, List.length_cons, List.length_nil, Nat.reduceAdd, Nat.reduceLeDiff, Nat.reduceEqDiff, Nat.reduceSub, Int.reduceLE, Int.reduceLT, Int.reduceEq, Int.reduceNe, Int.reduceNeg, Int.reduceAdd, Int.reduceSub, Int.reduceMul, Int.reduceToNat, Nat.le_refl, Nat.zero_le, Nat.zero_add, Int.zero_add, Int.add_zero, and_true, true_and, and_false, false_and, not_true_eq_false, not_false_eq_true, eq_self, ne_eq, true_implies, false_implies, implies_true, or_true, true_or, or_false, false_or, reduceCtorEq, Option.some.injEq, Sum.inl.injEq, exists_eq_left', exists_eq_left, l1, a2, zup_ne, zite]
      repeat' (first | with_reducible apply And.intro | with_reducible intro _)
      all_goals first | omega | (exact fin)
  · rw [if_neg hs, if_neg hs] at hR
    have fin := hR M h YF.rfl
    simp only [↓eX8_lose, ↓rX8_lose_0, ↓rX8_lose_1, ↓rX8_lose_4, ↓rX8_lose_7, ↓rX8_lose_9, ↓i_isSheet, ↓reduceIte, zkeep_n, zkeep_i, zkeep_r, zkeep_l, zup_eq, zIR, zLR, List.length_cons, List.length_nil, Nat.reduceAdd, Nat.reduceLeDiff, Nat.reduceEqDiff, Nat.reduceSub, Int.reduceLE, Int.reduceLT, Int.reduceEq, Int.reduceNe, Int.reduceNeg, Int.reduceAdd, Int.reduceSub, Int.reduceMul, Int.reduceToNat, Nat.le_refl, Nat.zero_le, Nat.zero_add, Int.zero_add, Int.add_zero, and_true, true_and, and_false, false_and, not_true_eq_false, not_false_eq_true, eq_self, ne_eq, true_implies, false_implies, implies_true, or_true, true_or, or_false, false_or, reduceCtorEq, Option.some.injEq, Sum.inl.injEq, exists_eq_left', exists_eq_left, zite]
    repeat' (first | with_reducible apply And.intro | with_reducible intro _)
    all_goals first | omega | (exact fin)
theorem PL_item {S M : zM} {s i v : Int} (h : PL S M) (hs : 0 ≤ s ∧ s < 4) (hi : 0 ≤ i ∧ i < 60) : PL (zup S (15 + s.toNat) i v) (zup M 78 (60 * s + i) v) := by
  intro s' a b
  have old := h s' a b
  rw [zup_ne (show 12 ≠ 15 + s.toNat by omega), zup_ne (show 13 ≠ 15 + s.toNat by omega), zup_ne (show 14 ≠ 15 + s.toNat by omega), zup_ne (by decide), zup_ne (by decide), zup_ne (by decide)]
  refine ⟨old.1, old.2.1, fun j c d => ?_⟩
  rw [zup_in]
  by_cases es : s' = s
  · subst es
    rw [zup_in]
    by_cases ej : j = i
    · rw [if_pos (by omega), if_pos ej]
    · rw [if_neg (by omega), if_neg ej]
      exact old.2.2 j c d
  · rw [if_neg (by omega), zup_ne (by omega)]
    exact old.2.2 j c d
set_option maxRecDepth 100000 in
set_option maxHeartbeats 4000000 in
theorem y_put {S M : zM} {R : zP} {s f i v : Int} (hW : WX S) (h : RM S M) (z0 : zIR s) (z1 : zIR f) (z2 : zIR i) (z3 : zIR v) (hR : ∀ M', RM (mPut S s f i v) M' → YF M M' → R (some (.inl (aPut S s f i))) M') : tX8_put [.inr (.inr 46), .inl s, .inl f, .inl i, .inl v] M R := by
  have z2' := z2
  unfold zIR at z0 z1 z2
  unfold mPut aPut at hR
  have lkR := lk_R S s f i
  have bad : ¬ gPut s f → R (some (.inl (-2))) M := fun q => by
    rw [if_neg q, if_neg q] at hR
    exact hR M h YF.rfl
  have go : gPut s f → zcv (zv 8 tX8_lacks) [.inr (.inr 46), .inl s, .inl f, .inl i] M (fun w M' => uX8_put R 26 [some (.inr (.inr 46)), some (.inl s), some (.inl f), some (.inl i), some (.inl v), none] [w] M') := fun g => by
    rw [if_pos g, if_pos g] at hR
    refine s_lacks hW h g.1 g.2 z2' ?_
    by_cases e : lk S s f i = 0
    · rw [if_pos e, if_pos e] at hR
      rw [e]
      obtain ⟨w1, w2, w3⟩ := W_sheet hW g.1.1 g.1.2
      obtain ⟨l1, l2, l3⟩ := (RM_iff.mp h).2.2.2.1 s g.1.1 g.1.2
      have hl : S 12 s = 1 ∧ S 13 s = f ∧ (0 ≤ i ∧ i < S 14 s) := by
        unfold lk at e
        (repeat' split at e) <;> omega
      have w2 := w2 hl.1
      have kp : zcn (zv 8 tX8_keep) [.inr (.inr 46), .inl s, .inl i, .inl v] M (fun M' => uX8_put R 48 [some (.inr (.inr 46)), some (.inl s), some (.inl f), some (.inl i), some (.inl v), some (.inl 0)] [] M') := by
        refine s_keep (f := f) g.1 (by omega) ((l2 hl.1).1.trans hl.2.1) (by omega) ?_
        have fin := hR _ (RM_sheets h (fun k j a => zup_ne (by omega)) (fun k j a => zup_ne (by omega)) (PL_item (RM_iff.mp h).2.2.2.1 g.1 (by omega))) (fun k j hk => zup_ne (by omega))
        simp only [↓rX8_put_48, ↓rX8_put_49, ↓reduceIte, zkeep_n, zkeep_i, zkeep_r, zkeep_l, zup_eq, zIR, zLR, List.length_cons, List.length_nil, Nat.reduceAdd, Nat.reduceLeDiff, Nat.reduceEqDiff, Nat.reduceSub, Int.reduceLE, Int.reduceLT, Int.reduceEq, Int.reduceNe, Int.reduceNeg, Int.reduceAdd, Int.reduceSub, Int.reduceMul, Int.reduceToNat, Nat.le_refl, Nat.zero_le, Nat.zero_add, Int.zero_add, Int.add_zero, and_true, true_and, and_false, false_and, not_true_eq_false, not_false_eq_true, eq_self, ne_eq, true_implies, false_implies, implies_true, or_true, true_or, or_false, false_or, reduceCtorEq, Option.some.injEq, Sum.inl.injEq, exists_eq_left', exists_eq_left, zite]
        exact fin
      simp only [↓rX8_put_26, ↓rX8_put_28, ↓rX8_put_30, ↓rX8_put_40, ↓rX8_put_41, ↓rX8_put_42, ↓rX8_put_43, ↓rX8_put_45, ↓reduceIte, zkeep_n, zkeep_i, zkeep_r, zkeep_l, zup_eq, zIR, zLR, List.length_cons, List.length_nil, Nat.reduceAdd, Nat.reduceLeDiff, Nat.reduceEqDiff, Nat.reduceSub, Int.reduceLE, Int.reduceLT, Int.reduceEq, Int.reduceNe, Int.reduceNeg, Int.reduceAdd, Int.reduceSub, Int.reduceMul, Int.reduceToNat, Nat.le_refl, Nat.zero_le, Nat.zero_add, Int.zero_add, Int.add_zero, and_true, true_and, and_false, false_and, not_true_eq_false, not_false_eq_true, eq_self, ne_eq, true_implies, false_implies, implies_true, or_true, true_or, or_false, false_or, reduceCtorEq, Option.some.injEq, Sum.inl.injEq, exists_eq_left', exists_eq_left, zite]
      repeat' (first | with_reducible apply And.intro | with_reducible intro _)
      all_goals first | omega | (exact kp)
    · rw [if_neg e, if_neg e] at hR
      have fin := hR _ (RM_find h) YF_find
      simp only [↓rX8_put_26, ↓rX8_put_28, ↓rX8_put_30, ↓rX8_put_33, ↓rX8_put_34, ↓rX8_put_36, ↓rX8_put_39, ↓reduceIte, ↓i_meets, zkeep_n, zkeep_i, zkeep_r, zkeep_l, zIR, zLR, List.length_cons, List.length_nil, Nat.reduceAdd, Nat.reduceLeDiff, Nat.reduceEqDiff, Nat.reduceSub, Int.reduceLE, Int.reduceLT, Int.reduceEq, Int.reduceNe, Int.reduceNeg, Int.reduceAdd, Int.reduceSub, Int.reduceMul, Int.reduceToNat, Nat.le_refl, Nat.zero_le, Nat.zero_add, Int.zero_add, Int.add_zero, and_true, true_and, and_false, false_and, not_true_eq_false, not_false_eq_true, eq_self, ne_eq, true_implies, false_implies, implies_true, or_true, true_or, or_false, false_or, reduceCtorEq, Option.some.injEq, Sum.inl.injEq, exists_eq_left', exists_eq_left, zite]
      repeat' (first | with_reducible apply And.intro | with_reducible intro _)
      all_goals first | omega | (exact fin)
  simp only [↓eX8_put, ↓rX8_put_0, ↓rX8_put_1, ↓rX8_put_4, ↓rX8_put_7, ↓rX8_put_8, ↓rX8_put_9, ↓rX8_put_10, ↓rX8_put_13, ↓rX8_put_16, ↓rX8_put_18, ↓rX8_put_19, ↓rX8_put_20, ↓rX8_put_21, ↓rX8_put_22, ↓rX8_put_23, ↓i_in, ↓i_isSheet, ↓reduceIte, zkeep_n, zkeep_i, zkeep_r, zkeep_l, zup_eq, zIR, zLR, List.length_cons, List.length_nil, Nat.reduceAdd, Nat.reduceLeDiff, Nat.reduceEqDiff, Nat.reduceSub, Int.reduceLE, Int.reduceLT, Int.reduceEq, Int.reduceNe, Int.reduceNeg, Int.reduceAdd, Int.reduceSub, Int.reduceMul, Int.reduceToNat, Nat.le_refl, Nat.zero_le, Nat.zero_add, Int.zero_add, Int.add_zero, and_true, true_and, and_false, false_and, not_true_eq_false, not_false_eq_true, eq_self, ne_eq, true_implies, false_implies, implies_true, or_true, true_or, or_false, false_or, reduceCtorEq, Option.some.injEq, Sum.inl.injEq, exists_eq_left', exists_eq_left, zite]
  repeat' (first | with_reducible apply And.intro | with_reducible intro _)
  all_goals first | omega | (exact bad (by omega)) | (exact go (by omega))
set_option maxRecDepth 100000 in
set_option maxHeartbeats 4000000 in
theorem y_get {S M : zM} {R : zP} {s f i : Int} (hW : WX S) (h : RM S M) (z0 : zIR s) (z1 : zIR f) (z2 : zIR i) (hR : ∀ M', RM (mGet S s f i) M' → YF M M' → R (some (.inl (aGet S s f i))) M') : tX8_get [.inr (.inr 46), .inl s, .inl f, .inl i] M R := by
  have z2' := z2
  unfold zIR at z0 z1 z2
  unfold mGet aGet at hR
  have lkR := lk_R S s f i
  have bad : ¬ gPut s f → R (some (.inl (-2147483648))) M := fun q => by
    rw [if_neg q, if_neg q] at hR
    exact hR M h YF.rfl
  have go : gPut s f → zcv (zv 8 tX8_lacks) [.inr (.inr 46), .inl s, .inl f, .inl i] M (fun w M' => uX8_get R 27 [some (.inr (.inr 46)), some (.inl s), some (.inl f), some (.inl i), none] [w] M') := fun g => by
    rw [if_pos g, if_pos g] at hR
    refine s_lacks hW h g.1 g.2 z2' ?_
    by_cases e : lk S s f i = 0
    · rw [if_pos e, if_pos e] at hR
      rw [e]
      obtain ⟨w1, w2, w3⟩ := W_sheet hW g.1.1 g.1.2
      obtain ⟨l1, l2, l3⟩ := (RM_iff.mp h).2.2.2.1 s g.1.1 g.1.2
      have hl : S 12 s = 1 ∧ S 13 s = f ∧ (0 ≤ i ∧ i < S 14 s) := by
        unfold lk at e
        (repeat' split at e) <;> omega
      have w2 := w2 hl.1
      have e1 := l3 i (by omega) (by omega)
      have fin := hR M h YF.rfl
      simp only [↓rX8_get_27, ↓rX8_get_29, ↓rX8_get_31, ↓rX8_get_44, ↓rX8_get_45, ↓rX8_get_48, ↓rX8_get_50, ↓rX8_get_51, ↓rX8_get_52, ↓rX8_get_53, ↓rX8_get_54, ↓rX8_get_55, ↓hg_fX8_104_46, ↓hr_47, ↓hr_48, ↓hr_49, ↓hr_50, ↓hr_51, ↓hr_52, ↓hr_53, ↓hr_54, ↓hr_55, ↓hr_56, ↓hr_57, ↓hr_58, ↓hr_59, ↓hr_60, ↓hr_61, ↓hr_62, ↓hr_63, ↓hr_64, ↓hr_65, ↓hr_66, ↓hr_67, ↓hr_68, ↓hr_69, ↓hr_70, ↓hr_71, ↓hr_72, ↓hr_73, ↓hr_74, ↓hr_75, ↓hr_76, ↓hr_77, ↓hr_78, ↓hr_79, ↓hw_47, ↓hw_48, ↓hw_49, ↓hw_50, ↓hw_51, ↓hw_52, ↓hw_53, ↓hw_54, ↓hw_55, ↓hw_56, ↓hw_57, ↓hw_58, ↓hw_59, ↓hw_60, ↓hw_61, ↓hw_62, ↓hw_63, ↓hw_64, ↓hw_65, ↓hw_66, ↓hw_67, ↓hw_68, ↓hw_69, ↓hw_70, ↓hw_71, ↓hw_72, ↓hw_73, ↓hw_74, ↓hw_75, ↓hw_76, ↓hw_77, ↓hw_78, ↓hw_79, ↓reduceIte, zkeep_n, zkeep_i, zkeep_r, zkeep_l, zup_eq, zIR, zLR, List.length_cons, List.length_nil, Nat.reduceAdd, Nat.reduceLeDiff, Nat.reduceEqDiff, Nat.reduceSub, Int.reduceLE, Int.reduceLT, Int.reduceEq, Int.reduceNe, Int.reduceNeg, Int.reduceAdd, Int.reduceSub, Int.reduceMul, Int.reduceToNat, Nat.le_refl, Nat.zero_le, Nat.zero_add, Int.zero_add, Int.add_zero, and_true, true_and, and_false, false_and, not_true_eq_false, not_false_eq_true, eq_self, ne_eq, true_implies, false_implies, implies_true, or_true, true_or, or_false, false_or, reduceCtorEq, Option.some.injEq, Sum.inl.injEq, exists_eq_left', exists_eq_left, e1, zite]
      repeat' (first | with_reducible apply And.intro | with_reducible intro _)
      all_goals first | omega | (exact fin)
    · rw [if_neg e, if_neg e] at hR
      have fin := hR _ (RM_find h) YF_find
      simp only [↓rX8_get_27, ↓rX8_get_29, ↓rX8_get_31, ↓rX8_get_34, ↓rX8_get_35, ↓rX8_get_37, ↓rX8_get_40, ↓rX8_get_43, ↓hp_fX8_323_46, ↓reduceIte, zkeep_n, zkeep_i, zkeep_r, zkeep_l, zIR, zLR, List.length_cons, List.length_nil, Nat.reduceAdd, Nat.reduceLeDiff, Nat.reduceEqDiff, Nat.reduceSub, Int.reduceLE, Int.reduceLT, Int.reduceEq, Int.reduceNe, Int.reduceNeg, Int.reduceAdd, Int.reduceSub, Int.reduceMul, Int.reduceToNat, Nat.le_refl, Nat.zero_le, Nat.zero_add, Int.zero_add, Int.add_zero, and_true, true_and, and_false, false_and, not_true_eq_false, not_false_eq_true, eq_self, ne_eq, true_implies, false_implies, implies_true, or_true, true_or, or_false, false_or, reduceCtorEq, Option.some.injEq, Sum.inl.injEq, exists_eq_left', exists_eq_left, zite]
      repeat' (first | with_reducible apply And.intro | with_reducible intro _)
      all_goals first | omega | (exact fin)
  simp only [↓eX8_get, ↓rX8_get_0, ↓rX8_get_1, ↓rX8_get_4, ↓rX8_get_7, ↓rX8_get_8, ↓rX8_get_9, ↓rX8_get_10, ↓rX8_get_13, ↓rX8_get_16, ↓rX8_get_19, ↓rX8_get_20, ↓rX8_get_21, ↓rX8_get_22, ↓rX8_get_23, ↓rX8_get_24, ↓i_in, ↓i_isSheet, ↓reduceIte, zkeep_n, zkeep_i, zkeep_r, zkeep_l, zup_eq, zIR, zLR, List.length_cons, List.length_nil, Nat.reduceAdd, Nat.reduceLeDiff, Nat.reduceEqDiff, Nat.reduceSub, Int.reduceLE, Int.reduceLT, Int.reduceEq, Int.reduceNe, Int.reduceNeg, Int.reduceAdd, Int.reduceSub, Int.reduceMul, Int.reduceToNat, Nat.le_refl, Nat.zero_le, Nat.zero_add, Int.zero_add, Int.add_zero, and_true, true_and, and_false, false_and, not_true_eq_false, not_false_eq_true, eq_self, ne_eq, true_implies, false_implies, implies_true, or_true, true_or, or_false, false_or, reduceCtorEq, Option.some.injEq, Sum.inl.injEq, exists_eq_left', exists_eq_left, zite]
  repeat' (first | with_reducible apply And.intro | with_reducible intro _)
  all_goals first | omega | (exact bad (by omega)) | (exact go (by omega))
