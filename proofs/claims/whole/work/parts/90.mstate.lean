def YF (M M' : zM) : Prop := ∀ k i, k < 46 → M' k i = M k i
theorem YQ.yf {M M' : zM} (h : YQ M M') : YF M M' := fun k i a => h k i (by omega) (fun e => by omega)
theorem YF.trans {M M' M'' : zM} (h : YF M M') (h2 : YF M' M'') : YF M M'' := fun k i a => (h2 k i a).trans (h k i a)
theorem YF.rfl {M : zM} : YF M M := fun _ _ _ => Eq.refl _
def PT (S M : zM) : Prop := (M 47 0 = S 0 0 ∧ M 47 1 = S 0 1) ∧ (∀ i, 0 ≤ i → i < S 0 0 → M 48 (0 + i) = S 1 i) ∧ (∀ i, 0 ≤ i → i < S 0 1 → M 48 (47 + i) = S 2 i)
def PG (S M : zM) : Prop := M 46 8 = S 3 0 ∧ ∀ i, 0 ≤ i → i < S 3 0 → M 53 i = S 4 i ∧ M 54 i = S 5 i ∧ M 55 i = S 6 i
def PE (S M : zM) : Prop := M 46 28 = S 7 0 ∧ ∀ i, 0 ≤ i → i < S 7 0 → M 70 i = S 8 i ∧ M 71 i = S 9 i ∧ M 72 i = S 10 i ∧ M 73 i = S 11 i
def PL (S M : zM) : Prop := ∀ s : Int, 0 ≤ s → s < 4 → M 75 s = S 12 s ∧ (S 12 s = 1 → M 76 s = S 13 s ∧ M 77 s = S 14 s) ∧ ∀ i, 0 ≤ i → i < 60 → M 78 (60 * s + i) = S (15 + s.toNat) i
theorem RM_iff {S M : zM} : RM S M ↔ (PT S M ∧ PG S M ∧ PE S M ∧ PL S M ∧ M 46 39 = S 19 0) := ⟨fun ⟨a, b, c, d, e, f, g⟩ => ⟨⟨a, b, c⟩, d, e, f, g⟩, fun ⟨⟨a, b, c⟩, d, e, f, g⟩ => ⟨a, b, c, d, e, f, g⟩⟩
theorem PT_fr {S S' M M' : zM} (h : PT S M) (hS : ∀ k i, k ≤ 2 → S' k i = S k i) (hM : ∀ k i, 47 ≤ k → k ≤ 48 → M' k i = M k i) : PT S' M' := by
  unfold PT
  simp only [hS 0 _ (by decide), hS 1 _ (by decide), hS 2 _ (by decide), hM 47 _ (by decide) (by decide), hM 48 _ (by decide) (by decide)]
  exact h
theorem PG_fr {S S' M M' : zM} (h : PG S M) (hS : ∀ k i, 3 ≤ k → k ≤ 6 → S' k i = S k i) (h8 : M' 46 8 = M 46 8) (hM : ∀ k i, 53 ≤ k → k ≤ 55 → M' k i = M k i) : PG S' M' := by
  unfold PG
  simp only [hS 3 _ (by decide) (by decide), hS 4 _ (by decide) (by decide), hS 5 _ (by decide) (by decide), hS 6 _ (by decide) (by decide), h8, hM 53 _ (by decide) (by decide), hM 54 _ (by decide) (by decide), hM 55 _ (by decide) (by decide)]
  exact h
theorem PE_fr {S S' M M' : zM} (h : PE S M) (hS : ∀ k i, 7 ≤ k → k ≤ 11 → S' k i = S k i) (h8 : M' 46 28 = M 46 28) (hM : ∀ k i, 70 ≤ k → k ≤ 73 → M' k i = M k i) : PE S' M' := by
  unfold PE
  simp only [hS 7 _ (by decide) (by decide), hS 8 _ (by decide) (by decide), hS 9 _ (by decide) (by decide), hS 10 _ (by decide) (by decide), hS 11 _ (by decide) (by decide), h8, hM 70 _ (by decide) (by decide), hM 71 _ (by decide) (by decide), hM 72 _ (by decide) (by decide), hM 73 _ (by decide) (by decide)]
  exact h
theorem PL_fr {S S' M M' : zM} (h : PL S M) (hS : ∀ k i, 12 ≤ k → k ≤ 18 → S' k i = S k i) (hM : ∀ k i, 75 ≤ k → k ≤ 78 → M' k i = M k i) : PL S' M' := by
  intro s a b
  have := h s a b
  rw [hS 12 _ (by decide) (by decide), hS 13 _ (by decide) (by decide), hS 14 _ (by decide) (by decide), hM 75 _ (by decide) (by decide), hM 76 _ (by decide) (by decide), hM 77 _ (by decide) (by decide)]
  refine ⟨this.1, this.2.1, fun i c d => ?_⟩
  rw [hM 78 _ (by decide) (by decide), hS _ _ (by omega) (by omega)]
  exact this.2.2 i c d
theorem RM_find {S M : zM} {c : Int} (h : RM S M) : RM (zup S 19 0 c) (zup M 46 39 c) := by
  rw [RM_iff] at h ⊢
  obtain ⟨h1, h2, h3, h4, h5⟩ := h
  exact ⟨PT_fr h1 (fun k i a => zup_ne (by omega)) (fun k i a b => zup_ne (by omega)), PG_fr h2 (fun k i a b => zup_ne (by omega)) (by rw [zup_in, if_neg (by decide)]) (fun k i a b => zup_ne (by omega)), PE_fr h3 (fun k i a b => zup_ne (by omega)) (by rw [zup_in, if_neg (by decide)]) (fun k i a b => zup_ne (by omega)), PL_fr h4 (fun k i a b => zup_ne (by omega)) (fun k i a b => zup_ne (by omega)), by rw [zup_in, zup_in, if_pos rfl, if_pos rfl]⟩
theorem YF_find {M : zM} {c : Int} : YF M (zup M 46 39 c) := fun k i hk => zup_ne (by omega)
theorem RM_text {S S' M M' : zM} (h : RM S M) (hS : ∀ k i, 3 ≤ k → S' k i = S k i) (hM : ∀ k i, k ≠ 47 → k ≠ 48 → M' k i = M k i) (hT : PT S' M') : RM S' M' := by
  rw [RM_iff] at h ⊢
  obtain ⟨h1, h2, h3, h4, h5⟩ := h
  exact ⟨hT, PG_fr h2 (fun k i a b => hS k i (by omega)) (hM _ _ (by decide) (by decide)) (fun k i a b => hM k i (by omega) (by omega)), PE_fr h3 (fun k i a b => hS k i (by omega)) (hM _ _ (by decide) (by decide)) (fun k i a b => hM k i (by omega) (by omega)), PL_fr h4 (fun k i a b => hS k i (by omega)) (fun k i a b => hM k i (by omega) (by omega)), by rw [hM _ _ (by decide) (by decide), hS _ _ (by decide)]; exact h5⟩
set_option maxRecDepth 100000 in
set_option maxHeartbeats 4000000 in
theorem y_type {S M : zM} {R : zP} {t b : Int} (hW : WX S) (h : RM S M) (z1 : zIR t) (z2 : zIR b) (hR : ∀ M', RM (mType S t b) M' → YF M M' → R (some (.inl (aType S t b))) M') : tX8_type [.inr (.inr 46), .inl t, .inl b] M R := by
  unfold zIR at z1 z2
  obtain ⟨M0, hX⟩ := hW
  have v0 : (0 ≤ S 0 0 ∧ S 0 0 ≤ 47) := (hX.1 0 (by decide)).1
  have v1 : (0 ≤ S 0 1 ∧ S 0 1 ≤ 47) := (hX.1 1 (by decide)).1
  unfold mType aType at hR
  by_cases hg : (0 ≤ t ∧ t < 2) ∧ (0 ≤ b ∧ b < 256)
  · have et : t = 0 ∨ t = 1 := by omega
    have hT := (RM_iff.mp h).1
    have full : S 0 t = 47 → R (some (.inl (-4))) M := fun q => by
      have := hR M (by rw [if_neg (fun z => z.2 q)]; exact h) YF.rfl
      rw [if_pos hg, if_pos q] at this
      exact this
    have ok : S 0 t ≠ 47 → ∀ M', RM (nType S t b) M' → YF M M' → R (some (.inl (S 0 t + 1))) M' := fun q M' q1 q2 => by
      have := hR M' (by rw [if_pos ⟨hg, q⟩]; exact q1) q2
      rw [if_pos hg, if_neg q] at this
      exact this
    rcases et with rfl | rfl
    · have e0 := hT.1.1
      have ok : S 0 0 ≠ 47 → R (some (.inl (S 0 0 + 1))) (zup (zup M 48 (S 0 0) b) 47 0 (S 0 0 + 1)) := fun q => ok q _ (RM_text h (fun k i a => by unfold nType; rw [zup_ne (by omega), zup_ne (by simp; omega)]) (fun k i a b => by rw [zup_ne a, zup_ne b]) (by
        have en : nType S 0 b = zup (zup S 1 (S 0 0) b) 0 0 (S 0 0 + 1) := rfl
        rw [en]
        refine ⟨⟨by simp [zup_eq], by simp [zup_eq]; exact hT.1.2⟩, fun i a c => ?_, fun i a c => ?_⟩
        · rw [zup_in, if_pos rfl] at c
          rw [zup_ne (by decide), zup_in, zup_ne (by decide), zup_in]
          by_cases ei : i = S 0 0
          · rw [if_pos (by omega), if_pos ei]
          · rw [if_neg (by omega), if_neg ei]
            exact hT.2.1 i a (by omega)
        · rw [zup_in, if_neg (by decide), zup_ne (by decide)] at c
          rw [zup_ne (by decide), zup_in, if_neg (by omega), zup_ne (by decide), zup_ne (by decide)]
          exact hT.2.2 i a c)) (fun k i hk => by rw [zup_ne (by omega), zup_ne (by omega)])
      simp only [↓eX8_type, ↓rX8_type_0, ↓rX8_type_1, ↓rX8_type_4, ↓rX8_type_7, ↓rX8_type_8, ↓rX8_type_9, ↓rX8_type_12, ↓rX8_type_15, ↓rX8_type_18, ↓rX8_type_20, ↓rX8_type_21, ↓rX8_type_22, ↓rX8_type_25, ↓rX8_type_26, ↓rX8_type_27, ↓rX8_type_29, ↓rX8_type_32, ↓rX8_type_34, ↓rX8_type_35, ↓rX8_type_36, ↓rX8_type_39, ↓rX8_type_41, ↓rX8_type_42, ↓rX8_type_43, ↓rX8_type_44, ↓rX8_type_47, ↓rX8_type_48, ↓rX8_type_49, ↓rX8_type_50, ↓rX8_type_51, ↓rX8_type_52, ↓rX8_type_53, ↓rX8_type_56, ↓rX8_type_57, ↓rX8_type_58, ↓rX8_type_59, ↓rX8_type_60, ↓rX8_type_61, ↓rX8_type_62, ↓rX8_type_63, ↓rX8_type_66, ↓rX8_type_67, ↓rX8_type_68, ↓hg_fX8_13_46, ↓hg_fX8_7_46, ↓hr_47, ↓hr_48, ↓hr_49, ↓hr_50, ↓hr_51, ↓hr_52, ↓hr_53, ↓hr_54, ↓hr_55, ↓hr_56, ↓hr_57, ↓hr_58, ↓hr_59, ↓hr_60, ↓hr_61, ↓hr_62, ↓hr_63, ↓hr_64, ↓hr_65, ↓hr_66, ↓hr_67, ↓hr_68, ↓hr_69, ↓hr_70, ↓hr_71, ↓hr_72, ↓hr_73, ↓hr_74, ↓hr_75, ↓hr_76, ↓hr_77, ↓hr_78, ↓hr_79, ↓hw_47, ↓hw_48, ↓hw_49, ↓hw_50, ↓hw_51, ↓hw_52, ↓hw_53, ↓hw_54, ↓hw_55, ↓hw_56, ↓hw_57, ↓hw_58, ↓hw_59, ↓hw_60, ↓hw_61, ↓hw_62, ↓hw_63, ↓hw_64, ↓hw_65, ↓hw_66, ↓hw_67, ↓hw_68, ↓hw_69, ↓hw_70, ↓hw_71, ↓hw_72, ↓hw_73, ↓hw_74, ↓hw_75, ↓hw_76, ↓hw_77, ↓hw_78, ↓hw_79, ↓i_in, ↓i_isText, ↓reduceIte, zkeep_n, zkeep_i, zkeep_r, zkeep_l, zIR, zLR, List.length_cons, List.length_nil, Nat.reduceAdd, Nat.reduceLeDiff, Nat.reduceEqDiff, Nat.reduceSub, Int.reduceLE, Int.reduceLT, Int.reduceEq, Int.reduceNe, Int.reduceNeg, Int.reduceAdd, Int.reduceSub, Int.reduceMul, Int.reduceToNat, Nat.le_refl, Nat.zero_le, Nat.zero_add, Int.zero_add, Int.add_zero, and_true, true_and, and_false, false_and, not_true_eq_false, not_false_eq_true, eq_self, ne_eq, true_implies, false_implies, implies_true, or_true, true_or, or_false, false_or, reduceCtorEq, Option.some.injEq, Sum.inl.injEq, exists_eq_left', exists_eq_left, e0, zup_ne, zite]
      simp only [zup_in, if_true]
      repeat' (first | with_reducible apply And.intro | with_reducible intro _)
      all_goals first | omega | (exact full (by omega)) | (exact ok (by omega))
    · have e0 := hT.1.2
      have ok : S 0 1 ≠ 47 → R (some (.inl (S 0 1 + 1))) (zup (zup M 48 (47 + S 0 1) b) 47 1 (S 0 1 + 1)) := fun q => ok q _ (RM_text h (fun k i a => by unfold nType; rw [zup_ne (by omega), zup_ne (by simp; omega)]) (fun k i a b => by rw [zup_ne a, zup_ne b]) (by
        have en : nType S 1 b = zup (zup S 2 (S 0 1) b) 0 1 (S 0 1 + 1) := rfl
        rw [en]
        refine ⟨⟨by simp [zup_eq]; exact hT.1.1, by simp [zup_eq]⟩, fun i a c => ?_, fun i a c => ?_⟩
        · rw [zup_in, if_neg (by decide), zup_ne (by decide)] at c
          rw [zup_ne (by decide), zup_in, if_neg (by omega), zup_ne (by decide), zup_ne (by decide)]
          exact hT.2.1 i a c
        · rw [zup_in, if_pos rfl] at c
          rw [zup_ne (by decide), zup_in, zup_ne (by decide), zup_in]
          by_cases ei : i = S 0 1
          · rw [if_pos (by omega), if_pos ei]
          · rw [if_neg (by omega), if_neg ei]
            exact hT.2.2 i a (by omega))) (fun k i hk => by rw [zup_ne (by omega), zup_ne (by omega)])
      simp only [↓eX8_type, ↓rX8_type_0, ↓rX8_type_1, ↓rX8_type_4, ↓rX8_type_7, ↓rX8_type_8, ↓rX8_type_9, ↓rX8_type_12, ↓rX8_type_15, ↓rX8_type_18, ↓rX8_type_20, ↓rX8_type_21, ↓rX8_type_22, ↓rX8_type_25, ↓rX8_type_26, ↓rX8_type_27, ↓rX8_type_29, ↓rX8_type_32, ↓rX8_type_34, ↓rX8_type_35, ↓rX8_type_36, ↓rX8_type_39, ↓rX8_type_41, ↓rX8_type_42, ↓rX8_type_43, ↓rX8_type_44, ↓rX8_type_47, ↓rX8_type_48, ↓rX8_type_49, ↓rX8_type_50, ↓rX8_type_51, ↓rX8_type_52, ↓rX8_type_53, ↓rX8_type_56, ↓rX8_type_57, ↓rX8_type_58, ↓rX8_type_59, ↓rX8_type_60, ↓rX8_type_61, ↓rX8_type_62, ↓rX8_type_63, ↓rX8_type_66, ↓rX8_type_67, ↓rX8_type_68, ↓hg_fX8_13_46, ↓hg_fX8_7_46, ↓hr_47, ↓hr_48, ↓hr_49, ↓hr_50, ↓hr_51, ↓hr_52, ↓hr_53, ↓hr_54, ↓hr_55, ↓hr_56, ↓hr_57, ↓hr_58, ↓hr_59, ↓hr_60, ↓hr_61, ↓hr_62, ↓hr_63, ↓hr_64, ↓hr_65, ↓hr_66, ↓hr_67, ↓hr_68, ↓hr_69, ↓hr_70, ↓hr_71, ↓hr_72, ↓hr_73, ↓hr_74, ↓hr_75, ↓hr_76, ↓hr_77, ↓hr_78, ↓hr_79, ↓hw_47, ↓hw_48, ↓hw_49, ↓hw_50, ↓hw_51, ↓hw_52, ↓hw_53, ↓hw_54, ↓hw_55, ↓hw_56, ↓hw_57, ↓hw_58, ↓hw_59, ↓hw_60, ↓hw_61, ↓hw_62, ↓hw_63, ↓hw_64, ↓hw_65, ↓hw_66, ↓hw_67, ↓hw_68, ↓hw_69, ↓hw_70, ↓hw_71, ↓hw_72, ↓hw_73, ↓hw_74, ↓hw_75, ↓hw_76, ↓hw_77, ↓hw_78, ↓hw_79, ↓i_in, ↓i_isText, ↓reduceIte, zkeep_n, zkeep_i, zkeep_r, zkeep_l, zIR, zLR, List.length_cons, List.length_nil, Nat.reduceAdd, Nat.reduceLeDiff, Nat.reduceEqDiff, Nat.reduceSub, Int.reduceLE, Int.reduceLT, Int.reduceEq, Int.reduceNe, Int.reduceNeg, Int.reduceAdd, Int.reduceSub, Int.reduceMul, Int.reduceToNat, Nat.le_refl, Nat.zero_le, Nat.zero_add, Int.zero_add, Int.add_zero, and_true, true_and, and_false, false_and, not_true_eq_false, not_false_eq_true, eq_self, ne_eq, true_implies, false_implies, implies_true, or_true, true_or, or_false, false_or, reduceCtorEq, Option.some.injEq, Sum.inl.injEq, exists_eq_left', exists_eq_left, e0, zup_ne, zite]
      simp only [zup_in, if_true]
      repeat' (first | with_reducible apply And.intro | with_reducible intro _)
      all_goals first | omega | (exact full (by omega)) | (exact ok (by omega))
  · have fin := hR M (by rw [if_neg (fun z => hg z.1)]; exact h) YF.rfl
    rw [if_neg hg] at fin
    simp only [↓eX8_type, ↓rX8_type_0, ↓rX8_type_1, ↓rX8_type_4, ↓rX8_type_7, ↓rX8_type_8, ↓rX8_type_9, ↓rX8_type_12, ↓rX8_type_15, ↓rX8_type_18, ↓rX8_type_20, ↓i_in, ↓i_isText, ↓reduceIte, zkeep_n, zkeep_i, zkeep_r, zkeep_l, zup_eq, zIR, zLR, List.length_cons, List.length_nil, Nat.reduceAdd, Nat.reduceLeDiff, Nat.reduceEqDiff, Nat.reduceSub, Int.reduceLE, Int.reduceLT, Int.reduceEq, Int.reduceNe, Int.reduceNeg, Int.reduceAdd, Int.reduceSub, Int.reduceMul, Int.reduceToNat, Nat.le_refl, Nat.zero_le, Nat.zero_add, Int.zero_add, Int.add_zero, and_true, true_and, and_false, false_and, not_true_eq_false, not_false_eq_true, eq_self, ne_eq, true_implies, false_implies, implies_true, or_true, true_or, or_false, false_or, reduceCtorEq, Option.some.injEq, Sum.inl.injEq, exists_eq_left', exists_eq_left, zite]
    repeat' (first | with_reducible apply And.intro | with_reducible intro _)
    all_goals first | omega | (exact fin)
theorem PT_len {S M : zM} {t n : Int} (h : PT S M) (ht : t = 0 ∨ t = 1) (hn : n ≤ S 0 t) : PT (nLen S t n) (zup M 47 t n) := by
  rcases ht with rfl | rfl
  · refine ⟨⟨by simp [nLen, zup_eq], by simp [nLen, zup_eq]; exact h.1.2⟩, fun i a c => ?_, fun i a c => ?_⟩
    · unfold nLen at c ⊢
      rw [zup_in, if_pos rfl] at c
      rw [zup_ne (by decide), zup_ne (by decide)]
      exact h.2.1 i a (by omega)
    · unfold nLen at c ⊢
      rw [zup_in, if_neg (by decide)] at c
      rw [zup_ne (by decide), zup_ne (by decide)]
      exact h.2.2 i a c
  · refine ⟨⟨by simp [nLen, zup_eq]; exact h.1.1, by simp [nLen, zup_eq]⟩, fun i a c => ?_, fun i a c => ?_⟩
    · unfold nLen at c ⊢
      rw [zup_in, if_neg (by decide)] at c
      rw [zup_ne (by decide), zup_ne (by decide)]
      exact h.2.1 i a c
    · unfold nLen at c ⊢
      rw [zup_in, if_pos rfl] at c
      rw [zup_ne (by decide), zup_ne (by decide)]
      exact h.2.2 i a (by omega)
theorem PT_l {S M : zM} {t : Int} (h : PT S M) (ht : t = 0 ∨ t = 1) : M 47 t = S 0 t := by
  rcases ht with rfl | rfl
  · exact h.1.1
  · exact h.1.2
theorem W_len {S : zM} (hW : WX S) {t : Int} (ht : t = 0 ∨ t = 1) : 0 ≤ S 0 t ∧ S 0 t ≤ 47 := by
  obtain ⟨M0, hX⟩ := hW
  rcases ht with rfl | rfl
  · exact (hX.1 0 (by decide)).1
  · exact (hX.1 1 (by decide)).1
set_option maxRecDepth 100000 in
set_option maxHeartbeats 4000000 in
theorem y_wipe {S M : zM} {R : zP} {t : Int} (hW : WX S) (h : RM S M) (z1 : zIR t) (hR : ∀ M', RM (mWipe S t) M' → YF M M' → R (some (.inl (aWipe S t))) M') : tX8_wipe [.inr (.inr 46), .inl t] M R := by
  unfold zIR at z1
  unfold mWipe aWipe at hR
  by_cases hg : 0 ≤ t ∧ t < 2
  · have hT := (RM_iff.mp h).1
    have e0 := PT_l hT (t := t) (by omega)
    have v := W_len hW (t := t) (by omega)
    rw [if_pos hg, if_pos hg] at hR
    have fin := hR (zup M 47 t 0) (RM_text h (fun k i a => zup_ne (by omega)) (fun k i a b => zup_ne a) (PT_len hT (by omega) v.1)) (fun k i hk => zup_ne (by omega))
    simp only [↓eX8_wipe, ↓rX8_wipe_0, ↓rX8_wipe_1, ↓rX8_wipe_4, ↓rX8_wipe_7, ↓rX8_wipe_9, ↓rX8_wipe_10, ↓rX8_wipe_11, ↓rX8_wipe_14, ↓rX8_wipe_15, ↓rX8_wipe_16, ↓rX8_wipe_17, ↓rX8_wipe_18, ↓rX8_wipe_21, ↓rX8_wipe_22, ↓rX8_wipe_23, ↓rX8_wipe_24, ↓rX8_wipe_25, ↓hg_fX8_7_46, ↓hr_47, ↓hr_48, ↓hr_49, ↓hr_50, ↓hr_51, ↓hr_52, ↓hr_53, ↓hr_54, ↓hr_55, ↓hr_56, ↓hr_57, ↓hr_58, ↓hr_59, ↓hr_60, ↓hr_61, ↓hr_62, ↓hr_63, ↓hr_64, ↓hr_65, ↓hr_66, ↓hr_67, ↓hr_68, ↓hr_69, ↓hr_70, ↓hr_71, ↓hr_72, ↓hr_73, ↓hr_74, ↓hr_75, ↓hr_76, ↓hr_77, ↓hr_78, ↓hr_79, ↓hw_47, ↓hw_48, ↓hw_49, ↓hw_50, ↓hw_51, ↓hw_52, ↓hw_53, ↓hw_54, ↓hw_55, ↓hw_56, ↓hw_57, ↓hw_58, ↓hw_59, ↓hw_60, ↓hw_61, ↓hw_62, ↓hw_63, ↓hw_64, ↓hw_65, ↓hw_66, ↓hw_67, ↓hw_68, ↓hw_69, ↓hw_70, ↓hw_71, ↓hw_72, ↓hw_73, ↓hw_74, ↓hw_75, ↓hw_76, ↓hw_77, ↓hw_78, ↓hw_79, ↓i_isText, ↓reduceIte, zkeep_n, zkeep_i, zkeep_r, zkeep_l, zIR, zLR, List.length_cons, List.length_nil, Nat.reduceAdd, Nat.reduceLeDiff, Nat.reduceEqDiff, Nat.reduceSub, Int.reduceLE, Int.reduceLT, Int.reduceEq, Int.reduceNe, Int.reduceNeg, Int.reduceAdd, Int.reduceSub, Int.reduceMul, Int.reduceToNat, Nat.le_refl, Nat.zero_le, Nat.zero_add, Int.zero_add, Int.add_zero, and_true, true_and, and_false, false_and, not_true_eq_false, not_false_eq_true, eq_self, ne_eq, true_implies, false_implies, implies_true, or_true, true_or, or_false, false_or, reduceCtorEq, Option.some.injEq, Sum.inl.injEq, exists_eq_left', exists_eq_left, e0, zite]
    repeat' (first | with_reducible apply And.intro | with_reducible intro _)
    all_goals first | omega | (exact fin)
  · rw [if_neg hg, if_neg hg] at hR
    have fin := hR M h YF.rfl
    simp only [↓eX8_wipe, ↓rX8_wipe_0, ↓rX8_wipe_1, ↓rX8_wipe_4, ↓rX8_wipe_7, ↓rX8_wipe_9, ↓i_isText, ↓reduceIte, zkeep_n, zkeep_i, zkeep_r, zkeep_l, zup_eq, zIR, zLR, List.length_cons, List.length_nil, Nat.reduceAdd, Nat.reduceLeDiff, Nat.reduceEqDiff, Nat.reduceSub, Int.reduceLE, Int.reduceLT, Int.reduceEq, Int.reduceNe, Int.reduceNeg, Int.reduceAdd, Int.reduceSub, Int.reduceMul, Int.reduceToNat, Nat.le_refl, Nat.zero_le, Nat.zero_add, Int.zero_add, Int.add_zero, and_true, true_and, and_false, false_and, not_true_eq_false, not_false_eq_true, eq_self, ne_eq, true_implies, false_implies, implies_true, or_true, true_or, or_false, false_or, reduceCtorEq, Option.some.injEq, Sum.inl.injEq, exists_eq_left', exists_eq_left, zite]
    repeat' (first | with_reducible apply And.intro | with_reducible intro _)
    all_goals first | omega | (exact fin)
set_option maxRecDepth 100000 in
set_option maxHeartbeats 4000000 in
theorem y_undo {S M : zM} {R : zP} {t : Int} (hW : WX S) (h : RM S M) (z1 : zIR t) (hR : ∀ M', RM (mUndo S t) M' → YF M M' → R (some (.inl (aUndo S t))) M') : tX8_undo [.inr (.inr 46), .inl t] M R := by
  unfold zIR at z1
  unfold mUndo aUndo at hR
  by_cases hg : 0 ≤ t ∧ t < 2
  · have hT := (RM_iff.mp h).1
    have e0 := PT_l hT (t := t) (by omega)
    have v := W_len hW (t := t) (by omega)
    have zero : S 0 t = 0 → R (some (.inl (-3))) M := fun q => by
      have := hR M (by rw [if_neg (fun z => z.2 q)]; exact h) YF.rfl
      rw [if_pos hg, if_pos q] at this
      exact this
    have ok : S 0 t ≠ 0 → R (some (.inl (S 0 t - 1))) (zup M 47 t (S 0 t - 1)) := fun q => by
      have := hR (zup M 47 t (S 0 t - 1)) (by rw [if_pos ⟨hg, q⟩]; exact RM_text h (fun k i a => zup_ne (by omega)) (fun k i a b => zup_ne a) (PT_len hT (by omega) (by omega))) (fun k i hk => zup_ne (by omega))
      rw [if_pos hg, if_neg q] at this
      exact this
    simp only [↓eX8_undo, ↓rX8_undo_0, ↓rX8_undo_1, ↓rX8_undo_4, ↓rX8_undo_7, ↓rX8_undo_9, ↓rX8_undo_10, ↓rX8_undo_11, ↓rX8_undo_14, ↓rX8_undo_15, ↓rX8_undo_16, ↓rX8_undo_19, ↓rX8_undo_21, ↓rX8_undo_22, ↓rX8_undo_23, ↓rX8_undo_26, ↓rX8_undo_27, ↓rX8_undo_28, ↓rX8_undo_29, ↓rX8_undo_30, ↓rX8_undo_31, ↓rX8_undo_32, ↓rX8_undo_33, ↓rX8_undo_36, ↓rX8_undo_37, ↓rX8_undo_38, ↓hg_fX8_7_46, ↓hr_47, ↓hr_48, ↓hr_49, ↓hr_50, ↓hr_51, ↓hr_52, ↓hr_53, ↓hr_54, ↓hr_55, ↓hr_56, ↓hr_57, ↓hr_58, ↓hr_59, ↓hr_60, ↓hr_61, ↓hr_62, ↓hr_63, ↓hr_64, ↓hr_65, ↓hr_66, ↓hr_67, ↓hr_68, ↓hr_69, ↓hr_70, ↓hr_71, ↓hr_72, ↓hr_73, ↓hr_74, ↓hr_75, ↓hr_76, ↓hr_77, ↓hr_78, ↓hr_79, ↓hw_47, ↓hw_48, ↓hw_49, ↓hw_50, ↓hw_51, ↓hw_52, ↓hw_53, ↓hw_54, ↓hw_55, ↓hw_56, ↓hw_57, ↓hw_58, ↓hw_59, ↓hw_60, ↓hw_61, ↓hw_62, ↓hw_63, ↓hw_64, ↓hw_65, ↓hw_66, ↓hw_67, ↓hw_68, ↓hw_69, ↓hw_70, ↓hw_71, ↓hw_72, ↓hw_73, ↓hw_74, ↓hw_75, ↓hw_76, ↓hw_77, ↓hw_78, ↓hw_79, ↓i_isText, ↓reduceIte, zkeep_n, zkeep_i, zkeep_r, zkeep_l, zIR, zLR, List.length_cons, List.length_nil, Nat.reduceAdd, Nat.reduceLeDiff, Nat.reduceEqDiff, Nat.reduceSub, Int.reduceLE, Int.reduceLT, Int.reduceEq, Int.reduceNe, Int.reduceNeg, Int.reduceAdd, Int.reduceSub, Int.reduceMul, Int.reduceToNat, Nat.le_refl, Nat.zero_le, Nat.zero_add, Int.zero_add, Int.add_zero, and_true, true_and, and_false, false_and, not_true_eq_false, not_false_eq_true, eq_self, ne_eq, true_implies, false_implies, implies_true, or_true, true_or, or_false, false_or, reduceCtorEq, Option.some.injEq, Sum.inl.injEq, exists_eq_left', exists_eq_left, e0, zite]
    simp only [zup_in, if_true]
    repeat' (first | with_reducible apply And.intro | with_reducible intro _)
    all_goals first | omega | (exact zero (by omega)) | (exact ok (by omega))
  · have fin := hR M (by rw [if_neg (fun z => hg z.1)]; exact h) YF.rfl
    rw [if_neg hg] at fin
    simp only [↓eX8_undo, ↓rX8_undo_0, ↓rX8_undo_1, ↓rX8_undo_4, ↓rX8_undo_7, ↓rX8_undo_9, ↓i_isText, ↓reduceIte, zkeep_n, zkeep_i, zkeep_r, zkeep_l, zup_eq, zIR, zLR, List.length_cons, List.length_nil, Nat.reduceAdd, Nat.reduceLeDiff, Nat.reduceEqDiff, Nat.reduceSub, Int.reduceLE, Int.reduceLT, Int.reduceEq, Int.reduceNe, Int.reduceNeg, Int.reduceAdd, Int.reduceSub, Int.reduceMul, Int.reduceToNat, Nat.le_refl, Nat.zero_le, Nat.zero_add, Int.zero_add, Int.add_zero, and_true, true_and, and_false, false_and, not_true_eq_false, not_false_eq_true, eq_self, ne_eq, true_implies, false_implies, implies_true, or_true, true_or, or_false, false_or, reduceCtorEq, Option.some.injEq, Sum.inl.injEq, exists_eq_left', exists_eq_left, zite]
    repeat' (first | with_reducible apply And.intro | with_reducible intro _)
    all_goals first | omega | (exact fin)
theorem RM_feeds {S S' M M' : zM} (h : RM S M) (hS : ∀ k i, ¬ (3 ≤ k ∧ k ≤ 6) → S' k i = S k i) (hM : ∀ k i, ¬ (53 ≤ k ∧ k ≤ 55) → (k = 46 → i ≠ 8) → M' k i = M k i) (hT : PG S' M') : RM S' M' := by
  rw [RM_iff] at h ⊢
  obtain ⟨h1, h2, h3, h4, h5⟩ := h
  exact ⟨PT_fr h1 (fun k i a => hS k i (by omega)) (fun k i a b => hM k i (by omega) (fun e => by omega)), hT, PE_fr h3 (fun k i a b => hS k i (by omega)) (hM _ _ (by decide) (by decide)) (fun k i a b => hM k i (by omega) (fun e => by omega)), PL_fr h4 (fun k i a b => hS k i (by omega)) (fun k i a b => hM k i (by omega) (fun e => by omega)), by rw [hM _ _ (by decide) (by decide), hS _ _ (by decide)]; exact h5⟩
set_option maxRecDepth 100000 in
set_option maxHeartbeats 4000000 in
theorem y_feed {S M : zM} {R : zP} {te me co : Int} (h3 : 0 ≤ S 3 0 ∧ S 3 0 ≤ 8) (h : RM S M) (z1 : zIR te) (z2 : zIR me) (z3 : zIR co) (hR : ∀ M', RM (mFeed S te me co) M' → (∀ k i, ¬ (53 ≤ k ∧ k ≤ 55) → (k = 46 → i ≠ 8) → M' k i = M k i) → R (some (.inl (aFeed S te me co))) M') : tX8_feed [.inr (.inr 46), .inl te, .inl me, .inl co] M R := by
  unfold zIR at z1 z2 z3
  unfold mFeed aFeed at hR
  obtain ⟨e8, hx⟩ := (RM_iff.mp h).2.1
  have bad : ¬ ((0 ≤ te ∧ te < 20) ∧ (0 ≤ me ∧ me < 8) ∧ (0 ≤ co ∧ co < 8)) → R (some (.inl (-2))) M := fun hb => by
    have := hR M (by rw [if_neg (fun q => hb q.1)]; exact h) (fun _ _ _ _ => rfl)
    rw [if_neg hb] at this
    exact this
  have full : ((0 ≤ te ∧ te < 20) ∧ (0 ≤ me ∧ me < 8) ∧ (0 ≤ co ∧ co < 8)) → S 3 0 = 8 → R (some (.inl (-4))) M := fun hb q => by
    have := hR M (by rw [if_neg (fun z => z.2 q)]; exact h) (fun _ _ _ _ => rfl)
    rw [if_pos hb, if_pos q] at this
    exact this
  have ok : ((0 ≤ te ∧ te < 20) ∧ (0 ≤ me ∧ me < 8) ∧ (0 ≤ co ∧ co < 8)) → S 3 0 ≠ 8 → R (some (.inl (S 3 0 + 1))) (zup (zup (zup (zup M 53 (S 3 0) te) 54 (S 3 0) me) 55 (S 3 0) co) 46 8 (S 3 0 + 1)) := fun hb q => by
    have fr : ∀ k i, ¬ (53 ≤ k ∧ k ≤ 55) → (k = 46 → i ≠ 8) → zup (zup (zup (zup M 53 (S 3 0) te) 54 (S 3 0) me) 55 (S 3 0) co) 46 8 (S 3 0 + 1) k i = M k i := fun k i a b => by
      rw [zup_eq, if_neg (fun z => b z.1 z.2), zup_ne (by omega), zup_ne (by omega), zup_ne (by omega)]
    have := hR (zup (zup (zup (zup M 53 (S 3 0) te) 54 (S 3 0) me) 55 (S 3 0) co) 46 8 (S 3 0 + 1)) (by
      rw [if_pos ⟨hb, q⟩]
      refine RM_feeds h (fun k i hk => ?_) fr ⟨?_, fun i i0 i1 => ?_⟩
      · unfold nFeed
        rw [zup_ne (by omega), zup_ne (by omega), zup_ne (by omega), zup_ne (by omega)]
      · unfold nFeed
        rw [zup_in, zup_in, if_pos rfl, if_pos rfl]
      · unfold nFeed at i1 ⊢
        rw [zup_in, if_pos rfl] at i1
        simp only [zup_eq, Nat.reduceEqDiff, false_and, true_and, if_false]
        by_cases e : i = S 3 0
        · simp only [e, if_true, and_self]
        · simp only [e, if_false]
          exact hx i i0 (by omega)) fr
    rw [if_pos hb, if_neg q] at this
    exact this
  simp only [↓eX8_feed, ↓rX8_feed_0, ↓rX8_feed_1, ↓rX8_feed_4, ↓rX8_feed_7, ↓rX8_feed_8, ↓rX8_feed_11, ↓rX8_feed_14, ↓rX8_feed_15, ↓rX8_feed_18, ↓rX8_feed_21, ↓rX8_feed_23, ↓rX8_feed_24, ↓rX8_feed_25, ↓rX8_feed_28, ↓rX8_feed_30, ↓rX8_feed_33, ↓rX8_feed_35, ↓rX8_feed_36, ↓rX8_feed_37, ↓rX8_feed_40, ↓rX8_feed_41, ↓rX8_feed_44, ↓rX8_feed_45, ↓rX8_feed_46, ↓rX8_feed_47, ↓rX8_feed_50, ↓rX8_feed_51, ↓rX8_feed_54, ↓rX8_feed_55, ↓rX8_feed_56, ↓rX8_feed_57, ↓rX8_feed_60, ↓rX8_feed_61, ↓rX8_feed_64, ↓rX8_feed_65, ↓rX8_feed_66, ↓rX8_feed_67, ↓rX8_feed_68, ↓rX8_feed_71, ↓rX8_feed_72, ↓rX8_feed_73, ↓rX8_feed_76, ↓rX8_feed_77, ↓rX8_feed_80, ↓hg_fX8_166_46, ↓hg_fX8_28_46, ↓hg_fX8_31_46, ↓hg_fX8_34_46, ↓hp_fX8_166_46, ↓hr_47, ↓hr_48, ↓hr_49, ↓hr_50, ↓hr_51, ↓hr_52, ↓hr_53, ↓hr_54, ↓hr_55, ↓hr_56, ↓hr_57, ↓hr_58, ↓hr_59, ↓hr_60, ↓hr_61, ↓hr_62, ↓hr_63, ↓hr_64, ↓hr_65, ↓hr_66, ↓hr_67, ↓hr_68, ↓hr_69, ↓hr_70, ↓hr_71, ↓hr_72, ↓hr_73, ↓hr_74, ↓hr_75, ↓hr_76, ↓hr_77, ↓hr_78, ↓hr_79, ↓hw_47, ↓hw_48, ↓hw_49, ↓hw_50, ↓hw_51, ↓hw_52, ↓hw_53, ↓hw_54, ↓hw_55, ↓hw_56, ↓hw_57, ↓hw_58, ↓hw_59, ↓hw_60, ↓hw_61, ↓hw_62, ↓hw_63, ↓hw_64, ↓hw_65, ↓hw_66, ↓hw_67, ↓hw_68, ↓hw_69, ↓hw_70, ↓hw_71, ↓hw_72, ↓hw_73, ↓hw_74, ↓hw_75, ↓hw_76, ↓hw_77, ↓hw_78, ↓hw_79, ↓i_isEight, ↓i_isTerm, ↓reduceIte, zkeep_n, zkeep_i, zkeep_r, zkeep_l, zIR, zLR, List.length_cons, List.length_nil, Nat.reduceAdd, Nat.reduceLeDiff, Nat.reduceEqDiff, Nat.reduceSub, Int.reduceLE, Int.reduceLT, Int.reduceEq, Int.reduceNe, Int.reduceNeg, Int.reduceAdd, Int.reduceSub, Int.reduceMul, Int.reduceToNat, Nat.le_refl, Nat.zero_le, Nat.zero_add, Int.zero_add, Int.add_zero, and_true, true_and, and_false, false_and, not_true_eq_false, not_false_eq_true, eq_self, ne_eq, true_implies, false_implies, implies_true, or_true, true_or, or_false, false_or, reduceCtorEq, Option.some.injEq, Sum.inl.injEq, exists_eq_left', exists_eq_left, e8, zup_ne, zite]
  simp only [zup_in, if_true]
  repeat' (first | with_reducible apply And.intro | with_reducible intro _)
  all_goals first | omega | (exact bad (by omega)) | (exact full (by omega) (by omega)) | (exact ok (by omega) (by omega))
set_option maxRecDepth 100000 in
set_option maxHeartbeats 4000000 in
theorem y_back {S M : zM} {R : zP} (hW : WX S) (h : RM S M) (hR : ∀ M', RM (mBack S) M' → YF M M' → R (some (.inl (aBack S))) M') : tX8_back [.inr (.inr 46)] M R := by
  unfold mBack aBack at hR
  obtain ⟨M0, hX⟩ := hW
  have h3 := hX.2.2.2.2.1.1
  obtain ⟨e8, hx⟩ := (RM_iff.mp h).2.1
  have zero : S 3 0 = 0 → R (some (.inl (-3))) M := fun q => by
    rw [if_pos q, if_pos q] at hR
    exact hR M h YF.rfl
  have ok : S 3 0 ≠ 0 → R (some (.inl (S 3 0 - 1))) (zup M 46 8 (S 3 0 - 1)) := fun q => by
    rw [if_neg q, if_neg q] at hR
    refine hR _ (RM_feeds h (fun k i hk => zup_ne (by omega)) (fun k i a b => by rw [zup_eq, if_neg (fun z => b z.1 z.2)]) ⟨by rw [zup_in, zup_in, if_pos rfl, if_pos rfl], fun i a b => ?_⟩) (fun k i hk => zup_ne (by omega))
    rw [zup_in, if_pos rfl] at b
    rw [zup_ne (by decide), zup_ne (by decide), zup_ne (by decide), zup_ne (by decide), zup_ne (by decide), zup_ne (by decide)]
    exact hx i a (by omega)
  simp only [↓eX8_back, ↓rX8_back_0, ↓rX8_back_1, ↓rX8_back_4, ↓rX8_back_7, ↓rX8_back_9, ↓rX8_back_10, ↓rX8_back_11, ↓rX8_back_12, ↓rX8_back_15, ↓rX8_back_16, ↓rX8_back_17, ↓rX8_back_20, ↓rX8_back_21, ↓rX8_back_24, ↓hg_fX8_166_46, ↓hp_fX8_166_46, ↓reduceIte, zkeep_n, zkeep_i, zkeep_r, zkeep_l, zIR, zLR, List.length_cons, List.length_nil, Nat.reduceAdd, Nat.reduceLeDiff, Nat.reduceEqDiff, Nat.reduceSub, Int.reduceLE, Int.reduceLT, Int.reduceEq, Int.reduceNe, Int.reduceNeg, Int.reduceAdd, Int.reduceSub, Int.reduceMul, Int.reduceToNat, Nat.le_refl, Nat.zero_le, Nat.zero_add, Int.zero_add, Int.add_zero, and_true, true_and, and_false, false_and, not_true_eq_false, not_false_eq_true, eq_self, ne_eq, true_implies, false_implies, implies_true, or_true, true_or, or_false, false_or, reduceCtorEq, Option.some.injEq, Sum.inl.injEq, exists_eq_left', exists_eq_left, e8, zite]
  simp only [zup_in, if_true]
  repeat' (first | with_reducible apply And.intro | with_reducible intro _)
  all_goals first | omega | (exact zero (by omega)) | (exact ok (by omega))
theorem RM_seens {S S' M M' : zM} (h : RM S M) (hS : ∀ k i, ¬ (7 ≤ k ∧ k ≤ 11) → S' k i = S k i) (hM : ∀ k i, ¬ (70 ≤ k ∧ k ≤ 73) → (k = 46 → i ≠ 28) → M' k i = M k i) (hT : PE S' M') : RM S' M' := by
  rw [RM_iff] at h ⊢
  obtain ⟨h1, h2, h3, h4, h5⟩ := h
  exact ⟨PT_fr h1 (fun k i a => hS k i (by omega)) (fun k i a b => hM k i (by omega) (fun e => by omega)), PG_fr h2 (fun k i a b => hS k i (by omega)) (hM _ _ (by decide) (by decide)) (fun k i a b => hM k i (by omega) (fun e => by omega)), hT, PL_fr h4 (fun k i a b => hS k i (by omega)) (fun k i a b => hM k i (by omega) (fun e => by omega)), by rw [hM _ _ (by decide) (by decide), hS _ _ (by decide)]; exact h5⟩
set_option maxRecDepth 100000 in
set_option maxHeartbeats 4000000 in
theorem y_seen {S M : zM} {R : zP} {te me qu mu : Int} (hW : WX S) (h : RM S M) (z1 : zIR te) (z2 : zIR me) (z3 : zIR qu) (z4 : zIR mu) (hR : ∀ M', RM (mSeen S te me qu mu) M' → YF M M' → R (some (.inl (aSeen S te me qu mu))) M') : tX8_seen [.inr (.inr 46), .inl te, .inl me, .inl qu, .inl mu] M R := by
  unfold zIR at z1 z2 z3 z4
  unfold mSeen aSeen at hR
  obtain ⟨M0, hX⟩ := hW
  have h7 := hX.2.2.2.2.2.1.2.1
  obtain ⟨e8, hx⟩ := (RM_iff.mp h).2.2.1
  have bad : ¬ gSeen te me qu mu → R (some (.inl (-2))) M := fun hb => by
    have := hR M (by rw [if_neg (fun q => hb q.1)]; exact h) YF.rfl
    rw [if_neg hb] at this
    exact this
  have full : gSeen te me qu mu → S 7 0 = 8 → R (some (.inl (-4))) M := fun hb q => by
    have := hR M (by rw [if_neg (fun z => z.2 q)]; exact h) YF.rfl
    rw [if_pos hb, if_pos q] at this
    exact this
  have ok : gSeen te me qu mu → S 7 0 ≠ 8 → R (some (.inl (S 7 0 + 1))) (zup (zup (zup (zup (zup M 70 (S 7 0) te) 71 (S 7 0) me) 72 (S 7 0) qu) 73 (S 7 0) mu) 46 28 (S 7 0 + 1)) := fun hb q => by
    have := hR (zup (zup (zup (zup (zup M 70 (S 7 0) te) 71 (S 7 0) me) 72 (S 7 0) qu) 73 (S 7 0) mu) 46 28 (S 7 0 + 1)) (by
      rw [if_pos ⟨hb, q⟩]
      refine RM_seens h (fun k i hk => ?_) (fun k i a b => ?_) ⟨?_, fun i i0 i1 => ?_⟩
      · unfold nSeen
        rw [zup_ne (by omega), zup_ne (by omega), zup_ne (by omega), zup_ne (by omega), zup_ne (by omega)]
      · rw [zup_eq, if_neg (fun z => b z.1 z.2), zup_ne (by omega), zup_ne (by omega), zup_ne (by omega), zup_ne (by omega)]
      · unfold nSeen
        rw [zup_in, zup_in, if_pos rfl, if_pos rfl]
      · unfold nSeen at i1 ⊢
        rw [zup_in, if_pos rfl] at i1
        simp only [zup_eq, Nat.reduceEqDiff, false_and, true_and, if_false]
        by_cases e : i = S 7 0
        · simp only [e, if_true, and_self]
        · simp only [e, if_false]
          exact hx i i0 (by omega)) (fun k i hk => by rw [zup_ne (by omega), zup_ne (by omega), zup_ne (by omega), zup_ne (by omega), zup_ne (by omega)])
    rw [if_pos hb, if_neg q] at this
    exact this
  simp only [↓eX8_seen, ↓rX8_seen_0, ↓rX8_seen_1, ↓rX8_seen_4, ↓rX8_seen_7, ↓rX8_seen_8, ↓rX8_seen_11, ↓rX8_seen_14, ↓rX8_seen_15, ↓rX8_seen_18, ↓rX8_seen_21, ↓rX8_seen_23, ↓rX8_seen_24, ↓rX8_seen_26, ↓rX8_seen_29, ↓rX8_seen_32, ↓rX8_seen_34, ↓rX8_seen_35, ↓rX8_seen_36, ↓rX8_seen_39, ↓rX8_seen_41, ↓rX8_seen_44, ↓rX8_seen_46, ↓rX8_seen_47, ↓rX8_seen_48, ↓rX8_seen_51, ↓rX8_seen_52, ↓rX8_seen_55, ↓rX8_seen_56, ↓rX8_seen_57, ↓rX8_seen_58, ↓rX8_seen_61, ↓rX8_seen_62, ↓rX8_seen_65, ↓rX8_seen_66, ↓rX8_seen_67, ↓rX8_seen_68, ↓rX8_seen_71, ↓rX8_seen_72, ↓rX8_seen_75, ↓rX8_seen_76, ↓rX8_seen_77, ↓rX8_seen_78, ↓rX8_seen_81, ↓rX8_seen_82, ↓rX8_seen_85, ↓rX8_seen_87, ↓rX8_seen_88, ↓rX8_seen_89, ↓rX8_seen_90, ↓rX8_seen_93, ↓rX8_seen_94, ↓rX8_seen_95, ↓rX8_seen_98, ↓rX8_seen_99, ↓rX8_seen_102, ↓hg_fX8_290_46, ↓hg_fX8_79_46, ↓hg_fX8_82_46, ↓hg_fX8_85_46, ↓hg_fX8_88_46, ↓hp_fX8_290_46, ↓hr_47, ↓hr_48, ↓hr_49, ↓hr_50, ↓hr_51, ↓hr_52, ↓hr_53, ↓hr_54, ↓hr_55, ↓hr_56, ↓hr_57, ↓hr_58, ↓hr_59, ↓hr_60, ↓hr_61, ↓hr_62, ↓hr_63, ↓hr_64, ↓hr_65, ↓hr_66, ↓hr_67, ↓hr_68, ↓hr_69, ↓hr_70, ↓hr_71, ↓hr_72, ↓hr_73, ↓hr_74, ↓hr_75, ↓hr_76, ↓hr_77, ↓hr_78, ↓hr_79, ↓hw_47, ↓hw_48, ↓hw_49, ↓hw_50, ↓hw_51, ↓hw_52, ↓hw_53, ↓hw_54, ↓hw_55, ↓hw_56, ↓hw_57, ↓hw_58, ↓hw_59, ↓hw_60, ↓hw_61, ↓hw_62, ↓hw_63, ↓hw_64, ↓hw_65, ↓hw_66, ↓hw_67, ↓hw_68, ↓hw_69, ↓hw_70, ↓hw_71, ↓hw_72, ↓hw_73, ↓hw_74, ↓hw_75, ↓hw_76, ↓hw_77, ↓hw_78, ↓hw_79, ↓i_in, ↓i_isEight, ↓i_isQuestion, ↓i_isTerm, ↓reduceIte, zkeep_n, zkeep_i, zkeep_r, zkeep_l, zIR, zLR, List.length_cons, List.length_nil, Nat.reduceAdd, Nat.reduceLeDiff, Nat.reduceEqDiff, Nat.reduceSub, Int.reduceLE, Int.reduceLT, Int.reduceEq, Int.reduceNe, Int.reduceNeg, Int.reduceAdd, Int.reduceSub, Int.reduceMul, Int.reduceToNat, Nat.le_refl, Nat.zero_le, Nat.zero_add, Int.zero_add, Int.add_zero, and_true, true_and, and_false, false_and, not_true_eq_false, not_false_eq_true, eq_self, ne_eq, true_implies, false_implies, implies_true, or_true, true_or, or_false, false_or, reduceCtorEq, Option.some.injEq, Sum.inl.injEq, exists_eq_left', exists_eq_left, e8, zup_ne, zite]
  simp only [zup_in, if_true]
  repeat' (first | with_reducible apply And.intro | with_reducible intro _)
  all_goals first | omega | (exact bad (by omega)) | (exact full (by omega) (by omega)) | (exact ok (by omega) (by omega))
set_option maxRecDepth 100000 in
set_option maxHeartbeats 4000000 in
theorem y_forget {S M : zM} {R : zP} (h : RM S M) (hR : ∀ M', RM (zup S 7 0 0) M' → YF M M' → R (some (.inl (S 7 0))) M') : tX8_forget [.inr (.inr 46)] M R := by
  obtain ⟨e8, hx⟩ := (RM_iff.mp h).2.2.1
  have fin := hR (zup M 46 28 0) (RM_seens h (fun k i hk => zup_ne (by omega)) (fun k i a b => by rw [zup_eq, if_neg (fun z => b z.1 z.2)]) ⟨by rw [zup_in, zup_in, if_pos rfl, if_pos rfl], fun i a b => by rw [zup_in, if_pos rfl] at b; omega⟩) (fun k i hk => zup_ne (by omega))
  simp only [↓eX8_forget, ↓rX8_forget_0, ↓rX8_forget_1, ↓rX8_forget_4, ↓rX8_forget_5, ↓rX8_forget_6, ↓rX8_forget_7, ↓rX8_forget_10, ↓rX8_forget_11, ↓hg_fX8_290_46, ↓hp_fX8_290_46, ↓reduceIte, zkeep_n, zkeep_i, zkeep_r, zkeep_l, zIR, zLR, List.length_cons, List.length_nil, Nat.reduceAdd, Nat.reduceLeDiff, Nat.reduceEqDiff, Nat.reduceSub, Int.reduceLE, Int.reduceLT, Int.reduceEq, Int.reduceNe, Int.reduceNeg, Int.reduceAdd, Int.reduceSub, Int.reduceMul, Int.reduceToNat, Nat.le_refl, Nat.zero_le, Nat.zero_add, Int.zero_add, Int.add_zero, and_true, true_and, and_false, false_and, not_true_eq_false, not_false_eq_true, eq_self, ne_eq, true_implies, false_implies, implies_true, or_true, true_or, or_false, false_or, reduceCtorEq, Option.some.injEq, Sum.inl.injEq, exists_eq_left', exists_eq_left, e8, zite]
  exact fin
