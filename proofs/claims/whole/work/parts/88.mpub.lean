theorem W_k {S : zM} (hW : WX S) : (0 ≤ qn S 0 ∧ qn S 0 ≤ 8) ∧ (0 ≤ qn S 1 ∧ qn S 1 ≤ 8) ∧ (qk S : Int) = qn S 0 ∧ (ck S : Int) = qn S 1 ∧ (nf S : Int) = S 3 0 ∧ qk S ≤ 8 ∧ ck S ≤ 8 ∧ nf S ≤ 8 := by
  obtain ⟨M0, hX⟩ := hW
  have := RX_qk hX
  omega
theorem W_f {S : zM} (hW : WX S) {M : zM} (h : RC S M) : ∀ k, 0 ≤ k → k < qn S 0 → ∀ q, 0 ≤ q → q < 4 → M 50 (4 * k + q) = fst S k q ∧ 0 ≤ fst S k q ∧ fst S k q ≤ 9 := by
  obtain ⟨M0, hX⟩ := hW
  intro k a b q q0 q1
  exact ⟨(h.2.2.1 k a b).2 q q0 q1, ((hX.2.2.2.1.1 0 (by decide)).2 k a b).2.2 (1 + q) (by omega) (by omega)⟩
set_option maxRecDepth 100000 in
set_option maxHeartbeats 4000000 in
theorem s_atOf {S M : zM} {F : zV → zM → Prop} {te me qu wh : Int} (hW : WX S) (h : RM S M) (hg : (0 ≤ te ∧ te < 20) ∧ (0 ≤ me ∧ me < qn S 0) ∧ (0 ≤ qu ∧ qu < 4) ∧ (0 ≤ wh ∧ wh < 4)) (hR : ∀ M', YQ M M' → RC S M' → F (.inl (aAt S te me qu wh)) M') : zcv (zv 8 tX8_atOf) [.inr (.inr 46), .inl te, .inl me, .inl qu, .inl wh] M F := by
  refine zcvv rfl ?_
  have hk := W_k hW
  unfold aAt at hR
  rw [if_pos hg] at hR
  simp only [↓eX8_atOf, ↓rX8_atOf_0, ↓rX8_atOf_1, ↓reduceIte, zkeep_n, zkeep_i, zkeep_r, zkeep_l, zup_eq, zIR, zLR, List.length_cons, List.length_nil, Nat.reduceAdd, Nat.reduceLeDiff, Nat.reduceEqDiff, Nat.reduceSub, Int.reduceLE, Int.reduceLT, Int.reduceEq, Int.reduceNe, Int.reduceNeg, Int.reduceAdd, Int.reduceSub, Int.reduceMul, Int.reduceToNat, Nat.le_refl, Nat.zero_le, Nat.zero_add, Int.zero_add, Int.add_zero, and_true, true_and, and_false, false_and, not_true_eq_false, not_false_eq_true, eq_self, ne_eq, true_implies, false_implies, implies_true, or_true, true_or, or_false, false_or, reduceCtorEq, Option.some.injEq, Sum.inl.injEq, exists_eq_left', exists_eq_left, zite]
  refine s_runsTold hW h (fun M1 f1 f2 f3 => ?_)
  have fin := hR M1 f1 f2
  obtain ⟨a1, a2, a3⟩ := HV_at f3 hg.2.1.1 hg.2.1.2 hg.1.1 hg.1.2 hg.2.2.1.1 hg.2.2.1.2
  have v := (wV_R hW me hg.2.1.1 hg.2.1.2 te.toNat (by omega)).1 qu (by omega) (by omega)
  simp only [↓rX8_atOf_4, ↓rX8_atOf_6, ↓rX8_atOf_7, ↓rX8_atOf_8, ↓rX8_atOf_9, ↓rX8_atOf_10, ↓rX8_atOf_11, ↓rX8_atOf_12, ↓rX8_atOf_13, ↓rX8_atOf_14, ↓rX8_atOf_16, ↓rX8_atOf_18, ↓rX8_atOf_21, ↓rX8_atOf_22, ↓rX8_atOf_25, ↓rX8_atOf_27, ↓rX8_atOf_28, ↓rX8_atOf_79, ↓rX8_atOf_31, ↓rX8_atOf_33, ↓rX8_atOf_34, ↓rX8_atOf_37, ↓rX8_atOf_38, ↓rX8_atOf_41, ↓rX8_atOf_43, ↓rX8_atOf_44, ↓rX8_atOf_47, ↓rX8_atOf_49, ↓rX8_atOf_50, ↓rX8_atOf_53, ↓rX8_atOf_54, ↓rX8_atOf_57, ↓rX8_atOf_59, ↓rX8_atOf_60, ↓rX8_atOf_63, ↓rX8_atOf_64, ↓rX8_atOf_67, ↓rX8_atOf_69, ↓rX8_atOf_70, ↓rX8_atOf_71, ↓rX8_atOf_74, ↓rX8_atOf_75, ↓rX8_atOf_78, ↓hg_fX8_61_46, ↓hg_fX8_64_46, ↓hg_fX8_67_46, ↓hr_47, ↓hr_48, ↓hr_49, ↓hr_50, ↓hr_51, ↓hr_52, ↓hr_53, ↓hr_54, ↓hr_55, ↓hr_56, ↓hr_57, ↓hr_58, ↓hr_59, ↓hr_60, ↓hr_61, ↓hr_62, ↓hr_63, ↓hr_64, ↓hr_65, ↓hr_66, ↓hr_67, ↓hr_68, ↓hr_69, ↓hr_70, ↓hr_71, ↓hr_72, ↓hr_73, ↓hr_74, ↓hr_75, ↓hr_76, ↓hr_77, ↓hr_78, ↓hr_79, ↓hw_47, ↓hw_48, ↓hw_49, ↓hw_50, ↓hw_51, ↓hw_52, ↓hw_53, ↓hw_54, ↓hw_55, ↓hw_56, ↓hw_57, ↓hw_58, ↓hw_59, ↓hw_60, ↓hw_61, ↓hw_62, ↓hw_63, ↓hw_64, ↓hw_65, ↓hw_66, ↓hw_67, ↓hw_68, ↓hw_69, ↓hw_70, ↓hw_71, ↓hw_72, ↓hw_73, ↓hw_74, ↓hw_75, ↓hw_76, ↓hw_77, ↓hw_78, ↓hw_79, ↓reduceIte, zkeep_n, zkeep_i, zkeep_r, zkeep_l, zup_eq, zIR, zLR, List.length_cons, List.length_nil, Nat.reduceAdd, Nat.reduceLeDiff, Nat.reduceEqDiff, Nat.reduceSub, Int.reduceLE, Int.reduceLT, Int.reduceEq, Int.reduceNe, Int.reduceNeg, Int.reduceAdd, Int.reduceSub, Int.reduceMul, Int.reduceToNat, Nat.le_refl, Nat.zero_le, Nat.zero_add, Int.zero_add, Int.add_zero, and_true, true_and, and_false, false_and, not_true_eq_false, not_false_eq_true, eq_self, ne_eq, true_implies, false_implies, implies_true, or_true, true_or, or_false, false_or, reduceCtorEq, Option.some.injEq, Sum.inl.injEq, exists_eq_left', exists_eq_left, a1, a2, a3, zite]
  repeat' (first | with_reducible apply And.intro | with_reducible intro _)
  all_goals first | omega | (rw [if_pos (by omega)] at fin; exact fin) | (rw [if_neg (by omega), if_pos (by omega)] at fin; exact fin) | (rw [if_neg (by omega), if_neg (by omega), if_pos (by omega)] at fin; exact fin) | (rw [if_neg (by omega), if_neg (by omega), if_neg (by omega), if_pos (by omega)] at fin; exact fin) | (rw [if_neg (by omega), if_neg (by omega), if_neg (by omega), if_neg (by omega)] at fin; exact fin)
set_option maxRecDepth 100000 in
set_option maxHeartbeats 4000000 in
theorem y_at {S M : zM} {R : zP} {te me qu wh : Int} (hW : WX S) (h : RM S M) (z1 : zIR te) (z2 : zIR me) (z3 : zIR qu) (z4 : zIR wh) (hR : ∀ M', YQ M M' → R (some (.inl (aAt S te me qu wh))) M') : tX8_at [.inr (.inr 46), .inl te, .inl me, .inl qu, .inl wh] M R := by
  have z2' := z2
  unfold zIR at z1 z2 z3 z4
  have bad : ¬ ((0 ≤ te ∧ te < 20) ∧ (0 ≤ me ∧ me < qn S 0) ∧ (0 ≤ qu ∧ qu < 4) ∧ (0 ≤ wh ∧ wh < 4)) → ∀ M', YQ M M' → R (some (.inl (-2))) M' := fun hb M' q => by
    have := hR M' q
    unfold aAt at this
    rw [if_neg hb] at this
    exact this
  have bad0 := fun q => bad q M YQ.rfl
  have mem : zcv (zv 8 tX8_isMember) [.inr (.inr 46), .inl me] M (fun v M' => uX8_at R 12 [some (.inr (.inr 46)), some (.inl te), some (.inl me), some (.inl qu), some (.inl wh)] [v] M') ∨ ¬ (0 ≤ te ∧ te < 20) := by
    by_cases ht : 0 ≤ te ∧ te < 20
    · refine Or.inl (s_isMember hW h z2' (fun hm M1 f1 f2 => ?_) (fun hm M1 f1 f2 => ?_))
      · have bad1 := fun q => bad q M1 f1.yq
        have go : (0 ≤ qu ∧ qu < 4) → (0 ≤ wh ∧ wh < 4) → zcv (zv 8 tX8_atOf) [.inr (.inr 46), .inl te, .inl me, .inl qu, .inl wh] M1 (fun v M' => uX8_at R 41 [some (.inr (.inr 46)), some (.inl te), some (.inl me), some (.inl qu), some (.inl wh)] [v] M') := fun q1 q2 => by
          refine s_atOf hW (RM_yq h f1.yq) ⟨ht, hm, q1, q2⟩ (fun M2 g1 g2 => ?_)
          have fin := hR M2 (f1.yq.trans g1)
          simp only [↓rX8_at_41, ↓rX8_at_46, ↓reduceIte, zkeep_n, zkeep_i, zkeep_r, zkeep_l, zup_eq, zIR, zLR, List.length_cons, List.length_nil, Nat.reduceAdd, Nat.reduceLeDiff, Nat.reduceEqDiff, Nat.reduceSub, Int.reduceLE, Int.reduceLT, Int.reduceEq, Int.reduceNe, Int.reduceNeg, Int.reduceAdd, Int.reduceSub, Int.reduceMul, Int.reduceToNat, Nat.le_refl, Nat.zero_le, Nat.zero_add, Int.zero_add, Int.add_zero, and_true, true_and, and_false, false_and, not_true_eq_false, not_false_eq_true, eq_self, ne_eq, true_implies, false_implies, implies_true, or_true, true_or, or_false, false_or, reduceCtorEq, Option.some.injEq, Sum.inl.injEq, exists_eq_left', exists_eq_left, zite]
          exact fin
        simp only [↓rX8_at_12, ↓rX8_at_15, ↓rX8_at_16, ↓rX8_at_19, ↓rX8_at_22, ↓rX8_at_24, ↓rX8_at_25, ↓rX8_at_26, ↓rX8_at_29, ↓rX8_at_32, ↓rX8_at_33, ↓rX8_at_34, ↓rX8_at_35, ↓rX8_at_36, ↓rX8_at_38, ↓rX8_at_44, ↓rX8_at_46, ↓i_in, ↓i_isQuestion, ↓reduceIte, zkeep_n, zkeep_i, zkeep_r, zkeep_l, zup_eq, zIR, zLR, List.length_cons, List.length_nil, Nat.reduceAdd, Nat.reduceLeDiff, Nat.reduceEqDiff, Nat.reduceSub, Int.reduceLE, Int.reduceLT, Int.reduceEq, Int.reduceNe, Int.reduceNeg, Int.reduceAdd, Int.reduceSub, Int.reduceMul, Int.reduceToNat, Nat.le_refl, Nat.zero_le, Nat.zero_add, Int.zero_add, Int.add_zero, and_true, true_and, and_false, false_and, not_true_eq_false, not_false_eq_true, eq_self, ne_eq, true_implies, false_implies, implies_true, or_true, true_or, or_false, false_or, reduceCtorEq, Option.some.injEq, Sum.inl.injEq, exists_eq_left', exists_eq_left, zite]
        repeat' (first | with_reducible apply And.intro | with_reducible intro _)
        all_goals first | omega | (exact bad1 (by omega)) | (exact go (by omega) (by omega))
      · have bad1 := bad (fun z => hm z.2.1) M1 f1.yq
        simp only [↓rX8_at_12, ↓rX8_at_44, ↓rX8_at_46, ↓reduceIte, zkeep_n, zkeep_i, zkeep_r, zkeep_l, zup_eq, zIR, zLR, List.length_cons, List.length_nil, Nat.reduceAdd, Nat.reduceLeDiff, Nat.reduceEqDiff, Nat.reduceSub, Int.reduceLE, Int.reduceLT, Int.reduceEq, Int.reduceNe, Int.reduceNeg, Int.reduceAdd, Int.reduceSub, Int.reduceMul, Int.reduceToNat, Nat.le_refl, Nat.zero_le, Nat.zero_add, Int.zero_add, Int.add_zero, and_true, true_and, and_false, false_and, not_true_eq_false, not_false_eq_true, eq_self, ne_eq, true_implies, false_implies, implies_true, or_true, true_or, or_false, false_or, reduceCtorEq, Option.some.injEq, Sum.inl.injEq, exists_eq_left', exists_eq_left, zite]
        exact bad1
    · exact Or.inr ht
  simp only [↓eX8_at, ↓rX8_at_0, ↓rX8_at_1, ↓rX8_at_4, ↓rX8_at_7, ↓rX8_at_8, ↓rX8_at_9, ↓rX8_at_44, ↓rX8_at_46, ↓i_isTerm, ↓reduceIte, zkeep_n, zkeep_i, zkeep_r, zkeep_l, zup_eq, zIR, zLR, List.length_cons, List.length_nil, Nat.reduceAdd, Nat.reduceLeDiff, Nat.reduceEqDiff, Nat.reduceSub, Int.reduceLE, Int.reduceLT, Int.reduceEq, Int.reduceNe, Int.reduceNeg, Int.reduceAdd, Int.reduceSub, Int.reduceMul, Int.reduceToNat, Nat.le_refl, Nat.zero_le, Nat.zero_add, Int.zero_add, Int.add_zero, and_true, true_and, and_false, false_and, not_true_eq_false, not_false_eq_true, eq_self, ne_eq, true_implies, false_implies, implies_true, or_true, true_or, or_false, false_or, reduceCtorEq, Option.some.injEq, Sum.inl.injEq, exists_eq_left', exists_eq_left, zite]
  repeat' (first | with_reducible apply And.intro | with_reducible intro _)
  all_goals first | omega | (exact bad0 (by omega)) | (exact mem.resolve_right (by omega))
set_option maxRecDepth 100000 in
set_option maxHeartbeats 4000000 in
theorem s_ableOf {S M : zM} {F : zV → zM → Prop} {te me wh : Int} (hW : WX S) (h : RM S M) (hg : (0 ≤ te ∧ te < 20) ∧ (0 ≤ me ∧ me < qn S 0) ∧ (0 ≤ wh ∧ wh < 3)) (hR : ∀ M', YQ M M' → RC S M' → F (.inl (aAble S te me wh)) M') : zcv (zv 8 tX8_ableOf) [.inr (.inr 46), .inl te, .inl me, .inl wh] M F := by
  refine zcvv rfl ?_
  have hk := W_k hW
  unfold aAble at hR
  rw [if_pos hg] at hR
  simp only [↓eX8_ableOf, ↓rX8_ableOf_0, ↓rX8_ableOf_1, ↓reduceIte, zkeep_n, zkeep_i, zkeep_r, zkeep_l, zup_eq, zIR, zLR, List.length_cons, List.length_nil, Nat.reduceAdd, Nat.reduceLeDiff, Nat.reduceEqDiff, Nat.reduceSub, Int.reduceLE, Int.reduceLT, Int.reduceEq, Int.reduceNe, Int.reduceNeg, Int.reduceAdd, Int.reduceSub, Int.reduceMul, Int.reduceToNat, Nat.le_refl, Nat.zero_le, Nat.zero_add, Int.zero_add, Int.add_zero, and_true, true_and, and_false, false_and, not_true_eq_false, not_false_eq_true, eq_self, ne_eq, true_implies, false_implies, implies_true, or_true, true_or, or_false, false_or, reduceCtorEq, Option.some.injEq, Sum.inl.injEq, exists_eq_left', exists_eq_left, zite]
  refine s_runsTold hW h (fun M1 f1 f2 f3 => ?_)
  have fin := hR M1 f1 f2
  have h3 := (f3 me hg.2.1.1 hg.2.1.2).1 te.toNat (by omega)
  rw [Int.toNat_of_nonneg hg.1.1] at h3
  have a1 := h3.2.1
  have a2 := h3.2.2
  have kn : wh = 2 → zcv (zv 8 tX8_knows) [.inr (.inr 46), .inl te, .inl me] M1 (fun v M' => uX8_ableOf (fun r M' => ∃ v, r = some v ∧ F v M') 47 [some (.inr (.inr 46)), some (.inl te), some (.inl me), some (.inl wh)] [v] M') := fun hw => by
    rw [if_neg (by omega), if_neg (by omega)] at fin
    refine s_knowsM (fi := fst S me) f3 (wV_R hW) hk.1.2 hg.2.1.1 hg.2.1.2 hg.1.1 hg.1.2 (W_f hW f2 me hg.2.1.1 hg.2.1.2) (fun q => ?_) (fun q => ?_)
    · rw [if_pos q] at fin
      simp only [↓rX8_ableOf_47, ↓rX8_ableOf_50, ↓rX8_ableOf_51, ↓rX8_ableOf_55, ↓rX8_ableOf_54, ↓reduceIte, zkeep_n, zkeep_i, zkeep_r, zkeep_l, zup_eq, zIR, zLR, List.length_cons, List.length_nil, Nat.reduceAdd, Nat.reduceLeDiff, Nat.reduceEqDiff, Nat.reduceSub, Int.reduceLE, Int.reduceLT, Int.reduceEq, Int.reduceNe, Int.reduceNeg, Int.reduceAdd, Int.reduceSub, Int.reduceMul, Int.reduceToNat, Nat.le_refl, Nat.zero_le, Nat.zero_add, Int.zero_add, Int.add_zero, and_true, true_and, and_false, false_and, not_true_eq_false, not_false_eq_true, eq_self, ne_eq, true_implies, false_implies, implies_true, or_true, true_or, or_false, false_or, reduceCtorEq, Option.some.injEq, Sum.inl.injEq, exists_eq_left', exists_eq_left, zite]
      exact fin
    · rw [if_neg (by rw [q]; simp)] at fin
      simp only [↓rX8_ableOf_47, ↓rX8_ableOf_50, ↓rX8_ableOf_51, ↓rX8_ableOf_55, ↓rX8_ableOf_54, ↓reduceIte, zkeep_n, zkeep_i, zkeep_r, zkeep_l, zup_eq, zIR, zLR, List.length_cons, List.length_nil, Nat.reduceAdd, Nat.reduceLeDiff, Nat.reduceEqDiff, Nat.reduceSub, Int.reduceLE, Int.reduceLT, Int.reduceEq, Int.reduceNe, Int.reduceNeg, Int.reduceAdd, Int.reduceSub, Int.reduceMul, Int.reduceToNat, Nat.le_refl, Nat.zero_le, Nat.zero_add, Int.zero_add, Int.add_zero, and_true, true_and, and_false, false_and, not_true_eq_false, not_false_eq_true, eq_self, ne_eq, true_implies, false_implies, implies_true, or_true, true_or, or_false, false_or, reduceCtorEq, Option.some.injEq, Sum.inl.injEq, exists_eq_left', exists_eq_left, zite]
      exact fin
  simp only [↓rX8_ableOf_4, ↓rX8_ableOf_5, ↓rX8_ableOf_8, ↓rX8_ableOf_9, ↓rX8_ableOf_12, ↓rX8_ableOf_14, ↓rX8_ableOf_15, ↓rX8_ableOf_16, ↓rX8_ableOf_17, ↓rX8_ableOf_18, ↓rX8_ableOf_19, ↓rX8_ableOf_55, ↓rX8_ableOf_22, ↓rX8_ableOf_23, ↓rX8_ableOf_24, ↓rX8_ableOf_27, ↓rX8_ableOf_28, ↓rX8_ableOf_31, ↓rX8_ableOf_33, ↓rX8_ableOf_34, ↓rX8_ableOf_35, ↓rX8_ableOf_36, ↓rX8_ableOf_37, ↓rX8_ableOf_38, ↓rX8_ableOf_41, ↓rX8_ableOf_42, ↓rX8_ableOf_43, ↓rX8_ableOf_44, ↓hg_fX8_70_46, ↓hg_fX8_73_46, ↓hr_47, ↓hr_48, ↓hr_49, ↓hr_50, ↓hr_51, ↓hr_52, ↓hr_53, ↓hr_54, ↓hr_55, ↓hr_56, ↓hr_57, ↓hr_58, ↓hr_59, ↓hr_60, ↓hr_61, ↓hr_62, ↓hr_63, ↓hr_64, ↓hr_65, ↓hr_66, ↓hr_67, ↓hr_68, ↓hr_69, ↓hr_70, ↓hr_71, ↓hr_72, ↓hr_73, ↓hr_74, ↓hr_75, ↓hr_76, ↓hr_77, ↓hr_78, ↓hr_79, ↓hw_47, ↓hw_48, ↓hw_49, ↓hw_50, ↓hw_51, ↓hw_52, ↓hw_53, ↓hw_54, ↓hw_55, ↓hw_56, ↓hw_57, ↓hw_58, ↓hw_59, ↓hw_60, ↓hw_61, ↓hw_62, ↓hw_63, ↓hw_64, ↓hw_65, ↓hw_66, ↓hw_67, ↓hw_68, ↓hw_69, ↓hw_70, ↓hw_71, ↓hw_72, ↓hw_73, ↓hw_74, ↓hw_75, ↓hw_76, ↓hw_77, ↓hw_78, ↓hw_79, ↓reduceIte, zkeep_n, zkeep_i, zkeep_r, zkeep_l, zup_eq, zIR, zLR, List.length_cons, List.length_nil, Nat.reduceAdd, Nat.reduceLeDiff, Nat.reduceEqDiff, Nat.reduceSub, Int.reduceLE, Int.reduceLT, Int.reduceEq, Int.reduceNe, Int.reduceNeg, Int.reduceAdd, Int.reduceSub, Int.reduceMul, Int.reduceToNat, Nat.le_refl, Nat.zero_le, Nat.zero_add, Int.zero_add, Int.add_zero, and_true, true_and, and_false, false_and, not_true_eq_false, not_false_eq_true, eq_self, ne_eq, true_implies, false_implies, implies_true, or_true, true_or, or_false, false_or, reduceCtorEq, Option.some.injEq, Sum.inl.injEq, exists_eq_left', exists_eq_left, a1, a2, zite]
  repeat' (first | with_reducible apply And.intro | with_reducible intro _)
  all_goals first | omega | (rw [if_pos (by omega)] at fin; exact fin) | (rw [if_neg (by omega), if_pos (by omega)] at fin; exact fin) | (exact kn (by omega))
set_option maxRecDepth 100000 in
set_option maxHeartbeats 4000000 in
theorem y_able {S M : zM} {R : zP} {te me wh : Int} (hW : WX S) (h : RM S M) (z1 : zIR te) (z2 : zIR me) (z4 : zIR wh) (hR : ∀ M', YQ M M' → R (some (.inl (aAble S te me wh))) M') : tX8_able [.inr (.inr 46), .inl te, .inl me, .inl wh] M R := by
  have z2' := z2
  unfold zIR at z1 z2 z4
  have bad : ¬ ((0 ≤ te ∧ te < 20) ∧ (0 ≤ me ∧ me < qn S 0) ∧ (0 ≤ wh ∧ wh < 3)) → ∀ M', YQ M M' → R (some (.inl (-2))) M' := fun hb M' q => by
    have := hR M' q
    unfold aAble at this
    rw [if_neg hb] at this
    exact this
  have bad0 := fun q => bad q M YQ.rfl
  have mem : (0 ≤ te ∧ te < 20) → zcv (zv 8 tX8_isMember) [.inr (.inr 46), .inl me] M (fun v M' => uX8_able R 12 [some (.inr (.inr 46)), some (.inl te), some (.inl me), some (.inl wh)] [v] M') := fun ht => by
    refine s_isMember hW h z2' (fun hm M1 f1 f2 => ?_) (fun hm M1 f1 f2 => ?_)
    · have bad1 := fun q => bad q M1 f1.yq
      have go : (0 ≤ wh ∧ wh < 3) → zcv (zv 8 tX8_ableOf) [.inr (.inr 46), .inl te, .inl me, .inl wh] M1 (fun v M' => uX8_able R 31 [some (.inr (.inr 46)), some (.inl te), some (.inl me), some (.inl wh)] [v] M') := fun q2 => by
        refine s_ableOf hW (RM_yq h f1.yq) ⟨ht, hm, q2⟩ (fun M2 g1 g2 => ?_)
        have fin := hR M2 (f1.yq.trans g1)
        simp only [↓rX8_able_31, ↓rX8_able_36, ↓reduceIte, zkeep_n, zkeep_i, zkeep_r, zkeep_l, zup_eq, zIR, zLR, List.length_cons, List.length_nil, Nat.reduceAdd, Nat.reduceLeDiff, Nat.reduceEqDiff, Nat.reduceSub, Int.reduceLE, Int.reduceLT, Int.reduceEq, Int.reduceNe, Int.reduceNeg, Int.reduceAdd, Int.reduceSub, Int.reduceMul, Int.reduceToNat, Nat.le_refl, Nat.zero_le, Nat.zero_add, Int.zero_add, Int.add_zero, and_true, true_and, and_false, false_and, not_true_eq_false, not_false_eq_true, eq_self, ne_eq, true_implies, false_implies, implies_true, or_true, true_or, or_false, false_or, reduceCtorEq, Option.some.injEq, Sum.inl.injEq, exists_eq_left', exists_eq_left, zite]
        exact fin
      simp only [↓rX8_able_12, ↓rX8_able_15, ↓rX8_able_16, ↓rX8_able_17, ↓rX8_able_18, ↓rX8_able_21, ↓rX8_able_24, ↓rX8_able_25, ↓rX8_able_26, ↓rX8_able_27, ↓rX8_able_28, ↓rX8_able_34, ↓rX8_able_36, ↓i_in, ↓reduceIte, zkeep_n, zkeep_i, zkeep_r, zkeep_l, zup_eq, zIR, zLR, List.length_cons, List.length_nil, Nat.reduceAdd, Nat.reduceLeDiff, Nat.reduceEqDiff, Nat.reduceSub, Int.reduceLE, Int.reduceLT, Int.reduceEq, Int.reduceNe, Int.reduceNeg, Int.reduceAdd, Int.reduceSub, Int.reduceMul, Int.reduceToNat, Nat.le_refl, Nat.zero_le, Nat.zero_add, Int.zero_add, Int.add_zero, and_true, true_and, and_false, false_and, not_true_eq_false, not_false_eq_true, eq_self, ne_eq, true_implies, false_implies, implies_true, or_true, true_or, or_false, false_or, reduceCtorEq, Option.some.injEq, Sum.inl.injEq, exists_eq_left', exists_eq_left, zite]
      repeat' (first | with_reducible apply And.intro | with_reducible intro _)
      all_goals first | omega | (exact bad1 (by omega)) | (exact go (by omega))
    · have bad1 := bad (fun z => hm z.2.1) M1 f1.yq
      simp only [↓rX8_able_12, ↓rX8_able_34, ↓rX8_able_36, ↓reduceIte, zkeep_n, zkeep_i, zkeep_r, zkeep_l, zup_eq, zIR, zLR, List.length_cons, List.length_nil, Nat.reduceAdd, Nat.reduceLeDiff, Nat.reduceEqDiff, Nat.reduceSub, Int.reduceLE, Int.reduceLT, Int.reduceEq, Int.reduceNe, Int.reduceNeg, Int.reduceAdd, Int.reduceSub, Int.reduceMul, Int.reduceToNat, Nat.le_refl, Nat.zero_le, Nat.zero_add, Int.zero_add, Int.add_zero, and_true, true_and, and_false, false_and, not_true_eq_false, not_false_eq_true, eq_self, ne_eq, true_implies, false_implies, implies_true, or_true, true_or, or_false, false_or, reduceCtorEq, Option.some.injEq, Sum.inl.injEq, exists_eq_left', exists_eq_left, zite]
      exact bad1
  simp only [↓eX8_able, ↓rX8_able_0, ↓rX8_able_1, ↓rX8_able_4, ↓rX8_able_7, ↓rX8_able_8, ↓rX8_able_9, ↓rX8_able_34, ↓rX8_able_36, ↓i_isTerm, ↓reduceIte, zkeep_n, zkeep_i, zkeep_r, zkeep_l, zup_eq, zIR, zLR, List.length_cons, List.length_nil, Nat.reduceAdd, Nat.reduceLeDiff, Nat.reduceEqDiff, Nat.reduceSub, Int.reduceLE, Int.reduceLT, Int.reduceEq, Int.reduceNe, Int.reduceNeg, Int.reduceAdd, Int.reduceSub, Int.reduceMul, Int.reduceToNat, Nat.le_refl, Nat.zero_le, Nat.zero_add, Int.zero_add, Int.add_zero, and_true, true_and, and_false, false_and, not_true_eq_false, not_false_eq_true, eq_self, ne_eq, true_implies, false_implies, implies_true, or_true, true_or, or_false, false_or, reduceCtorEq, Option.some.injEq, Sum.inl.injEq, exists_eq_left', exists_eq_left, zite]
  repeat' (first | with_reducible apply And.intro | with_reducible intro _)
  all_goals first | omega | (exact bad0 (by omega)) | (exact mem (by omega))
set_option maxRecDepth 100000 in
set_option maxHeartbeats 4000000 in
theorem s_houseOf {S M : zM} {F : zV → zM → Prop} {te qu wh : Int} (hW : WX S) (h : RM S M) (hg : (0 ≤ te ∧ te < 20) ∧ (0 ≤ qu ∧ qu < 4) ∧ (0 ≤ wh ∧ wh < 3)) (hR : ∀ M', YQ M M' → RC S M' → F (.inl (aHouse S te qu wh)) M') : zcv (zv 8 tX8_houseOf) [.inr (.inr 46), .inl te, .inl qu, .inl wh] M F := by
  refine zcvv rfl ?_
  have hk := W_k hW
  unfold aHouse at hR
  rw [if_pos hg] at hR
  simp only [↓eX8_houseOf, ↓rX8_houseOf_0, ↓rX8_houseOf_1, ↓reduceIte, zkeep_n, zkeep_i, zkeep_r, zkeep_l, zup_eq, zIR, zLR, List.length_cons, List.length_nil, Nat.reduceAdd, Nat.reduceLeDiff, Nat.reduceEqDiff, Nat.reduceSub, Int.reduceLE, Int.reduceLT, Int.reduceEq, Int.reduceNe, Int.reduceNeg, Int.reduceAdd, Int.reduceSub, Int.reduceMul, Int.reduceToNat, Nat.le_refl, Nat.zero_le, Nat.zero_add, Int.zero_add, Int.add_zero, and_true, true_and, and_false, false_and, not_true_eq_false, not_false_eq_true, eq_self, ne_eq, true_implies, false_implies, implies_true, or_true, true_or, or_false, false_or, reduceCtorEq, Option.some.injEq, Sum.inl.injEq, exists_eq_left', exists_eq_left, zite]
  refine s_runsTold hW h (fun M1 f1 f2 f3 => ?_)
  have fin := hR M1 f1 f2
  have hc := wct_R (pay S te.toNat qu) (qk S)
  have c0 : wh = 0 → zcv (zv 8 tX8_ayesNow) [.inr (.inr 46), .inl te, .inl qu] M1 (fun v M' => uX8_houseOf (fun r M' => ∃ v, r = some v ∧ F v M') 14 [some (.inr (.inr 46)), some (.inl te), some (.inl qu), some (.inl wh)] [v] M') := fun hw => by
    refine s_ayesNow f3 (wV_R hW) f2.1 hk.1 hg.1 hg.2.1 ?_
    rw [if_pos hw] at fin
    simp only [↓rX8_houseOf_14, ↓rX8_houseOf_49, ↓reduceIte, zkeep_n, zkeep_i, zkeep_r, zkeep_l, zup_eq, zIR, zLR, List.length_cons, List.length_nil, Nat.reduceAdd, Nat.reduceLeDiff, Nat.reduceEqDiff, Nat.reduceSub, Int.reduceLE, Int.reduceLT, Int.reduceEq, Int.reduceNe, Int.reduceNeg, Int.reduceAdd, Int.reduceSub, Int.reduceMul, Int.reduceToNat, Nat.le_refl, Nat.zero_le, Nat.zero_add, Int.zero_add, Int.add_zero, and_true, true_and, and_false, false_and, not_true_eq_false, not_false_eq_true, eq_self, ne_eq, true_implies, false_implies, implies_true, or_true, true_or, or_false, false_or, reduceCtorEq, Option.some.injEq, Sum.inl.injEq, exists_eq_left', exists_eq_left, zite]
    exact fin
  have c1 : wh = 1 → zcv (zv 8 tX8_ayesNow) [.inr (.inr 46), .inl te, .inl qu] M1 (fun v M' => uX8_houseOf (fun r M' => ∃ v, r = some v ∧ F v M') 29 [some (.inr (.inr 46)), some (.inl te), some (.inl qu), some (.inl wh)] [v, .inr (.inr 46)] M') := fun hw => by
    refine s_ayesNow f3 (wV_R hW) f2.1 hk.1 hg.1 hg.2.1 ?_
    rw [if_neg (by omega), if_pos hw] at fin
    have e2 := f2.1
    show uX8_houseOf (fun r M' => ∃ v, r = some v ∧ F v M') 29 [some (.inr (.inr 46)), some (.inl te), some (.inl qu), some (.inl wh)] [.inl (wct (pay S te.toNat qu) (qk S)), .inr (.inr 46)] M1
    simp only [↓rX8_houseOf_29, ↓rX8_houseOf_32, ↓rX8_houseOf_35, ↓rX8_houseOf_36, ↓rX8_houseOf_49, ↓rX8_houseOf_39, ↓rX8_houseOf_40, ↓reduceIte, ↓i_isCarried, zkeep_n, zkeep_i, zkeep_r, zkeep_l, zup_eq, zIR, zLR, List.length_cons, List.length_nil, Nat.reduceAdd, Nat.reduceLeDiff, Nat.reduceEqDiff, Nat.reduceSub, Int.reduceLE, Int.reduceLT, Int.reduceEq, Int.reduceNe, Int.reduceNeg, Int.reduceAdd, Int.reduceSub, Int.reduceMul, Int.reduceToNat, Nat.le_refl, Nat.zero_le, Nat.zero_add, Int.zero_add, Int.add_zero, and_true, true_and, and_false, false_and, not_true_eq_false, not_false_eq_true, eq_self, ne_eq, true_implies, false_implies, implies_true, or_true, true_or, or_false, false_or, reduceCtorEq, Option.some.injEq, Sum.inl.injEq, exists_eq_left', exists_eq_left, e2, zite]
    repeat' (first | with_reducible apply And.intro | with_reducible intro _)
    all_goals first | omega | (rw [if_pos (by omega)] at fin; exact fin) | (rw [if_neg (by omega)] at fin; exact fin)
  have c2 : wh = 2 → zcv (zv 8 tX8_hinges) [.inr (.inr 46), .inl te, .inl qu] M1 (fun v M' => uX8_houseOf (fun r M' => ∃ v, r = some v ∧ F v M') 49 [some (.inr (.inr 46)), some (.inl te), some (.inl qu), some (.inl wh)] [v] M') := fun hw => by
    refine s_hingesM f3 (wV_R hW) f2.1 hk.1 hg.1 hg.2.1 ?_
    rw [if_neg (by omega), if_neg (by omega)] at fin
    simp only [↓rX8_houseOf_49, ↓reduceIte, zkeep_n, zkeep_i, zkeep_r, zkeep_l, zup_eq, zIR, zLR, List.length_cons, List.length_nil, Nat.reduceAdd, Nat.reduceLeDiff, Nat.reduceEqDiff, Nat.reduceSub, Int.reduceLE, Int.reduceLT, Int.reduceEq, Int.reduceNe, Int.reduceNeg, Int.reduceAdd, Int.reduceSub, Int.reduceMul, Int.reduceToNat, Nat.le_refl, Nat.zero_le, Nat.zero_add, Int.zero_add, Int.add_zero, and_true, true_and, and_false, false_and, not_true_eq_false, not_false_eq_true, eq_self, ne_eq, true_implies, false_implies, implies_true, or_true, true_or, or_false, false_or, reduceCtorEq, Option.some.injEq, Sum.inl.injEq, exists_eq_left', exists_eq_left, zite]
    exact fin
  simp only [↓rX8_houseOf_4, ↓rX8_houseOf_5, ↓rX8_houseOf_8, ↓rX8_houseOf_9, ↓rX8_houseOf_10, ↓rX8_houseOf_11, ↓rX8_houseOf_17, ↓rX8_houseOf_18, ↓rX8_houseOf_19, ↓rX8_houseOf_22, ↓rX8_houseOf_23, ↓rX8_houseOf_24, ↓rX8_houseOf_25, ↓rX8_houseOf_26, ↓rX8_houseOf_43, ↓rX8_houseOf_44, ↓rX8_houseOf_45, ↓rX8_houseOf_46, ↓reduceIte, zkeep_n, zkeep_i, zkeep_r, zkeep_l, zup_eq, zIR, zLR, List.length_cons, List.length_nil, Nat.reduceAdd, Nat.reduceLeDiff, Nat.reduceEqDiff, Nat.reduceSub, Int.reduceLE, Int.reduceLT, Int.reduceEq, Int.reduceNe, Int.reduceNeg, Int.reduceAdd, Int.reduceSub, Int.reduceMul, Int.reduceToNat, Nat.le_refl, Nat.zero_le, Nat.zero_add, Int.zero_add, Int.add_zero, and_true, true_and, and_false, false_and, not_true_eq_false, not_false_eq_true, eq_self, ne_eq, true_implies, false_implies, implies_true, or_true, true_or, or_false, false_or, reduceCtorEq, Option.some.injEq, Sum.inl.injEq, exists_eq_left', exists_eq_left, zite]
  repeat' (first | with_reducible apply And.intro | with_reducible intro _)
  all_goals first | omega | (exact c0 (by omega)) | (exact c1 (by omega)) | (exact c2 (by omega))
set_option maxRecDepth 100000 in
set_option maxHeartbeats 4000000 in
theorem y_house {S M : zM} {R : zP} {te qu wh : Int} (hW : WX S) (h : RM S M) (z1 : zIR te) (z2 : zIR qu) (z4 : zIR wh) (hR : ∀ M', YQ M M' → R (some (.inl (aHouse S te qu wh))) M') : tX8_house [.inr (.inr 46), .inl te, .inl qu, .inl wh] M R := by
  unfold zIR at z1 z2 z4
  have bad : ¬ ((0 ≤ te ∧ te < 20) ∧ (0 ≤ qu ∧ qu < 4) ∧ (0 ≤ wh ∧ wh < 3)) → R (some (.inl (-2))) M := fun hb => by
    have := hR M YQ.rfl
    unfold aHouse at this
    rw [if_neg hb] at this
    exact this
  have go : ((0 ≤ te ∧ te < 20) ∧ (0 ≤ qu ∧ qu < 4) ∧ (0 ≤ wh ∧ wh < 3)) → zcv (zv 8 tX8_houseOf) [.inr (.inr 46), .inl te, .inl qu, .inl wh] M (fun v M' => uX8_house R 30 [some (.inr (.inr 46)), some (.inl te), some (.inl qu), some (.inl wh)] [v] M') := fun q => by
    refine s_houseOf hW h q (fun M2 g1 g2 => ?_)
    have fin := hR M2 g1
    simp only [↓rX8_house_30, ↓rX8_house_35, ↓reduceIte, zkeep_n, zkeep_i, zkeep_r, zkeep_l, zup_eq, zIR, zLR, List.length_cons, List.length_nil, Nat.reduceAdd, Nat.reduceLeDiff, Nat.reduceEqDiff, Nat.reduceSub, Int.reduceLE, Int.reduceLT, Int.reduceEq, Int.reduceNe, Int.reduceNeg, Int.reduceAdd, Int.reduceSub, Int.reduceMul, Int.reduceToNat, Nat.le_refl, Nat.zero_le, Nat.zero_add, Int.zero_add, Int.add_zero, and_true, true_and, and_false, false_and, not_true_eq_false, not_false_eq_true, eq_self, ne_eq, true_implies, false_implies, implies_true, or_true, true_or, or_false, false_or, reduceCtorEq, Option.some.injEq, Sum.inl.injEq, exists_eq_left', exists_eq_left, zite]
    exact fin
  simp only [↓eX8_house, ↓rX8_house_0, ↓rX8_house_1, ↓rX8_house_4, ↓rX8_house_7, ↓rX8_house_8, ↓rX8_house_11, ↓rX8_house_14, ↓rX8_house_15, ↓rX8_house_16, ↓rX8_house_17, ↓rX8_house_20, ↓rX8_house_23, ↓rX8_house_24, ↓rX8_house_25, ↓rX8_house_26, ↓rX8_house_27, ↓rX8_house_33, ↓rX8_house_35, ↓i_in, ↓i_isQuestion, ↓i_isTerm, ↓reduceIte, zkeep_n, zkeep_i, zkeep_r, zkeep_l, zup_eq, zIR, zLR, List.length_cons, List.length_nil, Nat.reduceAdd, Nat.reduceLeDiff, Nat.reduceEqDiff, Nat.reduceSub, Int.reduceLE, Int.reduceLT, Int.reduceEq, Int.reduceNe, Int.reduceNeg, Int.reduceAdd, Int.reduceSub, Int.reduceMul, Int.reduceToNat, Nat.le_refl, Nat.zero_le, Nat.zero_add, Int.zero_add, Int.add_zero, and_true, true_and, and_false, false_and, not_true_eq_false, not_false_eq_true, eq_self, ne_eq, true_implies, false_implies, implies_true, or_true, true_or, or_false, false_or, reduceCtorEq, Option.some.injEq, Sum.inl.injEq, exists_eq_left', exists_eq_left, zite]
  repeat' (first | with_reducible apply And.intro | with_reducible intro _)
  all_goals first | omega | (exact bad (by omega)) | (exact go (by omega))
set_option maxRecDepth 100000 in
set_option maxHeartbeats 4000000 in
theorem s_weanedOf {S M : zM} {F : zV → zM → Prop} (hW : WX S) (h : RM S M) (hR : ∀ M', YQ M M' → RC S M' → F (.inl (aWeaned S)) M') : zcv (zv 8 tX8_weanedOf) [.inr (.inr 46)] M F := by
  refine zcvv rfl ?_
  have hk := W_k hW
  simp only [↓eX8_weanedOf, ↓rX8_weanedOf_0, ↓rX8_weanedOf_1, ↓reduceIte, zkeep_n, zkeep_i, zkeep_r, zkeep_l, zup_eq, zIR, zLR, List.length_cons, List.length_nil, Nat.reduceAdd, Nat.reduceLeDiff, Nat.reduceEqDiff, Nat.reduceSub, Int.reduceLE, Int.reduceLT, Int.reduceEq, Int.reduceNe, Int.reduceNeg, Int.reduceAdd, Int.reduceSub, Int.reduceMul, Int.reduceToNat, Nat.le_refl, Nat.zero_le, Nat.zero_add, Int.zero_add, Int.add_zero, and_true, true_and, and_false, false_and, not_true_eq_false, not_false_eq_true, eq_self, ne_eq, true_implies, false_implies, implies_true, or_true, true_or, or_false, false_or, reduceCtorEq, Option.some.injEq, Sum.inl.injEq, exists_eq_left', exists_eq_left, zite]
  refine s_runsTold hW h (fun M1 f1 f2 f3 => ?_)
  simp only [↓rX8_weanedOf_4, ↓rX8_weanedOf_5, ↓reduceIte, zkeep_n, zkeep_i, zkeep_r, zkeep_l, zup_eq, zIR, zLR, List.length_cons, List.length_nil, Nat.reduceAdd, Nat.reduceLeDiff, Nat.reduceEqDiff, Nat.reduceSub, Int.reduceLE, Int.reduceLT, Int.reduceEq, Int.reduceNe, Int.reduceNeg, Int.reduceAdd, Int.reduceSub, Int.reduceMul, Int.reduceToNat, Nat.le_refl, Nat.zero_le, Nat.zero_add, Int.zero_add, Int.add_zero, and_true, true_and, and_false, false_and, not_true_eq_false, not_false_eq_true, eq_self, ne_eq, true_implies, false_implies, implies_true, or_true, true_or, or_false, false_or, reduceCtorEq, Option.some.injEq, Sum.inl.injEq, exists_eq_left', exists_eq_left, zite]
  refine s_weanedNow (fi := fst S) f3 (wV_R hW) f2.1 hk.1 (W_f hW f2) ?_
  have fin := hR M1 f1 f2
  simp only [↓rX8_weanedOf_8, ↓reduceIte, zkeep_n, zkeep_i, zkeep_r, zkeep_l, zup_eq, zIR, zLR, List.length_cons, List.length_nil, Nat.reduceAdd, Nat.reduceLeDiff, Nat.reduceEqDiff, Nat.reduceSub, Int.reduceLE, Int.reduceLT, Int.reduceEq, Int.reduceNe, Int.reduceNeg, Int.reduceAdd, Int.reduceSub, Int.reduceMul, Int.reduceToNat, Nat.le_refl, Nat.zero_le, Nat.zero_add, Int.zero_add, Int.add_zero, and_true, true_and, and_false, false_and, not_true_eq_false, not_false_eq_true, eq_self, ne_eq, true_implies, false_implies, implies_true, or_true, true_or, or_false, false_or, reduceCtorEq, Option.some.injEq, Sum.inl.injEq, exists_eq_left', exists_eq_left, zite]
  exact fin
theorem y_weaned {S M : zM} {R : zP} (hW : WX S) (h : RM S M) (hR : ∀ M', YQ M M' → R (some (.inl (aWeaned S))) M') : tX8_weaned [.inr (.inr 46)] M R := by
  simp only [↓eX8_weaned, ↓rX8_weaned_0, ↓rX8_weaned_1, ↓reduceIte, zkeep_n, zkeep_i, zkeep_r, zkeep_l, zup_eq, zIR, zLR, List.length_cons, List.length_nil, Nat.reduceAdd, Nat.reduceLeDiff, Nat.reduceEqDiff, Nat.reduceSub, Int.reduceLE, Int.reduceLT, Int.reduceEq, Int.reduceNe, Int.reduceNeg, Int.reduceAdd, Int.reduceSub, Int.reduceMul, Int.reduceToNat, Nat.le_refl, Nat.zero_le, Nat.zero_add, Int.zero_add, Int.add_zero, and_true, true_and, and_false, false_and, not_true_eq_false, not_false_eq_true, eq_self, ne_eq, true_implies, false_implies, implies_true, or_true, true_or, or_false, false_or, reduceCtorEq, Option.some.injEq, Sum.inl.injEq, exists_eq_left', exists_eq_left, zite]
  refine s_weanedOf hW h (fun M1 f1 f2 => ?_)
  have fin := hR M1 f1
  simp only [↓rX8_weaned_4, ↓reduceIte, zkeep_n, zkeep_i, zkeep_r, zkeep_l, zup_eq, zIR, zLR, List.length_cons, List.length_nil, Nat.reduceAdd, Nat.reduceLeDiff, Nat.reduceEqDiff, Nat.reduceSub, Int.reduceLE, Int.reduceLT, Int.reduceEq, Int.reduceNe, Int.reduceNeg, Int.reduceAdd, Int.reduceSub, Int.reduceMul, Int.reduceToNat, Nat.le_refl, Nat.zero_le, Nat.zero_add, Int.zero_add, Int.add_zero, and_true, true_and, and_false, false_and, not_true_eq_false, not_false_eq_true, eq_self, ne_eq, true_implies, false_implies, implies_true, or_true, true_or, or_false, false_or, reduceCtorEq, Option.some.injEq, Sum.inl.injEq, exists_eq_left', exists_eq_left, zite]
  exact fin
set_option maxRecDepth 100000 in
set_option maxHeartbeats 4000000 in
theorem s_noOf {S M : zM} {F : zV → zM → Prop} {qu : Int} (hW : WX S) (h : RM S M) (hg : 0 ≤ qu ∧ qu < 4) (hR : ∀ M', YQ M M' → RC S M' → F (.inl (aSays S qu)) M') : zcv (zv 8 tX8_noOf) [.inr (.inr 46), .inl qu] M F := by
  refine zcvv rfl ?_
  have hk := W_k hW
  unfold aSays at hR
  rw [if_pos hg] at hR
  simp only [↓eX8_noOf, ↓rX8_noOf_0, ↓rX8_noOf_1, ↓reduceIte, zkeep_n, zkeep_i, zkeep_r, zkeep_l, zup_eq, zIR, zLR, List.length_cons, List.length_nil, Nat.reduceAdd, Nat.reduceLeDiff, Nat.reduceEqDiff, Nat.reduceSub, Int.reduceLE, Int.reduceLT, Int.reduceEq, Int.reduceNe, Int.reduceNeg, Int.reduceAdd, Int.reduceSub, Int.reduceMul, Int.reduceToNat, Nat.le_refl, Nat.zero_le, Nat.zero_add, Int.zero_add, Int.add_zero, and_true, true_and, and_false, false_and, not_true_eq_false, not_false_eq_true, eq_self, ne_eq, true_implies, false_implies, implies_true, or_true, true_or, or_false, false_or, reduceCtorEq, Option.some.injEq, Sum.inl.injEq, exists_eq_left', exists_eq_left, zite]
  refine s_runsTold hW h (fun M1 f1 f2 f3 => ?_)
  have fin := hR M1 f1 f2
  have e2 := f2.1
  have hc := wct_R (pay S 19 qu) (qk S)
  generalize hp : pay S 19 qu = p at *
  have tail : ∀ fo x3, fo = wlst (fun m => !p m) (qk S) → uX8_noOf (fun r M' => ∃ v, r = some v ∧ F v M') 40 [some (.inr (.inr 46)), some (.inl qu), some (.inl fo), x3] [] M1 := fun fo x3 hfo => by
    simp only [↓rX8_noOf_40, ↓rX8_noOf_41, ↓rX8_noOf_42, ↓rX8_noOf_44, ↓rX8_noOf_45, ↓reduceIte, zkeep_n, zkeep_i, zkeep_r, zkeep_l, zup_eq, zIR, zLR, List.length_cons, List.length_nil, Nat.reduceAdd, Nat.reduceLeDiff, Nat.reduceEqDiff, Nat.reduceSub, Int.reduceLE, Int.reduceLT, Int.reduceEq, Int.reduceNe, Int.reduceNeg, Int.reduceAdd, Int.reduceSub, Int.reduceMul, Int.reduceToNat, Nat.le_refl, Nat.zero_le, Nat.zero_add, Int.zero_add, Int.add_zero, and_true, true_and, and_false, false_and, not_true_eq_false, not_false_eq_true, eq_self, ne_eq, true_implies, false_implies, implies_true, or_true, true_or, or_false, false_or, reduceCtorEq, Option.some.injEq, Sum.inl.injEq, exists_eq_left', exists_eq_left, zite]
    refine s_ayesNow f3 (wV_R hW) e2 hk.1 (by decide) hg ?_
    have e : (fun m : Nat => decide (5 ≤ wV S m (19 : Int).toNat qu)) = p := hp
    rw [e]
    simp only [↓rX8_noOf_48, ↓rX8_noOf_51, ↓rX8_noOf_54, ↓rX8_noOf_55, ↓rX8_noOf_59, ↓rX8_noOf_58, ↓reduceIte, ↓i_isCarried, zkeep_n, zkeep_i, zkeep_r, zkeep_l, zup_eq, zIR, zLR, List.length_cons, List.length_nil, Nat.reduceAdd, Nat.reduceLeDiff, Nat.reduceEqDiff, Nat.reduceSub, Int.reduceLE, Int.reduceLT, Int.reduceEq, Int.reduceNe, Int.reduceNeg, Int.reduceAdd, Int.reduceSub, Int.reduceMul, Int.reduceToNat, Nat.le_refl, Nat.zero_le, Nat.zero_add, Int.zero_add, Int.add_zero, and_true, true_and, and_false, false_and, not_true_eq_false, not_false_eq_true, eq_self, ne_eq, true_implies, false_implies, implies_true, or_true, true_or, or_false, false_or, reduceCtorEq, Option.some.injEq, Sum.inl.injEq, exists_eq_left', exists_eq_left, e2, zite]
    repeat' (first | with_reducible apply And.intro | with_reducible intro _)
    all_goals first | omega | (rw [if_pos (by omega)] at fin; exact fin) | (rw [if_neg (by omega)] at fin; rw [hfo]; exact fin)
  have L : ∀ s : Int × Int, ((-1 ≤ s.1 ∧ s.1 < qk S) ∧ ((s.2 = -1 ∧ ∀ j : Nat, s.1 < j → j < qk S → p j = true) ∨ (s.1 < s.2 ∧ s.2 < qk S ∧ 0 ≤ s.2 ∧ p s.2.toNat = false ∧ ∀ j : Nat, s.1 < j → (j : Int) < s.2 → p j = true))) → uX8_noOf (fun r M' => ∃ v, r = some v ∧ F v M') 13 [some (.inr (.inr 46)), some (.inl qu), some (.inl s.2), some (.inl s.1)] [] M1 := by
    refine zind (fun s => (s.1 + 1).toNat) ?_
    rintro ⟨k, fo⟩ ⟨hk1, hfo⟩ ih
    simp only at hk1 hfo ih
    refine rX8_noOf_13.mpr ?_
    by_cases he : k = -1
    · subst he
      have tl := tail fo (some (.inl (-1))) (by
        rcases hfo with ⟨rfl, ha⟩ | ⟨a1, a2, a3, a4, a5⟩
        · exact (wlst_none _ (fun j hj => by simp [ha j (by omega) hj])).symm
        · have := wlst_found (p := fun m => !p m) (m := fo.toNat) (by simp [a4]) (fun j hj => by simp [a5 j (by omega) (by omega)]) (qk S) (by omega)
          rw [this]
          omega)
      simp only [↓rX8_noOf_14, ↓reduceIte, zkeep_n, zkeep_i, zkeep_r, zkeep_l, zup_eq, zIR, zLR, List.length_cons, List.length_nil, Nat.reduceAdd, Nat.reduceLeDiff, Nat.reduceEqDiff, Nat.reduceSub, Int.reduceLE, Int.reduceLT, Int.reduceEq, Int.reduceNe, Int.reduceNeg, Int.reduceAdd, Int.reduceSub, Int.reduceMul, Int.reduceToNat, Nat.le_refl, Nat.zero_le, Nat.zero_add, Int.zero_add, Int.add_zero, and_true, true_and, and_false, false_and, not_true_eq_false, not_false_eq_true, eq_self, ne_eq, true_implies, false_implies, implies_true, or_true, true_or, or_false, false_or, reduceCtorEq, Option.some.injEq, Sum.inl.injEq, exists_eq_left', exists_eq_left, zite]
      repeat' (first | with_reducible apply And.intro | with_reducible intro _)
      all_goals first | omega | (exact tl)
    · have a := (HV_at f3 (k := k) (by omega) (by omega) (t := 19) (by decide) (by decide) hg.1 hg.2).1
      have v := (wV_R hW k (by omega) (by omega) 19 (by decide)).1 qu (by omega) (by omega)
      have a : M1 64 (608 + 4 * k + qu) = wV S k 19 qu := a
      have hpk : p k.toNat = true ↔ 5 ≤ wV S k 19 qu := by
        rw [← hp]
        unfold pay
        rw [decide_eq_true_eq, Int.toNat_of_nonneg (by omega)]
      have yes : 5 ≤ wV S k 19 qu → uX8_noOf (fun r M' => ∃ v, r = some v ∧ F v M') 13 [some (.inr (.inr 46)), some (.inl qu), some (.inl fo), some (.inl (k + -1))] [] M1 := fun q => by
        have hpt := hpk.mpr q
        refine ih (k + -1, fo) ⟨by simp only; omega, ?_⟩ (by simp only; omega)
        rcases hfo with ⟨e, ha⟩ | ⟨a1, a2, a3, a4, a5⟩
        · refine Or.inl ⟨e, fun j j0 j1 => ?_⟩
          simp only at j0
          by_cases ej : (j : Int) = k
          · have : j = k.toNat := by omega
            rw [this]; exact hpt
          · exact ha j (by omega) j1
        · refine Or.inr ⟨by simp only; omega, a2, a3, a4, fun j j0 j1 => ?_⟩
          simp only at j0 j1
          by_cases ej : (j : Int) = k
          · have : j = k.toNat := by omega
            rw [this]; exact hpt
          · exact a5 j (by omega) j1
      have no : ¬ 5 ≤ wV S k 19 qu → uX8_noOf (fun r M' => ∃ v, r = some v ∧ F v M') 13 [some (.inr (.inr 46)), some (.inl qu), some (.inl k), some (.inl (k + -1))] [] M1 := fun q => by
        have hpt : p k.toNat = false := by rw [← Bool.not_eq_true, hpk]; exact q
        refine ih (k + -1, k) ⟨by simp only; omega, Or.inr ⟨by simp only; omega, by simp only; omega, by simp only; omega, hpt, fun j j0 j1 => by simp only at j0 j1; omega⟩⟩ (by simp only; omega)
      simp only [↓rX8_noOf_14, ↓rX8_noOf_17, ↓rX8_noOf_18, ↓rX8_noOf_20, ↓rX8_noOf_21, ↓rX8_noOf_22, ↓rX8_noOf_25, ↓rX8_noOf_28, ↓rX8_noOf_29, ↓rX8_noOf_33, ↓rX8_noOf_34, ↓rX8_noOf_37, ↓rX8_noOf_32, ↓reduceIte, ↓i_isAye, zkeep_n, zkeep_i, zkeep_r, zkeep_l, zup_eq, zIR, zLR, List.length_cons, List.length_nil, Nat.reduceAdd, Nat.reduceLeDiff, Nat.reduceEqDiff, Nat.reduceSub, Int.reduceLE, Int.reduceLT, Int.reduceEq, Int.reduceNe, Int.reduceNeg, Int.reduceAdd, Int.reduceSub, Int.reduceMul, Int.reduceToNat, Nat.le_refl, Nat.zero_le, Nat.zero_add, Int.zero_add, Int.add_zero, and_true, true_and, and_false, false_and, not_true_eq_false, not_false_eq_true, eq_self, ne_eq, true_implies, false_implies, implies_true, or_true, true_or, or_false, false_or, reduceCtorEq, Option.some.injEq, Sum.inl.injEq, exists_eq_left', exists_eq_left, a, zite]
      repeat' (first | with_reducible apply And.intro | with_reducible intro _)
      all_goals first | omega | (exact yes (by omega)) | (exact no (by omega))
  have st := L (qk S - 1, -1) ⟨by simp only; omega, Or.inl ⟨rfl, fun j j0 j1 => by simp only at j0; omega⟩⟩
  have e3 : (qn S 0 - 1) = (qk S : Int) - 1 := by omega
  simp only [↓rX8_noOf_4, ↓rX8_noOf_5, ↓rX8_noOf_6, ↓rX8_noOf_7, ↓rX8_noOf_10, ↓rX8_noOf_11, ↓rX8_noOf_12, ↓hg_fX8_127_46, ↓reduceIte, zkeep_n, zkeep_i, zkeep_r, zkeep_l, zup_eq, zIR, zLR, List.length_cons, List.length_nil, Nat.reduceAdd, Nat.reduceLeDiff, Nat.reduceEqDiff, Nat.reduceSub, Int.reduceLE, Int.reduceLT, Int.reduceEq, Int.reduceNe, Int.reduceNeg, Int.reduceAdd, Int.reduceSub, Int.reduceMul, Int.reduceToNat, Nat.le_refl, Nat.zero_le, Nat.zero_add, Int.zero_add, Int.add_zero, and_true, true_and, and_false, false_and, not_true_eq_false, not_false_eq_true, eq_self, ne_eq, true_implies, false_implies, implies_true, or_true, true_or, or_false, false_or, reduceCtorEq, Option.some.injEq, Sum.inl.injEq, exists_eq_left', exists_eq_left, e2, zite]
  rw [e3]
  exact st
set_option maxRecDepth 100000 in
set_option maxHeartbeats 4000000 in
theorem y_says {S M : zM} {R : zP} {qu : Int} (hW : WX S) (h : RM S M) (z2 : zIR qu) (hR : ∀ M', YQ M M' → R (some (.inl (aSays S qu))) M') : tX8_says [.inr (.inr 46), .inl qu] M R := by
  unfold zIR at z2
  have bad : ¬ (0 ≤ qu ∧ qu < 4) → R (some (.inl (-2))) M := fun hb => by
    have := hR M YQ.rfl
    unfold aSays at this
    rw [if_neg hb] at this
    exact this
  have go : (0 ≤ qu ∧ qu < 4) → zcv (zv 8 tX8_noOf) [.inr (.inr 46), .inl qu] M (fun v M' => uX8_says R 12 [some (.inr (.inr 46)), some (.inl qu)] [v] M') := fun q => by
    refine s_noOf hW h q (fun M2 g1 g2 => ?_)
    have fin := hR M2 g1
    simp only [↓rX8_says_12, ↓rX8_says_17, ↓reduceIte, zkeep_n, zkeep_i, zkeep_r, zkeep_l, zup_eq, zIR, zLR, List.length_cons, List.length_nil, Nat.reduceAdd, Nat.reduceLeDiff, Nat.reduceEqDiff, Nat.reduceSub, Int.reduceLE, Int.reduceLT, Int.reduceEq, Int.reduceNe, Int.reduceNeg, Int.reduceAdd, Int.reduceSub, Int.reduceMul, Int.reduceToNat, Nat.le_refl, Nat.zero_le, Nat.zero_add, Int.zero_add, Int.add_zero, and_true, true_and, and_false, false_and, not_true_eq_false, not_false_eq_true, eq_self, ne_eq, true_implies, false_implies, implies_true, or_true, true_or, or_false, false_or, reduceCtorEq, Option.some.injEq, Sum.inl.injEq, exists_eq_left', exists_eq_left, zite]
    exact fin
  simp only [↓eX8_says, ↓rX8_says_0, ↓rX8_says_1, ↓rX8_says_4, ↓rX8_says_7, ↓rX8_says_8, ↓rX8_says_9, ↓rX8_says_15, ↓rX8_says_17, ↓i_isQuestion, ↓reduceIte, zkeep_n, zkeep_i, zkeep_r, zkeep_l, zup_eq, zIR, zLR, List.length_cons, List.length_nil, Nat.reduceAdd, Nat.reduceLeDiff, Nat.reduceEqDiff, Nat.reduceSub, Int.reduceLE, Int.reduceLT, Int.reduceEq, Int.reduceNe, Int.reduceNeg, Int.reduceAdd, Int.reduceSub, Int.reduceMul, Int.reduceToNat, Nat.le_refl, Nat.zero_le, Nat.zero_add, Int.zero_add, Int.add_zero, and_true, true_and, and_false, false_and, not_true_eq_false, not_false_eq_true, eq_self, ne_eq, true_implies, false_implies, implies_true, or_true, true_or, or_false, false_or, reduceCtorEq, Option.some.injEq, Sum.inl.injEq, exists_eq_left', exists_eq_left, zite]
  repeat' (first | with_reducible apply And.intro | with_reducible intro _)
  all_goals first | omega | (exact bad (by omega)) | (exact go (by omega))
