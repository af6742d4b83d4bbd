set_option maxRecDepth 100000 in
set_option maxHeartbeats 8000000 in
theorem s_yearsOf {S M : zM} {F : zV → zM → Prop} {s n wh : Int} (hW : WX S) (h : RM S M) (hg : (0 ≤ n ∧ n < 9) ∧ (0 ≤ wh ∧ wh < 2)) (hR : ∀ M', YQ M M' → RC S M' → F (.inl (aYears S s n wh)) M') : zcv (zv 8 tX8_yearsOf) [.inr (.inr 46), .inl s, .inl n, .inl wh] M F := by
  refine zcvv rfl ?_
  have hk := W_k hW
  have hqk8 := hk.2.2.2.2.2.1
  have hqr : QR S := by obtain ⟨M0, hX⟩ := hW; exact hX.2.2.2.1.1
  obtain ⟨y8, hgD⟩ : yk S n ≤ 8 ∧ ∀ f : Nat, f < yk S n → (0 ≤ gD S s 1 f ∧ gD S s 1 f < 20) ∧ (0 ≤ gD S s 2 f ∧ gD S s 2 f < qn S 0) ∧ (0 ≤ gD S s 3 f ∧ gD S s 3 f < qn S 1) := by obtain ⟨M0, hX⟩ := hW; exact gD_R hX s n hg.1
  unfold aYears at hR
  rw [if_pos hg] at hR
  simp only [↓eX8_yearsOf, ↓rX8_yearsOf_0, ↓rX8_yearsOf_1, ↓reduceIte, zkeep_n, zkeep_i, zkeep_r, zkeep_l, zup_eq, zIR, zLR, List.length_cons, List.length_nil, Nat.reduceAdd, Nat.reduceLeDiff, Nat.reduceEqDiff, Nat.reduceSub, Int.reduceLE, Int.reduceLT, Int.reduceEq, Int.reduceNe, Int.reduceNeg, Int.reduceAdd, Int.reduceSub, Int.reduceMul, Int.reduceToNat, Nat.le_refl, Nat.zero_le, Nat.zero_add, Int.zero_add, Int.add_zero, and_true, true_and, and_false, false_and, not_true_eq_false, not_false_eq_true, eq_self, ne_eq, true_implies, false_implies, implies_true, or_true, true_or, or_false, false_or, reduceCtorEq, Option.some.injEq, Sum.inl.injEq, exists_eq_left', exists_eq_left, zite]
  refine zcnv rfl (s_asTold hW h (fun M1 f1 f2 f3 f4 f5 => ⟨rfl, ?_⟩))
  have hCT := told_CF hW f2 f3 f5
  have c3 := hCT.2.2.1
  have e2 := f2.1
  have e5 := f2.2.1
  generalize hy : yk S n = y at *
  have fG : ∀ i : Nat, gD S s 1 i = lot s (3 * i + 1) 20 ∧ gD S s 2 i = lot s (3 * i + 2) (qn S 0) ∧ gD S s 3 i = lot s (3 * i + 3) (qn S 1) := fun i => by
    refine ⟨?_, ?_, ?_⟩
    · unfold gD; rw [if_pos rfl, Int.toNat_natCast]
    · unfold gD; rw [if_neg (by decide), if_pos rfl, Int.toNat_natCast]
    · unfold gD; rw [if_neg (by decide), if_neg (by decide), Int.toNat_natCast]
  have hpos : 0 < y → 0 < qn S 0 ∧ 0 < qn S 1 := fun q => by
    rw [← hy] at q
    unfold yk at q
    split at q <;> omega
  have tail : ∀ (N : zM) (x4 x5 : Option zV), YS M1 N → CF S N (gD S s) y (so0 S) (fst S) → uX8_yearsOf (fun r M' => ∃ v, r = some v ∧ F v M') 133 [some (.inr (.inr 46)), some (.inl s), some (.inl n), some (.inl wh), x4, x5] [] N := by
    intro N x4 x5 hN hC
    simp only [↓rX8_yearsOf_133, ↓rX8_yearsOf_134, ↓reduceIte, zkeep_n, zkeep_i, zkeep_r, zkeep_l, zup_eq, zIR, zLR, List.length_cons, List.length_nil, Nat.reduceAdd, Nat.reduceLeDiff, Nat.reduceEqDiff, Nat.reduceSub, Int.reduceLE, Int.reduceLT, Int.reduceEq, Int.reduceNe, Int.reduceNeg, Int.reduceAdd, Int.reduceSub, Int.reduceMul, Int.reduceToNat, Nat.le_refl, Nat.zero_le, Nat.zero_add, Int.zero_add, Int.add_zero, and_true, true_and, and_false, false_and, not_true_eq_false, not_false_eq_true, eq_self, ne_eq, true_implies, false_implies, implies_true, or_true, true_or, or_false, false_or, reduceCtorEq, Option.some.injEq, Sum.inl.injEq, exists_eq_left', exists_eq_left, zite]
    refine zcnv rfl (s_runs hqr hC (nt := 0) ((hN _ _ (by decide) (by decide)).trans f4) (fun N' q1 q2 => ⟨rfl, ?_⟩))
    have hYS : YS M1 N' := hN.trans (fun k i a b => q1 k i (by omega))
    have fin := hR N' (f1.yq.trans (fun k i a b => hYS k i (by omega) (fun e => (b e).2.2.1))) (hYS.rc f2)
    have hH : HV S N' (wvec S (gD S s) y kall) := HV_cg (V := wG S (gD S s) y (knt 0) (so0 S) (fst S)) q2 (fun k a b t ht => wseg_kp (fun f hf => knt_0d ⟨f, by omega⟩) _)
    have hV : VR S (wvec S (gD S s) y kall) := fun k a b t ht => vokb_wG (g := gD S s) (n := y) (kp := kall) (so := so0 S) (fi := fst S) (k := k) (T := t) hqr (fun q q0 q1 => ((c3 k a b).2 q q0 q1).2) (fun f hf => (hgD f hf).2.2.1) (by omega) ht
    have m2 : N' 46 2 = qn S 0 := (hYS _ _ (by decide) (by decide)).trans e2
    have c0 : wh = 0 → zcv (zv 8 tX8_weanedNow) [.inr (.inr 46)] N' (fun v M' => uX8_yearsOf (fun r M' => ∃ v, r = some v ∧ F v M') 146 [some (.inr (.inr 46)), some (.inl s), some (.inl n), some (.inl wh), x4, x5] [v, .inr (.inr 46)] M') := fun q => by
      refine s_weanedNow (fi := fst S) hH hV m2 hk.1 (fun k a b q q0 q1 => ?_) ?_
      · rw [hYS _ _ (by decide) (fun e => by omega)]
        exact (c3 k a b).2 q q0 q1
      · have h8 := wbs_8 (fun m => !wknb (wvec S (gD S s) y kall m 19) (fst S m)) hqk8
        simp only [↓rX8_yearsOf_146, ↓reduceIte, zkeep_n, zkeep_i, zkeep_r, zkeep_l, zup_eq, zIR, zLR, List.length_cons, List.length_nil, Nat.reduceAdd, Nat.reduceLeDiff, Nat.reduceEqDiff, Nat.reduceSub, Int.reduceLE, Int.reduceLT, Int.reduceEq, Int.reduceNe, Int.reduceNeg, Int.reduceAdd, Int.reduceSub, Int.reduceMul, Int.reduceToNat, Nat.le_refl, Nat.zero_le, Nat.zero_add, Int.zero_add, Int.add_zero, and_true, true_and, and_false, false_and, not_true_eq_false, not_false_eq_true, eq_self, ne_eq, true_implies, false_implies, implies_true, or_true, true_or, or_false, false_or, reduceCtorEq, Option.some.injEq, Sum.inl.injEq, exists_eq_left', exists_eq_left, zite]
        refine s_ones h8.1 h8.2 ?_
        rw [wones_wbs _ _ hqk8]
        rw [if_pos q] at fin
        simp only [↓rX8_yearsOf_149, ↓rX8_yearsOf_156, ↓reduceIte, zkeep_n, zkeep_i, zkeep_r, zkeep_l, zup_eq, zIR, zLR, List.length_cons, List.length_nil, Nat.reduceAdd, Nat.reduceLeDiff, Nat.reduceEqDiff, Nat.reduceSub, Int.reduceLE, Int.reduceLT, Int.reduceEq, Int.reduceNe, Int.reduceNeg, Int.reduceAdd, Int.reduceSub, Int.reduceMul, Int.reduceToNat, Nat.le_refl, Nat.zero_le, Nat.zero_add, Int.zero_add, Int.add_zero, and_true, true_and, and_false, false_and, not_true_eq_false, not_false_eq_true, eq_self, ne_eq, true_implies, false_implies, implies_true, or_true, true_or, or_false, false_or, reduceCtorEq, Option.some.injEq, Sum.inl.injEq, exists_eq_left', exists_eq_left, zite]
        exact fin
    have c1 : ¬ wh = 0 → zcv (zv 8 tX8_sickAll) [.inr (.inr 46)] N' (fun v M' => uX8_yearsOf (fun r M' => ∃ v, r = some v ∧ F v M') 156 [some (.inr (.inr 46)), some (.inl s), some (.inl n), some (.inl wh), x4, x5] [v] M') := fun q => by
      refine s_sickAll hH m2 hk.1 ?_
      rw [if_neg q] at fin
      simp only [↓rX8_yearsOf_156, ↓reduceIte, zkeep_n, zkeep_i, zkeep_r, zkeep_l, zup_eq, zIR, zLR, List.length_cons, List.length_nil, Nat.reduceAdd, Nat.reduceLeDiff, Nat.reduceEqDiff, Nat.reduceSub, Int.reduceLE, Int.reduceLT, Int.reduceEq, Int.reduceNe, Int.reduceNeg, Int.reduceAdd, Int.reduceSub, Int.reduceMul, Int.reduceToNat, Nat.le_refl, Nat.zero_le, Nat.zero_add, Int.zero_add, Int.add_zero, and_true, true_and, and_false, false_and, not_true_eq_false, not_false_eq_true, eq_self, ne_eq, true_implies, false_implies, implies_true, or_true, true_or, or_false, false_or, reduceCtorEq, Option.some.injEq, Sum.inl.injEq, exists_eq_left', exists_eq_left, zite]
      exact fin
    simp only [↓rX8_yearsOf_137, ↓rX8_yearsOf_138, ↓rX8_yearsOf_141, ↓rX8_yearsOf_142, ↓rX8_yearsOf_143, ↓rX8_yearsOf_152, ↓rX8_yearsOf_153, ↓reduceIte, zkeep_n, zkeep_i, zkeep_r, zkeep_l, zup_eq, zIR, zLR, List.length_cons, List.length_nil, Nat.reduceAdd, Nat.reduceLeDiff, Nat.reduceEqDiff, Nat.reduceSub, Int.reduceLE, Int.reduceLT, Int.reduceEq, Int.reduceNe, Int.reduceNeg, Int.reduceAdd, Int.reduceSub, Int.reduceMul, Int.reduceToNat, Nat.le_refl, Nat.zero_le, Nat.zero_add, Int.zero_add, Int.add_zero, and_true, true_and, and_false, false_and, not_true_eq_false, not_false_eq_true, eq_self, ne_eq, true_implies, false_implies, implies_true, or_true, true_or, or_false, false_or, reduceCtorEq, Option.some.injEq, Sum.inl.injEq, exists_eq_left', exists_eq_left, zite]
    repeat' (first | with_reducible apply And.intro | with_reducible intro _)
    all_goals first | omega | (exact c0 (by omega)) | (exact c1 (by omega))
  have L : ∀ t : Nat × zM, (t.1 ≤ y ∧ YS M1 t.2 ∧ t.2 46 12 = y ∧ (∀ f : Nat, f < t.1 → t.2 56 f = gD S s 1 f ∧ t.2 57 f = gD S s 2 f ∧ t.2 58 f = gD S s 3 f)) → uX8_yearsOf (fun r M' => ∃ v, r = some v ∧ F v M') 33 [some (.inr (.inr 46)), some (.inl s), some (.inl n), some (.inl wh), some (.inl (lcg s (3 * t.1))), some (.inl (t.1 : Int))] [] t.2 := by
    refine zind (fun t => y - t.1) ?_
    rintro ⟨i, N⟩ ⟨hi, hN, h12, hI⟩ ih
    simp only at hi hN h12 hI ih
    have n2 : N 46 2 = qn S 0 := (hN _ _ (by decide) (by decide)).trans e2
    have n5 : N 46 5 = qn S 1 := (hN _ _ (by decide) (by decide)).trans e5
    refine rX8_yearsOf_33.mpr ?_
    by_cases he : i = y
    · subst he
      have tl := tail N (some (.inl (lcg s (3 * i)))) (some (.inl (i : Int))) hN (by
        obtain ⟨c1, c2, c3, c4, c5, c6, c7⟩ := hCT
        refine ⟨n2, n5, fun k a b => ⟨?_, fun q q0 q1 => ?_⟩, fun c a b => ⟨?_, fun q q0 q1 => ?_⟩, h12, by omega, fun f hf => ?_⟩
        · rw [hN _ _ (by decide) (fun e => by omega)]
          exact (c3 k a b).1
        · rw [hN _ _ (by decide) (fun e => by omega)]
          exact (c3 k a b).2 q q0 q1
        · rw [hN _ _ (by decide) (fun e => by omega)]
          exact (c4 c a b).1
        · rw [hN _ _ (by decide) (fun e => by omega)]
          exact (c4 c a b).2 q q0 q1
        · have e := hI f hf
          have r := hgD f hf
          exact ⟨⟨e.1, r.1⟩, ⟨e.2.1, by omega⟩, ⟨e.2.2, by omega⟩⟩)
      simp only [↓rX8_yearsOf_35, ↓rX8_yearsOf_36, ↓rX8_yearsOf_39, ↓hg_fX8_178_46, ↓reduceIte, zkeep_n, zkeep_i, zkeep_r, zkeep_l, zup_eq, zIR, zLR, List.length_cons, List.length_nil, Nat.reduceAdd, Nat.reduceLeDiff, Nat.reduceEqDiff, Nat.reduceSub, Int.reduceLE, Int.reduceLT, Int.reduceEq, Int.reduceNe, Int.reduceNeg, Int.reduceAdd, Int.reduceSub, Int.reduceMul, Int.reduceToNat, Nat.le_refl, Nat.zero_le, Nat.zero_add, Int.zero_add, Int.add_zero, and_true, true_and, and_false, false_and, not_true_eq_false, not_false_eq_true, eq_self, ne_eq, true_implies, false_implies, implies_true, or_true, true_or, or_false, false_or, reduceCtorEq, Option.some.injEq, Sum.inl.injEq, exists_eq_left', exists_eq_left, h12, zite]
      repeat' (first | with_reducible apply And.intro | with_reducible intro _)
      all_goals first | omega | (exact tl)
    · have hp := hpos (by omega)
      have r1 := zushr16_R (1103515245 * lcg s (3 * i) + 12345)
      have r2 := zushr16_R (1103515245 * (1103515245 * lcg s (3 * i) + 12345) + 12345)
      have r3 := zushr16_R (1103515245 * (1103515245 * (1103515245 * lcg s (3 * i) + 12345) + 12345) + 12345)
      obtain ⟨l1, l2, l3⟩ := fG i
      have l1 : (zushr (1103515245 * lcg s (3 * i) + 12345) 16).tmod 20 = gD S s 1 i := l1.symm
      have l2 : (zushr (1103515245 * (1103515245 * lcg s (3 * i) + 12345) + 12345) 16).tmod (qn S 0) = gD S s 2 i := l2.symm
      have l3 : (zushr (1103515245 * (1103515245 * (1103515245 * lcg s (3 * i) + 12345) + 12345) + 12345) 16).tmod (qn S 1) = gD S s 3 i := l3.symm
      have nx := ih (i + 1, zup (zup (zup N 56 i (gD S s 1 i)) 57 i (gD S s 2 i)) 58 i (gD S s 3 i)) ⟨by simp only; omega, hN.trans (fun k j a b => by simp only [zup_ne (show k ≠ 56 by omega), zup_ne (show k ≠ 57 by omega), zup_ne (show k ≠ 58 by omega)]), by simp only [zup_ne (show 46 ≠ 56 by decide), zup_ne (show 46 ≠ 57 by decide), zup_ne (show 46 ≠ 58 by decide)]; exact h12, fun f hf => by
        simp only [zup_eq, Nat.reduceEqDiff, false_and, true_and, if_false] at hf ⊢
        by_cases e : f = i
        · subst e
          simp
        · rw [if_neg (by omega), if_neg (by omega), if_neg (by omega)]
          exact hI f (by omega)⟩ (by simp only; omega)
      have nx : ∀ x4, x4 = lcg s (3 * (i + 1)) → uX8_yearsOf (fun r M' => ∃ v, r = some v ∧ F v M') 33 [some (.inr (.inr 46)), some (.inl s), some (.inl n), some (.inl wh), some (.inl x4), some (.inl ((i : Int) + 1))] [] (zup (zup (zup N 56 i (gD S s 1 i)) 57 i (gD S s 2 i)) 58 i (gD S s 3 i)) := fun x4 hx => by
        subst hx
        exact nx
      simp only [↓rX8_yearsOf_35, ↓rX8_yearsOf_36, ↓rX8_yearsOf_39, ↓rX8_yearsOf_42, ↓rX8_yearsOf_45, ↓rX8_yearsOf_47, ↓rX8_yearsOf_48, ↓rX8_yearsOf_51, ↓rX8_yearsOf_52, ↓rX8_yearsOf_54, ↓rX8_yearsOf_55, ↓rX8_yearsOf_58, ↓rX8_yearsOf_60, ↓rX8_yearsOf_62, ↓rX8_yearsOf_64, ↓rX8_yearsOf_65, ↓rX8_yearsOf_67, ↓rX8_yearsOf_68, ↓rX8_yearsOf_69, ↓rX8_yearsOf_72, ↓rX8_yearsOf_74, ↓rX8_yearsOf_75, ↓rX8_yearsOf_78, ↓rX8_yearsOf_79, ↓rX8_yearsOf_81, ↓rX8_yearsOf_82, ↓rX8_yearsOf_85, ↓rX8_yearsOf_87, ↓rX8_yearsOf_89, ↓rX8_yearsOf_91, ↓rX8_yearsOf_92, ↓rX8_yearsOf_93, ↓rX8_yearsOf_96, ↓rX8_yearsOf_97, ↓rX8_yearsOf_98, ↓rX8_yearsOf_101, ↓rX8_yearsOf_103, ↓rX8_yearsOf_104, ↓rX8_yearsOf_107, ↓rX8_yearsOf_108, ↓rX8_yearsOf_110, ↓rX8_yearsOf_111, ↓rX8_yearsOf_114, ↓rX8_yearsOf_116, ↓rX8_yearsOf_118, ↓rX8_yearsOf_120, ↓rX8_yearsOf_121, ↓rX8_yearsOf_122, ↓rX8_yearsOf_125, ↓rX8_yearsOf_126, ↓rX8_yearsOf_127, ↓rX8_yearsOf_130, ↓hg_fX8_127_46, ↓hg_fX8_131_46, ↓hg_fX8_178_46, ↓hg_fX8_37_46, ↓hg_fX8_40_46, ↓hg_fX8_43_46, ↓hr_47, ↓hr_48, ↓hr_49, ↓hr_50, ↓hr_51, ↓hr_52, ↓hr_53, ↓hr_54, ↓hr_55, ↓hr_56, ↓hr_57, ↓hr_58, ↓hr_59, ↓hr_60, ↓hr_61, ↓hr_62, ↓hr_63, ↓hr_64, ↓hr_65, ↓hr_66, ↓hr_67, ↓hr_68, ↓hr_69, ↓hr_70, ↓hr_71, ↓hr_72, ↓hr_73, ↓hr_74, ↓hr_75, ↓hr_76, ↓hr_77, ↓hr_78, ↓hr_79, ↓hw_47, ↓hw_48, ↓hw_49, ↓hw_50, ↓hw_51, ↓hw_52, ↓hw_53, ↓hw_54, ↓hw_55, ↓hw_56, ↓hw_57, ↓hw_58, ↓hw_59, ↓hw_60, ↓hw_61, ↓hw_62, ↓hw_63, ↓hw_64, ↓hw_65, ↓hw_66, ↓hw_67, ↓hw_68, ↓hw_69, ↓hw_70, ↓hw_71, ↓hw_72, ↓hw_73, ↓hw_74, ↓hw_75, ↓hw_76, ↓hw_77, ↓hw_78, ↓hw_79, ↓reduceIte, zkeep_n, zkeep_i, zkeep_r, zkeep_l, zIR, zLR, List.length_cons, List.length_nil, Nat.reduceAdd, Nat.reduceLeDiff, Nat.reduceEqDiff, Nat.reduceSub, Int.reduceLE, Int.reduceLT, Int.reduceEq, Int.reduceNe, Int.reduceNeg, Int.reduceAdd, Int.reduceSub, Int.reduceMul, Int.reduceToNat, Nat.le_refl, Nat.zero_le, Nat.zero_add, Int.zero_add, Int.add_zero, and_true, true_and, and_false, false_and, not_true_eq_false, not_false_eq_true, eq_self, ne_eq, true_implies, false_implies, implies_true, or_true, true_or, or_false, false_or, reduceCtorEq, Option.some.injEq, Sum.inl.injEq, exists_eq_left', exists_eq_left, h12, n2, n5, l1, l2, l3, zup_ne, zite]
      repeat' (first | with_reducible apply And.intro | with_reducible intro _)
      all_goals first | omega | (exact nx _ rfl)
  have st : ∀ w, w = (y : Int) → uX8_yearsOf (fun r M' => ∃ v, r = some v ∧ F v M') 33 [some (.inr (.inr 46)), some (.inl s), some (.inl n), some (.inl wh), some (.inl s), some (.inl 0)] [] (zup M1 46 12 w) := fun w hw => L (0, zup M1 46 12 w) ⟨Nat.zero_le _, fun k i a b => by show zup M1 46 12 w k i = _; rw [zup_eq, if_neg (fun z => b z.1 z.2)], by simp [zup_eq, hw], fun f hf => by simp at hf⟩
  have y0 : (qn S 0 = 0 ∨ qn S 1 = 0) → (0 : Int) = y := fun q => by
    rw [← hy]; unfold yk; rw [if_pos q]; rfl
  have y1 : ¬ (qn S 0 = 0 ∨ qn S 1 = 0) → n = y := fun q => by
    rw [← hy]; unfold yk; rw [if_neg q]; omega
  simp only [↓rX8_yearsOf_4, ↓rX8_yearsOf_5, ↓rX8_yearsOf_7, ↓rX8_yearsOf_8, ↓rX8_yearsOf_9, ↓rX8_yearsOf_12, ↓rX8_yearsOf_15, ↓rX8_yearsOf_16, ↓rX8_yearsOf_19, ↓rX8_yearsOf_22, ↓rX8_yearsOf_23, ↓rX8_yearsOf_27, ↓rX8_yearsOf_30, ↓rX8_yearsOf_31, ↓rX8_yearsOf_26, ↓hg_fX8_127_46, ↓hg_fX8_131_46, ↓hp_fX8_178_46, ↓reduceIte, zkeep_n, zkeep_i, zkeep_r, zkeep_l, zIR, zLR, List.length_cons, List.length_nil, Nat.reduceAdd, Nat.reduceLeDiff, Nat.reduceEqDiff, Nat.reduceSub, Int.reduceLE, Int.reduceLT, Int.reduceEq, Int.reduceNe, Int.reduceNeg, Int.reduceAdd, Int.reduceSub, Int.reduceMul, Int.reduceToNat, Nat.le_refl, Nat.zero_le, Nat.zero_add, Int.zero_add, Int.add_zero, and_true, true_and, and_false, false_and, not_true_eq_false, not_false_eq_true, eq_self, ne_eq, true_implies, false_implies, implies_true, or_true, true_or, or_false, false_or, reduceCtorEq, Option.some.injEq, Sum.inl.injEq, exists_eq_left', exists_eq_left, e2, e5, zite]
  repeat' (first | with_reducible apply And.intro | with_reducible intro _)
  all_goals first | omega | (exact st _ (y0 (by omega))) | (exact st _ (y1 (by omega)))
set_option maxRecDepth 100000 in
set_option maxHeartbeats 4000000 in
theorem y_years {S M : zM} {R : zP} {s n wh : Int} (hW : WX S) (h : RM S M) (z1 : zIR s) (z2 : zIR n) (z4 : zIR wh) (hR : ∀ M', YQ M M' → R (some (.inl (aYears S s n wh))) M') : tX8_years [.inr (.inr 46), .inl s, .inl n, .inl wh] M R := by
  unfold zIR at z1 z2 z4
  have bad : ¬ ((0 ≤ n ∧ n < 9) ∧ (0 ≤ wh ∧ wh < 2)) → R (some (.inl (-2))) M := fun hb => by
    have := hR M YQ.rfl
    unfold aYears at this
    rw [if_neg hb] at this
    exact this
  have go : ((0 ≤ n ∧ n < 9) ∧ (0 ≤ wh ∧ wh < 2)) → zcv (zv 8 tX8_yearsOf) [.inr (.inr 46), .inl s, .inl n, .inl wh] M (fun v M' => uX8_years R 26 [some (.inr (.inr 46)), some (.inl s), some (.inl n), some (.inl wh)] [v] M') := fun q => by
    refine s_yearsOf hW h q (fun M2 g1 g2 => ?_)
    have fin := hR M2 g1
    simp only [↓rX8_years_26, ↓rX8_years_31, ↓reduceIte, zkeep_n, zkeep_i, zkeep_r, zkeep_l, zup_eq, zIR, zLR, List.length_cons, List.length_nil, Nat.reduceAdd, Nat.reduceLeDiff, Nat.reduceEqDiff, Nat.reduceSub, Int.reduceLE, Int.reduceLT, Int.reduceEq, Int.reduceNe, Int.reduceNeg, Int.reduceAdd, Int.reduceSub, Int.reduceMul, Int.reduceToNat, Nat.le_refl, Nat.zero_le, Nat.zero_add, Int.zero_add, Int.add_zero, and_true, true_and, and_false, false_and, not_true_eq_false, not_false_eq_true, eq_self, ne_eq, true_implies, false_implies, implies_true, or_true, true_or, or_false, false_or, reduceCtorEq, Option.some.injEq, Sum.inl.injEq, exists_eq_left', exists_eq_left, zite]
    exact fin
  simp only [↓eX8_years, ↓rX8_years_0, ↓rX8_years_1, ↓rX8_years_2, ↓rX8_years_4, ↓rX8_years_7, ↓rX8_years_10, ↓rX8_years_11, ↓rX8_years_12, ↓rX8_years_13, ↓rX8_years_16, ↓rX8_years_19, ↓rX8_years_20, ↓rX8_years_21, ↓rX8_years_22, ↓rX8_years_23, ↓rX8_years_29, ↓rX8_years_31, ↓i_in, ↓reduceIte, zkeep_n, zkeep_i, zkeep_r, zkeep_l, zup_eq, zIR, zLR, List.length_cons, List.length_nil, Nat.reduceAdd, Nat.reduceLeDiff, Nat.reduceEqDiff, Nat.reduceSub, Int.reduceLE, Int.reduceLT, Int.reduceEq, Int.reduceNe, Int.reduceNeg, Int.reduceAdd, Int.reduceSub, Int.reduceMul, Int.reduceToNat, Nat.le_refl, Nat.zero_le, Nat.zero_add, Int.zero_add, Int.add_zero, and_true, true_and, and_false, false_and, not_true_eq_false, not_false_eq_true, eq_self, ne_eq, true_implies, false_implies, implies_true, or_true, true_or, or_false, false_or, reduceCtorEq, Option.some.injEq, Sum.inl.injEq, exists_eq_left', exists_eq_left, zite]
  repeat' (first | with_reducible apply And.intro | with_reducible intro _)
  all_goals first | omega | (exact bad (by omega)) | (exact go (by omega))
