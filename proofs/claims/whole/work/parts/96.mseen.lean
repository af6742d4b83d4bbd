set_option maxRecDepth 100000 in
set_option maxHeartbeats 4000000 in
theorem s_isSeen {S M : zM} {F : zV → zM → Prop} {nt : Int} {kp : Int → Bool} {so : Int → Int} {fi : Int → Int → Int} (hW : WX S) (hE : PE S M) (hC : CF S M (gt S) (nf S) so fi) (h16 : M 46 16 = nt) (hkp : ∀ f : Nat, f < nf S → knt nt f = kp f)
    (hy : wsee S (wX S kp so fi) = true → ∀ M', (∀ k i, ¬ (59 ≤ k ∧ k ≤ 68) → M' k i = M k i) → HV S M' (wX S kp so fi) → F (.inl 1) M') (hn : wsee S (wX S kp so fi) = false → ∀ M', (∀ k i, ¬ (59 ≤ k ∧ k ≤ 68) → M' k i = M k i) → HV S M' (wX S kp so fi) → F (.inl 0) M') : zcv (zv 8 tX8_isSeen) [.inr (.inr 46)] M F := by
  refine zcvv rfl ?_
  have hk := W_k hW
  obtain ⟨M0, hX⟩ := hW
  have hqr : QR S := hX.2.2.2.1.1
  have hSR := hX.2.2.2.2.2.1
  have c3 := hC.2.2.1
  have c7 := hC.2.2.2.2.2.2
  simp only [↓eX8_isSeen, ↓rX8_isSeen_0, ↓rX8_isSeen_1, ↓reduceIte, zkeep_n, zkeep_i, zkeep_r, zkeep_l, zup_eq, zIR, zLR, List.length_cons, List.length_nil, Nat.reduceAdd, Nat.reduceLeDiff, Nat.reduceEqDiff, Nat.reduceSub, Int.reduceLE, Int.reduceLT, Int.reduceEq, Int.reduceNe, Int.reduceNeg, Int.reduceAdd, Int.reduceSub, Int.reduceMul, Int.reduceToNat, Nat.le_refl, Nat.zero_le, Nat.zero_add, Int.zero_add, Int.add_zero, and_true, true_and, and_false, false_and, not_true_eq_false, not_false_eq_true, eq_self, ne_eq, true_implies, false_implies, implies_true, or_true, true_or, or_false, false_or, reduceCtorEq, Option.some.injEq, Sum.inl.injEq, exists_eq_left', exists_eq_left, zite]
  refine zcnv rfl (s_runs hqr hC h16 (fun M1 f1 f2 => ⟨rfl, ?_⟩))
  have hH : HV S M1 (wX S kp so fi) := HV_cg (V := wG S (gt S) (nf S) (knt nt) so fi) f2 (fun k a b t ht => wseg_kp hkp _)
  have hV : VR S (wX S kp so fi) := fun k a b t ht => vokb_wG (g := gt S) (n := nf S) (kp := kp) (so := so) (fi := fi) (k := k) (T := t) hqr (fun q q0 q1 => ((c3 k a b).2 q q0 q1).2) (fun f hf => (c7 f hf).2.2.2.1) hC.2.2.2.2.2.1 ht
  have hy := fun z => hy z M1 f1 hH
  have hn := fun z => hn z M1 f1 hH
  generalize wX S kp so fi = V at *
  have h70 := hSR.2.1
  have e28 : M1 46 28 = S 7 0 := (f1 _ _ (by decide)).trans hE.1
  have e2 : M1 46 2 = qn S 0 := (f1 _ _ (by decide)).trans hC.1
  have L : ∀ i : Int, ((0 ≤ i ∧ i ≤ S 7 0) ∧ ∀ j, 0 ≤ j → j < i → (S 9 j < qn S 0 ∧ V (S 9 j) (S 8 j).toNat (S 10 j) = S 11 j)) → uX8_isSeen (fun r M' => ∃ v, r = some v ∧ F v M') 8 [some (.inr (.inr 46)), some (.inl 1), some (.inl i)] [] M1 := by
    refine zind (fun i => (S 7 0 - i).toNat) ?_
    rintro i ⟨hi, hal⟩ ih
    refine rX8_isSeen_8.mpr ?_
    by_cases he : i = S 7 0
    · have fin := hy ((wsee_iff h70.1).mpr (fun j a b => hal j a (by omega)))
      simp only [↓rX8_isSeen_9, ↓rX8_isSeen_10, ↓rX8_isSeen_13, ↓rX8_isSeen_84, ↓rX8_isSeen_85, ↓hg_fX8_290_46, ↓reduceIte, zkeep_n, zkeep_i, zkeep_r, zkeep_l, zup_eq, zIR, zLR, List.length_cons, List.length_nil, Nat.reduceAdd, Nat.reduceLeDiff, Nat.reduceEqDiff, Nat.reduceSub, Int.reduceLE, Int.reduceLT, Int.reduceEq, Int.reduceNe, Int.reduceNeg, Int.reduceAdd, Int.reduceSub, Int.reduceMul, Int.reduceToNat, Nat.le_refl, Nat.zero_le, Nat.zero_add, Int.zero_add, Int.add_zero, and_true, true_and, and_false, false_and, not_true_eq_false, not_false_eq_true, eq_self, ne_eq, true_implies, false_implies, implies_true, or_true, true_or, or_false, false_or, reduceCtorEq, Option.some.injEq, Sum.inl.injEq, exists_eq_left', exists_eq_left, e28, zite]
      repeat' (first | with_reducible apply And.intro | with_reducible intro _)
      all_goals first | omega | (exact fin)
    · obtain ⟨r8, r9, r10, r11⟩ := hSR.2.2 i hi.1 (by omega)
      obtain ⟨m8, m9, m10, m11⟩ := hE.2 i hi.1 (by omega)
      have a1 : M1 70 i = S 8 i := (f1 _ _ (by decide)).trans m8
      have a2 : M1 71 i = S 9 i := (f1 _ _ (by decide)).trans m9
      have a3 : M1 72 i = S 10 i := (f1 _ _ (by decide)).trans m10
      have a4 : M1 73 i = S 11 i := (f1 _ _ (by decide)).trans m11
      have no : ¬ (S 9 i < qn S 0 ∧ V (S 9 i) (S 8 i).toNat (S 10 i) = S 11 i) → uX8_isSeen (fun r M' => ∃ v, r = some v ∧ F v M') 8 [some (.inr (.inr 46)), some (.inl 0), some (.inl (i + 1))] [] M1 := fun q => by
        have fin := hn (by
          rw [← Bool.not_eq_true, wsee_iff h70.1]
          exact fun z => q (z i hi.1 (by omega)))
        simp only [↓rX8_isSeen_8, ↓rX8_isSeen_9, ↓rX8_isSeen_10, ↓rX8_isSeen_13, ↓rX8_isSeen_16, ↓rX8_isSeen_17, ↓rX8_isSeen_84, ↓rX8_isSeen_85, ↓hg_fX8_290_46, ↓reduceIte, zkeep_n, zkeep_i, zkeep_r, zkeep_l, zup_eq, zIR, zLR, List.length_cons, List.length_nil, Nat.reduceAdd, Nat.reduceLeDiff, Nat.reduceEqDiff, Nat.reduceSub, Int.reduceLE, Int.reduceLT, Int.reduceEq, Int.reduceNe, Int.reduceNeg, Int.reduceAdd, Int.reduceSub, Int.reduceMul, Int.reduceToNat, Nat.le_refl, Nat.zero_le, Nat.zero_add, Int.zero_add, Int.add_zero, and_true, true_and, and_false, false_and, not_true_eq_false, not_false_eq_true, eq_self, ne_eq, true_implies, false_implies, implies_true, or_true, true_or, or_false, false_or, reduceCtorEq, Option.some.injEq, Sum.inl.injEq, exists_eq_left', exists_eq_left, e28, zite]
        repeat' (first | with_reducible apply And.intro | with_reducible intro _)
        all_goals first | omega | (exact fin)
      have nx : (S 9 i < qn S 0 ∧ V (S 9 i) (S 8 i).toNat (S 10 i) = S 11 i) → uX8_isSeen (fun r M' => ∃ v, r = some v ∧ F v M') 8 [some (.inr (.inr 46)), some (.inl 1), some (.inl (i + 1))] [] M1 := fun q => by
        refine ih (i + 1) ⟨by omega, fun j a b => ?_⟩ (by omega)
        by_cases e : j = i
        · rw [e]; exact q
        · exact hal j a (by omega)
      by_cases hlt : S 9 i < qn S 0
      · have ha := (HV_at hH (k := S 9 i) (t := S 8 i) (q := S 10 i) r9.2.1 hlt r8.2.1 r8.2.2 r10.2.1 r10.2.2).1
        have v := (hV (S 9 i) r9.2.1 hlt (S 8 i).toNat (by omega)).1 (S 10 i) (by omega) (by omega)
        simp only [↓rX8_isSeen_9, ↓rX8_isSeen_10, ↓rX8_isSeen_13, ↓rX8_isSeen_16, ↓rX8_isSeen_17, ↓rX8_isSeen_20, ↓rX8_isSeen_21, ↓rX8_isSeen_24, ↓rX8_isSeen_25, ↓rX8_isSeen_26, ↓rX8_isSeen_27, ↓rX8_isSeen_30, ↓rX8_isSeen_33, ↓rX8_isSeen_34, ↓rX8_isSeen_37, ↓rX8_isSeen_39, ↓rX8_isSeen_40, ↓rX8_isSeen_43, ↓rX8_isSeen_44, ↓rX8_isSeen_45, ↓rX8_isSeen_46, ↓rX8_isSeen_47, ↓rX8_isSeen_48, ↓rX8_isSeen_51, ↓rX8_isSeen_52, ↓rX8_isSeen_53, ↓rX8_isSeen_54, ↓rX8_isSeen_55, ↓rX8_isSeen_56, ↓rX8_isSeen_59, ↓rX8_isSeen_60, ↓rX8_isSeen_61, ↓rX8_isSeen_62, ↓rX8_isSeen_63, ↓rX8_isSeen_64, ↓rX8_isSeen_67, ↓rX8_isSeen_68, ↓rX8_isSeen_69, ↓rX8_isSeen_72, ↓rX8_isSeen_73, ↓rX8_isSeen_77, ↓rX8_isSeen_78, ↓rX8_isSeen_81, ↓rX8_isSeen_76, ↓hg_fX8_127_46, ↓hg_fX8_290_46, ↓hg_fX8_61_46, ↓hg_fX8_79_46, ↓hg_fX8_82_46, ↓hg_fX8_85_46, ↓hg_fX8_88_46, ↓hr_47, ↓hr_48, ↓hr_49, ↓hr_50, ↓hr_51, ↓hr_52, ↓hr_53, ↓hr_54, ↓hr_55, ↓hr_56, ↓hr_57, ↓hr_58, ↓hr_59, ↓hr_60, ↓hr_61, ↓hr_62, ↓hr_63, ↓hr_64, ↓hr_65, ↓hr_66, ↓hr_67, ↓hr_68, ↓hr_69, ↓hr_70, ↓hr_71, ↓hr_72, ↓hr_73, ↓hr_74, ↓hr_75, ↓hr_76, ↓hr_77, ↓hr_78, ↓hr_79, ↓hw_47, ↓hw_48, ↓hw_49, ↓hw_50, ↓hw_51, ↓hw_52, ↓hw_53, ↓hw_54, ↓hw_55, ↓hw_56, ↓hw_57, ↓hw_58, ↓hw_59, ↓hw_60, ↓hw_61, ↓hw_62, ↓hw_63, ↓hw_64, ↓hw_65, ↓hw_66, ↓hw_67, ↓hw_68, ↓hw_69, ↓hw_70, ↓hw_71, ↓hw_72, ↓hw_73, ↓hw_74, ↓hw_75, ↓hw_76, ↓hw_77, ↓hw_78, ↓hw_79, ↓reduceIte, zkeep_n, zkeep_i, zkeep_r, zkeep_l, zup_eq, zIR, zLR, List.length_cons, List.length_nil, Nat.reduceAdd, Nat.reduceLeDiff, Nat.reduceEqDiff, Nat.reduceSub, Int.reduceLE, Int.reduceLT, Int.reduceEq, Int.reduceNe, Int.reduceNeg, Int.reduceAdd, Int.reduceSub, Int.reduceMul, Int.reduceToNat, Nat.le_refl, Nat.zero_le, Nat.zero_add, Int.zero_add, Int.add_zero, and_true, true_and, and_false, false_and, not_true_eq_false, not_false_eq_true, eq_self, ne_eq, true_implies, false_implies, implies_true, or_true, true_or, or_false, false_or, reduceCtorEq, Option.some.injEq, Sum.inl.injEq, exists_eq_left', exists_eq_left, e28, e2, a1, a2, a3, a4, ha, zite]
        repeat' (first | with_reducible apply And.intro | with_reducible intro _)
        all_goals first | omega | (exact nx (by omega)) | (exact no (by omega))
      · have no := no (fun z => hlt z.1)
        simp only [↓rX8_isSeen_9, ↓rX8_isSeen_10, ↓rX8_isSeen_13, ↓rX8_isSeen_16, ↓rX8_isSeen_17, ↓rX8_isSeen_20, ↓rX8_isSeen_21, ↓rX8_isSeen_24, ↓rX8_isSeen_25, ↓rX8_isSeen_26, ↓rX8_isSeen_27, ↓rX8_isSeen_30, ↓rX8_isSeen_76, ↓rX8_isSeen_77, ↓rX8_isSeen_78, ↓rX8_isSeen_81, ↓hg_fX8_127_46, ↓hg_fX8_290_46, ↓hg_fX8_82_46, ↓hr_47, ↓hr_48, ↓hr_49, ↓hr_50, ↓hr_51, ↓hr_52, ↓hr_53, ↓hr_54, ↓hr_55, ↓hr_56, ↓hr_57, ↓hr_58, ↓hr_59, ↓hr_60, ↓hr_61, ↓hr_62, ↓hr_63, ↓hr_64, ↓hr_65, ↓hr_66, ↓hr_67, ↓hr_68, ↓hr_69, ↓hr_70, ↓hr_71, ↓hr_72, ↓hr_73, ↓hr_74, ↓hr_75, ↓hr_76, ↓hr_77, ↓hr_78, ↓hr_79, ↓hw_47, ↓hw_48, ↓hw_49, ↓hw_50, ↓hw_51, ↓hw_52, ↓hw_53, ↓hw_54, ↓hw_55, ↓hw_56, ↓hw_57, ↓hw_58, ↓hw_59, ↓hw_60, ↓hw_61, ↓hw_62, ↓hw_63, ↓hw_64, ↓hw_65, ↓hw_66, ↓hw_67, ↓hw_68, ↓hw_69, ↓hw_70, ↓hw_71, ↓hw_72, ↓hw_73, ↓hw_74, ↓hw_75, ↓hw_76, ↓hw_77, ↓hw_78, ↓hw_79, ↓reduceIte, zkeep_n, zkeep_i, zkeep_r, zkeep_l, zup_eq, zIR, zLR, List.length_cons, List.length_nil, Nat.reduceAdd, Nat.reduceLeDiff, Nat.reduceEqDiff, Nat.reduceSub, Int.reduceLE, Int.reduceLT, Int.reduceEq, Int.reduceNe, Int.reduceNeg, Int.reduceAdd, Int.reduceSub, Int.reduceMul, Int.reduceToNat, Nat.le_refl, Nat.zero_le, Nat.zero_add, Int.zero_add, Int.add_zero, and_true, true_and, and_false, false_and, not_true_eq_false, not_false_eq_true, eq_self, ne_eq, true_implies, false_implies, implies_true, or_true, true_or, or_false, false_or, reduceCtorEq, Option.some.injEq, Sum.inl.injEq, exists_eq_left', exists_eq_left, e28, e2, a2, zite]
        repeat' (first | with_reducible apply And.intro | with_reducible intro _)
        all_goals first | omega | (exact no)
  have st := L 0 ⟨by omega, fun j a b => by omega⟩
  simp only [↓rX8_isSeen_4, ↓rX8_isSeen_5, ↓rX8_isSeen_6, ↓rX8_isSeen_7, ↓reduceIte, zkeep_n, zkeep_i, zkeep_r, zkeep_l, zup_eq, zIR, zLR, List.length_cons, List.length_nil, Nat.reduceAdd, Nat.reduceLeDiff, Nat.reduceEqDiff, Nat.reduceSub, Int.reduceLE, Int.reduceLT, Int.reduceEq, Int.reduceNe, Int.reduceNeg, Int.reduceAdd, Int.reduceSub, Int.reduceMul, Int.reduceToNat, Nat.le_refl, Nat.zero_le, Nat.zero_add, Int.zero_add, Int.add_zero, and_true, true_and, and_false, false_and, not_true_eq_false, not_false_eq_true, eq_self, ne_eq, true_implies, false_implies, implies_true, or_true, true_or, or_false, false_or, reduceCtorEq, Option.some.injEq, Sum.inl.injEq, exists_eq_left', exists_eq_left, zite]
  exact st
theorem PE_yq {S M M' : zM} (h : RM S M) (hf : YQ M M') : PE S M' := (RM_iff.mp (RM_yq h hf)).2.2.1
set_option maxRecDepth 100000 in
set_option maxHeartbeats 4000000 in
theorem s_neverNow {S M : zM} {F : zV → zM → Prop} (hW : WX S) (h : RM S M) (hR : ∀ M', YQ M M' → RC S M' → F (.inl (aNever S)) M') : zcv (zv 8 tX8_neverNow) [.inr (.inr 46)] M F := by
  refine zcvv rfl ?_
  have hk := W_k hW
  have hnf := hk.2.2.2.2.1
  have hnf8 := hk.2.2.2.2.2.2.2
  unfold aNever at hR
  generalize hp : (fun f : Nat => wsee S (wX S (kbut f) (so0 S) (fst S))) = p at hR
  simp only [↓eX8_neverNow, ↓rX8_neverNow_0, ↓rX8_neverNow_1, ↓reduceIte, zkeep_n, zkeep_i, zkeep_r, zkeep_l, zup_eq, zIR, zLR, List.length_cons, List.length_nil, Nat.reduceAdd, Nat.reduceLeDiff, Nat.reduceEqDiff, Nat.reduceSub, Int.reduceLE, Int.reduceLT, Int.reduceEq, Int.reduceNe, Int.reduceNeg, Int.reduceAdd, Int.reduceSub, Int.reduceMul, Int.reduceToNat, Nat.le_refl, Nat.zero_le, Nat.zero_add, Int.zero_add, Int.add_zero, and_true, true_and, and_false, false_and, not_true_eq_false, not_false_eq_true, eq_self, ne_eq, true_implies, false_implies, implies_true, or_true, true_or, or_false, false_or, reduceCtorEq, Option.some.injEq, Sum.inl.injEq, exists_eq_left', exists_eq_left, zite]
  refine zcnv rfl (s_asTold hW h (fun M1 f1 f2 f3 f4 f5 => ⟨rfl, ?_⟩))
  have hCT := told_CF hW f2 f3 f5
  have hM1 := RM_yq h f1.yq
  have e8 : M1 46 8 = (nf S : Int) := by rw [hnf]; exact hM1.2.2.2.1.1
  have L : ∀ t : Nat × zM, (t.1 ≤ nf S ∧ YV M1 t.2) → uX8_neverNow (fun r M' => ∃ v, r = some v ∧ F v M') 8 [some (.inr (.inr 46)), some (.inl (wbs p t.1)), some (.inl (t.1 : Int))] [] t.2 := by
    refine zind (fun t => nf S - t.1) ?_
    rintro ⟨m, N⟩ ⟨hm, hN⟩ ih
    simp only at hm hN ih
    have n8 : N 46 8 = (nf S : Int) := (hN _ _ (by decide) (by decide)).trans e8
    have hYQ : YQ M N := f1.yq.trans (fun k i x y => hN k i (by omega) (fun e => (y e).2.2.2))
    refine rX8_neverNow_8.mpr ?_
    by_cases he : m = nf S
    · subst he
      have fin := hR N hYQ (hN.rc f2)
      simp only [↓rX8_neverNow_9, ↓rX8_neverNow_10, ↓rX8_neverNow_13, ↓rX8_neverNow_46, ↓rX8_neverNow_47, ↓hg_fX8_166_46, ↓reduceIte, zkeep_n, zkeep_i, zkeep_r, zkeep_l, zup_eq, zIR, zLR, List.length_cons, List.length_nil, Nat.reduceAdd, Nat.reduceLeDiff, Nat.reduceEqDiff, Nat.reduceSub, Int.reduceLE, Int.reduceLT, Int.reduceEq, Int.reduceNe, Int.reduceNeg, Int.reduceAdd, Int.reduceSub, Int.reduceMul, Int.reduceToNat, Nat.le_refl, Nat.zero_le, Nat.zero_add, Int.zero_add, Int.add_zero, and_true, true_and, and_false, false_and, not_true_eq_false, not_false_eq_true, eq_self, ne_eq, true_implies, false_implies, implies_true, or_true, true_or, or_false, false_or, reduceCtorEq, Option.some.injEq, Sum.inl.injEq, exists_eq_left', exists_eq_left, n8, zite]
      repeat' (first | with_reducible apply And.intro | with_reducible intro _)
      all_goals first | omega | (exact fin)
    · have hw := wbs_R p m
      have hw2 := two_le m (by omega)
      have z1 := zor_1 (m := m) (by omega) hw.1 hw.2
      have z0 := zor_0z hw.1 (by omega)
      have hpm : p m = wsee S (wX S (kbut m) (so0 S) (fst S)) := by rw [← hp]
      have hN2 : YV M1 (zup N 46 16 (zshl 1 m)) := hN.trans (fun k i x y => by rw [zup_eq, if_neg (fun z => y z.1 z.2)])
      have call : zcv (zv 8 tX8_isSeen) [.inr (.inr 46)] (zup N 46 16 (zshl 1 m)) (fun v N' => uX8_neverNow (fun r M' => ∃ v, r = some v ∧ F v M') 28 [some (.inr (.inr 46)), some (.inl (wbs p m)), some (.inl (m : Int))] [v, .inl (wbs p m)] N') := by
        refine s_isSeen (so := so0 S) (fi := fst S) (kp := kbut m) (nt := zshl 1 m) hW (PE_yq h (f1.yq.trans (fun k i x y => hN2 k i (by omega) (fun e => (y e).2.2.2)))) (hN2.cf hCT) (by rw [zup_in, if_pos rfl]) (fun f hf => knt_1d ⟨m, by omega⟩ ⟨f, by omega⟩) (fun z N' q1 q2 => ?_) (fun z N' q1 q2 => ?_)
        · have nx := ih (m + 1, N') ⟨by simp only; omega, hN2.trans (fun k i x y => q1 k i (by omega))⟩ (by simp only; omega)
          simp only [wbs] at nx
          rw [hpm, if_pos z] at nx
          simp only [↓rX8_neverNow_28, ↓rX8_neverNow_31, ↓rX8_neverNow_32, ↓rX8_neverNow_33, ↓rX8_neverNow_34, ↓rX8_neverNow_38, ↓rX8_neverNow_39, ↓rX8_neverNow_40, ↓rX8_neverNow_43, ↓rX8_neverNow_37, ↓reduceIte, zkeep_n, zkeep_i, zkeep_r, zkeep_l, zup_eq, zIR, zLR, List.length_cons, List.length_nil, Nat.reduceAdd, Nat.reduceLeDiff, Nat.reduceEqDiff, Nat.reduceSub, Int.reduceLE, Int.reduceLT, Int.reduceEq, Int.reduceNe, Int.reduceNeg, Int.reduceAdd, Int.reduceSub, Int.reduceMul, Int.reduceToNat, Nat.le_refl, Nat.zero_le, Nat.zero_add, Int.zero_add, Int.add_zero, and_true, true_and, and_false, false_and, not_true_eq_false, not_false_eq_true, eq_self, ne_eq, true_implies, false_implies, implies_true, or_true, true_or, or_false, false_or, reduceCtorEq, Option.some.injEq, Sum.inl.injEq, exists_eq_left', exists_eq_left, z1, zite]
          exact nx
        · have nx := ih (m + 1, N') ⟨by simp only; omega, hN2.trans (fun k i x y => q1 k i (by omega))⟩ (by simp only; omega)
          simp only [wbs] at nx
          rw [hpm, if_neg (by rw [z]; simp), Int.add_zero] at nx
          simp only [↓rX8_neverNow_28, ↓rX8_neverNow_31, ↓rX8_neverNow_32, ↓rX8_neverNow_33, ↓rX8_neverNow_34, ↓rX8_neverNow_38, ↓rX8_neverNow_39, ↓rX8_neverNow_40, ↓rX8_neverNow_43, ↓rX8_neverNow_37, ↓reduceIte, zkeep_n, zkeep_i, zkeep_r, zkeep_l, zup_eq, zIR, zLR, List.length_cons, List.length_nil, Nat.reduceAdd, Nat.reduceLeDiff, Nat.reduceEqDiff, Nat.reduceSub, Int.reduceLE, Int.reduceLT, Int.reduceEq, Int.reduceNe, Int.reduceNeg, Int.reduceAdd, Int.reduceSub, Int.reduceMul, Int.reduceToNat, Nat.le_refl, Nat.zero_le, Nat.zero_add, Int.zero_add, Int.add_zero, and_true, true_and, and_false, false_and, not_true_eq_false, not_false_eq_true, eq_self, ne_eq, true_implies, false_implies, implies_true, or_true, true_or, or_false, false_or, reduceCtorEq, Option.some.injEq, Sum.inl.injEq, exists_eq_left', exists_eq_left, z0, zite]
          exact nx
      simp only [↓rX8_neverNow_9, ↓rX8_neverNow_10, ↓rX8_neverNow_13, ↓rX8_neverNow_16, ↓rX8_neverNow_17, ↓rX8_neverNow_18, ↓rX8_neverNow_19, ↓rX8_neverNow_20, ↓rX8_neverNow_23, ↓rX8_neverNow_24, ↓rX8_neverNow_25, ↓hg_fX8_166_46, ↓hp_fX8_181_46, ↓reduceIte, zkeep_n, zkeep_i, zkeep_r, zkeep_l, zIR, zLR, List.length_cons, List.length_nil, Nat.reduceAdd, Nat.reduceLeDiff, Nat.reduceEqDiff, Nat.reduceSub, Int.reduceLE, Int.reduceLT, Int.reduceEq, Int.reduceNe, Int.reduceNeg, Int.reduceAdd, Int.reduceSub, Int.reduceMul, Int.reduceToNat, Nat.le_refl, Nat.zero_le, Nat.zero_add, Int.zero_add, Int.add_zero, and_true, true_and, and_false, false_and, not_true_eq_false, not_false_eq_true, eq_self, ne_eq, true_implies, false_implies, implies_true, or_true, true_or, or_false, false_or, reduceCtorEq, Option.some.injEq, Sum.inl.injEq, exists_eq_left', exists_eq_left, n8, zite]
      repeat' (first | with_reducible apply And.intro | with_reducible intro _)
      all_goals first | omega | (exact call)
  have st := L (0, M1) ⟨Nat.zero_le _, YV.rfl⟩
  simp only [↓rX8_neverNow_4, ↓rX8_neverNow_5, ↓rX8_neverNow_6, ↓rX8_neverNow_7, ↓reduceIte, zkeep_n, zkeep_i, zkeep_r, zkeep_l, zup_eq, zIR, zLR, List.length_cons, List.length_nil, Nat.reduceAdd, Nat.reduceLeDiff, Nat.reduceEqDiff, Nat.reduceSub, Int.reduceLE, Int.reduceLT, Int.reduceEq, Int.reduceNe, Int.reduceNeg, Int.reduceAdd, Int.reduceSub, Int.reduceMul, Int.reduceToNat, Nat.le_refl, Nat.zero_le, Nat.zero_add, Int.zero_add, Int.add_zero, and_true, true_and, and_false, false_and, not_true_eq_false, not_false_eq_true, eq_self, ne_eq, true_implies, false_implies, implies_true, or_true, true_or, or_false, false_or, reduceCtorEq, Option.some.injEq, Sum.inl.injEq, exists_eq_left', exists_eq_left, zite]
  exact st
theorem y_never {S M : zM} {R : zP} (hW : WX S) (h : RM S M) (hR : ∀ M', YQ M M' → R (some (.inl (aNever S))) M') : tX8_never [.inr (.inr 46)] M R := by
  simp only [↓eX8_never, ↓rX8_never_0, ↓rX8_never_1, ↓reduceIte, zkeep_n, zkeep_i, zkeep_r, zkeep_l, zup_eq, zIR, zLR, List.length_cons, List.length_nil, Nat.reduceAdd, Nat.reduceLeDiff, Nat.reduceEqDiff, Nat.reduceSub, Int.reduceLE, Int.reduceLT, Int.reduceEq, Int.reduceNe, Int.reduceNeg, Int.reduceAdd, Int.reduceSub, Int.reduceMul, Int.reduceToNat, Nat.le_refl, Nat.zero_le, Nat.zero_add, Int.zero_add, Int.add_zero, and_true, true_and, and_false, false_and, not_true_eq_false, not_false_eq_true, eq_self, ne_eq, true_implies, false_implies, implies_true, or_true, true_or, or_false, false_or, reduceCtorEq, Option.some.injEq, Sum.inl.injEq, exists_eq_left', exists_eq_left, zite]
  refine s_neverNow hW h (fun M1 f1 f2 => ?_)
  have fin := hR M1 f1
  simp only [↓rX8_never_4, ↓reduceIte, zkeep_n, zkeep_i, zkeep_r, zkeep_l, zup_eq, zIR, zLR, List.length_cons, List.length_nil, Nat.reduceAdd, Nat.reduceLeDiff, Nat.reduceEqDiff, Nat.reduceSub, Int.reduceLE, Int.reduceLT, Int.reduceEq, Int.reduceNe, Int.reduceNeg, Int.reduceAdd, Int.reduceSub, Int.reduceMul, Int.reduceToNat, Nat.le_refl, Nat.zero_le, Nat.zero_add, Int.zero_add, Int.add_zero, and_true, true_and, and_false, false_and, not_true_eq_false, not_false_eq_true, eq_self, ne_eq, true_implies, false_implies, implies_true, or_true, true_or, or_false, false_or, reduceCtorEq, Option.some.injEq, Sum.inl.injEq, exists_eq_left', exists_eq_left, zite]
  exact fin
set_option maxRecDepth 100000 in
set_option maxHeartbeats 4000000 in
theorem s_sortsBy {S M : zM} {F : zV → zM → Prop} {me : Int} (hW : WX S) (h : RM S M) (hg : 0 ≤ me ∧ me < qn S 0) (hR : ∀ M', YQ M M' → RC S M' → F (.inl (aSort S me)) M') : zcv (zv 8 tX8_sortsBy) [.inr (.inr 46), .inl me] M F := by
  refine zcvv rfl ?_
  have hk := W_k hW
  have hnf8 := hk.2.2.2.2.2.2.2
  unfold aSort at hR
  rw [if_pos hg] at hR
  generalize hp : (fun v : Nat => wsee S (wX S kall (fup (so0 S) me v) (fst S))) = p at hR
  simp only [↓eX8_sortsBy, ↓rX8_sortsBy_0, ↓rX8_sortsBy_1, ↓reduceIte, zkeep_n, zkeep_i, zkeep_r, zkeep_l, zup_eq, zIR, zLR, List.length_cons, List.length_nil, Nat.reduceAdd, Nat.reduceLeDiff, Nat.reduceEqDiff, Nat.reduceSub, Int.reduceLE, Int.reduceLT, Int.reduceEq, Int.reduceNe, Int.reduceNeg, Int.reduceAdd, Int.reduceSub, Int.reduceMul, Int.reduceToNat, Nat.le_refl, Nat.zero_le, Nat.zero_add, Int.zero_add, Int.add_zero, and_true, true_and, and_false, false_and, not_true_eq_false, not_false_eq_true, eq_self, ne_eq, true_implies, false_implies, implies_true, or_true, true_or, or_false, false_or, reduceCtorEq, Option.some.injEq, Sum.inl.injEq, exists_eq_left', exists_eq_left, zite]
  refine zcnv rfl (s_asTold hW h (fun M1 f1 f2 f3 f4 f5 => ⟨rfl, ?_⟩))
  have hCT := told_CF hW f2 f3 f5
  have e49 := (f2.2.2.1 me hg.1 hg.2).1
  have L : ∀ t : Nat × zM, (t.1 ≤ 3 ∧ (∀ k i, ¬ (59 ≤ k ∧ k ≤ 68) → (k = 49 → i ≠ me) → t.2 k i = M1 k i)) → uX8_sortsBy (fun r M' => ∃ v, r = some v ∧ F v M') 16 [some (.inr (.inr 46)), some (.inl me), some (.inl (qfact S 0 me 0)), some (.inl (wbs p t.1)), some (.inl (t.1 : Int))] [] t.2 := by
    refine zind (fun t => 3 - t.1) ?_
    rintro ⟨v, N⟩ ⟨hv, hN⟩ ih
    simp only at hv hN ih
    refine rX8_sortsBy_16.mpr ?_
    by_cases he : v = 3
    · subst he
      have same : ∀ k i, ¬ (59 ≤ k ∧ k ≤ 68) → zup N 49 me (qfact S 0 me 0) k i = M1 k i := fun k i a => by
        rw [zup_eq]
        split
        · rename_i q
          rw [q.1, q.2, e49]
        · rename_i q
          exact hN k i a (fun e1 e2 => q ⟨e1, e2⟩)
      have fin := hR (zup N 49 me (qfact S 0 me 0)) (f1.yq.trans (fun k i x y => same k i (by omega))) (RC_fr f2 (same _ _ (by decide)) (same _ _ (by decide)) (fun k i a b => same k i (by omega)))
      simp only [↓rX8_sortsBy_18, ↓rX8_sortsBy_19, ↓rX8_sortsBy_54, ↓rX8_sortsBy_55, ↓rX8_sortsBy_58, ↓rX8_sortsBy_59, ↓rX8_sortsBy_60, ↓rX8_sortsBy_61, ↓rX8_sortsBy_62, ↓hg_fX8_16_46, ↓hr_47, ↓hr_48, ↓hr_49, ↓hr_50, ↓hr_51, ↓hr_52, ↓hr_53, ↓hr_54, ↓hr_55, ↓hr_56, ↓hr_57, ↓hr_58, ↓hr_59, ↓hr_60, ↓hr_61, ↓hr_62, ↓hr_63, ↓hr_64, ↓hr_65, ↓hr_66, ↓hr_67, ↓hr_68, ↓hr_69, ↓hr_70, ↓hr_71, ↓hr_72, ↓hr_73, ↓hr_74, ↓hr_75, ↓hr_76, ↓hr_77, ↓hr_78, ↓hr_79, ↓hw_47, ↓hw_48, ↓hw_49, ↓hw_50, ↓hw_51, ↓hw_52, ↓hw_53, ↓hw_54, ↓hw_55, ↓hw_56, ↓hw_57, ↓hw_58, ↓hw_59, ↓hw_60, ↓hw_61, ↓hw_62, ↓hw_63, ↓hw_64, ↓hw_65, ↓hw_66, ↓hw_67, ↓hw_68, ↓hw_69, ↓hw_70, ↓hw_71, ↓hw_72, ↓hw_73, ↓hw_74, ↓hw_75, ↓hw_76, ↓hw_77, ↓hw_78, ↓hw_79, ↓reduceIte, zkeep_n, zkeep_i, zkeep_r, zkeep_l, zIR, zLR, List.length_cons, List.length_nil, Nat.reduceAdd, Nat.reduceLeDiff, Nat.reduceEqDiff, Nat.reduceSub, Int.reduceLE, Int.reduceLT, Int.reduceEq, Int.reduceNe, Int.reduceNeg, Int.reduceAdd, Int.reduceSub, Int.reduceMul, Int.reduceToNat, Nat.le_refl, Nat.zero_le, Nat.zero_add, Int.zero_add, Int.add_zero, and_true, true_and, and_false, false_and, not_true_eq_false, not_false_eq_true, eq_self, ne_eq, true_implies, false_implies, implies_true, or_true, true_or, or_false, false_or, reduceCtorEq, Option.some.injEq, Sum.inl.injEq, exists_eq_left', exists_eq_left, zite]
      repeat' (first | with_reducible apply And.intro | with_reducible intro _)
      all_goals first | omega | (exact fin)
    · have hw := wbs_R p v
      have hw2 := two_le v (by omega)
      have z1 := zor_1 (m := v) (by omega) hw.1 hw.2
      have z0 := zor_0z hw.1 (by omega)
      have hpm : p v = wsee S (wX S kall (fup (so0 S) me v) (fst S)) := by rw [← hp]
      have hN2 : ∀ k i, ¬ (59 ≤ k ∧ k ≤ 68) → (k = 49 → i ≠ me) → zup N 49 me v k i = M1 k i := fun k i a b => by
        rw [zup_eq, if_neg (fun z => b z.1 z.2)]
        exact hN k i a b
      have hC2 : CF S (zup N 49 me v) (gt S) (nf S) (fup (so0 S) me v) (fst S) := by
        obtain ⟨c1, c2, c3, c4, c5, c6, c7⟩ := hCT
        refine ⟨(hN2 _ _ (by decide) (fun e => by omega)).trans c1, (hN2 _ _ (by decide) (fun e => by omega)).trans c2, fun k a b => ⟨?_, fun q q0 q1 => ?_⟩, fun c a b => ⟨?_, fun q q0 q1 => ?_⟩, (hN2 _ _ (by decide) (fun e => by omega)).trans c5, c6, fun f hf => ?_⟩
        · have := c3 k a b
          rw [zup_in]
          unfold fup
          by_cases e : k = me
          · rw [if_pos e, if_pos e]
            omega
          · rw [if_neg e, if_neg e, hN 49 _ (by decide) (fun _ => e)]
            exact this.1
        · rw [hN2 _ _ (by decide) (fun e => by omega)]
          exact (c3 k a b).2 q q0 q1
        · rw [hN2 _ _ (by decide) (fun e => by omega)]
          exact (c4 c a b).1
        · rw [hN2 _ _ (by decide) (fun e => by omega)]
          exact (c4 c a b).2 q q0 q1
        · rw [hN2 56 _ (by decide) (fun e => by omega), hN2 57 _ (by decide) (fun e => by omega), hN2 58 _ (by decide) (fun e => by omega)]
          exact c7 f hf
      have nxs : ∀ N', (∀ k i, ¬ (59 ≤ k ∧ k ≤ 68) → N' k i = zup N 49 me v k i) → uX8_sortsBy (fun r M' => ∃ v, r = some v ∧ F v M') 16 [some (.inr (.inr 46)), some (.inl me), some (.inl (qfact S 0 me 0)), some (.inl (wbs p (v + 1))), some (.inl ((v : Int) + 1))] [] N' := fun N' q => ih (v + 1, N') ⟨by simp only; omega, fun k i a b => (q k i a).trans (hN2 k i a b)⟩ (by simp only; omega)
      simp only [wbs] at nxs
      have call : zcv (zv 8 tX8_isSeen) [.inr (.inr 46)] (zup N 49 me v) (fun w N' => uX8_sortsBy (fun r M' => ∃ v, r = some v ∧ F v M') 35 [some (.inr (.inr 46)), some (.inl me), some (.inl (qfact S 0 me 0)), some (.inl (wbs p v)), some (.inl (v : Int))] [w, .inl (wbs p v)] N') := by
        refine s_isSeen (so := fup (so0 S) me v) (fi := fst S) (kp := kall) (nt := 0) hW (PE_yq h (f1.yq.trans (fun k i x y => hN2 k i (by omega) (fun e => by omega)))) hC2 ((hN2 _ _ (by decide) (fun e => by omega)).trans f4) (fun f hf => knt_0d ⟨f, by omega⟩) (fun z N' q1 q2 => ?_) (fun z N' q1 q2 => ?_)
        · have nx := nxs N' q1
          rw [hpm, if_pos z] at nx
          simp only [↓rX8_sortsBy_35, ↓rX8_sortsBy_38, ↓rX8_sortsBy_39, ↓rX8_sortsBy_41, ↓rX8_sortsBy_42, ↓rX8_sortsBy_46, ↓rX8_sortsBy_47, ↓rX8_sortsBy_48, ↓rX8_sortsBy_51, ↓rX8_sortsBy_45, ↓reduceIte, zkeep_n, zkeep_i, zkeep_r, zkeep_l, zup_eq, zIR, zLR, List.length_cons, List.length_nil, Nat.reduceAdd, Nat.reduceLeDiff, Nat.reduceEqDiff, Nat.reduceSub, Int.reduceLE, Int.reduceLT, Int.reduceEq, Int.reduceNe, Int.reduceNeg, Int.reduceAdd, Int.reduceSub, Int.reduceMul, Int.reduceToNat, Nat.le_refl, Nat.zero_le, Nat.zero_add, Int.zero_add, Int.add_zero, and_true, true_and, and_false, false_and, not_true_eq_false, not_false_eq_true, eq_self, ne_eq, true_implies, false_implies, implies_true, or_true, true_or, or_false, false_or, reduceCtorEq, Option.some.injEq, Sum.inl.injEq, exists_eq_left', exists_eq_left, z1, zite]
          exact nx
        · have nx := nxs N' q1
          rw [hpm, if_neg (by rw [z]; simp), Int.add_zero] at nx
          simp only [↓rX8_sortsBy_35, ↓rX8_sortsBy_38, ↓rX8_sortsBy_39, ↓rX8_sortsBy_41, ↓rX8_sortsBy_42, ↓rX8_sortsBy_46, ↓rX8_sortsBy_47, ↓rX8_sortsBy_48, ↓rX8_sortsBy_51, ↓rX8_sortsBy_45, ↓reduceIte, zkeep_n, zkeep_i, zkeep_r, zkeep_l, zup_eq, zIR, zLR, List.length_cons, List.length_nil, Nat.reduceAdd, Nat.reduceLeDiff, Nat.reduceEqDiff, Nat.reduceSub, Int.reduceLE, Int.reduceLT, Int.reduceEq, Int.reduceNe, Int.reduceNeg, Int.reduceAdd, Int.reduceSub, Int.reduceMul, Int.reduceToNat, Nat.le_refl, Nat.zero_le, Nat.zero_add, Int.zero_add, Int.add_zero, and_true, true_and, and_false, false_and, not_true_eq_false, not_false_eq_true, eq_self, ne_eq, true_implies, false_implies, implies_true, or_true, true_or, or_false, false_or, reduceCtorEq, Option.some.injEq, Sum.inl.injEq, exists_eq_left', exists_eq_left, z0, zite]
          exact nx
      simp only [↓rX8_sortsBy_18, ↓rX8_sortsBy_19, ↓rX8_sortsBy_22, ↓rX8_sortsBy_23, ↓rX8_sortsBy_26, ↓rX8_sortsBy_27, ↓rX8_sortsBy_29, ↓rX8_sortsBy_30, ↓rX8_sortsBy_31, ↓rX8_sortsBy_32, ↓hg_fX8_16_46, ↓hr_47, ↓hr_48, ↓hr_49, ↓hr_50, ↓hr_51, ↓hr_52, ↓hr_53, ↓hr_54, ↓hr_55, ↓hr_56, ↓hr_57, ↓hr_58, ↓hr_59, ↓hr_60, ↓hr_61, ↓hr_62, ↓hr_63, ↓hr_64, ↓hr_65, ↓hr_66, ↓hr_67, ↓hr_68, ↓hr_69, ↓hr_70, ↓hr_71, ↓hr_72, ↓hr_73, ↓hr_74, ↓hr_75, ↓hr_76, ↓hr_77, ↓hr_78, ↓hr_79, ↓hw_47, ↓hw_48, ↓hw_49, ↓hw_50, ↓hw_51, ↓hw_52, ↓hw_53, ↓hw_54, ↓hw_55, ↓hw_56, ↓hw_57, ↓hw_58, ↓hw_59, ↓hw_60, ↓hw_61, ↓hw_62, ↓hw_63, ↓hw_64, ↓hw_65, ↓hw_66, ↓hw_67, ↓hw_68, ↓hw_69, ↓hw_70, ↓hw_71, ↓hw_72, ↓hw_73, ↓hw_74, ↓hw_75, ↓hw_76, ↓hw_77, ↓hw_78, ↓hw_79, ↓reduceIte, zkeep_n, zkeep_i, zkeep_r, zkeep_l, zIR, zLR, List.length_cons, List.length_nil, Nat.reduceAdd, Nat.reduceLeDiff, Nat.reduceEqDiff, Nat.reduceSub, Int.reduceLE, Int.reduceLT, Int.reduceEq, Int.reduceNe, Int.reduceNeg, Int.reduceAdd, Int.reduceSub, Int.reduceMul, Int.reduceToNat, Nat.le_refl, Nat.zero_le, Nat.zero_add, Int.zero_add, Int.add_zero, and_true, true_and, and_false, false_and, not_true_eq_false, not_false_eq_true, eq_self, ne_eq, true_implies, false_implies, implies_true, or_true, true_or, or_false, false_or, reduceCtorEq, Option.some.injEq, Sum.inl.injEq, exists_eq_left', exists_eq_left, zite]
      repeat' (first | with_reducible apply And.intro | with_reducible intro _)
      all_goals first | omega | (exact call)
  have st := L (0, M1) ⟨Nat.zero_le _, fun _ _ _ _ => rfl⟩
  simp only [↓rX8_sortsBy_4, ↓rX8_sortsBy_5, ↓rX8_sortsBy_8, ↓rX8_sortsBy_9, ↓rX8_sortsBy_10, ↓rX8_sortsBy_11, ↓rX8_sortsBy_12, ↓rX8_sortsBy_13, ↓rX8_sortsBy_14, ↓hg_fX8_16_46, ↓hr_47, ↓hr_48, ↓hr_49, ↓hr_50, ↓hr_51, ↓hr_52, ↓hr_53, ↓hr_54, ↓hr_55, ↓hr_56, ↓hr_57, ↓hr_58, ↓hr_59, ↓hr_60, ↓hr_61, ↓hr_62, ↓hr_63, ↓hr_64, ↓hr_65, ↓hr_66, ↓hr_67, ↓hr_68, ↓hr_69, ↓hr_70, ↓hr_71, ↓hr_72, ↓hr_73, ↓hr_74, ↓hr_75, ↓hr_76, ↓hr_77, ↓hr_78, ↓hr_79, ↓hw_47, ↓hw_48, ↓hw_49, ↓hw_50, ↓hw_51, ↓hw_52, ↓hw_53, ↓hw_54, ↓hw_55, ↓hw_56, ↓hw_57, ↓hw_58, ↓hw_59, ↓hw_60, ↓hw_61, ↓hw_62, ↓hw_63, ↓hw_64, ↓hw_65, ↓hw_66, ↓hw_67, ↓hw_68, ↓hw_69, ↓hw_70, ↓hw_71, ↓hw_72, ↓hw_73, ↓hw_74, ↓hw_75, ↓hw_76, ↓hw_77, ↓hw_78, ↓hw_79, ↓reduceIte, zkeep_n, zkeep_i, zkeep_r, zkeep_l, zup_eq, zIR, zLR, List.length_cons, List.length_nil, Nat.reduceAdd, Nat.reduceLeDiff, Nat.reduceEqDiff, Nat.reduceSub, Int.reduceLE, Int.reduceLT, Int.reduceEq, Int.reduceNe, Int.reduceNeg, Int.reduceAdd, Int.reduceSub, Int.reduceMul, Int.reduceToNat, Nat.le_refl, Nat.zero_le, Nat.zero_add, Int.zero_add, Int.add_zero, and_true, true_and, and_false, false_and, not_true_eq_false, not_false_eq_true, eq_self, ne_eq, true_implies, false_implies, implies_true, or_true, true_or, or_false, false_or, reduceCtorEq, Option.some.injEq, Sum.inl.injEq, exists_eq_left', exists_eq_left, e49, zite]
  repeat' (first | with_reducible apply And.intro | with_reducible intro _)
  all_goals first | omega | (exact st)
set_option maxRecDepth 100000 in
set_option maxHeartbeats 4000000 in
theorem y_sort {S M : zM} {R : zP} {me : Int} (hW : WX S) (h : RM S M) (z1 : zIR me) (hR : ∀ M', YQ M M' → R (some (.inl (aSort S me))) M') : tX8_sort [.inr (.inr 46), .inl me] M R := by
  simp only [↓eX8_sort, ↓rX8_sort_0, ↓rX8_sort_1, ↓rX8_sort_2, ↓reduceIte, zkeep_n, zkeep_i, zkeep_r, zkeep_l, zup_eq, zIR, zLR, List.length_cons, List.length_nil, Nat.reduceAdd, Nat.reduceLeDiff, Nat.reduceEqDiff, Nat.reduceSub, Int.reduceLE, Int.reduceLT, Int.reduceEq, Int.reduceNe, Int.reduceNeg, Int.reduceAdd, Int.reduceSub, Int.reduceMul, Int.reduceToNat, Nat.le_refl, Nat.zero_le, Nat.zero_add, Int.zero_add, Int.add_zero, and_true, true_and, and_false, false_and, not_true_eq_false, not_false_eq_true, eq_self, ne_eq, true_implies, false_implies, implies_true, or_true, true_or, or_false, false_or, reduceCtorEq, Option.some.injEq, Sum.inl.injEq, exists_eq_left', exists_eq_left, zite]
  refine s_isMember hW h z1 (fun hm M1 f1 f2 => ?_) (fun hm M1 f1 f2 => ?_)
  · simp only [↓rX8_sort_5, ↓rX8_sort_8, ↓rX8_sort_9, ↓rX8_sort_10, ↓reduceIte, zkeep_n, zkeep_i, zkeep_r, zkeep_l, zup_eq, zIR, zLR, List.length_cons, List.length_nil, Nat.reduceAdd, Nat.reduceLeDiff, Nat.reduceEqDiff, Nat.reduceSub, Int.reduceLE, Int.reduceLT, Int.reduceEq, Int.reduceNe, Int.reduceNeg, Int.reduceAdd, Int.reduceSub, Int.reduceMul, Int.reduceToNat, Nat.le_refl, Nat.zero_le, Nat.zero_add, Int.zero_add, Int.add_zero, and_true, true_and, and_false, false_and, not_true_eq_false, not_false_eq_true, eq_self, ne_eq, true_implies, false_implies, implies_true, or_true, true_or, or_false, false_or, reduceCtorEq, Option.some.injEq, Sum.inl.injEq, exists_eq_left', exists_eq_left, zite]
    refine s_sortsBy hW (RM_yq h f1.yq) hm (fun M2 g1 g2 => ?_)
    have fin := hR M2 (f1.yq.trans g1)
    simp only [↓rX8_sort_13, ↓rX8_sort_18, ↓reduceIte, zkeep_n, zkeep_i, zkeep_r, zkeep_l, zup_eq, zIR, zLR, List.length_cons, List.length_nil, Nat.reduceAdd, Nat.reduceLeDiff, Nat.reduceEqDiff, Nat.reduceSub, Int.reduceLE, Int.reduceLT, Int.reduceEq, Int.reduceNe, Int.reduceNeg, Int.reduceAdd, Int.reduceSub, Int.reduceMul, Int.reduceToNat, Nat.le_refl, Nat.zero_le, Nat.zero_add, Int.zero_add, Int.add_zero, and_true, true_and, and_false, false_and, not_true_eq_false, not_false_eq_true, eq_self, ne_eq, true_implies, false_implies, implies_true, or_true, true_or, or_false, false_or, reduceCtorEq, Option.some.injEq, Sum.inl.injEq, exists_eq_left', exists_eq_left, zite]
    exact fin
  · have fin := hR M1 f1.yq
    unfold aSort at fin
    rw [if_neg hm] at fin
    simp only [↓rX8_sort_5, ↓rX8_sort_16, ↓rX8_sort_18, ↓reduceIte, zkeep_n, zkeep_i, zkeep_r, zkeep_l, zup_eq, zIR, zLR, List.length_cons, List.length_nil, Nat.reduceAdd, Nat.reduceLeDiff, Nat.reduceEqDiff, Nat.reduceSub, Int.reduceLE, Int.reduceLT, Int.reduceEq, Int.reduceNe, Int.reduceNeg, Int.reduceAdd, Int.reduceSub, Int.reduceMul, Int.reduceToNat, Nat.le_refl, Nat.zero_le, Nat.zero_add, Int.zero_add, Int.add_zero, and_true, true_and, and_false, false_and, not_true_eq_false, not_false_eq_true, eq_self, ne_eq, true_implies, false_implies, implies_true, or_true, true_or, or_false, false_or, reduceCtorEq, Option.some.injEq, Sum.inl.injEq, exists_eq_left', exists_eq_left, zite]
    exact fin
