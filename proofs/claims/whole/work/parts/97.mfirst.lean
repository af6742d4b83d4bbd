set_option maxRecDepth 100000 in
set_option maxHeartbeats 4000000 in
theorem s_firstBy {S M : zM} {F : zV → zM → Prop} {me qu : Int} (hW : WX S) (h : RM S M) (hg : 0 ≤ me ∧ me < qn S 0) (hqu : 0 ≤ qu ∧ qu < 4) (hR : ∀ M', YQ M M' → RC S M' → (∀ v : Nat, v < 10 → ∀ t : Nat, t < 20 → M' 74 (20 * v + t) = ahd S me qu t v) → F (.inl (wbs (pfst S me qu) 10)) M') : zcv (zv 8 tX8_firstBy) [.inr (.inr 46), .inl me, .inl qu] M F := by
  refine zcvv rfl ?_
  have hk := W_k hW
  have hnf8 := hk.2.2.2.2.2.2.2
  have hahd : ∀ v t, ahd S me qu t v = wX S kall (so0 S) (fup2 (fst S) me qu v) me t qu := fun v t => rfl
  have hpv : ∀ v, pfst S me qu v = wsee S (wX S kall (so0 S) (fup2 (fst S) me qu v)) := fun v => rfl
  generalize pfst S me qu = p at *
  generalize ahd S me qu = A at *
  simp only [↓eX8_firstBy, ↓rX8_firstBy_0, ↓rX8_firstBy_1, ↓reduceIte, zkeep_n, zkeep_i, zkeep_r, zkeep_l, zup_eq, zIR, zLR, List.length_cons, List.length_nil, Nat.reduceAdd, Nat.reduceLeDiff, Nat.reduceEqDiff, Nat.reduceSub, Int.reduceLE, Int.reduceLT, Int.reduceEq, Int.reduceNe, Int.reduceNeg, Int.reduceAdd, Int.reduceSub, Int.reduceMul, Int.reduceToNat, Nat.le_refl, Nat.zero_le, Nat.zero_add, Int.zero_add, Int.add_zero, and_true, true_and, and_false, false_and, not_true_eq_false, not_false_eq_true, eq_self, ne_eq, true_implies, false_implies, implies_true, or_true, true_or, or_false, false_or, reduceCtorEq, Option.some.injEq, Sum.inl.injEq, exists_eq_left', exists_eq_left, zite]
  refine zcnv rfl (s_asTold hW h (fun M1 f1 f2 f3 f4 f5 => ⟨rfl, ?_⟩))
  have hCT := told_CF hW f2 f3 f5
  have e50 : M1 50 (4 * me + qu) = fst S me qu := (f2.2.2.1 me hg.1 hg.2).2 qu hqu.1 hqu.2
  have L : ∀ t : Nat × zM, (t.1 ≤ 10 ∧ (∀ k i, ¬ (59 ≤ k ∧ k ≤ 68) → k ≠ 74 → (k = 50 → i ≠ 4 * me + qu) → t.2 k i = M1 k i) ∧ (∀ v : Nat, v < t.1 → ∀ u : Nat, u < 20 → t.2 74 (20 * v + u) = A u v)) → ∀ x7, uX8_firstBy (fun r M' => ∃ v, r = some v ∧ F v M') 24 [some (.inr (.inr 46)), some (.inl me), some (.inl qu), some (.inl (4 * me + qu)), some (.inl (fst S me qu)), some (.inl (wbs p t.1)), some (.inl (t.1 : Int)), x7] [] t.2 := by
    refine zind (fun t => 10 - t.1) ?_
    rintro ⟨v, N⟩ ⟨hv, hN, hA⟩ ih x7
    simp only at hv hN hA ih
    refine rX8_firstBy_24.mpr ?_
    by_cases he : v = 10
    · subst he
      have same : ∀ k i, ¬ (59 ≤ k ∧ k ≤ 68) → k ≠ 74 → zup N 50 (4 * me + qu) (fst S me qu) k i = M1 k i := fun k i a c => by
        rw [zup_eq]
        split
        · rename_i q
          rw [q.1, q.2, e50]
        · rename_i q
          exact hN k i a c (fun e1 e2 => q ⟨e1, e2⟩)
      have fin := hR (zup N 50 (4 * me + qu) (fst S me qu)) (f1.yq.trans (fun k i x y => same k i (by omega) (by omega))) (RC_fr f2 (same _ _ (by decide) (by decide)) (same _ _ (by decide) (by decide)) (fun k i a b => same k i (by omega) (by omega))) (fun v hv u hu => by rw [zup_ne (by decide)]; exact hA v hv u hu)
      simp only [↓rX8_firstBy_26, ↓rX8_firstBy_28, ↓rX8_firstBy_106, ↓rX8_firstBy_107, ↓rX8_firstBy_110, ↓rX8_firstBy_111, ↓rX8_firstBy_113, ↓rX8_firstBy_114, ↓rX8_firstBy_116, ↓hg_fX8_19_46, ↓hr_47, ↓hr_48, ↓hr_49, ↓hr_50, ↓hr_51, ↓hr_52, ↓hr_53, ↓hr_54, ↓hr_55, ↓hr_56, ↓hr_57, ↓hr_58, ↓hr_59, ↓hr_60, ↓hr_61, ↓hr_62, ↓hr_63, ↓hr_64, ↓hr_65, ↓hr_66, ↓hr_67, ↓hr_68, ↓hr_69, ↓hr_70, ↓hr_71, ↓hr_72, ↓hr_73, ↓hr_74, ↓hr_75, ↓hr_76, ↓hr_77, ↓hr_78, ↓hr_79, ↓hw_47, ↓hw_48, ↓hw_49, ↓hw_50, ↓hw_51, ↓hw_52, ↓hw_53, ↓hw_54, ↓hw_55, ↓hw_56, ↓hw_57, ↓hw_58, ↓hw_59, ↓hw_60, ↓hw_61, ↓hw_62, ↓hw_63, ↓hw_64, ↓hw_65, ↓hw_66, ↓hw_67, ↓hw_68, ↓hw_69, ↓hw_70, ↓hw_71, ↓hw_72, ↓hw_73, ↓hw_74, ↓hw_75, ↓hw_76, ↓hw_77, ↓hw_78, ↓hw_79, ↓reduceIte, zkeep_n, zkeep_i, zkeep_r, zkeep_l, zIR, zLR, List.length_cons, List.length_nil, Nat.reduceAdd, Nat.reduceLeDiff, Nat.reduceEqDiff, Nat.reduceSub, Int.reduceLE, Int.reduceLT, Int.reduceEq, Int.reduceNe, Int.reduceNeg, Int.reduceAdd, Int.reduceSub, Int.reduceMul, Int.reduceToNat, Nat.le_refl, Nat.zero_le, Nat.zero_add, Int.zero_add, Int.add_zero, and_true, true_and, and_false, false_and, not_true_eq_false, not_false_eq_true, eq_self, ne_eq, true_implies, false_implies, implies_true, or_true, true_or, or_false, false_or, reduceCtorEq, Option.some.injEq, Sum.inl.injEq, exists_eq_left', exists_eq_left, zite]
      repeat' (first | with_reducible apply And.intro | with_reducible intro _)
      all_goals first | omega | (exact fin)
    · have hw := wbs_R p v
      have hw2 := two_leX v (by omega)
      have z1 := zor_1X (m := v) (by omega) hw.1 hw.2
      have z0 := zor_0z hw.1 (by omega)
      have hN2 : ∀ k i, ¬ (59 ≤ k ∧ k ≤ 68) → k ≠ 74 → (k = 50 → i ≠ 4 * me + qu) → zup N 50 (4 * me + qu) v k i = M1 k i := fun k i a c b => by
        rw [zup_eq, if_neg (fun z => b z.1 z.2)]
        exact hN k i a c b
      have hC2 : CF S (zup N 50 (4 * me + qu) v) (gt S) (nf S) (so0 S) (fup2 (fst S) me qu v) := by
        obtain ⟨c1, c2, c3, c4, c5, c6, c7⟩ := hCT
        refine ⟨(hN2 _ _ (by decide) (by decide) (fun e => by omega)).trans c1, (hN2 _ _ (by decide) (by decide) (fun e => by omega)).trans c2, fun k a b => ⟨?_, fun q q0 q1 => ?_⟩, fun c a b => ⟨?_, fun q q0 q1 => ?_⟩, (hN2 _ _ (by decide) (by decide) (fun e => by omega)).trans c5, c6, fun f hf => ?_⟩
        · rw [hN2 _ _ (by decide) (by decide) (fun e => by omega)]
          exact (c3 k a b).1
        · have := (c3 k a b).2 q q0 q1
          rw [zup_in]
          unfold fup2
          by_cases e : k = me ∧ q = qu
          · rw [if_pos (by omega), if_pos e]
            omega
          · rw [if_neg (by omega), if_neg e, hN 50 _ (by decide) (by decide) (fun _ => by omega)]
            exact this
        · rw [hN2 _ _ (by decide) (by decide) (fun e => by omega)]
          exact (c4 c a b).1
        · rw [hN2 _ _ (by decide) (by decide) (fun e => by omega)]
          exact (c4 c a b).2 q q0 q1
        · rw [hN2 56 _ (by decide) (by decide) (fun e => by omega), hN2 57 _ (by decide) (by decide) (fun e => by omega), hN2 58 _ (by decide) (by decide) (fun e => by omega)]
          exact c7 f hf
      have cp : ∀ N', (∀ k i, ¬ (59 ≤ k ∧ k ≤ 68) → N' k i = zup N 50 (4 * me + qu) v k i) → HV S N' (wX S kall (so0 S) (fup2 (fst S) me qu v)) → ∀ s : Nat × zM, (s.1 ≤ 20 ∧ (∀ k i, k ≠ 74 → s.2 k i = N' k i) ∧ (∀ v' : Nat, v' < v → ∀ u : Nat, u < 20 → s.2 74 (20 * v' + u) = A u v') ∧ (∀ u : Nat, u < s.1 → s.2 74 (20 * v + u) = A u v)) → uX8_firstBy (fun r M' => ∃ v, r = some v ∧ F v M') 62 [some (.inr (.inr 46)), some (.inl me), some (.inl qu), some (.inl (4 * me + qu)), some (.inl (fst S me qu)), some (.inl (wbs p (v + 1))), some (.inl (v : Int)), some (.inl (s.1 : Int))] [] s.2 := by
        intro N' g1 g2
        refine zind (fun s => 20 - s.1) ?_
        rintro ⟨u, N3⟩ ⟨hu, k1, k2, k3⟩ ih2
        simp only at hu k1 k2 k3 ih2
        refine rX8_firstBy_62.mpr ?_
        by_cases he2 : u = 20
        · subst he2
          have nx := fun x7 => ih (v + 1, N3) ⟨by simp only; omega, fun k i a c b => (k1 k i c).trans ((g1 k i a).trans (hN2 k i a c b)), fun v' hv' u hu => by
            simp only at hv'
            by_cases e : v' = v
            · rw [e]; exact k3 u hu
            · exact k2 v' (by omega) u hu⟩ (by simp only; omega) x7
          simp only [↓rX8_firstBy_64, ↓rX8_firstBy_66, ↓rX8_firstBy_100, ↓rX8_firstBy_103, ↓reduceIte, zkeep_n, zkeep_i, zkeep_r, zkeep_l, zup_eq, zIR, zLR, List.length_cons, List.length_nil, Nat.reduceAdd, Nat.reduceLeDiff, Nat.reduceEqDiff, Nat.reduceSub, Int.reduceLE, Int.reduceLT, Int.reduceEq, Int.reduceNe, Int.reduceNeg, Int.reduceAdd, Int.reduceSub, Int.reduceMul, Int.reduceToNat, Nat.le_refl, Nat.zero_le, Nat.zero_add, Int.zero_add, Int.add_zero, and_true, true_and, and_false, false_and, not_true_eq_false, not_false_eq_true, eq_self, ne_eq, true_implies, false_implies, implies_true, or_true, true_or, or_false, false_or, reduceCtorEq, Option.some.injEq, Sum.inl.injEq, exists_eq_left', exists_eq_left, zite]
          repeat' (first | with_reducible apply And.intro | with_reducible intro _)
          all_goals first | omega | (exact nx _)
        · have ha := (HV_at g2 (k := me) (t := u) (q := qu) hg.1 hg.2 (by omega) (by omega) hqu.1 hqu.2).1
          rw [Int.toNat_natCast] at ha
          have e64 : N3 64 (32 * u + (4 * me + qu)) = A u v := by
            rw [k1 _ _ (by decide), show 32 * (u : Int) + (4 * me + qu) = 32 * u + 4 * me + qu by omega, hahd]
            exact ha
          have nx := ih2 (u + 1, zup N3 74 (20 * v + u) (A u v)) ⟨by simp only; omega, fun k i hk => (zup_ne hk).trans (k1 k i hk), fun v' hv' u' hu' => by
            simp only [zup_in]
            rw [if_neg (by omega)]
            exact k2 v' hv' u' hu', fun u' hu' => by
            simp only [zup_in] at hu' ⊢
            by_cases e : u' = u
            · rw [if_pos (by rw [e]), e]
            · rw [if_neg (by omega)]
              exact k3 u' (by omega)⟩ (by simp only; omega)
          simp only [↓rX8_firstBy_64, ↓rX8_firstBy_66, ↓rX8_firstBy_69, ↓rX8_firstBy_70, ↓rX8_firstBy_73, ↓rX8_firstBy_75, ↓rX8_firstBy_77, ↓rX8_firstBy_78, ↓rX8_firstBy_80, ↓rX8_firstBy_81, ↓rX8_firstBy_82, ↓rX8_firstBy_85, ↓rX8_firstBy_87, ↓rX8_firstBy_89, ↓rX8_firstBy_90, ↓rX8_firstBy_91, ↓rX8_firstBy_92, ↓rX8_firstBy_93, ↓rX8_firstBy_94, ↓rX8_firstBy_97, ↓hg_fX8_61_46, ↓hg_fX8_91_46, ↓hr_47, ↓hr_48, ↓hr_49, ↓hr_50, ↓hr_51, ↓hr_52, ↓hr_53, ↓hr_54, ↓hr_55, ↓hr_56, ↓hr_57, ↓hr_58, ↓hr_59, ↓hr_60, ↓hr_61, ↓hr_62, ↓hr_63, ↓hr_64, ↓hr_65, ↓hr_66, ↓hr_67, ↓hr_68, ↓hr_69, ↓hr_70, ↓hr_71, ↓hr_72, ↓hr_73, ↓hr_74, ↓hr_75, ↓hr_76, ↓hr_77, ↓hr_78, ↓hr_79, ↓hw_47, ↓hw_48, ↓hw_49, ↓hw_50, ↓hw_51, ↓hw_52, ↓hw_53, ↓hw_54, ↓hw_55, ↓hw_56, ↓hw_57, ↓hw_58, ↓hw_59, ↓hw_60, ↓hw_61, ↓hw_62, ↓hw_63, ↓hw_64, ↓hw_65, ↓hw_66, ↓hw_67, ↓hw_68, ↓hw_69, ↓hw_70, ↓hw_71, ↓hw_72, ↓hw_73, ↓hw_74, ↓hw_75, ↓hw_76, ↓hw_77, ↓hw_78, ↓hw_79, ↓reduceIte, zkeep_n, zkeep_i, zkeep_r, zkeep_l, zIR, zLR, List.length_cons, List.length_nil, Nat.reduceAdd, Nat.reduceLeDiff, Nat.reduceEqDiff, Nat.reduceSub, Int.reduceLE, Int.reduceLT, Int.reduceEq, Int.reduceNe, Int.reduceNeg, Int.reduceAdd, Int.reduceSub, Int.reduceMul, Int.reduceToNat, Nat.le_refl, Nat.zero_le, Nat.zero_add, Int.zero_add, Int.add_zero, and_true, true_and, and_false, false_and, not_true_eq_false, not_false_eq_true, eq_self, ne_eq, true_implies, false_implies, implies_true, or_true, true_or, or_false, false_or, reduceCtorEq, Option.some.injEq, Sum.inl.injEq, exists_eq_left', exists_eq_left, e64, zite]
          repeat' (first | with_reducible apply And.intro | with_reducible intro _)
          all_goals first | omega | (exact nx)
      have call : zcv (zv 8 tX8_isSeen) [.inr (.inr 46)] (zup N 50 (4 * me + qu) v) (fun w N' => uX8_firstBy (fun r M' => ∃ v, r = some v ∧ F v M') 45 [some (.inr (.inr 46)), some (.inl me), some (.inl qu), some (.inl (4 * me + qu)), some (.inl (fst S me qu)), some (.inl (wbs p v)), some (.inl (v : Int)), x7] [w, .inl (wbs p v)] N') := by
        have start : ∀ N', (∀ k i, ¬ (59 ≤ k ∧ k ≤ 68) → N' k i = zup N 50 (4 * me + qu) v k i) → HV S N' (wX S kall (so0 S) (fup2 (fst S) me qu v)) → uX8_firstBy (fun r M' => ∃ v, r = some v ∧ F v M') 62 [some (.inr (.inr 46)), some (.inl me), some (.inl qu), some (.inl (4 * me + qu)), some (.inl (fst S me qu)), some (.inl (wbs p (v + 1))), some (.inl (v : Int)), some (.inl 0)] [] N' := fun N' g1 g2 => cp N' g1 g2 (0, N') ⟨Nat.zero_le _, fun _ _ _ => rfl, fun v' hv' u hu => by
          show N' 74 _ = _
          rw [g1 74 _ (by decide), zup_ne (by decide)]
          exact hA v' hv' u hu, fun u hu => by simp at hu⟩
        simp only [wbs] at start
        refine s_isSeen (so := so0 S) (fi := fup2 (fst S) me qu v) (kp := kall) (nt := 0) hW (PE_yq h (f1.yq.trans (fun k i x y => hN2 k i (by omega) (by omega) (fun e => by omega)))) hC2 ((hN2 _ _ (by decide) (by decide) (fun e => by omega)).trans f4) (fun f hf => knt_0d ⟨f, by omega⟩) (fun z N' q1 q2 => ?_) (fun z N' q1 q2 => ?_)
        · have nx := start N' q1 q2
          rw [hpv, if_pos z] at nx
          simp only [↓rX8_firstBy_45, ↓rX8_firstBy_48, ↓rX8_firstBy_49, ↓rX8_firstBy_51, ↓rX8_firstBy_52, ↓rX8_firstBy_56, ↓rX8_firstBy_57, ↓rX8_firstBy_59, ↓rX8_firstBy_60, ↓rX8_firstBy_55, ↓reduceIte, zkeep_n, zkeep_i, zkeep_r, zkeep_l, zup_eq, zIR, zLR, List.length_cons, List.length_nil, Nat.reduceAdd, Nat.reduceLeDiff, Nat.reduceEqDiff, Nat.reduceSub, Int.reduceLE, Int.reduceLT, Int.reduceEq, Int.reduceNe, Int.reduceNeg, Int.reduceAdd, Int.reduceSub, Int.reduceMul, Int.reduceToNat, Nat.le_refl, Nat.zero_le, Nat.zero_add, Int.zero_add, Int.add_zero, and_true, true_and, and_false, false_and, not_true_eq_false, not_false_eq_true, eq_self, ne_eq, true_implies, false_implies, implies_true, or_true, true_or, or_false, false_or, reduceCtorEq, Option.some.injEq, Sum.inl.injEq, exists_eq_left', exists_eq_left, z1, zite]
          exact nx
        · have nx := start N' q1 q2
          rw [hpv, if_neg (by rw [z]; simp), Int.add_zero] at nx
          simp only [↓rX8_firstBy_45, ↓rX8_firstBy_48, ↓rX8_firstBy_49, ↓rX8_firstBy_51, ↓rX8_firstBy_52, ↓rX8_firstBy_56, ↓rX8_firstBy_57, ↓rX8_firstBy_59, ↓rX8_firstBy_60, ↓rX8_firstBy_55, ↓reduceIte, zkeep_n, zkeep_i, zkeep_r, zkeep_l, zup_eq, zIR, zLR, List.length_cons, List.length_nil, Nat.reduceAdd, Nat.reduceLeDiff, Nat.reduceEqDiff, Nat.reduceSub, Int.reduceLE, Int.reduceLT, Int.reduceEq, Int.reduceNe, Int.reduceNeg, Int.reduceAdd, Int.reduceSub, Int.reduceMul, Int.reduceToNat, Nat.le_refl, Nat.zero_le, Nat.zero_add, Int.zero_add, Int.add_zero, and_true, true_and, and_false, false_and, not_true_eq_false, not_false_eq_true, eq_self, ne_eq, true_implies, false_implies, implies_true, or_true, true_or, or_false, false_or, reduceCtorEq, Option.some.injEq, Sum.inl.injEq, exists_eq_left', exists_eq_left, z0, zite]
          exact nx
      simp only [↓rX8_firstBy_26, ↓rX8_firstBy_28, ↓rX8_firstBy_31, ↓rX8_firstBy_32, ↓rX8_firstBy_35, ↓rX8_firstBy_36, ↓rX8_firstBy_38, ↓rX8_firstBy_39, ↓rX8_firstBy_41, ↓rX8_firstBy_42, ↓hg_fX8_19_46, ↓hr_47, ↓hr_48, ↓hr_49, ↓hr_50, ↓hr_51, ↓hr_52, ↓hr_53, ↓hr_54, ↓hr_55, ↓hr_56, ↓hr_57, ↓hr_58, ↓hr_59, ↓hr_60, ↓hr_61, ↓hr_62, ↓hr_63, ↓hr_64, ↓hr_65, ↓hr_66, ↓hr_67, ↓hr_68, ↓hr_69, ↓hr_70, ↓hr_71, ↓hr_72, ↓hr_73, ↓hr_74, ↓hr_75, ↓hr_76, ↓hr_77, ↓hr_78, ↓hr_79, ↓hw_47, ↓hw_48, ↓hw_49, ↓hw_50, ↓hw_51, ↓hw_52, ↓hw_53, ↓hw_54, ↓hw_55, ↓hw_56, ↓hw_57, ↓hw_58, ↓hw_59, ↓hw_60, ↓hw_61, ↓hw_62, ↓hw_63, ↓hw_64, ↓hw_65, ↓hw_66, ↓hw_67, ↓hw_68, ↓hw_69, ↓hw_70, ↓hw_71, ↓hw_72, ↓hw_73, ↓hw_74, ↓hw_75, ↓hw_76, ↓hw_77, ↓hw_78, ↓hw_79, ↓reduceIte, zkeep_n, zkeep_i, zkeep_r, zkeep_l, zIR, zLR, List.length_cons, List.length_nil, Nat.reduceAdd, Nat.reduceLeDiff, Nat.reduceEqDiff, Nat.reduceSub, Int.reduceLE, Int.reduceLT, Int.reduceEq, Int.reduceNe, Int.reduceNeg, Int.reduceAdd, Int.reduceSub, Int.reduceMul, Int.reduceToNat, Nat.le_refl, Nat.zero_le, Nat.zero_add, Int.zero_add, Int.add_zero, and_true, true_and, and_false, false_and, not_true_eq_false, not_false_eq_true, eq_self, ne_eq, true_implies, false_implies, implies_true, or_true, true_or, or_false, false_or, reduceCtorEq, Option.some.injEq, Sum.inl.injEq, exists_eq_left', exists_eq_left, zite]
      repeat' (first | with_reducible apply And.intro | with_reducible intro _)
      all_goals first | omega | (exact call)
  have st := fun x7 => L (0, M1) ⟨Nat.zero_le _, fun _ _ _ _ _ => rfl, fun v hv => by simp at hv⟩ x7
  simp only [↓rX8_firstBy_4, ↓rX8_firstBy_5, ↓rX8_firstBy_6, ↓rX8_firstBy_7, ↓rX8_firstBy_8, ↓rX8_firstBy_9, ↓rX8_firstBy_10, ↓rX8_firstBy_11, ↓rX8_firstBy_14, ↓rX8_firstBy_15, ↓rX8_firstBy_16, ↓rX8_firstBy_18, ↓rX8_firstBy_19, ↓rX8_firstBy_21, ↓rX8_firstBy_22, ↓hg_fX8_19_46, ↓hr_47, ↓hr_48, ↓hr_49, ↓hr_50, ↓hr_51, ↓hr_52, ↓hr_53, ↓hr_54, ↓hr_55, ↓hr_56, ↓hr_57, ↓hr_58, ↓hr_59, ↓hr_60, ↓hr_61, ↓hr_62, ↓hr_63, ↓hr_64, ↓hr_65, ↓hr_66, ↓hr_67, ↓hr_68, ↓hr_69, ↓hr_70, ↓hr_71, ↓hr_72, ↓hr_73, ↓hr_74, ↓hr_75, ↓hr_76, ↓hr_77, ↓hr_78, ↓hr_79, ↓hw_47, ↓hw_48, ↓hw_49, ↓hw_50, ↓hw_51, ↓hw_52, ↓hw_53, ↓hw_54, ↓hw_55, ↓hw_56, ↓hw_57, ↓hw_58, ↓hw_59, ↓hw_60, ↓hw_61, ↓hw_62, ↓hw_63, ↓hw_64, ↓hw_65, ↓hw_66, ↓hw_67, ↓hw_68, ↓hw_69, ↓hw_70, ↓hw_71, ↓hw_72, ↓hw_73, ↓hw_74, ↓hw_75, ↓hw_76, ↓hw_77, ↓hw_78, ↓hw_79, ↓reduceIte, zkeep_n, zkeep_i, zkeep_r, zkeep_l, zup_eq, zIR, zLR, List.length_cons, List.length_nil, Nat.reduceAdd, Nat.reduceLeDiff, Nat.reduceEqDiff, Nat.reduceSub, Int.reduceLE, Int.reduceLT, Int.reduceEq, Int.reduceNe, Int.reduceNeg, Int.reduceAdd, Int.reduceSub, Int.reduceMul, Int.reduceToNat, Nat.le_refl, Nat.zero_le, Nat.zero_add, Int.zero_add, Int.add_zero, and_true, true_and, and_false, false_and, not_true_eq_false, not_false_eq_true, eq_self, ne_eq, true_implies, false_implies, implies_true, or_true, true_or, or_false, false_or, reduceCtorEq, Option.some.injEq, Sum.inl.injEq, exists_eq_left', exists_eq_left, e50, zite]
  repeat' (first | with_reducible apply And.intro | with_reducible intro _)
  all_goals first | omega | (exact st _)
set_option maxRecDepth 100000 in
set_option maxHeartbeats 4000000 in
theorem y_first {S M : zM} {R : zP} {me qu : Int} (hW : WX S) (h : RM S M) (z1 : zIR me) (z2 : zIR qu) (hR : ∀ M', YQ M M' → R (some (.inl (aFirst S me qu))) M') : tX8_first [.inr (.inr 46), .inl me, .inl qu] M R := by
  simp only [↓eX8_first, ↓rX8_first_0, ↓rX8_first_1, ↓rX8_first_2, ↓reduceIte, zkeep_n, zkeep_i, zkeep_r, zkeep_l, zup_eq, zIR, zLR, List.length_cons, List.length_nil, Nat.reduceAdd, Nat.reduceLeDiff, Nat.reduceEqDiff, Nat.reduceSub, Int.reduceLE, Int.reduceLT, Int.reduceEq, Int.reduceNe, Int.reduceNeg, Int.reduceAdd, Int.reduceSub, Int.reduceMul, Int.reduceToNat, Nat.le_refl, Nat.zero_le, Nat.zero_add, Int.zero_add, Int.add_zero, and_true, true_and, and_false, false_and, not_true_eq_false, not_false_eq_true, eq_self, ne_eq, true_implies, false_implies, implies_true, or_true, true_or, or_false, false_or, reduceCtorEq, Option.some.injEq, Sum.inl.injEq, exists_eq_left', exists_eq_left, zite]
  refine s_isMember hW h z1 (fun hm M1 f1 f2 => ?_) (fun hm M1 f1 f2 => ?_)
  · unfold zIR at z1 z2
    have bad : ¬ (0 ≤ qu ∧ qu < 4) → R (some (.inl (-2))) M1 := fun q => by
      have := hR M1 f1.yq
      unfold aFirst at this
      rw [if_neg (fun z => q z.2)] at this
      exact this
    have go : (0 ≤ qu ∧ qu < 4) → zcv (zv 8 tX8_firstBy) [.inr (.inr 46), .inl me, .inl qu] M1 (fun v M' => uX8_first R 21 [some (.inr (.inr 46)), some (.inl me), some (.inl qu)] [v] M') := fun q => by
      refine s_firstBy hW (RM_yq h f1.yq) hm q (fun M2 g1 g2 g3 => ?_)
      have fin := hR M2 (f1.yq.trans g1)
      unfold aFirst at fin
      rw [if_pos ⟨hm, q⟩] at fin
      simp only [↓rX8_first_21, ↓rX8_first_26, ↓reduceIte, zkeep_n, zkeep_i, zkeep_r, zkeep_l, zup_eq, zIR, zLR, List.length_cons, List.length_nil, Nat.reduceAdd, Nat.reduceLeDiff, Nat.reduceEqDiff, Nat.reduceSub, Int.reduceLE, Int.reduceLT, Int.reduceEq, Int.reduceNe, Int.reduceNeg, Int.reduceAdd, Int.reduceSub, Int.reduceMul, Int.reduceToNat, Nat.le_refl, Nat.zero_le, Nat.zero_add, Int.zero_add, Int.add_zero, and_true, true_and, and_false, false_and, not_true_eq_false, not_false_eq_true, eq_self, ne_eq, true_implies, false_implies, implies_true, or_true, true_or, or_false, false_or, reduceCtorEq, Option.some.injEq, Sum.inl.injEq, exists_eq_left', exists_eq_left, zite]
      exact fin
    simp only [↓rX8_first_5, ↓rX8_first_8, ↓rX8_first_9, ↓rX8_first_12, ↓rX8_first_15, ↓rX8_first_16, ↓rX8_first_17, ↓rX8_first_18, ↓rX8_first_24, ↓rX8_first_26, ↓i_isQuestion, ↓reduceIte, zkeep_n, zkeep_i, zkeep_r, zkeep_l, zup_eq, zIR, zLR, List.length_cons, List.length_nil, Nat.reduceAdd, Nat.reduceLeDiff, Nat.reduceEqDiff, Nat.reduceSub, Int.reduceLE, Int.reduceLT, Int.reduceEq, Int.reduceNe, Int.reduceNeg, Int.reduceAdd, Int.reduceSub, Int.reduceMul, Int.reduceToNat, Nat.le_refl, Nat.zero_le, Nat.zero_add, Int.zero_add, Int.add_zero, and_true, true_and, and_false, false_and, not_true_eq_false, not_false_eq_true, eq_self, ne_eq, true_implies, false_implies, implies_true, or_true, true_or, or_false, false_or, reduceCtorEq, Option.some.injEq, Sum.inl.injEq, exists_eq_left', exists_eq_left, zite]
    repeat' (first | with_reducible apply And.intro | with_reducible intro _)
    all_goals first | omega | (exact bad (by omega)) | (exact go (by omega))
  · have fin := hR M1 f1.yq
    unfold aFirst at fin
    rw [if_neg (fun z => hm z.1)] at fin
    simp only [↓rX8_first_5, ↓rX8_first_24, ↓rX8_first_26, ↓reduceIte, zkeep_n, zkeep_i, zkeep_r, zkeep_l, zup_eq, zIR, zLR, List.length_cons, List.length_nil, Nat.reduceAdd, Nat.reduceLeDiff, Nat.reduceEqDiff, Nat.reduceSub, Int.reduceLE, Int.reduceLT, Int.reduceEq, Int.reduceNe, Int.reduceNeg, Int.reduceAdd, Int.reduceSub, Int.reduceMul, Int.reduceToNat, Nat.le_refl, Nat.zero_le, Nat.zero_add, Int.zero_add, Int.add_zero, and_true, true_and, and_false, false_and, not_true_eq_false, not_false_eq_true, eq_self, ne_eq, true_implies, false_implies, implies_true, or_true, true_or, or_false, false_or, reduceCtorEq, Option.some.injEq, Sum.inl.injEq, exists_eq_left', exists_eq_left, zite]
    exact fin
def wcb (p : Nat → Bool) (hd : Nat → Int) (a k : Nat) : Int := wct (fun b => p a && p b && decide (hd a = hd b)) k
def wmo (p : Nat → Bool) (hd : Nat → Int) : Nat → Int
  | 0 => 0
  | a + 1 => if wmo p hd a < wcb p hd a 10 then wcb p hd a 10 else wmo p hd a
theorem wcb_cnt {p : Nat → Bool} {hd : Nat → Int} {a k : Nat} : wcb p hd a k = if p a = true then wcnt p hd k (hd a) else 0 := by
  unfold wcb wcnt
  cases h : p a with
  | true =>
    rw [if_pos rfl]
    refine wct_cg k (fun j _ => ?_)
    have : decide (hd a = hd j) = decide (hd j = hd a) := decide_eq_decide.mpr eq_comm
    rw [this, Bool.true_and]
  | false =>
    rw [if_neg (by simp)]
    have : ∀ k, wct (fun b => false && p b && decide (hd a = hd b)) k = 0 := fun k => by
      induction k with
      | zero => rfl
      | succ k ih => unfold wct; rw [ih]; rfl
    exact this k
theorem wmo_is (p : Nat → Bool) (hd : Nat → Int) : wmo p hd 10 = wmost p hd 10 := by
  have key : ∀ k, k ≤ 10 → 0 ≤ wmo p hd k ∧ (∀ a : Nat, a < k → p a = true → wcnt p hd 10 (hd a) ≤ wmo p hd k) ∧ (wmo p hd k = 0 ∨ ∃ a : Nat, a < k ∧ p a = true ∧ wcnt p hd 10 (hd a) = wmo p hd k) := by
    intro k
    induction k with
    | zero => exact fun _ => ⟨Int.le_refl _, fun a ha => by omega, Or.inl rfl⟩
    | succ k ih =>
      intro hk
      obtain ⟨i0, i1, i2⟩ := ih (by omega)
      have e : wmo p hd (k + 1) = if wmo p hd k < wcb p hd k 10 then wcb p hd k 10 else wmo p hd k := rfl
      have ec := wcb_cnt (p := p) (hd := hd) (a := k) (k := 10)
      by_cases c : wmo p hd k < wcb p hd k 10
      · rw [if_pos c] at e
        have hpk : p k = true := by
          cases hh : p k with
          | true => rfl
          | false => rw [hh, if_neg (by simp)] at ec; omega
        rw [if_pos hpk] at ec
        rw [e]
        refine ⟨by omega, fun a ha hpa => ?_, Or.inr ⟨k, by omega, hpk, ec.symm⟩⟩
        by_cases ea : a = k
        · rw [ea]; omega
        · have := i1 a (by omega) hpa
          omega
      · rw [if_neg c] at e
        rw [e]
        refine ⟨i0, fun a ha hpa => ?_, ?_⟩
        · by_cases ea : a = k
          · rw [ea] at hpa ⊢
            rw [if_pos hpa] at ec
            omega
          · exact i1 a (by omega) hpa
        · rcases i2 with q | ⟨a, q1, q2, q3⟩
          · exact Or.inl q
          · exact Or.inr ⟨a, by omega, q2, q3⟩
  obtain ⟨k0, k1, k2⟩ := key 10 (Nat.le_refl _)
  refine isMost_unique (k := 10) (p := p) (hd := hd) ⟨k1, ?_⟩ (wmost_is p hd 10)
  rcases k2 with q | q
  · by_cases hall : ∀ a : Nat, a < 10 → p a = false
    · exact Or.inl ⟨q, hall⟩
    · obtain ⟨a, ha⟩ := Classical.not_forall.mp hall
      have ha1 : a < 10 := Classical.byContradiction (fun z => ha (fun y => absurd y z))
      have ha2 : p a = true := by
        cases hh : p a with
        | true => rfl
        | false => exact absurd (fun _ => hh) ha
      refine Or.inr ⟨a, ha1, ha2, ?_⟩
      have l1 := k1 a ha1 ha2
      have l2 : 0 ≤ wcnt p hd 10 (hd a) := (wct_R _ 10).1
      omega
  · exact Or.inr q
