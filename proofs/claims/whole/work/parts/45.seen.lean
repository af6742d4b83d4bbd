def wX (S : zM) (kp : Int → Bool) (so : Int → Int) (fi : Int → Int → Int) (m : Int) (T : Nat) : Int → Int := wseg S (gt S) (nf S) kp (wby (so m)) m 0 (T + 1) (wstart (so m) (fi m))
def so0 (S : zM) : Int → Int := fun m => qfact S 0 m 0
theorem wX_0 (S : zM) (kp : Int → Bool) (m : Int) (T : Nat) : wvec S (gt S) (nf S) kp m T = wX S kp (so0 S) (fst S) m T := rfl
def wsee (S : zM) (V : Int → Nat → Int → Int) : Bool := (List.range (S 7 0).toNat).all (fun i : Nat => decide (S 9 i < qn S 0 ∧ V (S 9 i) (S 8 i).toNat (S 10 i) = S 11 i))
def wsum2 : Nat := 0
theorem wsee_iff {S : zM} {V : Int → Nat → Int → Int} (h : 0 ≤ S 7 0) : wsee S V = true ↔ ∀ i, 0 ≤ i → i < S 7 0 → (S 9 i < qn S 0 ∧ V (S 9 i) (S 8 i).toNat (S 10 i) = S 11 i) := by
  unfold wsee
  rw [List.all_eq_true]
  simp only [List.mem_range, decide_eq_true_eq]
  constructor
  · intro q i i0 i1
    have := q i.toNat (by omega)
    rw [Int.toNat_of_nonneg i0] at this
    exact this
  · intro q i hi
    exact q i (by omega) (by omega)
set_option maxRecDepth 100000 in
set_option maxHeartbeats 4000000 in
theorem s_tellOf {S M : zM} {R : zP} {m : Int} (h : SR S M) (hm : 0 ≤ m ∧ m < 8) (h1 : (∃ i, 0 ≤ i ∧ i < S 7 0 ∧ S 9 i = m) → R (some (.inl 1)) M) (h0 : (∀ i, 0 ≤ i → i < S 7 0 → S 9 i ≠ m) → R (some (.inl 0)) M) : tX6_tellOf [.inr (.inr 17), .inl m] M R := by
  obtain ⟨hn, hn8, hr⟩ := h
  simp only [↓eX6_tellOf, ↓rX6_tellOf_0, ↓rX6_tellOf_1, ↓reduceIte, zkeep_n, zkeep_i, zkeep_r, zkeep_l, zup_eq, zIR, zLR, List.length_cons, List.length_nil, Nat.reduceAdd, Nat.reduceLeDiff, Nat.reduceEqDiff, Nat.reduceSub, Int.reduceLE, Int.reduceLT, Int.reduceEq, Int.reduceNe, Int.reduceNeg, Int.reduceAdd, Int.reduceSub, Int.reduceMul, Int.reduceToNat, Nat.le_refl, Nat.zero_le, Nat.zero_add, Int.zero_add, Int.add_zero, and_true, true_and, and_false, false_and, not_true_eq_false, not_false_eq_true, eq_self, ne_eq, true_implies, false_implies, implies_true, or_true, true_or, or_false, false_or, reduceCtorEq, Option.some.injEq, Sum.inl.injEq, exists_eq_left', exists_eq_left, zite]
  have L : ∀ s : Int, ((0 ≤ s ∧ s ≤ S 7 0) ∧ ∀ i, 0 ≤ i → i < s → S 9 i ≠ m) → uX6_tellOf R 2 [some (.inr (.inr 17)), some (.inl m), some (.inl s)] [] M := by
    refine zind (fun s => (S 7 0 - s).toNat) ?_
    rintro s ⟨hs, hno⟩ ih
    refine rX6_tellOf_2.mpr ?_
    by_cases he : s = S 7 0
    · simp only [↓rX6_tellOf_3, ↓rX6_tellOf_4, ↓rX6_tellOf_7, ↓rX6_tellOf_28, ↓rX6_tellOf_29, ↓hg_fX6_24_17, ↓reduceIte, zkeep_n, zkeep_i, zkeep_r, zkeep_l, zup_eq, zIR, zLR, List.length_cons, List.length_nil, Nat.reduceAdd, Nat.reduceLeDiff, Nat.reduceEqDiff, Nat.reduceSub, Int.reduceLE, Int.reduceLT, Int.reduceEq, Int.reduceNe, Int.reduceNeg, Int.reduceAdd, Int.reduceSub, Int.reduceMul, Int.reduceToNat, Nat.le_refl, Nat.zero_le, Nat.zero_add, Int.zero_add, Int.add_zero, and_true, true_and, and_false, false_and, not_true_eq_false, not_false_eq_true, eq_self, ne_eq, true_implies, false_implies, implies_true, or_true, true_or, or_false, false_or, reduceCtorEq, Option.some.injEq, Sum.inl.injEq, exists_eq_left', exists_eq_left, hn, zite]
      repeat' (first | with_reducible apply And.intro | with_reducible intro _)
      all_goals first | omega | (exact h0 (fun i a b => hno i a (by omega)))
    · have r := (hr s hs.1 (by omega)).2.1
      have e := r.1
      have fnd : S 9 s = m → R (some (.inl 1)) M := fun hh => h1 ⟨s, hs.1, by omega, hh⟩
      have next : ¬ S 9 s = m → uX6_tellOf R 2 [some (.inr (.inr 17)), some (.inl m), some (.inl (s + 1))] [] M := fun hh => by
        refine ih (s + 1) ⟨by omega, fun i a b => ?_⟩ (by omega)
        by_cases hi : i = s
        · rw [hi]; exact hh
        · exact hno i a (by omega)
      simp only [↓rX6_tellOf_3, ↓rX6_tellOf_4, ↓rX6_tellOf_7, ↓rX6_tellOf_10, ↓rX6_tellOf_11, ↓rX6_tellOf_14, ↓rX6_tellOf_15, ↓rX6_tellOf_16, ↓rX6_tellOf_17, ↓rX6_tellOf_20, ↓rX6_tellOf_21, ↓rX6_tellOf_22, ↓rX6_tellOf_25, ↓hg_fX6_15_17, ↓hg_fX6_24_17, ↓hr_10, ↓hr_11, ↓hr_13, ↓hr_14, ↓hr_15, ↓hr_16, ↓hr_18, ↓hr_19, ↓hr_2, ↓hr_20, ↓hr_21, ↓hr_24, ↓hr_25, ↓hr_26, ↓hr_28, ↓hr_29, ↓hr_3, ↓hr_30, ↓hr_33, ↓hr_34, ↓hr_35, ↓hr_36, ↓hr_37, ↓hr_39, ↓hr_41, ↓hr_43, ↓hr_45, ↓hr_5, ↓hr_6, ↓hr_8, ↓hr_9, ↓hw_10, ↓hw_11, ↓hw_13, ↓hw_14, ↓hw_15, ↓hw_16, ↓hw_18, ↓hw_19, ↓hw_2, ↓hw_20, ↓hw_21, ↓hw_24, ↓hw_25, ↓hw_26, ↓hw_28, ↓hw_29, ↓hw_3, ↓hw_30, ↓hw_33, ↓hw_34, ↓hw_35, ↓hw_36, ↓hw_37, ↓hw_39, ↓hw_41, ↓hw_43, ↓hw_45, ↓hw_5, ↓hw_6, ↓hw_8, ↓hw_9, ↓reduceIte, zkeep_n, zkeep_i, zkeep_r, zkeep_l, zup_eq, zIR, zLR, List.length_cons, List.length_nil, Nat.reduceAdd, Nat.reduceLeDiff, Nat.reduceEqDiff, Nat.reduceSub, Int.reduceLE, Int.reduceLT, Int.reduceEq, Int.reduceNe, Int.reduceNeg, Int.reduceAdd, Int.reduceSub, Int.reduceMul, Int.reduceToNat, Nat.le_refl, Nat.zero_le, Nat.zero_add, Int.zero_add, Int.add_zero, and_true, true_and, and_false, false_and, not_true_eq_false, not_false_eq_true, eq_self, ne_eq, true_implies, false_implies, implies_true, or_true, true_or, or_false, false_or, reduceCtorEq, Option.some.injEq, Sum.inl.injEq, exists_eq_left', exists_eq_left, hn, e, zite]
      repeat' (first | with_reducible apply And.intro | with_reducible intro _)
      all_goals first | omega | (exact next (by omega)) | (exact fnd (by omega))
  exact L 0 ⟨by omega, fun i a b => by omega⟩
set_option maxRecDepth 100000 in
set_option maxHeartbeats 4000000 in
theorem s_agree {S M : zM} {R : zP} {m : Int} {B : Nat → Int → Int} (h : SR S M) (hm : 0 ≤ m ∧ m < 8) (hB : ∀ t : Nat, t < 20 → ∀ q, 0 ≤ q → q < 4 → M 33 ((t : Int) * 4 + q) = B t q ∧ 0 ≤ B t q ∧ B t q ≤ 9) (h1 : (∀ i, 0 ≤ i → i < S 7 0 → S 9 i = m → B (S 8 i).toNat (S 10 i) = S 11 i) → R (some (.inl 1)) M) (h0 : (∃ i, 0 ≤ i ∧ i < S 7 0 ∧ S 9 i = m ∧ B (S 8 i).toNat (S 10 i) ≠ S 11 i) → R (some (.inl 0)) M) : tX6_agree [.inr (.inr 17), .inl m, .inr (.inr 33)] M R := by
  obtain ⟨hn, hn8, hr⟩ := h
  simp only [↓eX6_agree, ↓rX6_agree_0, ↓rX6_agree_1, ↓reduceIte, zkeep_n, zkeep_i, zkeep_r, zkeep_l, zup_eq, zIR, zLR, List.length_cons, List.length_nil, Nat.reduceAdd, Nat.reduceLeDiff, Nat.reduceEqDiff, Nat.reduceSub, Int.reduceLE, Int.reduceLT, Int.reduceEq, Int.reduceNe, Int.reduceNeg, Int.reduceAdd, Int.reduceSub, Int.reduceMul, Int.reduceToNat, Nat.le_refl, Nat.zero_le, Nat.zero_add, Int.zero_add, Int.add_zero, and_true, true_and, and_false, false_and, not_true_eq_false, not_false_eq_true, eq_self, ne_eq, true_implies, false_implies, implies_true, or_true, true_or, or_false, false_or, reduceCtorEq, Option.some.injEq, Sum.inl.injEq, exists_eq_left', exists_eq_left, zite]
  have L : ∀ s : Int, ((0 ≤ s ∧ s ≤ S 7 0) ∧ ∀ i, 0 ≤ i → i < s → S 9 i = m → B (S 8 i).toNat (S 10 i) = S 11 i) → uX6_agree R 2 [some (.inr (.inr 17)), some (.inl m), some (.inr (.inr 33)), some (.inl s)] [] M := by
    refine zind (fun s => (S 7 0 - s).toNat) ?_
    rintro s ⟨hs, hno⟩ ih
    refine rX6_agree_2.mpr ?_
    by_cases he : s = S 7 0
    · simp only [↓rX6_agree_3, ↓rX6_agree_4, ↓rX6_agree_7, ↓rX6_agree_54, ↓rX6_agree_55, ↓hg_fX6_24_17, ↓reduceIte, zkeep_n, zkeep_i, zkeep_r, zkeep_l, zup_eq, zIR, zLR, List.length_cons, List.length_nil, Nat.reduceAdd, Nat.reduceLeDiff, Nat.reduceEqDiff, Nat.reduceSub, Int.reduceLE, Int.reduceLT, Int.reduceEq, Int.reduceNe, Int.reduceNeg, Int.reduceAdd, Int.reduceSub, Int.reduceMul, Int.reduceToNat, Nat.le_refl, Nat.zero_le, Nat.zero_add, Int.zero_add, Int.add_zero, and_true, true_and, and_false, false_and, not_true_eq_false, not_false_eq_true, eq_self, ne_eq, true_implies, false_implies, implies_true, or_true, true_or, or_false, false_or, reduceCtorEq, Option.some.injEq, Sum.inl.injEq, exists_eq_left', exists_eq_left, hn, zite]
      repeat' (first | with_reducible apply And.intro | with_reducible intro _)
      all_goals first | omega | (exact h1 (fun i a b => hno i a (by omega)))
    · have r := hr s hs.1 (by omega)
      have e1 := r.1.1
      have e2 := r.2.1.1
      have e3 := r.2.2.1.1
      have e4 := r.2.2.2.1
      have hb := hB (S 8 s).toNat (by omega) (S 10 s) r.2.2.1.2.1 r.2.2.1.2.2
      rw [Int.toNat_of_nonneg r.1.2.1] at hb
      have e5 := hb.1
      have fnd : S 9 s = m → B (S 8 s).toNat (S 10 s) ≠ S 11 s → R (some (.inl 0)) M := fun hh h2 => h0 ⟨s, hs.1, by omega, hh, h2⟩
      have next : (S 9 s = m → B (S 8 s).toNat (S 10 s) = S 11 s) → uX6_agree R 2 [some (.inr (.inr 17)), some (.inl m), some (.inr (.inr 33)), some (.inl (s + 1))] [] M := fun hh => by
        refine ih (s + 1) ⟨by omega, fun i a b => ?_⟩ (by omega)
        by_cases hi : i = s
        · rw [hi]; exact hh
        · exact hno i a (by omega)
      simp only [↓rX6_agree_3, ↓rX6_agree_4, ↓rX6_agree_7, ↓rX6_agree_10, ↓rX6_agree_11, ↓rX6_agree_14, ↓rX6_agree_15, ↓rX6_agree_16, ↓rX6_agree_17, ↓rX6_agree_20, ↓rX6_agree_21, ↓rX6_agree_22, ↓rX6_agree_25, ↓rX6_agree_26, ↓rX6_agree_27, ↓rX6_agree_28, ↓rX6_agree_29, ↓rX6_agree_30, ↓rX6_agree_33, ↓rX6_agree_34, ↓rX6_agree_35, ↓rX6_agree_36, ↓rX6_agree_37, ↓rX6_agree_38, ↓rX6_agree_41, ↓rX6_agree_42, ↓rX6_agree_43, ↓rX6_agree_46, ↓rX6_agree_47, ↓rX6_agree_48, ↓rX6_agree_51, ↓hg_fX6_15_17, ↓hg_fX6_18_17, ↓hg_fX6_21_17, ↓hg_fX6_24_17, ↓hg_fX6_9_17, ↓hr_10, ↓hr_11, ↓hr_13, ↓hr_14, ↓hr_15, ↓hr_16, ↓hr_18, ↓hr_19, ↓hr_2, ↓hr_20, ↓hr_21, ↓hr_24, ↓hr_25, ↓hr_26, ↓hr_28, ↓hr_29, ↓hr_3, ↓hr_30, ↓hr_33, ↓hr_34, ↓hr_35, ↓hr_36, ↓hr_37, ↓hr_39, ↓hr_41, ↓hr_43, ↓hr_45, ↓hr_5, ↓hr_6, ↓hr_8, ↓hr_9, ↓hw_10, ↓hw_11, ↓hw_13, ↓hw_14, ↓hw_15, ↓hw_16, ↓hw_18, ↓hw_19, ↓hw_2, ↓hw_20, ↓hw_21, ↓hw_24, ↓hw_25, ↓hw_26, ↓hw_28, ↓hw_29, ↓hw_3, ↓hw_30, ↓hw_33, ↓hw_34, ↓hw_35, ↓hw_36, ↓hw_37, ↓hw_39, ↓hw_41, ↓hw_43, ↓hw_45, ↓hw_5, ↓hw_6, ↓hw_8, ↓hw_9, ↓reduceIte, zkeep_n, zkeep_i, zkeep_r, zkeep_l, zup_eq, zIR, zLR, List.length_cons, List.length_nil, Nat.reduceAdd, Nat.reduceLeDiff, Nat.reduceEqDiff, Nat.reduceSub, Int.reduceLE, Int.reduceLT, Int.reduceEq, Int.reduceNe, Int.reduceNeg, Int.reduceAdd, Int.reduceSub, Int.reduceMul, Int.reduceToNat, Nat.le_refl, Nat.zero_le, Nat.zero_add, Int.zero_add, Int.add_zero, and_true, true_and, and_false, false_and, not_true_eq_false, not_false_eq_true, eq_self, ne_eq, true_implies, false_implies, implies_true, or_true, true_or, or_false, false_or, reduceCtorEq, Option.some.injEq, Sum.inl.injEq, exists_eq_left', exists_eq_left, hn, e1, e2, e3, e4, e5, zite]
      repeat' (first | with_reducible apply And.intro | with_reducible intro _)
      all_goals first | omega | (exact next (by omega)) | (exact fnd (by omega) (by omega))
  exact L 0 ⟨by omega, fun i a b => by omega⟩
theorem SR_fr {S M M' : zM} (h : SR S M) (hf : ∀ k i, 17 ≤ k → k ≤ 21 → M' k i = M k i) : SR S M' := by
  refine ⟨(hf _ _ (by decide) (by decide)).trans h.1, h.2.1, fun i a b => ?_⟩
  rw [hf 18 _ (by decide) (by decide), hf 19 _ (by decide) (by decide), hf 20 _ (by decide) (by decide), hf 21 _ (by decide) (by decide)]
  exact h.2.2 i a b
set_option maxRecDepth 100000 in
set_option maxHeartbeats 4000000 in
theorem s_rest {S M : zM} {R : zP} {but kept : Int} (h : RX S M) (hb : -1 ≤ but ∧ but < 8)
    (h1 : ∀ M', (∀ k i, ¬ (23 ≤ k ∧ k ≤ 26) → k ≠ 33 → M' k i = M k i) → (∀ i, 0 ≤ i → i < S 7 0 → S 9 i ≠ but → (S 9 i < qn S 0 ∧ wX S (kpm kept) (so0 S) (fst S) (S 9 i) (S 8 i).toNat (S 10 i) = S 11 i)) → R (some (.inl 1)) M')
    (h0 : ∀ M', (∀ k i, ¬ (23 ≤ k ∧ k ≤ 26) → k ≠ 33 → M' k i = M k i) → (∃ i, 0 ≤ i ∧ i < S 7 0 ∧ S 9 i ≠ but ∧ ¬ (S 9 i < qn S 0 ∧ wX S (kpm kept) (so0 S) (fst S) (S 9 i) (S 8 i).toNat (S 10 i) = S 11 i)) → R (some (.inl 0)) M') : tX7_restAgree [.inr (.inr 0), .inl but, .inl kept] M R := by
  have hqn := (h.2.2.2.1.1 0 (by decide)).1
  have hSR := h.2.2.2.2.2.1
  have hC := h.2.2.2.1
  have hF := h.2.2.2.2.1.2
  simp only [↓eX7_restAgree, ↓rX7_restAgree_0, ↓rX7_restAgree_1, ↓reduceIte, zkeep_n, zkeep_i, zkeep_r, zkeep_l, zup_eq, zIR, zLR, List.length_cons, List.length_nil, Nat.reduceAdd, Nat.reduceLeDiff, Nat.reduceEqDiff, Nat.reduceSub, Int.reduceLE, Int.reduceLT, Int.reduceEq, Int.reduceNe, Int.reduceNeg, Int.reduceAdd, Int.reduceSub, Int.reduceMul, Int.reduceToNat, Nat.le_refl, Nat.zero_le, Nat.zero_add, Int.zero_add, Int.add_zero, and_true, true_and, and_false, false_and, not_true_eq_false, not_false_eq_true, eq_self, ne_eq, true_implies, false_implies, implies_true, or_true, true_or, or_false, false_or, reduceCtorEq, Option.some.injEq, Sum.inl.injEq, exists_eq_left', exists_eq_left, zite]
  have L : ∀ s : Int × zM, ((0 ≤ s.1 ∧ s.1 ≤ 8) ∧ (∀ k i, ¬ (23 ≤ k ∧ k ≤ 26) → k ≠ 33 → s.2 k i = M k i) ∧ (∀ i, 0 ≤ i → i < S 7 0 → S 9 i ≠ but → S 9 i < s.1 → (S 9 i < qn S 0 ∧ wX S (kpm kept) (so0 S) (fst S) (S 9 i) (S 8 i).toNat (S 10 i) = S 11 i))) → uX7_restAgree R 2 [some (.inr (.inr 0)), some (.inl but), some (.inl kept), some (.inl s.1)] [] s.2 := by
    refine zind (fun s => (8 - s.1).toNat) ?_
    rintro ⟨m, N⟩ ⟨hm, hfr, hok⟩ ih
    simp only at hm hfr hok ih
    have n1 : N 1 5 = qn S 0 := (hfr _ _ (by decide) (by decide)).trans hC.2.1
    have hSN : SR S N := SR_fr hSR (fun k i a b => hfr k i (by omega) (by omega))
    have hCN : CW S N := CW_fr hC (fun k i hk => hfr k i (by omega) (by omega))
    have hFN : FR 7 (nf S) (gt S) N := FR_fr hF (fun k i a b => hfr k i (by omega) (by omega))
    have next : ∀ N', (∀ k i, ¬ (23 ≤ k ∧ k ≤ 26) → k ≠ 33 → N' k i = N k i) → (∀ i, 0 ≤ i → i < S 7 0 → S 9 i ≠ but → S 9 i = m → (S 9 i < qn S 0 ∧ wX S (kpm kept) (so0 S) (fst S) (S 9 i) (S 8 i).toNat (S 10 i) = S 11 i)) → m < 8 → uX7_restAgree R 2 [some (.inr (.inr 0)), some (.inl but), some (.inl kept), some (.inl (m + 1))] [] N' := fun N' g1 g2 g3 => by
      refine ih (m + 1, N') ⟨by simp only; omega, fun k i a b => (g1 k i a b).trans (hfr k i a b), fun i a b c d => ?_⟩ (by simp only; omega)
      simp only at d
      by_cases e : S 9 i = m
      · exact g2 i a b c e
      · exact hok i a b c (by omega)
    refine rX7_restAgree_2.mpr ?_
    by_cases he : m = 8
    · subst he
      have fin := h1 N hfr (fun i a b c => hok i a b c (by have := (hSR.2.2 i a b).2.1; omega))
      simp only [↓rX7_restAgree_3, ↓rX7_restAgree_5, ↓rX7_restAgree_81, ↓rX7_restAgree_82, ↓reduceIte, zkeep_n, zkeep_i, zkeep_r, zkeep_l, zup_eq, zIR, zLR, List.length_cons, List.length_nil, Nat.reduceAdd, Nat.reduceLeDiff, Nat.reduceEqDiff, Nat.reduceSub, Int.reduceLE, Int.reduceLT, Int.reduceEq, Int.reduceNe, Int.reduceNeg, Int.reduceAdd, Int.reduceSub, Int.reduceMul, Int.reduceToNat, Nat.le_refl, Nat.zero_le, Nat.zero_add, Int.zero_add, Int.add_zero, and_true, true_and, and_false, false_and, not_true_eq_false, not_false_eq_true, eq_self, ne_eq, true_implies, false_implies, implies_true, or_true, true_or, or_false, false_or, reduceCtorEq, Option.some.injEq, Sum.inl.injEq, exists_eq_left', exists_eq_left, zite]
      exact fin
    · have skip : m = but → uX7_restAgree R 2 [some (.inr (.inr 0)), some (.inl but), some (.inl kept), some (.inl (m + 1))] [] N := fun hmb => next N (fun _ _ _ _ => rfl) (fun i a b c d => absurd (d.trans hmb) c) (by omega)
      have tell : ¬ m = but → zcv (zv 6 tX6_tellOf) [.inr (.inr 17), .inl m] N (fun v N' => uX7_restAgree R 21 [some (.inr (.inr 0)), some (.inl but), some (.inl kept), some (.inl m)] [v] N') := by
        intro hmb
        refine zcvv rfl (s_tellOf hSN (by omega) (fun hex => ⟨_, rfl, ?_⟩) (fun hno => ⟨_, rfl, ?_⟩))
        · have gone : ¬ m < qn S 0 → R (some (.inl 0)) N := fun hh => by
            obtain ⟨i, a, b, c⟩ := hex
            exact h0 N hfr ⟨i, a, b, by omega, by omega⟩
          have ent : m < qn S 0 → zcn (zv 3 tX3_enter) [.inr (.inr 23), .inr (.inr 1), .inl m] N (fun N' => uX7_restAgree R 52 [some (.inr (.inr 0)), some (.inl but), some (.inl kept), some (.inl m)] [] N') := by
            intro hlt
            refine zcnv rfl (s_enterS hCN hm.1 hlt (fun N1 f1 f2 f3 => ⟨rfl, ?_⟩))
            have hby := wbyS_R S m
            simp only [↓rX7_restAgree_52, ↓rX7_restAgree_53, ↓rX7_restAgree_54, ↓rX7_restAgree_55, ↓reduceIte, zkeep_n, zkeep_i, zkeep_r, zkeep_l, zup_eq, zIR, zLR, List.length_cons, List.length_nil, Nat.reduceAdd, Nat.reduceLeDiff, Nat.reduceEqDiff, Nat.reduceSub, Int.reduceLE, Int.reduceLT, Int.reduceEq, Int.reduceNe, Int.reduceNeg, Int.reduceAdd, Int.reduceSub, Int.reduceMul, Int.reduceToNat, Nat.le_refl, Nat.zero_le, Nat.zero_add, Int.zero_add, Int.add_zero, and_true, true_and, and_false, false_and, not_true_eq_false, not_false_eq_true, eq_self, ne_eq, true_implies, false_implies, implies_true, or_true, true_or, or_false, false_or, reduceCtorEq, Option.some.injEq, Sum.inl.injEq, exists_eq_left', exists_eq_left, zite]
            refine zcnv rfl (s_trace (S := S) (g := gt S) (n := nf S) (CW_fr hCN (fun k i hk => f1 k i (by omega))) (FR_fr hFN (fun k i a b => f1 k i (by omega))) f3 (vokb_wst hC.1 hm.1 hlt) (by decide) f2 hby (by omega) (fun N2 g1 g2 => ⟨rfl, ?_⟩))
            have hfr2 : ∀ k i, ¬ (23 ≤ k ∧ k ≤ 26) → k ≠ 33 → N2 k i = N k i := fun k i a b => (g1 k i a b).trans (f1 k i a)
            have hS2 : SR S N2 := SR_fr hSN (fun k i a b => hfr2 k i (by omega) (by omega))
            simp only [↓rX7_restAgree_58, ↓rX7_restAgree_59, ↓rX7_restAgree_62, ↓rX7_restAgree_63, ↓rX7_restAgree_64, ↓rX7_restAgree_67, ↓hg_fX7_38_0, ↓hg_fX7_76_0, ↓reduceIte, zkeep_n, zkeep_i, zkeep_r, zkeep_l, zup_eq, zIR, zLR, List.length_cons, List.length_nil, Nat.reduceAdd, Nat.reduceLeDiff, Nat.reduceEqDiff, Nat.reduceSub, Int.reduceLE, Int.reduceLT, Int.reduceEq, Int.reduceNe, Int.reduceNeg, Int.reduceAdd, Int.reduceSub, Int.reduceMul, Int.reduceToNat, Nat.le_refl, Nat.zero_le, Nat.zero_add, Int.zero_add, Int.add_zero, and_true, true_and, and_false, false_and, not_true_eq_false, not_false_eq_true, eq_self, ne_eq, true_implies, false_implies, implies_true, or_true, true_or, or_false, false_or, reduceCtorEq, Option.some.injEq, Sum.inl.injEq, exists_eq_left', exists_eq_left, zite]
            refine zcvv rfl (s_agree (B := fun t q => wX S (kpm kept) (so0 S) (fst S) m t q) hS2 (by omega) (fun t ht q q0 q1 => ⟨g2 t ht q q0 q1, (vokb_vec (g := gt S) (n := nf S) (kp := kpm kept) (m := m) (T := t) hC.1 hm.1 hlt (FR_g hF) hF.2.1 ht).1 q (by omega) (by omega)⟩) (fun hag => ⟨_, rfl, ?_⟩) (fun hex2 => ⟨_, rfl, ?_⟩))
            · have nx := next N2 hfr2 (fun i a b c d => ⟨by omega, by rw [d]; exact hag i a b d⟩) (by omega)
              simp only [↓rX7_restAgree_70, ↓rX7_restAgree_73, ↓rX7_restAgree_74, ↓rX7_restAgree_75, ↓rX7_restAgree_78, ↓reduceIte, zkeep_n, zkeep_i, zkeep_r, zkeep_l, zup_eq, zIR, zLR, List.length_cons, List.length_nil, Nat.reduceAdd, Nat.reduceLeDiff, Nat.reduceEqDiff, Nat.reduceSub, Int.reduceLE, Int.reduceLT, Int.reduceEq, Int.reduceNe, Int.reduceNeg, Int.reduceAdd, Int.reduceSub, Int.reduceMul, Int.reduceToNat, Nat.le_refl, Nat.zero_le, Nat.zero_add, Int.zero_add, Int.add_zero, and_true, true_and, and_false, false_and, not_true_eq_false, not_false_eq_true, eq_self, ne_eq, true_implies, false_implies, implies_true, or_true, true_or, or_false, false_or, reduceCtorEq, Option.some.injEq, Sum.inl.injEq, exists_eq_left', exists_eq_left, zite]
              exact nx
            · obtain ⟨i, a, b, c, d⟩ := hex2
              have fin := h0 N2 (fun k i a b => (hfr2 k i a b).trans (hfr k i a b)) ⟨i, a, b, by omega, fun hh => d (by rw [← c]; exact hh.2)⟩
              simp only [↓rX7_restAgree_70, ↓rX7_restAgree_73, ↓rX7_restAgree_74, ↓rX7_restAgree_75, ↓rX7_restAgree_78, ↓reduceIte, zkeep_n, zkeep_i, zkeep_r, zkeep_l, zup_eq, zIR, zLR, List.length_cons, List.length_nil, Nat.reduceAdd, Nat.reduceLeDiff, Nat.reduceEqDiff, Nat.reduceSub, Int.reduceLE, Int.reduceLT, Int.reduceEq, Int.reduceNe, Int.reduceNeg, Int.reduceAdd, Int.reduceSub, Int.reduceMul, Int.reduceToNat, Nat.le_refl, Nat.zero_le, Nat.zero_add, Int.zero_add, Int.add_zero, and_true, true_and, and_false, false_and, not_true_eq_false, not_false_eq_true, eq_self, ne_eq, true_implies, false_implies, implies_true, or_true, true_or, or_false, false_or, reduceCtorEq, Option.some.injEq, Sum.inl.injEq, exists_eq_left', exists_eq_left, zite]
              exact fin
          simp only [↓rX7_restAgree_21, ↓rX7_restAgree_24, ↓rX7_restAgree_27, ↓rX7_restAgree_28, ↓rX7_restAgree_29, ↓rX7_restAgree_32, ↓rX7_restAgree_35, ↓rX7_restAgree_38, ↓rX7_restAgree_39, ↓rX7_restAgree_40, ↓rX7_restAgree_41, ↓rX7_restAgree_44, ↓rX7_restAgree_45, ↓rX7_restAgree_48, ↓rX7_restAgree_49, ↓hg_fX7_116_1, ↓hg_fX7_116_4, ↓hg_fX7_14_0, ↓hg_fX7_55_0, ↓reduceIte, zkeep_n, zkeep_i, zkeep_r, zkeep_l, zup_eq, zIR, zLR, List.length_cons, List.length_nil, Nat.reduceAdd, Nat.reduceLeDiff, Nat.reduceEqDiff, Nat.reduceSub, Int.reduceLE, Int.reduceLT, Int.reduceEq, Int.reduceNe, Int.reduceNeg, Int.reduceAdd, Int.reduceSub, Int.reduceMul, Int.reduceToNat, Nat.le_refl, Nat.zero_le, Nat.zero_add, Int.zero_add, Int.add_zero, and_true, true_and, and_false, false_and, not_true_eq_false, not_false_eq_true, eq_self, ne_eq, true_implies, false_implies, implies_true, or_true, true_or, or_false, false_or, reduceCtorEq, Option.some.injEq, Sum.inl.injEq, exists_eq_left', exists_eq_left, n1, zite]
          repeat' (first | with_reducible apply And.intro | with_reducible intro _)
          all_goals first | omega | (exact ent (by omega)) | (exact gone (by omega))
        · have nx := next N (fun _ _ _ _ => rfl) (fun i a b c d => absurd d (hno i a b)) (by omega)
          simp only [↓rX7_restAgree_21, ↓rX7_restAgree_24, ↓rX7_restAgree_75, ↓rX7_restAgree_78, ↓reduceIte, zkeep_n, zkeep_i, zkeep_r, zkeep_l, zup_eq, zIR, zLR, List.length_cons, List.length_nil, Nat.reduceAdd, Nat.reduceLeDiff, Nat.reduceEqDiff, Nat.reduceSub, Int.reduceLE, Int.reduceLT, Int.reduceEq, Int.reduceNe, Int.reduceNeg, Int.reduceAdd, Int.reduceSub, Int.reduceMul, Int.reduceToNat, Nat.le_refl, Nat.zero_le, Nat.zero_add, Int.zero_add, Int.add_zero, and_true, true_and, and_false, false_and, not_true_eq_false, not_false_eq_true, eq_self, ne_eq, true_implies, false_implies, implies_true, or_true, true_or, or_false, false_or, reduceCtorEq, Option.some.injEq, Sum.inl.injEq, exists_eq_left', exists_eq_left, zite]
          exact nx
      simp only [↓rX7_restAgree_3, ↓rX7_restAgree_5, ↓rX7_restAgree_8, ↓rX7_restAgree_9, ↓rX7_restAgree_10, ↓rX7_restAgree_13, ↓rX7_restAgree_14, ↓rX7_restAgree_17, ↓rX7_restAgree_18, ↓rX7_restAgree_75, ↓rX7_restAgree_78, ↓hg_fX7_38_0, ↓reduceIte, zkeep_n, zkeep_i, zkeep_r, zkeep_l, zup_eq, zIR, zLR, List.length_cons, List.length_nil, Nat.reduceAdd, Nat.reduceLeDiff, Nat.reduceEqDiff, Nat.reduceSub, Int.reduceLE, Int.reduceLT, Int.reduceEq, Int.reduceNe, Int.reduceNeg, Int.reduceAdd, Int.reduceSub, Int.reduceMul, Int.reduceToNat, Nat.le_refl, Nat.zero_le, Nat.zero_add, Int.zero_add, Int.add_zero, and_true, true_and, and_false, false_and, not_true_eq_false, not_false_eq_true, eq_self, ne_eq, true_implies, false_implies, implies_true, or_true, true_or, or_false, false_or, reduceCtorEq, Option.some.injEq, Sum.inl.injEq, exists_eq_left', exists_eq_left, zite]
      repeat' (first | with_reducible apply And.intro | with_reducible intro _)
      all_goals first | omega | (exact skip (by omega)) | (exact tell (by omega))
  exact L (0, M) ⟨by simp only; omega, fun _ _ _ _ => rfl, fun i a b c d => by have := (hSR.2.2 i a b).2.1; simp only at d; omega⟩
