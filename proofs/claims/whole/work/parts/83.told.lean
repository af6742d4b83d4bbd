def WX (S : zM) : Prop := ∃ M0, RX S M0
def RM (S M : zM) : Prop := (M 47 0 = S 0 0 ∧ M 47 1 = S 0 1) ∧ (∀ i, 0 ≤ i → i < S 0 0 → M 48 (0 + i) = S 1 i) ∧ (∀ i, 0 ≤ i → i < S 0 1 → M 48 (47 + i) = S 2 i) ∧ (M 46 8 = S 3 0 ∧ ∀ i, 0 ≤ i → i < S 3 0 → M 53 i = S 4 i ∧ M 54 i = S 5 i ∧ M 55 i = S 6 i) ∧ (M 46 28 = S 7 0 ∧ ∀ i, 0 ≤ i → i < S 7 0 → M 70 i = S 8 i ∧ M 71 i = S 9 i ∧ M 72 i = S 10 i ∧ M 73 i = S 11 i) ∧ (∀ s : Int, 0 ≤ s → s < 4 → M 75 s = S 12 s ∧ (S 12 s = 1 → M 76 s = S 13 s ∧ M 77 s = S 14 s) ∧ ∀ i, 0 ≤ i → i < 60 → M 78 (60 * s + i) = S (15 + s.toNat) i) ∧ M 46 39 = S 19 0
def YQ (M M' : zM) : Prop := ∀ k i, (k ≤ 48 ∨ (53 ≤ k ∧ k ≤ 55) ∨ (70 ≤ k ∧ k ≤ 73) ∨ (75 ≤ k ∧ k ≤ 78)) → (k = 46 → i ≠ 2 ∧ i ≠ 5 ∧ i ≠ 12 ∧ i ≠ 16) → M' k i = M k i
def YR (M M' : zM) : Prop := ∀ k i, ¬ (49 ≤ k ∧ k ≤ 52) → (k = 46 → i ≠ 2 ∧ i ≠ 5) → M' k i = M k i
def YT (M M' : zM) : Prop := ∀ k i, ¬ (49 ≤ k ∧ k ≤ 52) → ¬ (56 ≤ k ∧ k ≤ 58) → (k = 46 → i ≠ 2 ∧ i ≠ 5 ∧ i ≠ 12 ∧ i ≠ 16) → M' k i = M k i
theorem YQ.rfl {M : zM} : YQ M M := fun _ _ _ _ => Eq.refl _
theorem YQ.trans {M M' M'' : zM} (h : YQ M M') (h2 : YQ M' M'') : YQ M M'' := fun k i a b => (h2 k i a b).trans (h k i a b)
theorem YR.yq {M M' : zM} (h : YR M M') : YQ M M' := fun k i a b => h k i (by omega) (fun e => ⟨(b e).1, (b e).2.1⟩)
theorem YT.yq {M M' : zM} (h : YT M M') : YQ M M' := fun k i a b => h k i (by omega) (by omega) b
theorem RM_yq {S M M' : zM} (h : RM S M) (hf : YQ M M') : RM S M' := by
  obtain ⟨h1, h2, h3, h4, h5, h6, h7⟩ := h
  have f : ∀ k i, (k ≤ 48 ∨ (53 ≤ k ∧ k ≤ 55) ∨ (70 ≤ k ∧ k ≤ 73) ∨ (75 ≤ k ∧ k ≤ 78)) → k ≠ 46 → M' k i = M k i := fun k i a b => hf k i a (fun e => absurd e b)
  refine ⟨⟨(f _ _ (by decide) (by decide)).trans h1.1, (f _ _ (by decide) (by decide)).trans h1.2⟩, fun i a b => (f _ _ (by decide) (by decide)).trans (h2 i a b), fun i a b => (f _ _ (by decide) (by decide)).trans (h3 i a b), ⟨(hf _ _ (by decide) (by decide)).trans h4.1, fun i a b => ?_⟩, ⟨(hf _ _ (by decide) (by decide)).trans h5.1, fun i a b => ?_⟩, fun s a b => ?_, (hf _ _ (by decide) (by decide)).trans h7⟩
  · rw [f 53 _ (by decide) (by decide), f 54 _ (by decide) (by decide), f 55 _ (by decide) (by decide)]
    exact h4.2 i a b
  · rw [f 70 _ (by decide) (by decide), f 71 _ (by decide) (by decide), f 72 _ (by decide) (by decide), f 73 _ (by decide) (by decide)]
    exact h5.2 i a b
  · have := h6 s a b
    rw [f 75 _ (by decide) (by decide), f 76 _ (by decide) (by decide), f 77 _ (by decide) (by decide)]
    exact ⟨this.1, this.2.1, fun i c d => (f _ _ (by decide) (by decide)).trans (this.2.2 i c d)⟩
def RC (S M : zM) : Prop := M 46 2 = qn S 0 ∧ M 46 5 = qn S 1 ∧ (∀ i, 0 ≤ i → i < qn S 0 → M 49 i = qfact S 0 i 0 ∧ ∀ q, 0 ≤ q → q < 4 → M 50 (4 * i + q) = qfact S 0 i (1 + q)) ∧ (∀ i, 0 ≤ i → i < qn S 1 → M 51 i = qfact S 1 i 0 ∧ ∀ q, 0 ≤ q → q < 4 → M 52 (4 * i + q) = qfact S 1 i (1 + q))
theorem RC_fr {S M M' : zM} (h : RC S M) (h1 : M' 46 2 = M 46 2) (h2 : M' 46 5 = M 46 5) (hf : ∀ k i, 49 ≤ k → k ≤ 52 → M' k i = M k i) : RC S M' := by
  refine ⟨h1.trans h.1, h2.trans h.2.1, fun i a b => ?_, fun i a b => ?_⟩
  · have := h.2.2.1 i a b
    exact ⟨(hf _ _ (by decide) (by decide)).trans this.1, fun q q0 q1 => (hf _ _ (by decide) (by decide)).trans (this.2 q q0 q1)⟩
  · have := h.2.2.2 i a b
    exact ⟨(hf _ _ (by decide) (by decide)).trans this.1, fun q q0 q1 => (hf _ _ (by decide) (by decide)).trans (this.2 q q0 q1)⟩
set_option maxRecDepth 100000 in
set_option maxHeartbeats 4000000 in
theorem s_faultOf {S M : zM} {R : zP} {t : Int} (hW : WX S) (h : RM S M) (ht : t = 0 ∨ t = 1) (hR : ∀ M', YR M M' → RC S M' → R (some (.inl (if t = 0 then qflaw S 0 else qflaw S 1))) M') : tX8_faultOf [.inr (.inr 46), .inl t] M R := by
  obtain ⟨M0, hX⟩ := hW
  have v0 : (0 ≤ S 0 0 ∧ S 0 0 ≤ 47) ∧ ∀ i, 0 ≤ i → i < S 0 0 → 0 ≤ S 1 i ∧ S 1 i ≤ 255 := hX.1 0 (by decide)
  have v1 : (0 ≤ S 0 1 ∧ S 0 1 ≤ 47) ∧ ∀ i, 0 ≤ i → i < S 0 1 → 0 ≤ S 2 i ∧ S 2 i ≤ 255 := hX.1 1 (by decide)
  simp only [↓eX8_faultOf, ↓rX8_faultOf_0, ↓rX8_faultOf_1, ↓rX8_faultOf_2, ↓reduceIte, zkeep_n, zkeep_i, zkeep_r, zkeep_l, zup_eq, zIR, zLR, List.length_cons, List.length_nil, Nat.reduceAdd, Nat.reduceLeDiff, Nat.reduceEqDiff, Nat.reduceSub, Int.reduceLE, Int.reduceLT, Int.reduceEq, Int.reduceNe, Int.reduceNeg, Int.reduceAdd, Int.reduceSub, Int.reduceMul, Int.reduceToNat, Nat.le_refl, Nat.zero_le, Nat.zero_add, Int.zero_add, Int.add_zero, and_true, true_and, and_false, false_and, not_true_eq_false, not_false_eq_true, eq_self, ne_eq, true_implies, false_implies, implies_true, or_true, true_or, or_false, false_or, reduceCtorEq, Option.some.injEq, Sum.inl.injEq, exists_eq_left', exists_eq_left, zite]
  refine zcvv rfl (s_readsAll0 (S := S) v0.1 v0.2 h.1.1 h.2.1 (fun M1 f1 f2 f3 => ⟨_, rfl, ?_⟩))
  simp only [↓rX8_faultOf_5, ↓rX8_faultOf_6, ↓rX8_faultOf_7, ↓rX8_faultOf_8, ↓reduceIte, zkeep_n, zkeep_i, zkeep_r, zkeep_l, zup_eq, zIR, zLR, List.length_cons, List.length_nil, Nat.reduceAdd, Nat.reduceLeDiff, Nat.reduceEqDiff, Nat.reduceSub, Int.reduceLE, Int.reduceLT, Int.reduceEq, Int.reduceNe, Int.reduceNeg, Int.reduceAdd, Int.reduceSub, Int.reduceMul, Int.reduceToNat, Nat.le_refl, Nat.zero_le, Nat.zero_add, Int.zero_add, Int.add_zero, and_true, true_and, and_false, false_and, not_true_eq_false, not_false_eq_true, eq_self, ne_eq, true_implies, false_implies, implies_true, or_true, true_or, or_false, false_or, reduceCtorEq, Option.some.injEq, Sum.inl.injEq, exists_eq_left', exists_eq_left, zite]
  refine zcvv rfl (s_readsAll1 (S := S) v1.1 v1.2 ((f1 _ _ (by decide) (by decide) (by decide)).trans h.1.2) (fun i a b => (f1 _ _ (by decide) (by decide) (fun q => absurd q (by decide))).trans (h.2.2.1 i a b)) (fun M2 g1 g2 g3 => ⟨_, rfl, ?_⟩))
  have fin := hR M2 (fun k i a b => (g1 k i (by omega) (by omega) (fun e => (b e).2)).trans (f1 k i (by omega) (by omega) (fun e => (b e).1))) ⟨(g1 _ _ (by decide) (by decide) (by decide)).trans f2, g2, fun i a b => by
    have := f3 i a b
    rw [g1 49 _ (by decide) (by decide) (fun q => absurd q (by decide))]
    exact ⟨this.1, fun q q0 q1 => (g1 50 _ (by decide) (by decide) (fun q => absurd q (by decide))).trans (this.2 q q0 q1)⟩, g3⟩
  simp only [↓rX8_faultOf_11, ↓rX8_faultOf_12, ↓rX8_faultOf_13, ↓rX8_faultOf_16, ↓rX8_faultOf_17, ↓rX8_faultOf_21, ↓rX8_faultOf_20, ↓reduceIte, zkeep_n, zkeep_i, zkeep_r, zkeep_l, zup_eq, zIR, zLR, List.length_cons, List.length_nil, Nat.reduceAdd, Nat.reduceLeDiff, Nat.reduceEqDiff, Nat.reduceSub, Int.reduceLE, Int.reduceLT, Int.reduceEq, Int.reduceNe, Int.reduceNeg, Int.reduceAdd, Int.reduceSub, Int.reduceMul, Int.reduceToNat, Nat.le_refl, Nat.zero_le, Nat.zero_add, Int.zero_add, Int.add_zero, and_true, true_and, and_false, false_and, not_true_eq_false, not_false_eq_true, eq_self, ne_eq, true_implies, false_implies, implies_true, or_true, true_or, or_false, false_or, reduceCtorEq, Option.some.injEq, Sum.inl.injEq, exists_eq_left', exists_eq_left, zite]
  rcases ht with rfl | rfl
  · rw [if_pos rfl] at fin
    repeat' (first | with_reducible apply And.intro | with_reducible intro _)
    all_goals first | omega | (exact fin)
  · rw [if_neg (by decide)] at fin
    repeat' (first | with_reducible apply And.intro | with_reducible intro _)
    all_goals first | omega | (exact fin)
set_option maxRecDepth 100000 in
set_option maxHeartbeats 4000000 in
theorem s_reads {S M : zM} {R : zP} (hW : WX S) (h : RM S M) (hR : ∀ M', YR M M' → RC S M' → R none M') : tX8_reads [.inr (.inr 46)] M R := by
  simp only [↓eX8_reads, ↓rX8_reads_0, ↓rX8_reads_1, ↓rX8_reads_2, ↓reduceIte, zkeep_n, zkeep_i, zkeep_r, zkeep_l, zup_eq, zIR, zLR, List.length_cons, List.length_nil, Nat.reduceAdd, Nat.reduceLeDiff, Nat.reduceEqDiff, Nat.reduceSub, Int.reduceLE, Int.reduceLT, Int.reduceEq, Int.reduceNe, Int.reduceNeg, Int.reduceAdd, Int.reduceSub, Int.reduceMul, Int.reduceToNat, Nat.le_refl, Nat.zero_le, Nat.zero_add, Int.zero_add, Int.add_zero, and_true, true_and, and_false, false_and, not_true_eq_false, not_false_eq_true, eq_self, ne_eq, true_implies, false_implies, implies_true, or_true, true_or, or_false, false_or, reduceCtorEq, Option.some.injEq, Sum.inl.injEq, exists_eq_left', exists_eq_left, zite]
  refine zcvv rfl (s_faultOf hW h (Or.inl rfl) (fun M1 f1 f2 => ⟨_, rfl, ?_⟩))
  have fin := hR M1 f1 f2
  simp only [↓rX8_reads_5, ↓rX8_reads_6, ↓reduceIte, zkeep_n, zkeep_i, zkeep_r, zkeep_l, zup_eq, zIR, zLR, List.length_cons, List.length_nil, Nat.reduceAdd, Nat.reduceLeDiff, Nat.reduceEqDiff, Nat.reduceSub, Int.reduceLE, Int.reduceLT, Int.reduceEq, Int.reduceNe, Int.reduceNeg, Int.reduceAdd, Int.reduceSub, Int.reduceMul, Int.reduceToNat, Nat.le_refl, Nat.zero_le, Nat.zero_add, Int.zero_add, Int.add_zero, and_true, true_and, and_false, false_and, not_true_eq_false, not_false_eq_true, eq_self, ne_eq, true_implies, false_implies, implies_true, or_true, true_or, or_false, false_or, reduceCtorEq, Option.some.injEq, Sum.inl.injEq, exists_eq_left', exists_eq_left, zite]
  exact fin
set_option maxRecDepth 100000 in
set_option maxHeartbeats 4000000 in
theorem s_isMember {S M : zM} {F : zV → zM → Prop} {k : Int} (hW : WX S) (h : RM S M) (z : zIR k) (hy : (0 ≤ k ∧ k < qn S 0) → ∀ M', YR M M' → RC S M' → F (.inl 1) M') (hn : ¬ (0 ≤ k ∧ k < qn S 0) → ∀ M', YR M M' → RC S M' → F (.inl 0) M') : zcv (zv 8 tX8_isMember) [.inr (.inr 46), .inl k] M F := by
  refine zcvv rfl ?_
  obtain ⟨M0, hX⟩ := hW
  have hq := (hX.2.2.2.1.1 0 (by decide)).1
  unfold zIR at z
  simp only [↓eX8_isMember, ↓rX8_isMember_0, ↓rX8_isMember_1, ↓reduceIte, zkeep_n, zkeep_i, zkeep_r, zkeep_l, zup_eq, zIR, zLR, List.length_cons, List.length_nil, Nat.reduceAdd, Nat.reduceLeDiff, Nat.reduceEqDiff, Nat.reduceSub, Int.reduceLE, Int.reduceLT, Int.reduceEq, Int.reduceNe, Int.reduceNeg, Int.reduceAdd, Int.reduceSub, Int.reduceMul, Int.reduceToNat, Nat.le_refl, Nat.zero_le, Nat.zero_add, Int.zero_add, Int.add_zero, and_true, true_and, and_false, false_and, not_true_eq_false, not_false_eq_true, eq_self, ne_eq, true_implies, false_implies, implies_true, or_true, true_or, or_false, false_or, reduceCtorEq, Option.some.injEq, Sum.inl.injEq, exists_eq_left', exists_eq_left, zite]
  refine zcnv rfl (s_reads ⟨M0, hX⟩ h (fun M1 f1 f2 => ⟨rfl, ?_⟩))
  have e := f2.1
  have hy := fun q => hy q M1 f1 f2
  have hn := fun q => hn q M1 f1 f2
  simp only [↓rX8_isMember_4, ↓rX8_isMember_5, ↓rX8_isMember_6, ↓rX8_isMember_7, ↓rX8_isMember_10, ↓rX8_isMember_11, ↓rX8_isMember_12, ↓rX8_isMember_15, ↓hg_fX8_127_46, ↓i_in, ↓reduceIte, zkeep_n, zkeep_i, zkeep_r, zkeep_l, zup_eq, zIR, zLR, List.length_cons, List.length_nil, Nat.reduceAdd, Nat.reduceLeDiff, Nat.reduceEqDiff, Nat.reduceSub, Int.reduceLE, Int.reduceLT, Int.reduceEq, Int.reduceNe, Int.reduceNeg, Int.reduceAdd, Int.reduceSub, Int.reduceMul, Int.reduceToNat, Nat.le_refl, Nat.zero_le, Nat.zero_add, Int.zero_add, Int.add_zero, and_true, true_and, and_false, false_and, not_true_eq_false, not_false_eq_true, eq_self, ne_eq, true_implies, false_implies, implies_true, or_true, true_or, or_false, false_or, reduceCtorEq, Option.some.injEq, Sum.inl.injEq, exists_eq_left', exists_eq_left, e, zite]
  repeat' (first | with_reducible apply And.intro | with_reducible intro _)
  all_goals first | omega | (exact hy (by omega)) | (exact hn (by omega))
set_option maxRecDepth 100000 in
set_option maxHeartbeats 4000000 in
theorem s_isCow {S M : zM} {F : zV → zM → Prop} {k : Int} (hW : WX S) (h : RM S M) (z : zIR k) (hy : (0 ≤ k ∧ k < qn S 1) → ∀ M', YR M M' → RC S M' → F (.inl 1) M') (hn : ¬ (0 ≤ k ∧ k < qn S 1) → ∀ M', YR M M' → RC S M' → F (.inl 0) M') : zcv (zv 8 tX8_isCow) [.inr (.inr 46), .inl k] M F := by
  refine zcvv rfl ?_
  obtain ⟨M0, hX⟩ := hW
  have hq := (hX.2.2.2.1.1 1 (by decide)).1
  unfold zIR at z
  simp only [↓eX8_isCow, ↓rX8_isCow_0, ↓rX8_isCow_1, ↓reduceIte, zkeep_n, zkeep_i, zkeep_r, zkeep_l, zup_eq, zIR, zLR, List.length_cons, List.length_nil, Nat.reduceAdd, Nat.reduceLeDiff, Nat.reduceEqDiff, Nat.reduceSub, Int.reduceLE, Int.reduceLT, Int.reduceEq, Int.reduceNe, Int.reduceNeg, Int.reduceAdd, Int.reduceSub, Int.reduceMul, Int.reduceToNat, Nat.le_refl, Nat.zero_le, Nat.zero_add, Int.zero_add, Int.add_zero, and_true, true_and, and_false, false_and, not_true_eq_false, not_false_eq_true, eq_self, ne_eq, true_implies, false_implies, implies_true, or_true, true_or, or_false, false_or, reduceCtorEq, Option.some.injEq, Sum.inl.injEq, exists_eq_left', exists_eq_left, zite]
  refine zcnv rfl (s_reads ⟨M0, hX⟩ h (fun M1 f1 f2 => ⟨rfl, ?_⟩))
  have e := f2.2.1
  have hy := fun q => hy q M1 f1 f2
  have hn := fun q => hn q M1 f1 f2
  simp only [↓rX8_isCow_4, ↓rX8_isCow_5, ↓rX8_isCow_6, ↓rX8_isCow_7, ↓rX8_isCow_10, ↓rX8_isCow_11, ↓rX8_isCow_12, ↓rX8_isCow_15, ↓hg_fX8_131_46, ↓i_in, ↓reduceIte, zkeep_n, zkeep_i, zkeep_r, zkeep_l, zup_eq, zIR, zLR, List.length_cons, List.length_nil, Nat.reduceAdd, Nat.reduceLeDiff, Nat.reduceEqDiff, Nat.reduceSub, Int.reduceLE, Int.reduceLT, Int.reduceEq, Int.reduceNe, Int.reduceNeg, Int.reduceAdd, Int.reduceSub, Int.reduceMul, Int.reduceToNat, Nat.le_refl, Nat.zero_le, Nat.zero_add, Int.zero_add, Int.add_zero, and_true, true_and, and_false, false_and, not_true_eq_false, not_false_eq_true, eq_self, ne_eq, true_implies, false_implies, implies_true, or_true, true_or, or_false, false_or, reduceCtorEq, Option.some.injEq, Sum.inl.injEq, exists_eq_left', exists_eq_left, e, zite]
  repeat' (first | with_reducible apply And.intro | with_reducible intro _)
  all_goals first | omega | (exact hy (by omega)) | (exact hn (by omega))
set_option maxRecDepth 100000 in
set_option maxHeartbeats 4000000 in
theorem s_asTold {S M : zM} {R : zP} (hW : WX S) (h : RM S M) (hR : ∀ M', YT M M' → RC S M' → M' 46 12 = S 3 0 → M' 46 16 = 0 → (∀ i, 0 ≤ i → i < S 3 0 → M' 56 i = S 4 i ∧ M' 57 i = S 5 i ∧ M' 58 i = S 6 i) → R none M') : tX8_asTold [.inr (.inr 46)] M R := by
  obtain ⟨M0, hX⟩ := hW
  have h3 := hX.2.2.2.2.1.1
  simp only [↓eX8_asTold, ↓rX8_asTold_0, ↓rX8_asTold_1, ↓reduceIte, zkeep_n, zkeep_i, zkeep_r, zkeep_l, zup_eq, zIR, zLR, List.length_cons, List.length_nil, Nat.reduceAdd, Nat.reduceLeDiff, Nat.reduceEqDiff, Nat.reduceSub, Int.reduceLE, Int.reduceLT, Int.reduceEq, Int.reduceNe, Int.reduceNeg, Int.reduceAdd, Int.reduceSub, Int.reduceMul, Int.reduceToNat, Nat.le_refl, Nat.zero_le, Nat.zero_add, Int.zero_add, Int.add_zero, and_true, true_and, and_false, false_and, not_true_eq_false, not_false_eq_true, eq_self, ne_eq, true_implies, false_implies, implies_true, or_true, true_or, or_false, false_or, reduceCtorEq, Option.some.injEq, Sum.inl.injEq, exists_eq_left', exists_eq_left, zite]
  refine zcnv rfl (s_reads ⟨M0, hX⟩ h (fun M1 f1 f2 => ⟨rfl, ?_⟩))
  have hM1 := RM_yq h f1.yq
  have e8 := hM1.2.2.2.1.1
  have L : ∀ t : Int × zM, ((0 ≤ t.1 ∧ t.1 ≤ S 3 0) ∧ (∀ k i, ¬ (56 ≤ k ∧ k ≤ 58) → (k = 46 → i ≠ 12) → t.2 k i = M1 k i) ∧ t.2 46 12 = S 3 0 ∧ (∀ i, 0 ≤ i → i < t.1 → t.2 56 i = S 4 i ∧ t.2 57 i = S 5 i ∧ t.2 58 i = S 6 i)) → uX8_asTold R 14 [some (.inr (.inr 46)), some (.inl t.1)] [] t.2 := by
    refine zind (fun t => (S 3 0 - t.1).toNat) ?_
    rintro ⟨i, N⟩ ⟨hi, hfr, h12, hx⟩ ih
    simp only at hi hfr h12 hx ih
    have n8 : N 46 8 = S 3 0 := (hfr _ _ (by decide) (by decide)).trans e8
    refine rX8_asTold_14.mpr ?_
    by_cases he : i = S 3 0
    · have fin := hR (zup N 46 16 0) (fun k j a b c => by
        rw [zup_eq, if_neg (fun q => (c q.1).2.2.2 q.2), hfr k j b (fun e => (c e).2.2.1)]
        exact f1 k j a (fun e => ⟨(c e).1, (c e).2.1⟩)) (RC_fr f2 (by rw [zup_in, if_neg (by decide)]; exact hfr _ _ (by decide) (by decide)) (by rw [zup_in, if_neg (by decide)]; exact hfr _ _ (by decide) (by decide)) (fun k j a b => by rw [zup_ne (by omega)]; exact hfr k j (by omega) (fun e => by omega))) (by rw [zup_in, if_neg (by decide)]; exact h12) (by rw [zup_in, if_pos rfl]) (fun j a b => by
        rw [zup_ne (by decide), zup_ne (by decide), zup_ne (by decide)]
        exact hx j a (by omega))
      simp only [↓rX8_asTold_15, ↓rX8_asTold_16, ↓rX8_asTold_19, ↓rX8_asTold_64, ↓rX8_asTold_65, ↓rX8_asTold_66, ↓rX8_asTold_69, ↓hg_fX8_166_46, ↓hp_fX8_181_46, ↓reduceIte, zkeep_n, zkeep_i, zkeep_r, zkeep_l, zIR, zLR, List.length_cons, List.length_nil, Nat.reduceAdd, Nat.reduceLeDiff, Nat.reduceEqDiff, Nat.reduceSub, Int.reduceLE, Int.reduceLT, Int.reduceEq, Int.reduceNe, Int.reduceNeg, Int.reduceAdd, Int.reduceSub, Int.reduceMul, Int.reduceToNat, Nat.le_refl, Nat.zero_le, Nat.zero_add, Int.zero_add, Int.add_zero, and_true, true_and, and_false, false_and, not_true_eq_false, not_false_eq_true, eq_self, ne_eq, true_implies, false_implies, implies_true, or_true, true_or, or_false, false_or, reduceCtorEq, Option.some.injEq, Sum.inl.injEq, exists_eq_left', exists_eq_left, n8, zite]
      repeat' (first | with_reducible apply And.intro | with_reducible intro _)
      all_goals first | omega | (exact fin)
    · have q := hM1.2.2.2.1.2 i hi.1 (by omega)
      have a1 : N 53 i = S 4 i := (hfr _ _ (by decide) (fun q => absurd q (by decide))).trans q.1
      have a2 : N 54 i = S 5 i := (hfr _ _ (by decide) (fun q => absurd q (by decide))).trans q.2.1
      have a3 : N 55 i = S 6 i := (hfr _ _ (by decide) (fun q => absurd q (by decide))).trans q.2.2
      have nx := ih (i + 1, zup (zup (zup N 56 i (S 4 i)) 57 i (S 5 i)) 58 i (S 6 i)) ⟨by simp only; omega, fun k j a b => by simp only [zup_ne (show k ≠ 56 by omega), zup_ne (show k ≠ 57 by omega), zup_ne (show k ≠ 58 by omega)]; exact hfr k j a b, by simp only [zup_ne (show 46 ≠ 56 by decide), zup_ne (show 46 ≠ 57 by decide), zup_ne (show 46 ≠ 58 by decide)]; exact h12, fun j a b => by
        simp only [zup_eq, Nat.reduceEqDiff, false_and, true_and, if_false]
        by_cases ej : j = i
        · simp only [ej, if_true, and_self]
        · simp only [ej, if_false]
          exact hx j a (by simp only at b; omega)⟩ (by simp only; omega)
      simp only [↓rX8_asTold_15, ↓rX8_asTold_16, ↓rX8_asTold_19, ↓rX8_asTold_22, ↓rX8_asTold_23, ↓rX8_asTold_26, ↓rX8_asTold_27, ↓rX8_asTold_28, ↓rX8_asTold_31, ↓rX8_asTold_32, ↓rX8_asTold_33, ↓rX8_asTold_34, ↓rX8_asTold_35, ↓rX8_asTold_38, ↓rX8_asTold_39, ↓rX8_asTold_40, ↓rX8_asTold_43, ↓rX8_asTold_44, ↓rX8_asTold_45, ↓rX8_asTold_46, ↓rX8_asTold_47, ↓rX8_asTold_50, ↓rX8_asTold_51, ↓rX8_asTold_52, ↓rX8_asTold_55, ↓rX8_asTold_56, ↓rX8_asTold_57, ↓rX8_asTold_58, ↓rX8_asTold_61, ↓hg_fX8_166_46, ↓hg_fX8_28_46, ↓hg_fX8_31_46, ↓hg_fX8_34_46, ↓hg_fX8_37_46, ↓hg_fX8_40_46, ↓hg_fX8_43_46, ↓hr_47, ↓hr_48, ↓hr_49, ↓hr_50, ↓hr_51, ↓hr_52, ↓hr_53, ↓hr_54, ↓hr_55, ↓hr_56, ↓hr_57, ↓hr_58, ↓hr_59, ↓hr_60, ↓hr_61, ↓hr_62, ↓hr_63, ↓hr_64, ↓hr_65, ↓hr_66, ↓hr_67, ↓hr_68, ↓hr_69, ↓hr_70, ↓hr_71, ↓hr_72, ↓hr_73, ↓hr_74, ↓hr_75, ↓hr_76, ↓hr_77, ↓hr_78, ↓hr_79, ↓hw_47, ↓hw_48, ↓hw_49, ↓hw_50, ↓hw_51, ↓hw_52, ↓hw_53, ↓hw_54, ↓hw_55, ↓hw_56, ↓hw_57, ↓hw_58, ↓hw_59, ↓hw_60, ↓hw_61, ↓hw_62, ↓hw_63, ↓hw_64, ↓hw_65, ↓hw_66, ↓hw_67, ↓hw_68, ↓hw_69, ↓hw_70, ↓hw_71, ↓hw_72, ↓hw_73, ↓hw_74, ↓hw_75, ↓hw_76, ↓hw_77, ↓hw_78, ↓hw_79, ↓reduceIte, zkeep_n, zkeep_i, zkeep_r, zkeep_l, zIR, zLR, List.length_cons, List.length_nil, Nat.reduceAdd, Nat.reduceLeDiff, Nat.reduceEqDiff, Nat.reduceSub, Int.reduceLE, Int.reduceLT, Int.reduceEq, Int.reduceNe, Int.reduceNeg, Int.reduceAdd, Int.reduceSub, Int.reduceMul, Int.reduceToNat, Nat.le_refl, Nat.zero_le, Nat.zero_add, Int.zero_add, Int.add_zero, and_true, true_and, and_false, false_and, not_true_eq_false, not_false_eq_true, eq_self, ne_eq, true_implies, false_implies, implies_true, or_true, true_or, or_false, false_or, reduceCtorEq, Option.some.injEq, Sum.inl.injEq, exists_eq_left', exists_eq_left, n8, a1, a2, a3, zup_ne, zite]
      repeat' (first | with_reducible apply And.intro | with_reducible intro _)
      all_goals first | omega | (exact nx)
  have st := L (0, zup M1 46 12 (S 3 0)) ⟨by simp only; omega, fun k j a b => by show zup M1 46 12 (S 3 0) k j = M1 k j; rw [zup_eq, if_neg (fun q => b q.1 q.2)], by simp [zup_eq], fun j a b => by simp only at b; omega⟩
  simp only [↓rX8_asTold_4, ↓rX8_asTold_5, ↓rX8_asTold_6, ↓rX8_asTold_9, ↓rX8_asTold_12, ↓rX8_asTold_13, ↓hg_fX8_166_46, ↓hp_fX8_178_46, ↓reduceIte, zkeep_n, zkeep_i, zkeep_r, zkeep_l, zIR, zLR, List.length_cons, List.length_nil, Nat.reduceAdd, Nat.reduceLeDiff, Nat.reduceEqDiff, Nat.reduceSub, Int.reduceLE, Int.reduceLT, Int.reduceEq, Int.reduceNe, Int.reduceNeg, Int.reduceAdd, Int.reduceSub, Int.reduceMul, Int.reduceToNat, Nat.le_refl, Nat.zero_le, Nat.zero_add, Int.zero_add, Int.add_zero, and_true, true_and, and_false, false_and, not_true_eq_false, not_false_eq_true, eq_self, ne_eq, true_implies, false_implies, implies_true, or_true, true_or, or_false, false_or, reduceCtorEq, Option.some.injEq, Sum.inl.injEq, exists_eq_left', exists_eq_left, e8, zite]
  exact st
