def XF (M M' : zM) : Prop := ∀ k i, 46 ≤ k → M' k i = M k i
theorem XF.rfl {M : zM} : XF M M := fun _ _ _ => Eq.refl _
theorem XF.trans {M M' M'' : zM} (h : XF M M') (h2 : XF M' M'') : XF M M'' := fun k i a => (h2 k i a).trans (h k i a)
theorem QF.xf {M M' : zM} (h : QF M M') : XF M M' := fun k i a => h k i (by omega) (by omega)
theorem s_relook0 {S S' M N : zM} {R : zP} (h : RX S M) (hS : ∀ k i, 3 ≤ k → S' k i = S k i) (hS1 : S' 0 1 = S 0 1) (hS2 : ∀ i, S' 2 i = S 2 i) (hV : VT S') (e3 : N 1 3 = S' 0 0) (hb : ∀ i, 0 ≤ i → i < S' 0 0 → N 2 i = S' 1 i) (hN : ∀ k i, k ≠ 1 → k ≠ 2 → k ≠ 3 → N k i = M k i) (hR : ∀ M', RX S' M' → XF M M' → M' 1 3 = S' 0 0 → R none M') : tX5_look [.inr (.inr 1)] N R := by
  have hk := hV 0 (by decide)
  refine s_look1 (S := S') hk.1 hk.2 e3 hb (fun M' g1 g2 g3 g4 g5 => hR M' (RX_text0 h hS hS1 hS2 hV g2 (fun i a b => (g1 _ _ (by decide) (by decide)).trans (hb i a b)) g3 g4 g5 (fun k i a b c => (g1 k i a c).trans (hN k i a b c))) (fun k i a => (g1 k i (by omega) (by omega)).trans (hN k i (by omega) (by omega) (by omega))) g2)
set_option maxRecDepth 100000 in
set_option maxHeartbeats 4000000 in
theorem s_append0 {S M : zM} {R : zP} {b : Int} (h : RX S M) (hb : 0 ≤ b ∧ b < 256) (hfull : S 0 0 = 47 → R (some (.inl (-4))) M) (hR : S 0 0 ≠ 47 → ∀ M', RX (nType S 0 b) M' → XF M M' → R (some (.inl (S 0 0 + 1))) M') : tX5_append [.inr (.inr 1), .inl b] M R := by
  have hk : (0 ≤ S 0 0 ∧ S 0 0 ≤ 47) ∧ ∀ i, 0 ≤ i → i < S 0 0 → 0 ≤ S 1 i ∧ S 1 i ≤ 255 := h.1 0 (by decide)
  have ht : TX S 0 1 M := by first | exact h.2.1 | exact h.2.2.1
  have e3 : M 1 3 = S 0 0 := ht.1
  have hB : ∀ i, 0 ≤ i → i < S 0 0 → M 2 i = S 1 i := ht.2.1
  have e0 : nType S 0 b = zup (zup S 1 (S 0 0) b) 0 0 (S 0 0 + 1) := rfl
  have lk : S 0 0 ≠ 47 → zcn (zv 5 tX5_look) [.inr (.inr 1)] (zup (zup M 2 (S 0 0) b) 1 3 (S 0 0 + 1)) (fun M' => uX5_append R 36 [some (.inr (.inr 1)), some (.inl b)] [] M') := fun hn => by
    refine zcnv rfl (s_relook0 (S := S) (M := M) (S' := nType S 0 b) h (fun k i a => ?_) ?_ (fun i => ?_) (VT_type0 h.1 hb (by omega)) ?_ (fun i i0 i1 => ?_) (fun k i q1 q2 q3 => ?_) (fun M' g1 g2 g3 => ⟨rfl, ?_⟩))
    · rw [e0, zup_ne (by omega), zup_ne (by omega)]
    · rw [e0, zup_in, if_neg (by decide), zup_ne (by decide)]
    · rw [e0, zup_ne (by decide), zup_ne (by decide)]
    · rw [e0, zup_in, zup_in, if_pos rfl, if_pos rfl]
    · rw [e0] at i1 ⊢
      rw [zup_in, if_pos rfl] at i1
      rw [zup_ne (show 2 ≠ 1 by decide), zup_in, zup_ne (show 1 ≠ 0 by decide), zup_in]
      split
      · rfl
      · exact hB i i0 (by omega)
    · rw [zup_ne q1, zup_ne q2]
    · have fin := hR hn M' g1 g2
      rw [e0, zup_in, if_pos rfl] at g3
      simp only [↓rX5_append_36, ↓rX5_append_37, ↓rX5_append_40, ↓hg_fX5_18_1, ↓hg_fX5_18_4, ↓reduceIte, zkeep_n, zkeep_i, zkeep_r, zkeep_l, zup_eq, zIR, zLR, List.length_cons, List.length_nil, Nat.reduceAdd, Nat.reduceLeDiff, Nat.reduceEqDiff, Nat.reduceSub, Int.reduceLE, Int.reduceLT, Int.reduceEq, Int.reduceNe, Int.reduceNeg, Int.reduceAdd, Int.reduceSub, Int.reduceMul, Int.reduceToNat, Nat.le_refl, Nat.zero_le, Nat.zero_add, Int.zero_add, Int.add_zero, and_true, true_and, and_false, false_and, not_true_eq_false, not_false_eq_true, eq_self, ne_eq, true_implies, false_implies, implies_true, or_true, true_or, or_false, false_or, reduceCtorEq, Option.some.injEq, Sum.inl.injEq, exists_eq_left', exists_eq_left, g3, zite]
      exact fin
  simp only [↓eX5_append, ↓rX5_append_0, ↓rX5_append_1, ↓rX5_append_4, ↓rX5_append_6, ↓rX5_append_9, ↓rX5_append_11, ↓rX5_append_12, ↓rX5_append_13, ↓rX5_append_16, ↓rX5_append_17, ↓rX5_append_20, ↓rX5_append_21, ↓rX5_append_22, ↓rX5_append_23, ↓rX5_append_24, ↓rX5_append_27, ↓rX5_append_28, ↓rX5_append_29, ↓rX5_append_32, ↓rX5_append_33, ↓hg_fX5_18_1, ↓hg_fX5_18_4, ↓hg_fX5_9_1, ↓hg_fX5_9_4, ↓hp_fX5_18_1, ↓hp_fX5_18_4, ↓hr_10, ↓hr_11, ↓hr_13, ↓hr_14, ↓hr_15, ↓hr_16, ↓hr_18, ↓hr_19, ↓hr_2, ↓hr_20, ↓hr_21, ↓hr_24, ↓hr_25, ↓hr_26, ↓hr_28, ↓hr_29, ↓hr_3, ↓hr_30, ↓hr_33, ↓hr_34, ↓hr_35, ↓hr_36, ↓hr_37, ↓hr_39, ↓hr_41, ↓hr_43, ↓hr_45, ↓hr_5, ↓hr_6, ↓hr_8, ↓hr_9, ↓hw_10, ↓hw_11, ↓hw_13, ↓hw_14, ↓hw_15, ↓hw_16, ↓hw_18, ↓hw_19, ↓hw_2, ↓hw_20, ↓hw_21, ↓hw_24, ↓hw_25, ↓hw_26, ↓hw_28, ↓hw_29, ↓hw_3, ↓hw_30, ↓hw_33, ↓hw_34, ↓hw_35, ↓hw_36, ↓hw_37, ↓hw_39, ↓hw_41, ↓hw_43, ↓hw_45, ↓hw_5, ↓hw_6, ↓hw_8, ↓hw_9, ↓reduceIte, zkeep_n, zkeep_i, zkeep_r, zkeep_l, zIR, zLR, List.length_cons, List.length_nil, Nat.reduceAdd, Nat.reduceLeDiff, Nat.reduceEqDiff, Nat.reduceSub, Int.reduceLE, Int.reduceLT, Int.reduceEq, Int.reduceNe, Int.reduceNeg, Int.reduceAdd, Int.reduceSub, Int.reduceMul, Int.reduceToNat, Nat.le_refl, Nat.zero_le, Nat.zero_add, Int.zero_add, Int.add_zero, and_true, true_and, and_false, false_and, not_true_eq_false, not_false_eq_true, eq_self, ne_eq, true_implies, false_implies, implies_true, or_true, true_or, or_false, false_or, reduceCtorEq, Option.some.injEq, Sum.inl.injEq, exists_eq_left', exists_eq_left, e3, zite]
  simp only [zup_ne (show 1 ≠ 2 by decide), e3]
  repeat' (first | with_reducible apply And.intro | with_reducible intro _)
  all_goals first | omega | (exact lk (by omega)) | (exact hfull (by omega))
set_option maxRecDepth 100000 in
set_option maxHeartbeats 4000000 in
theorem s_sclear0 {S M : zM} {R : zP} (h : RX S M) (hR : ∀ M', RX (nLen S 0 0) M' → XF M M' → R (some (.inl (S 0 0))) M') : tX5_clear [.inr (.inr 1)] M R := by
  have hk : (0 ≤ S 0 0 ∧ S 0 0 ≤ 47) ∧ ∀ i, 0 ≤ i → i < S 0 0 → 0 ≤ S 1 i ∧ S 1 i ≤ 255 := h.1 0 (by decide)
  have ht : TX S 0 1 M := by first | exact h.2.1 | exact h.2.2.1
  have e3 : M 1 3 = S 0 0 := ht.1
  have lk : zcn (zv 5 tX5_look) [.inr (.inr 1)] (zup M 1 3 0) (fun M' => uX5_clear R 14 [some (.inr (.inr 1)), some (.inl (S 0 0))] [] M') := by
    refine zcnv rfl (s_relook0 (S := S) (M := M) (S' := nLen S 0 0) h (fun k i a => zup_ne (by omega)) ?_ (fun i => zup_ne (by decide)) (VT_len0 h.1 ⟨Int.le_refl _, hk.1.1⟩) ?_ (fun i i0 i1 => ?_) (fun k i q1 q2 q3 => zup_ne q1) (fun M' g1 g2 g3 => ⟨rfl, ?_⟩))
    · unfold nLen
      rw [zup_in, if_neg (by decide)]
    · unfold nLen
      rw [zup_in, zup_in, if_pos rfl, if_pos rfl]
    · unfold nLen at i1
      rw [zup_in, if_pos rfl] at i1
      omega
    · have fin := hR M' g1 g2
      simp only [↓rX5_clear_14, ↓rX5_clear_15, ↓reduceIte, zkeep_n, zkeep_i, zkeep_r, zkeep_l, zup_eq, zIR, zLR, List.length_cons, List.length_nil, Nat.reduceAdd, Nat.reduceLeDiff, Nat.reduceEqDiff, Nat.reduceSub, Int.reduceLE, Int.reduceLT, Int.reduceEq, Int.reduceNe, Int.reduceNeg, Int.reduceAdd, Int.reduceSub, Int.reduceMul, Int.reduceToNat, Nat.le_refl, Nat.zero_le, Nat.zero_add, Int.zero_add, Int.add_zero, and_true, true_and, and_false, false_and, not_true_eq_false, not_false_eq_true, eq_self, ne_eq, true_implies, false_implies, implies_true, or_true, true_or, or_false, false_or, reduceCtorEq, Option.some.injEq, Sum.inl.injEq, exists_eq_left', exists_eq_left, zite]
      exact fin
  simp only [↓eX5_clear, ↓rX5_clear_0, ↓rX5_clear_1, ↓rX5_clear_4, ↓rX5_clear_5, ↓rX5_clear_6, ↓rX5_clear_7, ↓rX5_clear_10, ↓rX5_clear_11, ↓hg_fX5_18_1, ↓hg_fX5_18_4, ↓hp_fX5_18_1, ↓hp_fX5_18_4, ↓reduceIte, zkeep_n, zkeep_i, zkeep_r, zkeep_l, zIR, zLR, List.length_cons, List.length_nil, Nat.reduceAdd, Nat.reduceLeDiff, Nat.reduceEqDiff, Nat.reduceSub, Int.reduceLE, Int.reduceLT, Int.reduceEq, Int.reduceNe, Int.reduceNeg, Int.reduceAdd, Int.reduceSub, Int.reduceMul, Int.reduceToNat, Nat.le_refl, Nat.zero_le, Nat.zero_add, Int.zero_add, Int.add_zero, and_true, true_and, and_false, false_and, not_true_eq_false, not_false_eq_true, eq_self, ne_eq, true_implies, false_implies, implies_true, or_true, true_or, or_false, false_or, reduceCtorEq, Option.some.injEq, Sum.inl.injEq, exists_eq_left', exists_eq_left, e3, zite]
  repeat' (first | with_reducible apply And.intro | with_reducible intro _)
  all_goals first | omega | (exact lk)
set_option maxRecDepth 100000 in
set_option maxHeartbeats 4000000 in
theorem s_sdrop0 {S M : zM} {R : zP} (h : RX S M) (h0 : S 0 0 = 0 → R (some (.inl (-3))) M) (hR : S 0 0 ≠ 0 → ∀ M', RX (nLen S 0 (S 0 0 - 1)) M' → XF M M' → R (some (.inl (S 0 0 - 1))) M') : tX5_dropLast [.inr (.inr 1)] M R := by
  have hk : (0 ≤ S 0 0 ∧ S 0 0 ≤ 47) ∧ ∀ i, 0 ≤ i → i < S 0 0 → 0 ≤ S 1 i ∧ S 1 i ≤ 255 := h.1 0 (by decide)
  have ht : TX S 0 1 M := by first | exact h.2.1 | exact h.2.2.1
  have e3 : M 1 3 = S 0 0 := ht.1
  have hB : ∀ i, 0 ≤ i → i < S 0 0 → M 2 i = S 1 i := ht.2.1
  have lk : S 0 0 ≠ 0 → zcn (zv 5 tX5_look) [.inr (.inr 1)] (zup M 1 3 (S 0 0 - 1)) (fun M' => uX5_dropLast R 24 [some (.inr (.inr 1))] [] M') := fun hn => by
    refine zcnv rfl (s_relook0 (S := S) (M := M) (S' := nLen S 0 (S 0 0 - 1)) h (fun k i a => zup_ne (by omega)) ?_ (fun i => zup_ne (by decide)) (VT_len0 h.1 ⟨by omega, by omega⟩) ?_ (fun i i0 i1 => ?_) (fun k i q1 q2 q3 => zup_ne q1) (fun M' g1 g2 g3 => ⟨rfl, ?_⟩))
    · unfold nLen
      rw [zup_in, if_neg (by decide)]
    · unfold nLen
      rw [zup_in, zup_in, if_pos rfl, if_pos rfl]
    · unfold nLen at i1 ⊢
      rw [zup_in, if_pos rfl] at i1
      rw [zup_ne (by decide), zup_ne (by decide)]
      exact hB i i0 (by omega)
    · have fin := hR hn M' g1 g2
      unfold nLen at g3
      rw [zup_in, if_pos rfl] at g3
      simp only [↓rX5_dropLast_24, ↓rX5_dropLast_25, ↓rX5_dropLast_28, ↓hg_fX5_18_1, ↓hg_fX5_18_4, ↓reduceIte, zkeep_n, zkeep_i, zkeep_r, zkeep_l, zup_eq, zIR, zLR, List.length_cons, List.length_nil, Nat.reduceAdd, Nat.reduceLeDiff, Nat.reduceEqDiff, Nat.reduceSub, Int.reduceLE, Int.reduceLT, Int.reduceEq, Int.reduceNe, Int.reduceNeg, Int.reduceAdd, Int.reduceSub, Int.reduceMul, Int.reduceToNat, Nat.le_refl, Nat.zero_le, Nat.zero_add, Int.zero_add, Int.add_zero, and_true, true_and, and_false, false_and, not_true_eq_false, not_false_eq_true, eq_self, ne_eq, true_implies, false_implies, implies_true, or_true, true_or, or_false, false_or, reduceCtorEq, Option.some.injEq, Sum.inl.injEq, exists_eq_left', exists_eq_left, g3, zite]
      exact fin
  simp only [↓eX5_dropLast, ↓rX5_dropLast_0, ↓rX5_dropLast_1, ↓rX5_dropLast_4, ↓rX5_dropLast_7, ↓rX5_dropLast_9, ↓rX5_dropLast_10, ↓rX5_dropLast_11, ↓rX5_dropLast_12, ↓rX5_dropLast_15, ↓rX5_dropLast_16, ↓rX5_dropLast_17, ↓rX5_dropLast_20, ↓rX5_dropLast_21, ↓hg_fX5_18_1, ↓hg_fX5_18_4, ↓hp_fX5_18_1, ↓hp_fX5_18_4, ↓reduceIte, zkeep_n, zkeep_i, zkeep_r, zkeep_l, zIR, zLR, List.length_cons, List.length_nil, Nat.reduceAdd, Nat.reduceLeDiff, Nat.reduceEqDiff, Nat.reduceSub, Int.reduceLE, Int.reduceLT, Int.reduceEq, Int.reduceNe, Int.reduceNeg, Int.reduceAdd, Int.reduceSub, Int.reduceMul, Int.reduceToNat, Nat.le_refl, Nat.zero_le, Nat.zero_add, Int.zero_add, Int.add_zero, and_true, true_and, and_false, false_and, not_true_eq_false, not_false_eq_true, eq_self, ne_eq, true_implies, false_implies, implies_true, or_true, true_or, or_false, false_or, reduceCtorEq, Option.some.injEq, Sum.inl.injEq, exists_eq_left', exists_eq_left, e3, zite]
  repeat' (first | with_reducible apply And.intro | with_reducible intro _)
  all_goals first | omega | (exact lk (by omega)) | (exact h0 (by omega))
theorem s_relook1 {S S' M N : zM} {R : zP} (h : RX S M) (hS : ∀ k i, 3 ≤ k → S' k i = S k i) (hS1 : S' 0 0 = S 0 0) (hS2 : ∀ i, S' 1 i = S 1 i) (hV : VT S') (e3 : N 4 3 = S' 0 1) (hb : ∀ i, 0 ≤ i → i < S' 0 1 → N 5 i = S' 2 i) (hN : ∀ k i, k ≠ 4 → k ≠ 5 → k ≠ 6 → N k i = M k i) (hR : ∀ M', RX S' M' → XF M M' → M' 4 3 = S' 0 1 → R none M') : tX5_look [.inr (.inr 4)] N R := by
  have hk := hV 1 (by decide)
  refine s_look4 (S := S') hk.1 hk.2 e3 hb (fun M' g1 g2 g3 g4 g5 => hR M' (RX_text1 h hS hS1 hS2 hV g2 (fun i a b => (g1 _ _ (by decide) (by decide)).trans (hb i a b)) g3 g4 g5 (fun k i a b c => (g1 k i a c).trans (hN k i a b c))) (fun k i a => (g1 k i (by omega) (by omega)).trans (hN k i (by omega) (by omega) (by omega))) g2)
set_option maxRecDepth 100000 in
set_option maxHeartbeats 4000000 in
theorem s_append1 {S M : zM} {R : zP} {b : Int} (h : RX S M) (hb : 0 ≤ b ∧ b < 256) (hfull : S 0 1 = 47 → R (some (.inl (-4))) M) (hR : S 0 1 ≠ 47 → ∀ M', RX (nType S 1 b) M' → XF M M' → R (some (.inl (S 0 1 + 1))) M') : tX5_append [.inr (.inr 4), .inl b] M R := by
  have hk : (0 ≤ S 0 1 ∧ S 0 1 ≤ 47) ∧ ∀ i, 0 ≤ i → i < S 0 1 → 0 ≤ S 2 i ∧ S 2 i ≤ 255 := h.1 1 (by decide)
  have ht : TX S 1 4 M := by first | exact h.2.1 | exact h.2.2.1
  have e3 : M 4 3 = S 0 1 := ht.1
  have hB : ∀ i, 0 ≤ i → i < S 0 1 → M 5 i = S 2 i := ht.2.1
  have e0 : nType S 1 b = zup (zup S 2 (S 0 1) b) 0 1 (S 0 1 + 1) := rfl
  have lk : S 0 1 ≠ 47 → zcn (zv 5 tX5_look) [.inr (.inr 4)] (zup (zup M 5 (S 0 1) b) 4 3 (S 0 1 + 1)) (fun M' => uX5_append R 36 [some (.inr (.inr 4)), some (.inl b)] [] M') := fun hn => by
    refine zcnv rfl (s_relook1 (S := S) (M := M) (S' := nType S 1 b) h (fun k i a => ?_) ?_ (fun i => ?_) (VT_type1 h.1 hb (by omega)) ?_ (fun i i0 i1 => ?_) (fun k i q1 q2 q3 => ?_) (fun M' g1 g2 g3 => ⟨rfl, ?_⟩))
    · rw [e0, zup_ne (by omega), zup_ne (by omega)]
    · rw [e0, zup_in, if_neg (by decide), zup_ne (by decide)]
    · rw [e0, zup_ne (by decide), zup_ne (by decide)]
    · rw [e0, zup_in, zup_in, if_pos rfl, if_pos rfl]
    · rw [e0] at i1 ⊢
      rw [zup_in, if_pos rfl] at i1
      rw [zup_ne (show 5 ≠ 4 by decide), zup_in, zup_ne (show 2 ≠ 0 by decide), zup_in]
      split
      · rfl
      · exact hB i i0 (by omega)
    · rw [zup_ne q1, zup_ne q2]
    · have fin := hR hn M' g1 g2
      rw [e0, zup_in, if_pos rfl] at g3
      simp only [↓rX5_append_36, ↓rX5_append_37, ↓rX5_append_40, ↓hg_fX5_18_1, ↓hg_fX5_18_4, ↓reduceIte, zkeep_n, zkeep_i, zkeep_r, zkeep_l, zup_eq, zIR, zLR, List.length_cons, List.length_nil, Nat.reduceAdd, Nat.reduceLeDiff, Nat.reduceEqDiff, Nat.reduceSub, Int.reduceLE, Int.reduceLT, Int.reduceEq, Int.reduceNe, Int.reduceNeg, Int.reduceAdd, Int.reduceSub, Int.reduceMul, Int.reduceToNat, Nat.le_refl, Nat.zero_le, Nat.zero_add, Int.zero_add, Int.add_zero, and_true, true_and, and_false, false_and, not_true_eq_false, not_false_eq_true, eq_self, ne_eq, true_implies, false_implies, implies_true, or_true, true_or, or_false, false_or, reduceCtorEq, Option.some.injEq, Sum.inl.injEq, exists_eq_left', exists_eq_left, g3, zite]
      exact fin
  simp only [↓eX5_append, ↓rX5_append_0, ↓rX5_append_1, ↓rX5_append_4, ↓rX5_append_6, ↓rX5_append_9, ↓rX5_append_11, ↓rX5_append_12, ↓rX5_append_13, ↓rX5_append_16, ↓rX5_append_17, ↓rX5_append_20, ↓rX5_append_21, ↓rX5_append_22, ↓rX5_append_23, ↓rX5_append_24, ↓rX5_append_27, ↓rX5_append_28, ↓rX5_append_29, ↓rX5_append_32, ↓rX5_append_33, ↓hg_fX5_18_1, ↓hg_fX5_18_4, ↓hg_fX5_9_1, ↓hg_fX5_9_4, ↓hp_fX5_18_1, ↓hp_fX5_18_4, ↓hr_10, ↓hr_11, ↓hr_13, ↓hr_14, ↓hr_15, ↓hr_16, ↓hr_18, ↓hr_19, ↓hr_2, ↓hr_20, ↓hr_21, ↓hr_24, ↓hr_25, ↓hr_26, ↓hr_28, ↓hr_29, ↓hr_3, ↓hr_30, ↓hr_33, ↓hr_34, ↓hr_35, ↓hr_36, ↓hr_37, ↓hr_39, ↓hr_41, ↓hr_43, ↓hr_45, ↓hr_5, ↓hr_6, ↓hr_8, ↓hr_9, ↓hw_10, ↓hw_11, ↓hw_13, ↓hw_14, ↓hw_15, ↓hw_16, ↓hw_18, ↓hw_19, ↓hw_2, ↓hw_20, ↓hw_21, ↓hw_24, ↓hw_25, ↓hw_26, ↓hw_28, ↓hw_29, ↓hw_3, ↓hw_30, ↓hw_33, ↓hw_34, ↓hw_35, ↓hw_36, ↓hw_37, ↓hw_39, ↓hw_41, ↓hw_43, ↓hw_45, ↓hw_5, ↓hw_6, ↓hw_8, ↓hw_9, ↓reduceIte, zkeep_n, zkeep_i, zkeep_r, zkeep_l, zIR, zLR, List.length_cons, List.length_nil, Nat.reduceAdd, Nat.reduceLeDiff, Nat.reduceEqDiff, Nat.reduceSub, Int.reduceLE, Int.reduceLT, Int.reduceEq, Int.reduceNe, Int.reduceNeg, Int.reduceAdd, Int.reduceSub, Int.reduceMul, Int.reduceToNat, Nat.le_refl, Nat.zero_le, Nat.zero_add, Int.zero_add, Int.add_zero, and_true, true_and, and_false, false_and, not_true_eq_false, not_false_eq_true, eq_self, ne_eq, true_implies, false_implies, implies_true, or_true, true_or, or_false, false_or, reduceCtorEq, Option.some.injEq, Sum.inl.injEq, exists_eq_left', exists_eq_left, e3, zite]
  simp only [zup_ne (show 4 ≠ 5 by decide), e3]
  repeat' (first | with_reducible apply And.intro | with_reducible intro _)
  all_goals first | omega | (exact lk (by omega)) | (exact hfull (by omega))
set_option maxRecDepth 100000 in
set_option maxHeartbeats 4000000 in
theorem s_sclear1 {S M : zM} {R : zP} (h : RX S M) (hR : ∀ M', RX (nLen S 1 0) M' → XF M M' → R (some (.inl (S 0 1))) M') : tX5_clear [.inr (.inr 4)] M R := by
  have hk : (0 ≤ S 0 1 ∧ S 0 1 ≤ 47) ∧ ∀ i, 0 ≤ i → i < S 0 1 → 0 ≤ S 2 i ∧ S 2 i ≤ 255 := h.1 1 (by decide)
  have ht : TX S 1 4 M := by first | exact h.2.1 | exact h.2.2.1
  have e3 : M 4 3 = S 0 1 := ht.1
  have lk : zcn (zv 5 tX5_look) [.inr (.inr 4)] (zup M 4 3 0) (fun M' => uX5_clear R 14 [some (.inr (.inr 4)), some (.inl (S 0 1))] [] M') := by
    refine zcnv rfl (s_relook1 (S := S) (M := M) (S' := nLen S 1 0) h (fun k i a => zup_ne (by omega)) ?_ (fun i => zup_ne (by decide)) (VT_len1 h.1 ⟨Int.le_refl _, hk.1.1⟩) ?_ (fun i i0 i1 => ?_) (fun k i q1 q2 q3 => zup_ne q1) (fun M' g1 g2 g3 => ⟨rfl, ?_⟩))
    · unfold nLen
      rw [zup_in, if_neg (by decide)]
    · unfold nLen
      rw [zup_in, zup_in, if_pos rfl, if_pos rfl]
    · unfold nLen at i1
      rw [zup_in, if_pos rfl] at i1
      omega
    · have fin := hR M' g1 g2
      simp only [↓rX5_clear_14, ↓rX5_clear_15, ↓reduceIte, zkeep_n, zkeep_i, zkeep_r, zkeep_l, zup_eq, zIR, zLR, List.length_cons, List.length_nil, Nat.reduceAdd, Nat.reduceLeDiff, Nat.reduceEqDiff, Nat.reduceSub, Int.reduceLE, Int.reduceLT, Int.reduceEq, Int.reduceNe, Int.reduceNeg, Int.reduceAdd, Int.reduceSub, Int.reduceMul, Int.reduceToNat, Nat.le_refl, Nat.zero_le, Nat.zero_add, Int.zero_add, Int.add_zero, and_true, true_and, and_false, false_and, not_true_eq_false, not_false_eq_true, eq_self, ne_eq, true_implies, false_implies, implies_true, or_true, true_or, or_false, false_or, reduceCtorEq, Option.some.injEq, Sum.inl.injEq, exists_eq_left', exists_eq_left, zite]
      exact fin
  simp only [↓eX5_clear, ↓rX5_clear_0, ↓rX5_clear_1, ↓rX5_clear_4, ↓rX5_clear_5, ↓rX5_clear_6, ↓rX5_clear_7, ↓rX5_clear_10, ↓rX5_clear_11, ↓hg_fX5_18_1, ↓hg_fX5_18_4, ↓hp_fX5_18_1, ↓hp_fX5_18_4, ↓reduceIte, zkeep_n, zkeep_i, zkeep_r, zkeep_l, zIR, zLR, List.length_cons, List.length_nil, Nat.reduceAdd, Nat.reduceLeDiff, Nat.reduceEqDiff, Nat.reduceSub, Int.reduceLE, Int.reduceLT, Int.reduceEq, Int.reduceNe, Int.reduceNeg, Int.reduceAdd, Int.reduceSub, Int.reduceMul, Int.reduceToNat, Nat.le_refl, Nat.zero_le, Nat.zero_add, Int.zero_add, Int.add_zero, and_true, true_and, and_false, false_and, not_true_eq_false, not_false_eq_true, eq_self, ne_eq, true_implies, false_implies, implies_true, or_true, true_or, or_false, false_or, reduceCtorEq, Option.some.injEq, Sum.inl.injEq, exists_eq_left', exists_eq_left, e3, zite]
  repeat' (first | with_reducible apply And.intro | with_reducible intro _)
  all_goals first | omega | (exact lk)
set_option maxRecDepth 100000 in
set_option maxHeartbeats 4000000 in
theorem s_sdrop1 {S M : zM} {R : zP} (h : RX S M) (h0 : S 0 1 = 0 → R (some (.inl (-3))) M) (hR : S 0 1 ≠ 0 → ∀ M', RX (nLen S 1 (S 0 1 - 1)) M' → XF M M' → R (some (.inl (S 0 1 - 1))) M') : tX5_dropLast [.inr (.inr 4)] M R := by
  have hk : (0 ≤ S 0 1 ∧ S 0 1 ≤ 47) ∧ ∀ i, 0 ≤ i → i < S 0 1 → 0 ≤ S 2 i ∧ S 2 i ≤ 255 := h.1 1 (by decide)
  have ht : TX S 1 4 M := by first | exact h.2.1 | exact h.2.2.1
  have e3 : M 4 3 = S 0 1 := ht.1
  have hB : ∀ i, 0 ≤ i → i < S 0 1 → M 5 i = S 2 i := ht.2.1
  have lk : S 0 1 ≠ 0 → zcn (zv 5 tX5_look) [.inr (.inr 4)] (zup M 4 3 (S 0 1 - 1)) (fun M' => uX5_dropLast R 24 [some (.inr (.inr 4))] [] M') := fun hn => by
    refine zcnv rfl (s_relook1 (S := S) (M := M) (S' := nLen S 1 (S 0 1 - 1)) h (fun k i a => zup_ne (by omega)) ?_ (fun i => zup_ne (by decide)) (VT_len1 h.1 ⟨by omega, by omega⟩) ?_ (fun i i0 i1 => ?_) (fun k i q1 q2 q3 => zup_ne q1) (fun M' g1 g2 g3 => ⟨rfl, ?_⟩))
    · unfold nLen
      rw [zup_in, if_neg (by decide)]
    · unfold nLen
      rw [zup_in, zup_in, if_pos rfl, if_pos rfl]
    · unfold nLen at i1 ⊢
      rw [zup_in, if_pos rfl] at i1
      rw [zup_ne (by decide), zup_ne (by decide)]
      exact hB i i0 (by omega)
    · have fin := hR hn M' g1 g2
      unfold nLen at g3
      rw [zup_in, if_pos rfl] at g3
      simp only [↓rX5_dropLast_24, ↓rX5_dropLast_25, ↓rX5_dropLast_28, ↓hg_fX5_18_1, ↓hg_fX5_18_4, ↓reduceIte, zkeep_n, zkeep_i, zkeep_r, zkeep_l, zup_eq, zIR, zLR, List.length_cons, List.length_nil, Nat.reduceAdd, Nat.reduceLeDiff, Nat.reduceEqDiff, Nat.reduceSub, Int.reduceLE, Int.reduceLT, Int.reduceEq, Int.reduceNe, Int.reduceNeg, Int.reduceAdd, Int.reduceSub, Int.reduceMul, Int.reduceToNat, Nat.le_refl, Nat.zero_le, Nat.zero_add, Int.zero_add, Int.add_zero, and_true, true_and, and_false, false_and, not_true_eq_false, not_false_eq_true, eq_self, ne_eq, true_implies, false_implies, implies_true, or_true, true_or, or_false, false_or, reduceCtorEq, Option.some.injEq, Sum.inl.injEq, exists_eq_left', exists_eq_left, g3, zite]
      exact fin
  simp only [↓eX5_dropLast, ↓rX5_dropLast_0, ↓rX5_dropLast_1, ↓rX5_dropLast_4, ↓rX5_dropLast_7, ↓rX5_dropLast_9, ↓rX5_dropLast_10, ↓rX5_dropLast_11, ↓rX5_dropLast_12, ↓rX5_dropLast_15, ↓rX5_dropLast_16, ↓rX5_dropLast_17, ↓rX5_dropLast_20, ↓rX5_dropLast_21, ↓hg_fX5_18_1, ↓hg_fX5_18_4, ↓hp_fX5_18_1, ↓hp_fX5_18_4, ↓reduceIte, zkeep_n, zkeep_i, zkeep_r, zkeep_l, zIR, zLR, List.length_cons, List.length_nil, Nat.reduceAdd, Nat.reduceLeDiff, Nat.reduceEqDiff, Nat.reduceSub, Int.reduceLE, Int.reduceLT, Int.reduceEq, Int.reduceNe, Int.reduceNeg, Int.reduceAdd, Int.reduceSub, Int.reduceMul, Int.reduceToNat, Nat.le_refl, Nat.zero_le, Nat.zero_add, Int.zero_add, Int.add_zero, and_true, true_and, and_false, false_and, not_true_eq_false, not_false_eq_true, eq_self, ne_eq, true_implies, false_implies, implies_true, or_true, true_or, or_false, false_or, reduceCtorEq, Option.some.injEq, Sum.inl.injEq, exists_eq_left', exists_eq_left, e3, zite]
  repeat' (first | with_reducible apply And.intro | with_reducible intro _)
  all_goals first | omega | (exact lk (by omega)) | (exact h0 (by omega))
def aType (S : zM) (t b : Int) : Int := if (0 ≤ t ∧ t < 2) ∧ (0 ≤ b ∧ b < 256) then (if S 0 t = 47 then -4 else S 0 t + 1) else -2
def mType (S : zM) (t b : Int) : zM := if ((0 ≤ t ∧ t < 2) ∧ (0 ≤ b ∧ b < 256)) ∧ S 0 t ≠ 47 then nType S t b else S
def aWipe (S : zM) (t : Int) : Int := if 0 ≤ t ∧ t < 2 then S 0 t else -2
def mWipe (S : zM) (t : Int) : zM := if 0 ≤ t ∧ t < 2 then nLen S t 0 else S
def aUndo (S : zM) (t : Int) : Int := if 0 ≤ t ∧ t < 2 then (if S 0 t = 0 then -3 else S 0 t - 1) else -2
def mUndo (S : zM) (t : Int) : zM := if (0 ≤ t ∧ t < 2) ∧ S 0 t ≠ 0 then nLen S t (S 0 t - 1) else S
def aFault (S : zM) (t : Int) : Int := if 0 ≤ t ∧ t < 2 then qflaw S t.toNat else -2
def aMember (S : zM) (m w : Int) : Int := if (0 ≤ m ∧ m < qn S 0) ∧ (0 ≤ w ∧ w < 5) then qfact S 0 m w else -2
def aCow (S : zM) (m w : Int) : Int := if (0 ≤ m ∧ m < qn S 1) ∧ (0 ≤ w ∧ w < 5) then qfact S 1 m w else -2
set_option maxRecDepth 100000 in
set_option maxHeartbeats 4000000 in
theorem x_type {S M : zM} {R : zP} {t b : Int} (h : RX S M) (z1 : zIR t) (z2 : zIR b) (hR : ∀ M', RX (mType S t b) M' → XF M M' → R (some (.inl (aType S t b))) M') : tX7_type [.inr (.inr 0), .inl t, .inl b] M R := by
  unfold zIR at z1 z2
  unfold mType aType at hR
  have bad : ¬ ((0 ≤ t ∧ t < 2) ∧ (0 ≤ b ∧ b < 256)) → R (some (.inl (-2))) M := fun hb => by
    have := hR M (by rw [if_neg (fun q => hb q.1)]; exact h) XF.rfl
    rw [if_neg hb] at this
    exact this
  have go : (0 ≤ t ∧ t < 2) → (0 ≤ b ∧ b < 256) → (t = 0 → zcv (zv 5 tX5_append) [.inr (.inr 1), .inl b] M (fun v M' => uX7_type R 30 [some (.inr (.inr 0)), some (.inl t), some (.inl b)] [v] M')) ∧ (t = 1 → zcv (zv 5 tX5_append) [.inr (.inr 4), .inl b] M (fun v M' => uX7_type R 30 [some (.inr (.inr 0)), some (.inl t), some (.inl b)] [v] M')) := fun ht hb => by
    have f1 : S 0 t = 47 → R (some (.inl (-4))) M := fun q => by
      have := hR M (by rw [if_neg (fun z => z.2 q)]; exact h) XF.rfl
      rw [if_pos ⟨ht, hb⟩, if_pos q] at this
      exact this
    have f2 : S 0 t ≠ 47 → ∀ M', RX (nType S t b) M' → XF M M' → R (some (.inl (S 0 t + 1))) M' := fun q M' g1 g2 => by
      have := hR M' (by rw [if_pos ⟨⟨ht, hb⟩, q⟩]; exact g1) g2
      rw [if_pos ⟨ht, hb⟩, if_neg q] at this
      exact this
    constructor
    · intro e
      subst e
      refine zcvv rfl (s_append0 h hb (fun q => ⟨_, rfl, ?_⟩) (fun q M' g1 g2 => ⟨_, rfl, ?_⟩))
      · have := f1 q
        simp only [↓rX7_type_30, ↓reduceIte, zkeep_n, zkeep_i, zkeep_r, zkeep_l, zup_eq, zIR, zLR, List.length_cons, List.length_nil, Nat.reduceAdd, Nat.reduceLeDiff, Nat.reduceEqDiff, Nat.reduceSub, Int.reduceLE, Int.reduceLT, Int.reduceEq, Int.reduceNe, Int.reduceNeg, Int.reduceAdd, Int.reduceSub, Int.reduceMul, Int.reduceToNat, Nat.le_refl, Nat.zero_le, Nat.zero_add, Int.zero_add, Int.add_zero, and_true, true_and, and_false, false_and, not_true_eq_false, not_false_eq_true, eq_self, ne_eq, true_implies, false_implies, implies_true, or_true, true_or, or_false, false_or, reduceCtorEq, Option.some.injEq, Sum.inl.injEq, exists_eq_left', exists_eq_left, zite]
        exact this
      · have := f2 q M' g1 g2
        simp only [↓rX7_type_30, ↓reduceIte, zkeep_n, zkeep_i, zkeep_r, zkeep_l, zup_eq, zIR, zLR, List.length_cons, List.length_nil, Nat.reduceAdd, Nat.reduceLeDiff, Nat.reduceEqDiff, Nat.reduceSub, Int.reduceLE, Int.reduceLT, Int.reduceEq, Int.reduceNe, Int.reduceNeg, Int.reduceAdd, Int.reduceSub, Int.reduceMul, Int.reduceToNat, Nat.le_refl, Nat.zero_le, Nat.zero_add, Int.zero_add, Int.add_zero, and_true, true_and, and_false, false_and, not_true_eq_false, not_false_eq_true, eq_self, ne_eq, true_implies, false_implies, implies_true, or_true, true_or, or_false, false_or, reduceCtorEq, Option.some.injEq, Sum.inl.injEq, exists_eq_left', exists_eq_left, zite]
        exact this
    · intro e
      subst e
      refine zcvv rfl (s_append1 h hb (fun q => ⟨_, rfl, ?_⟩) (fun q M' g1 g2 => ⟨_, rfl, ?_⟩))
      · have := f1 q
        simp only [↓rX7_type_30, ↓reduceIte, zkeep_n, zkeep_i, zkeep_r, zkeep_l, zup_eq, zIR, zLR, List.length_cons, List.length_nil, Nat.reduceAdd, Nat.reduceLeDiff, Nat.reduceEqDiff, Nat.reduceSub, Int.reduceLE, Int.reduceLT, Int.reduceEq, Int.reduceNe, Int.reduceNeg, Int.reduceAdd, Int.reduceSub, Int.reduceMul, Int.reduceToNat, Nat.le_refl, Nat.zero_le, Nat.zero_add, Int.zero_add, Int.add_zero, and_true, true_and, and_false, false_and, not_true_eq_false, not_false_eq_true, eq_self, ne_eq, true_implies, false_implies, implies_true, or_true, true_or, or_false, false_or, reduceCtorEq, Option.some.injEq, Sum.inl.injEq, exists_eq_left', exists_eq_left, zite]
        exact this
      · have := f2 q M' g1 g2
        simp only [↓rX7_type_30, ↓reduceIte, zkeep_n, zkeep_i, zkeep_r, zkeep_l, zup_eq, zIR, zLR, List.length_cons, List.length_nil, Nat.reduceAdd, Nat.reduceLeDiff, Nat.reduceEqDiff, Nat.reduceSub, Int.reduceLE, Int.reduceLT, Int.reduceEq, Int.reduceNe, Int.reduceNeg, Int.reduceAdd, Int.reduceSub, Int.reduceMul, Int.reduceToNat, Nat.le_refl, Nat.zero_le, Nat.zero_add, Int.zero_add, Int.add_zero, and_true, true_and, and_false, false_and, not_true_eq_false, not_false_eq_true, eq_self, ne_eq, true_implies, false_implies, implies_true, or_true, true_or, or_false, false_or, reduceCtorEq, Option.some.injEq, Sum.inl.injEq, exists_eq_left', exists_eq_left, zite]
        exact this
  simp only [↓eX7_type, ↓rX7_type_0, ↓rX7_type_1, ↓rX7_type_2, ↓rX7_type_5, ↓rX7_type_8, ↓rX7_type_9, ↓rX7_type_12, ↓rX7_type_15, ↓rX7_type_18, ↓rX7_type_20, ↓rX7_type_21, ↓rX7_type_22, ↓rX7_type_23, ↓rX7_type_26, ↓rX7_type_27, ↓i_outside, ↓i_scroll, ↓reduceIte, zkeep_n, zkeep_i, zkeep_r, zkeep_l, zup_eq, zIR, zLR, List.length_cons, List.length_nil, Nat.reduceAdd, Nat.reduceLeDiff, Nat.reduceEqDiff, Nat.reduceSub, Int.reduceLE, Int.reduceLT, Int.reduceEq, Int.reduceNe, Int.reduceNeg, Int.reduceAdd, Int.reduceSub, Int.reduceMul, Int.reduceToNat, Nat.le_refl, Nat.zero_le, Nat.zero_add, Int.zero_add, Int.add_zero, and_true, true_and, and_false, false_and, not_true_eq_false, not_false_eq_true, eq_self, ne_eq, true_implies, false_implies, implies_true, or_true, true_or, or_false, false_or, reduceCtorEq, Option.some.injEq, Sum.inl.injEq, exists_eq_left', exists_eq_left, zite]
  repeat' (first | with_reducible apply And.intro | with_reducible intro _)
  all_goals first | omega | (exact bad (by omega)) | (exact (go (by omega) (by omega)).1 (by omega)) | (exact (go (by omega) (by omega)).2 (by omega))
set_option maxRecDepth 100000 in
set_option maxHeartbeats 4000000 in
theorem x_wipe {S M : zM} {R : zP} {t : Int} (h : RX S M) (z1 : zIR t) (hR : ∀ M', RX (mWipe S t) M' → XF M M' → R (some (.inl (aWipe S t))) M') : tX7_wipe [.inr (.inr 0), .inl t] M R := by
  unfold zIR at z1
  unfold mWipe aWipe at hR
  have bad : ¬ (0 ≤ t ∧ t < 2) → R (some (.inl (-2))) M := fun hb => by
    have := hR M (by rw [if_neg hb]; exact h) XF.rfl
    rw [if_neg hb] at this
    exact this
  have f2 : (0 ≤ t ∧ t < 2) → ∀ M', RX (nLen S t 0) M' → XF M M' → R (some (.inl (S 0 t))) M' := fun ht M' g1 g2 => by
    have := hR M' (by rw [if_pos ht]; exact g1) g2
    rw [if_pos ht] at this
    exact this
  have c0 : t = 0 → zcv (zv 5 tX5_clear) [.inr (.inr 1)] M (fun v M' => uX7_wipe R 19 [some (.inr (.inr 0)), some (.inl t)] [v] M') := fun e => by
    subst e
    refine zcvv rfl (s_sclear0 h (fun M' g1 g2 => ⟨_, rfl, ?_⟩))
    have := f2 (by decide) M' g1 g2
    simp only [↓rX7_wipe_19, ↓reduceIte, zkeep_n, zkeep_i, zkeep_r, zkeep_l, zup_eq, zIR, zLR, List.length_cons, List.length_nil, Nat.reduceAdd, Nat.reduceLeDiff, Nat.reduceEqDiff, Nat.reduceSub, Int.reduceLE, Int.reduceLT, Int.reduceEq, Int.reduceNe, Int.reduceNeg, Int.reduceAdd, Int.reduceSub, Int.reduceMul, Int.reduceToNat, Nat.le_refl, Nat.zero_le, Nat.zero_add, Int.zero_add, Int.add_zero, and_true, true_and, and_false, false_and, not_true_eq_false, not_false_eq_true, eq_self, ne_eq, true_implies, false_implies, implies_true, or_true, true_or, or_false, false_or, reduceCtorEq, Option.some.injEq, Sum.inl.injEq, exists_eq_left', exists_eq_left, zite]
    exact this
  have c1 : t = 1 → zcv (zv 5 tX5_clear) [.inr (.inr 4)] M (fun v M' => uX7_wipe R 19 [some (.inr (.inr 0)), some (.inl t)] [v] M') := fun e => by
    subst e
    refine zcvv rfl (s_sclear1 h (fun M' g1 g2 => ⟨_, rfl, ?_⟩))
    have := f2 (by decide) M' g1 g2
    simp only [↓rX7_wipe_19, ↓reduceIte, zkeep_n, zkeep_i, zkeep_r, zkeep_l, zup_eq, zIR, zLR, List.length_cons, List.length_nil, Nat.reduceAdd, Nat.reduceLeDiff, Nat.reduceEqDiff, Nat.reduceSub, Int.reduceLE, Int.reduceLT, Int.reduceEq, Int.reduceNe, Int.reduceNeg, Int.reduceAdd, Int.reduceSub, Int.reduceMul, Int.reduceToNat, Nat.le_refl, Nat.zero_le, Nat.zero_add, Int.zero_add, Int.add_zero, and_true, true_and, and_false, false_and, not_true_eq_false, not_false_eq_true, eq_self, ne_eq, true_implies, false_implies, implies_true, or_true, true_or, or_false, false_or, reduceCtorEq, Option.some.injEq, Sum.inl.injEq, exists_eq_left', exists_eq_left, zite]
    exact this
  simp only [↓eX7_wipe, ↓rX7_wipe_0, ↓rX7_wipe_1, ↓rX7_wipe_2, ↓rX7_wipe_5, ↓rX7_wipe_8, ↓rX7_wipe_10, ↓rX7_wipe_11, ↓rX7_wipe_12, ↓rX7_wipe_13, ↓rX7_wipe_16, ↓i_outside, ↓i_scroll, ↓reduceIte, zkeep_n, zkeep_i, zkeep_r, zkeep_l, zup_eq, zIR, zLR, List.length_cons, List.length_nil, Nat.reduceAdd, Nat.reduceLeDiff, Nat.reduceEqDiff, Nat.reduceSub, Int.reduceLE, Int.reduceLT, Int.reduceEq, Int.reduceNe, Int.reduceNeg, Int.reduceAdd, Int.reduceSub, Int.reduceMul, Int.reduceToNat, Nat.le_refl, Nat.zero_le, Nat.zero_add, Int.zero_add, Int.add_zero, and_true, true_and, and_false, false_and, not_true_eq_false, not_false_eq_true, eq_self, ne_eq, true_implies, false_implies, implies_true, or_true, true_or, or_false, false_or, reduceCtorEq, Option.some.injEq, Sum.inl.injEq, exists_eq_left', exists_eq_left, zite]
  repeat' (first | with_reducible apply And.intro | with_reducible intro _)
  all_goals first | omega | (exact bad (by omega)) | (exact c0 (by omega)) | (exact c1 (by omega))
set_option maxRecDepth 100000 in
set_option maxHeartbeats 4000000 in
theorem x_undo {S M : zM} {R : zP} {t : Int} (h : RX S M) (z1 : zIR t) (hR : ∀ M', RX (mUndo S t) M' → XF M M' → R (some (.inl (aUndo S t))) M') : tX7_undo [.inr (.inr 0), .inl t] M R := by
  unfold zIR at z1
  unfold mUndo aUndo at hR
  have bad : ¬ (0 ≤ t ∧ t < 2) → R (some (.inl (-2))) M := fun hb => by
    have := hR M (by rw [if_neg (fun q => hb q.1)]; exact h) XF.rfl
    rw [if_neg hb] at this
    exact this
  have f1 : (0 ≤ t ∧ t < 2) → S 0 t = 0 → R (some (.inl (-3))) M := fun ht q => by
    have := hR M (by rw [if_neg (fun z => z.2 q)]; exact h) XF.rfl
    rw [if_pos ht, if_pos q] at this
    exact this
  have f2 : (0 ≤ t ∧ t < 2) → S 0 t ≠ 0 → ∀ M', RX (nLen S t (S 0 t - 1)) M' → XF M M' → R (some (.inl (S 0 t - 1))) M' := fun ht q M' g1 g2 => by
    have := hR M' (by rw [if_pos ⟨ht, q⟩]; exact g1) g2
    rw [if_pos ht, if_neg q] at this
    exact this
  have c0 : t = 0 → zcv (zv 5 tX5_dropLast) [.inr (.inr 1)] M (fun v M' => uX7_undo R 19 [some (.inr (.inr 0)), some (.inl t)] [v] M') := fun e => by
    subst e
    refine zcvv rfl (s_sdrop0 h (fun q => ⟨_, rfl, ?_⟩) (fun q M' g1 g2 => ⟨_, rfl, ?_⟩))
    · have := f1 (by decide) q
      simp only [↓rX7_undo_19, ↓reduceIte, zkeep_n, zkeep_i, zkeep_r, zkeep_l, zup_eq, zIR, zLR, List.length_cons, List.length_nil, Nat.reduceAdd, Nat.reduceLeDiff, Nat.reduceEqDiff, Nat.reduceSub, Int.reduceLE, Int.reduceLT, Int.reduceEq, Int.reduceNe, Int.reduceNeg, Int.reduceAdd, Int.reduceSub, Int.reduceMul, Int.reduceToNat, Nat.le_refl, Nat.zero_le, Nat.zero_add, Int.zero_add, Int.add_zero, and_true, true_and, and_false, false_and, not_true_eq_false, not_false_eq_true, eq_self, ne_eq, true_implies, false_implies, implies_true, or_true, true_or, or_false, false_or, reduceCtorEq, Option.some.injEq, Sum.inl.injEq, exists_eq_left', exists_eq_left, zite]
      exact this
    · have := f2 (by decide) q M' g1 g2
      simp only [↓rX7_undo_19, ↓reduceIte, zkeep_n, zkeep_i, zkeep_r, zkeep_l, zup_eq, zIR, zLR, List.length_cons, List.length_nil, Nat.reduceAdd, Nat.reduceLeDiff, Nat.reduceEqDiff, Nat.reduceSub, Int.reduceLE, Int.reduceLT, Int.reduceEq, Int.reduceNe, Int.reduceNeg, Int.reduceAdd, Int.reduceSub, Int.reduceMul, Int.reduceToNat, Nat.le_refl, Nat.zero_le, Nat.zero_add, Int.zero_add, Int.add_zero, and_true, true_and, and_false, false_and, not_true_eq_false, not_false_eq_true, eq_self, ne_eq, true_implies, false_implies, implies_true, or_true, true_or, or_false, false_or, reduceCtorEq, Option.some.injEq, Sum.inl.injEq, exists_eq_left', exists_eq_left, zite]
      exact this
  have c1 : t = 1 → zcv (zv 5 tX5_dropLast) [.inr (.inr 4)] M (fun v M' => uX7_undo R 19 [some (.inr (.inr 0)), some (.inl t)] [v] M') := fun e => by
    subst e
    refine zcvv rfl (s_sdrop1 h (fun q => ⟨_, rfl, ?_⟩) (fun q M' g1 g2 => ⟨_, rfl, ?_⟩))
    · have := f1 (by decide) q
      simp only [↓rX7_undo_19, ↓reduceIte, zkeep_n, zkeep_i, zkeep_r, zkeep_l, zup_eq, zIR, zLR, List.length_cons, List.length_nil, Nat.reduceAdd, Nat.reduceLeDiff, Nat.reduceEqDiff, Nat.reduceSub, Int.reduceLE, Int.reduceLT, Int.reduceEq, Int.reduceNe, Int.reduceNeg, Int.reduceAdd, Int.reduceSub, Int.reduceMul, Int.reduceToNat, Nat.le_refl, Nat.zero_le, Nat.zero_add, Int.zero_add, Int.add_zero, and_true, true_and, and_false, false_and, not_true_eq_false, not_false_eq_true, eq_self, ne_eq, true_implies, false_implies, implies_true, or_true, true_or, or_false, false_or, reduceCtorEq, Option.some.injEq, Sum.inl.injEq, exists_eq_left', exists_eq_left, zite]
      exact this
    · have := f2 (by decide) q M' g1 g2
      simp only [↓rX7_undo_19, ↓reduceIte, zkeep_n, zkeep_i, zkeep_r, zkeep_l, zup_eq, zIR, zLR, List.length_cons, List.length_nil, Nat.reduceAdd, Nat.reduceLeDiff, Nat.reduceEqDiff, Nat.reduceSub, Int.reduceLE, Int.reduceLT, Int.reduceEq, Int.reduceNe, Int.reduceNeg, Int.reduceAdd, Int.reduceSub, Int.reduceMul, Int.reduceToNat, Nat.le_refl, Nat.zero_le, Nat.zero_add, Int.zero_add, Int.add_zero, and_true, true_and, and_false, false_and, not_true_eq_false, not_false_eq_true, eq_self, ne_eq, true_implies, false_implies, implies_true, or_true, true_or, or_false, false_or, reduceCtorEq, Option.some.injEq, Sum.inl.injEq, exists_eq_left', exists_eq_left, zite]
      exact this
  simp only [↓eX7_undo, ↓rX7_undo_0, ↓rX7_undo_1, ↓rX7_undo_2, ↓rX7_undo_5, ↓rX7_undo_8, ↓rX7_undo_10, ↓rX7_undo_11, ↓rX7_undo_12, ↓rX7_undo_13, ↓rX7_undo_16, ↓i_outside, ↓i_scroll, ↓reduceIte, zkeep_n, zkeep_i, zkeep_r, zkeep_l, zup_eq, zIR, zLR, List.length_cons, List.length_nil, Nat.reduceAdd, Nat.reduceLeDiff, Nat.reduceEqDiff, Nat.reduceSub, Int.reduceLE, Int.reduceLT, Int.reduceEq, Int.reduceNe, Int.reduceNeg, Int.reduceAdd, Int.reduceSub, Int.reduceMul, Int.reduceToNat, Nat.le_refl, Nat.zero_le, Nat.zero_add, Int.zero_add, Int.add_zero, and_true, true_and, and_false, false_and, not_true_eq_false, not_false_eq_true, eq_self, ne_eq, true_implies, false_implies, implies_true, or_true, true_or, or_false, false_or, reduceCtorEq, Option.some.injEq, Sum.inl.injEq, exists_eq_left', exists_eq_left, zite]
  repeat' (first | with_reducible apply And.intro | with_reducible intro _)
  all_goals first | omega | (exact bad (by omega)) | (exact c0 (by omega)) | (exact c1 (by omega))
set_option maxRecDepth 100000 in
set_option maxHeartbeats 4000000 in
theorem x_fault {S M : zM} {R : zP} {t : Int} (h : RX S M) (z1 : zIR t) (hR : R (some (.inl (aFault S t))) M) : tX7_fault [.inr (.inr 0), .inl t] M R := by
  unfold zIR at z1
  unfold aFault at hR
  have e0 : M 1 4 = qflaw S 0 := h.2.1.2.2
  have e1 : M 4 4 = qflaw S 1 := h.2.2.1.2.2
  have c0 : t = 0 → R (some (.inl (qflaw S 0))) M := fun e => by subst e; exact hR
  have c1 : t = 1 → R (some (.inl (qflaw S 1))) M := fun e => by subst e; exact hR
  simp only [↓eX7_fault, ↓rX7_fault_0, ↓rX7_fault_1, ↓rX7_fault_2, ↓rX7_fault_5, ↓rX7_fault_8, ↓rX7_fault_10, ↓rX7_fault_11, ↓rX7_fault_12, ↓rX7_fault_13, ↓rX7_fault_16, ↓rX7_fault_19, ↓hg_fX7_113_1, ↓hg_fX7_113_4, ↓i_outside, ↓i_scroll, ↓reduceIte, zkeep_n, zkeep_i, zkeep_r, zkeep_l, zup_eq, zIR, zLR, List.length_cons, List.length_nil, Nat.reduceAdd, Nat.reduceLeDiff, Nat.reduceEqDiff, Nat.reduceSub, Int.reduceLE, Int.reduceLT, Int.reduceEq, Int.reduceNe, Int.reduceNeg, Int.reduceAdd, Int.reduceSub, Int.reduceMul, Int.reduceToNat, Nat.le_refl, Nat.zero_le, Nat.zero_add, Int.zero_add, Int.add_zero, and_true, true_and, and_false, false_and, not_true_eq_false, not_false_eq_true, eq_self, ne_eq, true_implies, false_implies, implies_true, or_true, true_or, or_false, false_or, reduceCtorEq, Option.some.injEq, Sum.inl.injEq, exists_eq_left', exists_eq_left, e0, e1, zite]
  repeat' (first | with_reducible apply And.intro | with_reducible intro _)
  all_goals first | omega | (rw [if_neg (by omega)] at hR; exact hR) | (exact c0 (by omega)) | (exact c1 (by omega))
set_option maxRecDepth 100000 in
set_option maxHeartbeats 4000000 in
theorem x_member {S M : zM} {R : zP} {m w : Int} (h : RX S M) (z1 : zIR m) (z2 : zIR w) (hR : R (some (.inl (aMember S m w))) M) : tX7_member [.inr (.inr 0), .inl m, .inl w] M R := by
  unfold zIR at z1 z2
  unfold aMember at hR
  have hqn := (h.2.2.2.1.1 0 (by decide)).1
  have n1 : M 1 5 = qn S 0 := h.2.2.2.1.2.1
  have ok : (0 ≤ m ∧ m < qn S 0) ∧ (0 ≤ w ∧ w < 5) → R (some (.inl (M 3 (m * 5 + w)))) M := fun q => by
    rw [if_pos q] at hR
    rw [h.2.2.2.1.2.2.2.1 m w q.1.1 q.1.2 q.2.1 q.2.2]
    exact hR
  simp only [↓eX7_member, ↓rX7_member_0, ↓rX7_member_1, ↓rX7_member_2, ↓rX7_member_5, ↓rX7_member_8, ↓rX7_member_11, ↓rX7_member_14, ↓rX7_member_15, ↓rX7_member_16, ↓rX7_member_19, ↓rX7_member_22, ↓rX7_member_24, ↓rX7_member_25, ↓rX7_member_26, ↓rX7_member_29, ↓rX7_member_32, ↓rX7_member_33, ↓rX7_member_34, ↓rX7_member_35, ↓rX7_member_36, ↓rX7_member_37, ↓rX7_member_38, ↓hg_fX7_116_1, ↓hg_fX7_116_4, ↓hg_fX7_119_1, ↓hg_fX7_119_4, ↓hg_fX7_14_0, ↓hr_10, ↓hr_11, ↓hr_13, ↓hr_14, ↓hr_15, ↓hr_16, ↓hr_18, ↓hr_19, ↓hr_2, ↓hr_20, ↓hr_21, ↓hr_24, ↓hr_25, ↓hr_26, ↓hr_28, ↓hr_29, ↓hr_3, ↓hr_30, ↓hr_33, ↓hr_34, ↓hr_35, ↓hr_36, ↓hr_37, ↓hr_39, ↓hr_41, ↓hr_43, ↓hr_45, ↓hr_5, ↓hr_6, ↓hr_8, ↓hr_9, ↓hr_fX7_104, ↓hw_10, ↓hw_11, ↓hw_13, ↓hw_14, ↓hw_15, ↓hw_16, ↓hw_18, ↓hw_19, ↓hw_2, ↓hw_20, ↓hw_21, ↓hw_24, ↓hw_25, ↓hw_26, ↓hw_28, ↓hw_29, ↓hw_3, ↓hw_30, ↓hw_33, ↓hw_34, ↓hw_35, ↓hw_36, ↓hw_37, ↓hw_39, ↓hw_41, ↓hw_43, ↓hw_45, ↓hw_5, ↓hw_6, ↓hw_8, ↓hw_9, ↓i_outside, ↓reduceIte, zkeep_n, zkeep_i, zkeep_r, zkeep_l, zup_eq, zIR, zLR, List.length_cons, List.length_nil, Nat.reduceAdd, Nat.reduceLeDiff, Nat.reduceEqDiff, Nat.reduceSub, Int.reduceLE, Int.reduceLT, Int.reduceEq, Int.reduceNe, Int.reduceNeg, Int.reduceAdd, Int.reduceSub, Int.reduceMul, Int.reduceToNat, Nat.le_refl, Nat.zero_le, Nat.zero_add, Int.zero_add, Int.add_zero, and_true, true_and, and_false, false_and, not_true_eq_false, not_false_eq_true, eq_self, ne_eq, true_implies, false_implies, implies_true, or_true, true_or, or_false, false_or, reduceCtorEq, Option.some.injEq, Sum.inl.injEq, exists_eq_left', exists_eq_left, n1, zite]
  repeat' (first | with_reducible apply And.intro | with_reducible intro _)
  all_goals first | omega | (rw [if_neg (by omega)] at hR; exact hR) | (exact ok (by omega))
set_option maxRecDepth 100000 in
set_option maxHeartbeats 4000000 in
theorem x_cow {S M : zM} {R : zP} {m w : Int} (h : RX S M) (z1 : zIR m) (z2 : zIR w) (hR : R (some (.inl (aCow S m w))) M) : tX7_cow [.inr (.inr 0), .inl m, .inl w] M R := by
  unfold zIR at z1 z2
  unfold aCow at hR
  have hqn := (h.2.2.2.1.1 1 (by decide)).1
  have n1 : M 4 5 = qn S 1 := h.2.2.2.1.2.2.1
  have ok : (0 ≤ m ∧ m < qn S 1) ∧ (0 ≤ w ∧ w < 5) → R (some (.inl (M 6 (m * 5 + w)))) M := fun q => by
    rw [if_pos q] at hR
    rw [h.2.2.2.1.2.2.2.2 m w q.1.1 q.1.2 q.2.1 q.2.2]
    exact hR
  simp only [↓eX7_cow, ↓rX7_cow_0, ↓rX7_cow_1, ↓rX7_cow_2, ↓rX7_cow_5, ↓rX7_cow_8, ↓rX7_cow_11, ↓rX7_cow_14, ↓rX7_cow_15, ↓rX7_cow_16, ↓rX7_cow_19, ↓rX7_cow_22, ↓rX7_cow_24, ↓rX7_cow_25, ↓rX7_cow_26, ↓rX7_cow_29, ↓rX7_cow_32, ↓rX7_cow_33, ↓rX7_cow_34, ↓rX7_cow_35, ↓rX7_cow_36, ↓rX7_cow_37, ↓rX7_cow_38, ↓hg_fX7_116_1, ↓hg_fX7_116_4, ↓hg_fX7_119_1, ↓hg_fX7_119_4, ↓hg_fX7_22_0, ↓hr_10, ↓hr_11, ↓hr_13, ↓hr_14, ↓hr_15, ↓hr_16, ↓hr_18, ↓hr_19, ↓hr_2, ↓hr_20, ↓hr_21, ↓hr_24, ↓hr_25, ↓hr_26, ↓hr_28, ↓hr_29, ↓hr_3, ↓hr_30, ↓hr_33, ↓hr_34, ↓hr_35, ↓hr_36, ↓hr_37, ↓hr_39, ↓hr_41, ↓hr_43, ↓hr_45, ↓hr_5, ↓hr_6, ↓hr_8, ↓hr_9, ↓hr_fX7_104, ↓hw_10, ↓hw_11, ↓hw_13, ↓hw_14, ↓hw_15, ↓hw_16, ↓hw_18, ↓hw_19, ↓hw_2, ↓hw_20, ↓hw_21, ↓hw_24, ↓hw_25, ↓hw_26, ↓hw_28, ↓hw_29, ↓hw_3, ↓hw_30, ↓hw_33, ↓hw_34, ↓hw_35, ↓hw_36, ↓hw_37, ↓hw_39, ↓hw_41, ↓hw_43, ↓hw_45, ↓hw_5, ↓hw_6, ↓hw_8, ↓hw_9, ↓i_outside, ↓reduceIte, zkeep_n, zkeep_i, zkeep_r, zkeep_l, zup_eq, zIR, zLR, List.length_cons, List.length_nil, Nat.reduceAdd, Nat.reduceLeDiff, Nat.reduceEqDiff, Nat.reduceSub, Int.reduceLE, Int.reduceLT, Int.reduceEq, Int.reduceNe, Int.reduceNeg, Int.reduceAdd, Int.reduceSub, Int.reduceMul, Int.reduceToNat, Nat.le_refl, Nat.zero_le, Nat.zero_add, Int.zero_add, Int.add_zero, and_true, true_and, and_false, false_and, not_true_eq_false, not_false_eq_true, eq_self, ne_eq, true_implies, false_implies, implies_true, or_true, true_or, or_false, false_or, reduceCtorEq, Option.some.injEq, Sum.inl.injEq, exists_eq_left', exists_eq_left, n1, zite]
  repeat' (first | with_reducible apply And.intro | with_reducible intro _)
  all_goals first | omega | (rw [if_neg (by omega)] at hR; exact hR) | (exact ok (by omega))
