theorem LA_at {M : zM} {c : Nat} {l : List Nat} (h : LA M c l) {p : Nat} (hp : p < l.length) : M c p = (l[p] : Nat) := h p l[p] (List.getElem?_eq_getElem hp)
set_option maxRecDepth 100000 in
set_option maxHeartbeats 4000000 in
theorem s_add7 {M : zM} {R : zP} {n : Nat} {ft : Int → Int} {te wh co : Int} (hn : M 7 4 = n) (hn8 : n ≤ 8) (hL : LA M 11 (qord n ft)) (hft : ∀ f : Nat, f < n → M 8 f = ft f ∧ 0 ≤ ft f ∧ ft f < 20) (ht : 0 ≤ te ∧ te < 20)
    (hfull : n = 8 → R (some (.inl (-4))) M)
    (hR : n < 8 → ∀ M', (∀ k i, k ≠ 7 → k ≠ 8 → k ≠ 9 → k ≠ 10 → k ≠ 11 → M' k i = M k i) → M' 7 4 = (n : Int) + 1 → (∀ i, i ≠ (n : Int) → M' 8 i = M 8 i ∧ M' 9 i = M 9 i ∧ M' 10 i = M 10 i) → M' 8 n = te → M' 9 n = wh → M' 10 n = co → LA M' 11 (qord (n + 1) (fun f => if f = n then te else ft f)) → R (some (.inl ((n : Int) + 1))) M') : tX4_add [.inr (.inr 7), .inl te, .inl wh, .inl co] M R := by
  simp only [↓eX4_add, ↓rX4_add_0, ↓rX4_add_1, ↓rX4_add_4, ↓rX4_add_6, ↓rX4_add_9, ↓rX4_add_11, ↓rX4_add_12, ↓rX4_add_13, ↓rX4_add_16, ↓rX4_add_17, ↓rX4_add_20, ↓rX4_add_21, ↓rX4_add_22, ↓rX4_add_23, ↓rX4_add_26, ↓rX4_add_27, ↓rX4_add_30, ↓rX4_add_31, ↓rX4_add_32, ↓rX4_add_33, ↓rX4_add_36, ↓rX4_add_37, ↓rX4_add_40, ↓rX4_add_41, ↓rX4_add_42, ↓rX4_add_43, ↓rX4_add_46, ↓hg_fX4_15_12, ↓hg_fX4_15_7, ↓hg_fX4_18_12, ↓hg_fX4_18_7, ↓hg_fX4_24_12, ↓hg_fX4_24_7, ↓hg_fX4_9_12, ↓hg_fX4_9_7, ↓hr_10, ↓hr_11, ↓hr_13, ↓hr_14, ↓hr_15, ↓hr_16, ↓hr_18, ↓hr_19, ↓hr_2, ↓hr_20, ↓hr_21, ↓hr_24, ↓hr_25, ↓hr_26, ↓hr_28, ↓hr_29, ↓hr_3, ↓hr_30, ↓hr_33, ↓hr_34, ↓hr_35, ↓hr_36, ↓hr_37, ↓hr_39, ↓hr_41, ↓hr_43, ↓hr_45, ↓hr_5, ↓hr_6, ↓hr_8, ↓hr_9, ↓hw_10, ↓hw_11, ↓hw_13, ↓hw_14, ↓hw_15, ↓hw_16, ↓hw_18, ↓hw_19, ↓hw_2, ↓hw_20, ↓hw_21, ↓hw_24, ↓hw_25, ↓hw_26, ↓hw_28, ↓hw_29, ↓hw_3, ↓hw_30, ↓hw_33, ↓hw_34, ↓hw_35, ↓hw_36, ↓hw_37, ↓hw_39, ↓hw_41, ↓hw_43, ↓hw_45, ↓hw_5, ↓hw_6, ↓hw_8, ↓hw_9, ↓reduceIte, zkeep_n, zkeep_i, zkeep_r, zkeep_l, zup_eq, zIR, zLR, List.length_cons, List.length_nil, Nat.reduceAdd, Nat.reduceLeDiff, Nat.reduceEqDiff, Nat.reduceSub, Int.reduceLE, Int.reduceLT, Int.reduceEq, Int.reduceNe, Int.reduceNeg, Int.reduceAdd, Int.reduceSub, Int.reduceMul, Int.reduceToNat, Nat.le_refl, Nat.zero_le, Nat.zero_add, Int.zero_add, Int.add_zero, and_true, true_and, and_false, false_and, not_true_eq_false, not_false_eq_true, eq_self, ne_eq, true_implies, false_implies, implies_true, or_true, true_or, or_false, false_or, reduceCtorEq, Option.some.injEq, Sum.inl.injEq, exists_eq_left', exists_eq_left, hn, zite]
  refine ⟨⟨by omega, by omega⟩, fun h => ?_, fun h => hfull (by omega)⟩
  have h8 : n < 8 := by omega
  have hR := hR h8
  obtain ⟨e1, e2⟩ := qord_add (n := n) (ft := ft) (ft' := fun f => if f = n then te else ft f) (fun f hf => if_neg (by omega)) (t := te.toNat) (by omega) (by rw [if_pos rfl]; omega)
  have hlen := qseg_len (n := n) (ft := ft) n (fun f hf => (hft f hf).2)
  rw [e1] at hL hlen
  rw [e2] at hR
  generalize hA : qseg n ft 0 (te.toNat + 1) = A at *
  generalize hB : qseg n ft (te.toNat + 1) (19 - te.toNat) = B at *
  have mA : ∀ f ∈ A, f < n ∧ ft f ≤ te := fun f hf => by
    rw [← hA, qseg_mem] at hf
    exact ⟨hf.1, by omega⟩
  have mB : ∀ f ∈ B, f < n ∧ te < ft f := fun f hf => by
    rw [← hB, qseg_mem] at hf
    exact ⟨hf.1, by omega⟩
  rw [List.length_append] at hlen
  have oA : ∀ p : Nat, (hp : p < A.length) → M 11 p = (A[p] : Nat) := fun p hp => hL p A[p] (by rw [List.getElem?_append_left hp, List.getElem?_eq_getElem hp])
  have oB : ∀ p : Nat, (hp : p < B.length) → M 11 ((A.length + p : Nat) : Int) = (B[p] : Nat) := fun p hp => hL (A.length + p) B[p] (by rw [List.getElem?_append_right (by omega), Nat.add_sub_cancel_left, List.getElem?_eq_getElem hp])
  refine ⟨⟨by omega, by omega⟩, ⟨by omega, by omega⟩, ⟨by omega, by omega⟩, ?_⟩
  have L : ∀ s : Nat × zM, ((A.length ≤ s.1 ∧ s.1 ≤ n) ∧ (∀ k i, k ≠ 11 → s.2 k i = zup (zup (zup M 8 n te) 9 n wh) 10 n co k i) ∧ (∀ i : Nat, i < s.1 → s.2 11 i = M 11 i) ∧ (∀ i : Nat, s.1 ≤ i → i < n → s.2 11 ((i + 1 : Nat) : Int) = M 11 i)) → uX4_add R 48 [some (.inr (.inr 7)), some (.inl te), some (.inl wh), some (.inl co), some (.inl (s.1 : Int))] [] s.2 := by
    refine zind (fun s => s.1) ?_
    rintro ⟨p, N⟩ ⟨hp, hfr, hlo, hhi⟩ ih
    simp only at hp hfr hlo hhi ih
    have n1 : N 7 4 = n := by rw [hfr _ _ (by decide)]; simp [zup_eq, hn]
    have nt : ∀ f : Nat, f < n → N 8 f = ft f := fun f hf => by
      rw [hfr _ _ (by decide), zup_ne (by decide), zup_ne (by decide), zup_in, if_neg (by omega)]
      exact (hft f hf).1
    have fin : A.length = p → R (some (.inl ((n : Int) + 1))) (zup (zup N 11 p n) 7 4 ((n : Int) + 1)) := by
      intro hpA
      refine hR _ (fun k i h1 h2 h3 h4 h5 => ?_) (by simp [zup_eq]) (fun i hi => ?_) ?_ ?_ ?_ ?_
      · rw [zup_ne h1, zup_ne h5, hfr k i h5, zup_ne h4, zup_ne h3, zup_ne h2]
      · simp only [zup_eq, Nat.reduceEqDiff, false_and, if_false, hfr _ _ (show 8 ≠ 11 by decide), hfr _ _ (show 9 ≠ 11 by decide), hfr _ _ (show 10 ≠ 11 by decide), hi, and_false, and_self]
      · simp only [zup_eq, Nat.reduceEqDiff, false_and, if_false, hfr _ _ (show 8 ≠ 11 by decide), and_self, if_true]
      · simp only [zup_eq, Nat.reduceEqDiff, false_and, if_false, hfr _ _ (show 9 ≠ 11 by decide), and_self, if_true]
      · simp only [zup_eq, Nat.reduceEqDiff, false_and, if_false, hfr _ _ (show 10 ≠ 11 by decide), and_self, if_true]
      · intro j x hx
        rw [zup_ne (by decide), zup_in]
        by_cases c1 : j < A.length
        · rw [List.getElem?_append_left c1] at hx
          rw [if_neg (by omega), hlo j (by omega)]
          exact hL j x (by rw [List.getElem?_append_left c1]; exact hx)
        · rw [List.getElem?_append_right (by omega)] at hx
          by_cases c2 : j = A.length
          · rw [if_pos (by omega)]
            rw [c2, Nat.sub_self] at hx
            simp at hx
            omega
          · obtain ⟨i, rfl⟩ : ∃ i, j = i + 1 := ⟨j - 1, by omega⟩
            rw [if_neg (by omega)]
            have h7 : i + 1 - A.length = (i - A.length) + 1 := by omega
            rw [h7, List.getElem?_cons_succ] at hx
            have h8 := (List.getElem?_eq_some_iff.mp hx).1
            rw [hhi i (by omega) (by omega)]
            exact hL i x (by rw [List.getElem?_append_right (by omega)]; exact hx)
    have hx : 0 < p → ∃ x : Nat, x < n ∧ N 11 ((p : Int) - 1) = x ∧ (A.length = p → ft x ≤ te) ∧ (A.length < p → te < ft x) := by
      intro hp0
      have e : ((p : Int) - 1) = ((p - 1 : Nat) : Int) := by omega
      rw [e, hlo (p - 1) (by omega)]
      by_cases c : p - 1 < A.length
      · exact ⟨A[p - 1], (mA _ (List.getElem_mem c)).1, oA _ c, fun _ => (mA _ (List.getElem_mem c)).2, fun h => absurd h (by omega)⟩
      · have c2 : p - 1 - A.length < B.length := by omega
        have := oB _ c2
        rw [show A.length + (p - 1 - A.length) = p - 1 by omega] at this
        exact ⟨B[p - 1 - A.length], (mB _ (List.getElem_mem c2)).1, this, fun h => absurd h (by omega), fun _ => (mB _ (List.getElem_mem c2)).2⟩
    have next : A.length < p → uX4_add R 90 [some (.inr (.inr 7)), some (.inl te), some (.inl wh), some (.inl co), some (.inl ((p : Int) + -1))] [] (zup N 11 p (N 11 ((p : Int) - 1))) := by
      intro h1
      refine rX4_add_90.mpr ?_
      rw [show (p : Int) + -1 = ((p - 1 : Nat) : Int) by omega]
      refine ih (p - 1, zup N 11 p (N 11 ((p : Int) - 1))) ⟨⟨by simp only; omega, by simp only; omega⟩, fun k i hk => ?_, fun i hi => ?_, fun i h2 h3 => ?_⟩ (by simp only; omega)
      · show zup _ _ _ _ _ _ = _
        rw [zup_ne hk]
        exact hfr k i hk
      · simp only at hi ⊢
        rw [zup_in, if_neg (by omega)]
        exact hlo i (by omega)
      · simp only at h2 ⊢
        rw [zup_in]
        by_cases c : i + 1 = p
        · rw [if_pos (by omega), show (p : Int) - 1 = ((p - 1 : Nat) : Int) by omega, hlo (p - 1) (by omega)]
          congr 1
          omega
        · rw [if_neg (by omega)]
          exact hhi i (by omega) h3
    by_cases p0 : p = 0
    · simp only [↓rX4_add_48, ↓rX4_add_50, ↓rX4_add_93, ↓rX4_add_94, ↓rX4_add_97, ↓rX4_add_99, ↓rX4_add_100, ↓rX4_add_103, ↓rX4_add_104, ↓rX4_add_105, ↓rX4_add_106, ↓rX4_add_109, ↓rX4_add_110, ↓rX4_add_111, ↓rX4_add_114, ↓rX4_add_115, ↓rX4_add_118, ↓hg_fX4_21_12, ↓hg_fX4_21_7, ↓hg_fX4_24_12, ↓hg_fX4_24_7, ↓hp_fX4_24_12, ↓hp_fX4_24_7, ↓hr_10, ↓hr_11, ↓hr_13, ↓hr_14, ↓hr_15, ↓hr_16, ↓hr_18, ↓hr_19, ↓hr_2, ↓hr_20, ↓hr_21, ↓hr_24, ↓hr_25, ↓hr_26, ↓hr_28, ↓hr_29, ↓hr_3, ↓hr_30, ↓hr_33, ↓hr_34, ↓hr_35, ↓hr_36, ↓hr_37, ↓hr_39, ↓hr_41, ↓hr_43, ↓hr_45, ↓hr_5, ↓hr_6, ↓hr_8, ↓hr_9, ↓hw_10, ↓hw_11, ↓hw_13, ↓hw_14, ↓hw_15, ↓hw_16, ↓hw_18, ↓hw_19, ↓hw_2, ↓hw_20, ↓hw_21, ↓hw_24, ↓hw_25, ↓hw_26, ↓hw_28, ↓hw_29, ↓hw_3, ↓hw_30, ↓hw_33, ↓hw_34, ↓hw_35, ↓hw_36, ↓hw_37, ↓hw_39, ↓hw_41, ↓hw_43, ↓hw_45, ↓hw_5, ↓hw_6, ↓hw_8, ↓hw_9, ↓reduceIte, zkeep_n, zkeep_i, zkeep_r, zkeep_l, zup_eq, zIR, zLR, List.length_cons, List.length_nil, Nat.reduceAdd, Nat.reduceLeDiff, Nat.reduceEqDiff, Nat.reduceSub, Int.reduceLE, Int.reduceLT, Int.reduceEq, Int.reduceNe, Int.reduceNeg, Int.reduceAdd, Int.reduceSub, Int.reduceMul, Int.reduceToNat, Nat.le_refl, Nat.zero_le, Nat.zero_add, Int.zero_add, Int.add_zero, and_true, true_and, and_false, false_and, not_true_eq_false, not_false_eq_true, eq_self, ne_eq, true_implies, false_implies, implies_true, or_true, true_or, or_false, false_or, reduceCtorEq, Option.some.injEq, Sum.inl.injEq, exists_eq_left', exists_eq_left, n1, zite]
      repeat' (first | with_reducible apply And.intro | with_reducible intro _)
      all_goals first | omega | (exact fin (by omega))
    · obtain ⟨x, x1, x2, x3, x4⟩ := hx (by omega)
      have x5 := nt x x1
      have x6 := hft x x1
      rw [x2] at next
      simp only [↓rX4_add_48, ↓rX4_add_50, ↓rX4_add_53, ↓rX4_add_54, ↓rX4_add_57, ↓rX4_add_58, ↓rX4_add_61, ↓rX4_add_63, ↓rX4_add_64, ↓rX4_add_65, ↓rX4_add_66, ↓rX4_add_67, ↓rX4_add_68, ↓rX4_add_71, ↓rX4_add_72, ↓rX4_add_75, ↓rX4_add_77, ↓rX4_add_78, ↓rX4_add_81, ↓rX4_add_83, ↓rX4_add_84, ↓rX4_add_85, ↓rX4_add_86, ↓rX4_add_87, ↓rX4_add_93, ↓rX4_add_94, ↓rX4_add_97, ↓rX4_add_99, ↓rX4_add_100, ↓rX4_add_103, ↓rX4_add_104, ↓rX4_add_105, ↓rX4_add_106, ↓rX4_add_109, ↓rX4_add_110, ↓rX4_add_111, ↓rX4_add_114, ↓rX4_add_115, ↓rX4_add_118, ↓hg_fX4_21_12, ↓hg_fX4_21_7, ↓hg_fX4_24_12, ↓hg_fX4_24_7, ↓hg_fX4_9_12, ↓hg_fX4_9_7, ↓hp_fX4_24_12, ↓hp_fX4_24_7, ↓hr_10, ↓hr_11, ↓hr_13, ↓hr_14, ↓hr_15, ↓hr_16, ↓hr_18, ↓hr_19, ↓hr_2, ↓hr_20, ↓hr_21, ↓hr_24, ↓hr_25, ↓hr_26, ↓hr_28, ↓hr_29, ↓hr_3, ↓hr_30, ↓hr_33, ↓hr_34, ↓hr_35, ↓hr_36, ↓hr_37, ↓hr_39, ↓hr_41, ↓hr_43, ↓hr_45, ↓hr_5, ↓hr_6, ↓hr_8, ↓hr_9, ↓hw_10, ↓hw_11, ↓hw_13, ↓hw_14, ↓hw_15, ↓hw_16, ↓hw_18, ↓hw_19, ↓hw_2, ↓hw_20, ↓hw_21, ↓hw_24, ↓hw_25, ↓hw_26, ↓hw_28, ↓hw_29, ↓hw_3, ↓hw_30, ↓hw_33, ↓hw_34, ↓hw_35, ↓hw_36, ↓hw_37, ↓hw_39, ↓hw_41, ↓hw_43, ↓hw_45, ↓hw_5, ↓hw_6, ↓hw_8, ↓hw_9, ↓reduceIte, zkeep_n, zkeep_i, zkeep_r, zkeep_l, zup_eq, zIR, zLR, List.length_cons, List.length_nil, Nat.reduceAdd, Nat.reduceLeDiff, Nat.reduceEqDiff, Nat.reduceSub, Int.reduceLE, Int.reduceLT, Int.reduceEq, Int.reduceNe, Int.reduceNeg, Int.reduceAdd, Int.reduceSub, Int.reduceMul, Int.reduceToNat, Nat.le_refl, Nat.zero_le, Nat.zero_add, Int.zero_add, Int.add_zero, and_true, true_and, and_false, false_and, not_true_eq_false, not_false_eq_true, eq_self, ne_eq, true_implies, false_implies, implies_true, or_true, true_or, or_false, false_or, reduceCtorEq, Option.some.injEq, Sum.inl.injEq, exists_eq_left', exists_eq_left, n1, x2, x5, zite]
      repeat' (first | with_reducible apply And.intro | with_reducible intro _)
      all_goals first | omega | (exact fin (by omega)) | (exact next (by omega))
  refine L (n, zup (zup (zup M 8 n te) 9 n wh) 10 n co) ⟨⟨by simp only; omega, Nat.le_refl _⟩, fun k i _ => rfl, fun i hi => ?_, fun i h1 h2 => ?_⟩
  · simp only [zup_eq, Nat.reduceEqDiff, false_and, if_false]
  · simp only at h1
    omega
set_option maxRecDepth 100000 in
set_option maxHeartbeats 4000000 in
theorem s_add12 {M : zM} {R : zP} {n : Nat} {ft : Int → Int} {te wh co : Int} (hn : M 12 4 = n) (hn8 : n ≤ 8) (hL : LA M 16 (qord n ft)) (hft : ∀ f : Nat, f < n → M 13 f = ft f ∧ 0 ≤ ft f ∧ ft f < 20) (ht : 0 ≤ te ∧ te < 20)
    (hfull : n = 8 → R (some (.inl (-4))) M)
    (hR : n < 8 → ∀ M', (∀ k i, k ≠ 12 → k ≠ 13 → k ≠ 14 → k ≠ 15 → k ≠ 16 → M' k i = M k i) → M' 12 4 = (n : Int) + 1 → (∀ i, i ≠ (n : Int) → M' 13 i = M 13 i ∧ M' 14 i = M 14 i ∧ M' 15 i = M 15 i) → M' 13 n = te → M' 14 n = wh → M' 15 n = co → LA M' 16 (qord (n + 1) (fun f => if f = n then te else ft f)) → R (some (.inl ((n : Int) + 1))) M') : tX4_add [.inr (.inr 12), .inl te, .inl wh, .inl co] M R := by
  simp only [↓eX4_add, ↓rX4_add_0, ↓rX4_add_1, ↓rX4_add_4, ↓rX4_add_6, ↓rX4_add_9, ↓rX4_add_11, ↓rX4_add_12, ↓rX4_add_13, ↓rX4_add_16, ↓rX4_add_17, ↓rX4_add_20, ↓rX4_add_21, ↓rX4_add_22, ↓rX4_add_23, ↓rX4_add_26, ↓rX4_add_27, ↓rX4_add_30, ↓rX4_add_31, ↓rX4_add_32, ↓rX4_add_33, ↓rX4_add_36, ↓rX4_add_37, ↓rX4_add_40, ↓rX4_add_41, ↓rX4_add_42, ↓rX4_add_43, ↓rX4_add_46, ↓hg_fX4_15_12, ↓hg_fX4_15_7, ↓hg_fX4_18_12, ↓hg_fX4_18_7, ↓hg_fX4_24_12, ↓hg_fX4_24_7, ↓hg_fX4_9_12, ↓hg_fX4_9_7, ↓hr_10, ↓hr_11, ↓hr_13, ↓hr_14, ↓hr_15, ↓hr_16, ↓hr_18, ↓hr_19, ↓hr_2, ↓hr_20, ↓hr_21, ↓hr_24, ↓hr_25, ↓hr_26, ↓hr_28, ↓hr_29, ↓hr_3, ↓hr_30, ↓hr_33, ↓hr_34, ↓hr_35, ↓hr_36, ↓hr_37, ↓hr_39, ↓hr_41, ↓hr_43, ↓hr_45, ↓hr_5, ↓hr_6, ↓hr_8, ↓hr_9, ↓hw_10, ↓hw_11, ↓hw_13, ↓hw_14, ↓hw_15, ↓hw_16, ↓hw_18, ↓hw_19, ↓hw_2, ↓hw_20, ↓hw_21, ↓hw_24, ↓hw_25, ↓hw_26, ↓hw_28, ↓hw_29, ↓hw_3, ↓hw_30, ↓hw_33, ↓hw_34, ↓hw_35, ↓hw_36, ↓hw_37, ↓hw_39, ↓hw_41, ↓hw_43, ↓hw_45, ↓hw_5, ↓hw_6, ↓hw_8, ↓hw_9, ↓reduceIte, zkeep_n, zkeep_i, zkeep_r, zkeep_l, zup_eq, zIR, zLR, List.length_cons, List.length_nil, Nat.reduceAdd, Nat.reduceLeDiff, Nat.reduceEqDiff, Nat.reduceSub, Int.reduceLE, Int.reduceLT, Int.reduceEq, Int.reduceNe, Int.reduceNeg, Int.reduceAdd, Int.reduceSub, Int.reduceMul, Int.reduceToNat, Nat.le_refl, Nat.zero_le, Nat.zero_add, Int.zero_add, Int.add_zero, and_true, true_and, and_false, false_and, not_true_eq_false, not_false_eq_true, eq_self, ne_eq, true_implies, false_implies, implies_true, or_true, true_or, or_false, false_or, reduceCtorEq, Option.some.injEq, Sum.inl.injEq, exists_eq_left', exists_eq_left, hn, zite]
  refine ⟨⟨by omega, by omega⟩, fun h => ?_, fun h => hfull (by omega)⟩
  have h8 : n < 8 := by omega
  have hR := hR h8
  obtain ⟨e1, e2⟩ := qord_add (n := n) (ft := ft) (ft' := fun f => if f = n then te else ft f) (fun f hf => if_neg (by omega)) (t := te.toNat) (by omega) (by rw [if_pos rfl]; omega)
  have hlen := qseg_len (n := n) (ft := ft) n (fun f hf => (hft f hf).2)
  rw [e1] at hL hlen
  rw [e2] at hR
  generalize hA : qseg n ft 0 (te.toNat + 1) = A at *
  generalize hB : qseg n ft (te.toNat + 1) (19 - te.toNat) = B at *
  have mA : ∀ f ∈ A, f < n ∧ ft f ≤ te := fun f hf => by
    rw [← hA, qseg_mem] at hf
    exact ⟨hf.1, by omega⟩
  have mB : ∀ f ∈ B, f < n ∧ te < ft f := fun f hf => by
    rw [← hB, qseg_mem] at hf
    exact ⟨hf.1, by omega⟩
  rw [List.length_append] at hlen
  have oA : ∀ p : Nat, (hp : p < A.length) → M 16 p = (A[p] : Nat) := fun p hp => hL p A[p] (by rw [List.getElem?_append_left hp, List.getElem?_eq_getElem hp])
  have oB : ∀ p : Nat, (hp : p < B.length) → M 16 ((A.length + p : Nat) : Int) = (B[p] : Nat) := fun p hp => hL (A.length + p) B[p] (by rw [List.getElem?_append_right (by omega), Nat.add_sub_cancel_left, List.getElem?_eq_getElem hp])
  refine ⟨⟨by omega, by omega⟩, ⟨by omega, by omega⟩, ⟨by omega, by omega⟩, ?_⟩
  have L : ∀ s : Nat × zM, ((A.length ≤ s.1 ∧ s.1 ≤ n) ∧ (∀ k i, k ≠ 16 → s.2 k i = zup (zup (zup M 13 n te) 14 n wh) 15 n co k i) ∧ (∀ i : Nat, i < s.1 → s.2 16 i = M 16 i) ∧ (∀ i : Nat, s.1 ≤ i → i < n → s.2 16 ((i + 1 : Nat) : Int) = M 16 i)) → uX4_add R 48 [some (.inr (.inr 12)), some (.inl te), some (.inl wh), some (.inl co), some (.inl (s.1 : Int))] [] s.2 := by
    refine zind (fun s => s.1) ?_
    rintro ⟨p, N⟩ ⟨hp, hfr, hlo, hhi⟩ ih
    simp only at hp hfr hlo hhi ih
    have n1 : N 12 4 = n := by rw [hfr _ _ (by decide)]; simp [zup_eq, hn]
    have nt : ∀ f : Nat, f < n → N 13 f = ft f := fun f hf => by
      rw [hfr _ _ (by decide), zup_ne (by decide), zup_ne (by decide), zup_in, if_neg (by omega)]
      exact (hft f hf).1
    have fin : A.length = p → R (some (.inl ((n : Int) + 1))) (zup (zup N 16 p n) 12 4 ((n : Int) + 1)) := by
      intro hpA
      refine hR _ (fun k i h1 h2 h3 h4 h5 => ?_) (by simp [zup_eq]) (fun i hi => ?_) ?_ ?_ ?_ ?_
      · rw [zup_ne h1, zup_ne h5, hfr k i h5, zup_ne h4, zup_ne h3, zup_ne h2]
      · simp only [zup_eq, Nat.reduceEqDiff, false_and, if_false, hfr _ _ (show 13 ≠ 16 by decide), hfr _ _ (show 14 ≠ 16 by decide), hfr _ _ (show 15 ≠ 16 by decide), hi, and_false, and_self]
      · simp only [zup_eq, Nat.reduceEqDiff, false_and, if_false, hfr _ _ (show 13 ≠ 16 by decide), and_self, if_true]
      · simp only [zup_eq, Nat.reduceEqDiff, false_and, if_false, hfr _ _ (show 14 ≠ 16 by decide), and_self, if_true]
      · simp only [zup_eq, Nat.reduceEqDiff, false_and, if_false, hfr _ _ (show 15 ≠ 16 by decide), and_self, if_true]
      · intro j x hx
        rw [zup_ne (by decide), zup_in]
        by_cases c1 : j < A.length
        · rw [List.getElem?_append_left c1] at hx
          rw [if_neg (by omega), hlo j (by omega)]
          exact hL j x (by rw [List.getElem?_append_left c1]; exact hx)
        · rw [List.getElem?_append_right (by omega)] at hx
          by_cases c2 : j = A.length
          · rw [if_pos (by omega)]
            rw [c2, Nat.sub_self] at hx
            simp at hx
            omega
          · obtain ⟨i, rfl⟩ : ∃ i, j = i + 1 := ⟨j - 1, by omega⟩
            rw [if_neg (by omega)]
            have h7 : i + 1 - A.length = (i - A.length) + 1 := by omega
            rw [h7, List.getElem?_cons_succ] at hx
            have h8 := (List.getElem?_eq_some_iff.mp hx).1
            rw [hhi i (by omega) (by omega)]
            exact hL i x (by rw [List.getElem?_append_right (by omega)]; exact hx)
    have hx : 0 < p → ∃ x : Nat, x < n ∧ N 16 ((p : Int) - 1) = x ∧ (A.length = p → ft x ≤ te) ∧ (A.length < p → te < ft x) := by
      intro hp0
      have e : ((p : Int) - 1) = ((p - 1 : Nat) : Int) := by omega
      rw [e, hlo (p - 1) (by omega)]
      by_cases c : p - 1 < A.length
      · exact ⟨A[p - 1], (mA _ (List.getElem_mem c)).1, oA _ c, fun _ => (mA _ (List.getElem_mem c)).2, fun h => absurd h (by omega)⟩
      · have c2 : p - 1 - A.length < B.length := by omega
        have := oB _ c2
        rw [show A.length + (p - 1 - A.length) = p - 1 by omega] at this
        exact ⟨B[p - 1 - A.length], (mB _ (List.getElem_mem c2)).1, this, fun h => absurd h (by omega), fun _ => (mB _ (List.getElem_mem c2)).2⟩
    have next : A.length < p → uX4_add R 90 [some (.inr (.inr 12)), some (.inl te), some (.inl wh), some (.inl co), some (.inl ((p : Int) + -1))] [] (zup N 16 p (N 16 ((p : Int) - 1))) := by
      intro h1
      refine rX4_add_90.mpr ?_
      rw [show (p : Int) + -1 = ((p - 1 : Nat) : Int) by omega]
      refine ih (p - 1, zup N 16 p (N 16 ((p : Int) - 1))) ⟨⟨by simp only; omega, by simp only; omega⟩, fun k i hk => ?_, fun i hi => ?_, fun i h2 h3 => ?_⟩ (by simp only; omega)
      · show zup _ _ _ _ _ _ = _
        rw [zup_ne hk]
        exact hfr k i hk
      · simp only at hi ⊢
        rw [zup_in, if_neg (by omega)]
        exact hlo i (by omega)
      · simp only at h2 ⊢
        rw [zup_in]
        by_cases c : i + 1 = p
        · rw [if_pos (by omega), show (p : Int) - 1 = ((p - 1 : Nat) : Int) by omega, hlo (p - 1) (by omega)]
          congr 1
          omega
        · rw [if_neg (by omega)]
          exact hhi i (by omega) h3
    by_cases p0 : p = 0
    · simp only [↓rX4_add_48, ↓rX4_add_50, ↓rX4_add_93, ↓rX4_add_94, ↓rX4_add_97, ↓rX4_add_99, ↓rX4_add_100, ↓rX4_add_103, ↓rX4_add_104, ↓rX4_add_105, ↓rX4_add_106, ↓rX4_add_109, ↓rX4_add_110, ↓rX4_add_111, ↓rX4_add_114, ↓rX4_add_115, ↓rX4_add_118, ↓hg_fX4_21_12, ↓hg_fX4_21_7, ↓hg_fX4_24_12, ↓hg_fX4_24_7, ↓hp_fX4_24_12, ↓hp_fX4_24_7, ↓hr_10, ↓hr_11, ↓hr_13, ↓hr_14, ↓hr_15, ↓hr_16, ↓hr_18, ↓hr_19, ↓hr_2, ↓hr_20, ↓hr_21, ↓hr_24, ↓hr_25, ↓hr_26, ↓hr_28, ↓hr_29, ↓hr_3, ↓hr_30, ↓hr_33, ↓hr_34, ↓hr_35, ↓hr_36, ↓hr_37, ↓hr_39, ↓hr_41, ↓hr_43, ↓hr_45, ↓hr_5, ↓hr_6, ↓hr_8, ↓hr_9, ↓hw_10, ↓hw_11, ↓hw_13, ↓hw_14, ↓hw_15, ↓hw_16, ↓hw_18, ↓hw_19, ↓hw_2, ↓hw_20, ↓hw_21, ↓hw_24, ↓hw_25, ↓hw_26, ↓hw_28, ↓hw_29, ↓hw_3, ↓hw_30, ↓hw_33, ↓hw_34, ↓hw_35, ↓hw_36, ↓hw_37, ↓hw_39, ↓hw_41, ↓hw_43, ↓hw_45, ↓hw_5, ↓hw_6, ↓hw_8, ↓hw_9, ↓reduceIte, zkeep_n, zkeep_i, zkeep_r, zkeep_l, zup_eq, zIR, zLR, List.length_cons, List.length_nil, Nat.reduceAdd, Nat.reduceLeDiff, Nat.reduceEqDiff, Nat.reduceSub, Int.reduceLE, Int.reduceLT, Int.reduceEq, Int.reduceNe, Int.reduceNeg, Int.reduceAdd, Int.reduceSub, Int.reduceMul, Int.reduceToNat, Nat.le_refl, Nat.zero_le, Nat.zero_add, Int.zero_add, Int.add_zero, and_true, true_and, and_false, false_and, not_true_eq_false, not_false_eq_true, eq_self, ne_eq, true_implies, false_implies, implies_true, or_true, true_or, or_false, false_or, reduceCtorEq, Option.some.injEq, Sum.inl.injEq, exists_eq_left', exists_eq_left, n1, zite]
      repeat' (first | with_reducible apply And.intro | with_reducible intro _)
      all_goals first | omega | (exact fin (by omega))
    · obtain ⟨x, x1, x2, x3, x4⟩ := hx (by omega)
      have x5 := nt x x1
      have x6 := hft x x1
      rw [x2] at next
      simp only [↓rX4_add_48, ↓rX4_add_50, ↓rX4_add_53, ↓rX4_add_54, ↓rX4_add_57, ↓rX4_add_58, ↓rX4_add_61, ↓rX4_add_63, ↓rX4_add_64, ↓rX4_add_65, ↓rX4_add_66, ↓rX4_add_67, ↓rX4_add_68, ↓rX4_add_71, ↓rX4_add_72, ↓rX4_add_75, ↓rX4_add_77, ↓rX4_add_78, ↓rX4_add_81, ↓rX4_add_83, ↓rX4_add_84, ↓rX4_add_85, ↓rX4_add_86, ↓rX4_add_87, ↓rX4_add_93, ↓rX4_add_94, ↓rX4_add_97, ↓rX4_add_99, ↓rX4_add_100, ↓rX4_add_103, ↓rX4_add_104, ↓rX4_add_105, ↓rX4_add_106, ↓rX4_add_109, ↓rX4_add_110, ↓rX4_add_111, ↓rX4_add_114, ↓rX4_add_115, ↓rX4_add_118, ↓hg_fX4_21_12, ↓hg_fX4_21_7, ↓hg_fX4_24_12, ↓hg_fX4_24_7, ↓hg_fX4_9_12, ↓hg_fX4_9_7, ↓hp_fX4_24_12, ↓hp_fX4_24_7, ↓hr_10, ↓hr_11, ↓hr_13, ↓hr_14, ↓hr_15, ↓hr_16, ↓hr_18, ↓hr_19, ↓hr_2, ↓hr_20, ↓hr_21, ↓hr_24, ↓hr_25, ↓hr_26, ↓hr_28, ↓hr_29, ↓hr_3, ↓hr_30, ↓hr_33, ↓hr_34, ↓hr_35, ↓hr_36, ↓hr_37, ↓hr_39, ↓hr_41, ↓hr_43, ↓hr_45, ↓hr_5, ↓hr_6, ↓hr_8, ↓hr_9, ↓hw_10, ↓hw_11, ↓hw_13, ↓hw_14, ↓hw_15, ↓hw_16, ↓hw_18, ↓hw_19, ↓hw_2, ↓hw_20, ↓hw_21, ↓hw_24, ↓hw_25, ↓hw_26, ↓hw_28, ↓hw_29, ↓hw_3, ↓hw_30, ↓hw_33, ↓hw_34, ↓hw_35, ↓hw_36, ↓hw_37, ↓hw_39, ↓hw_41, ↓hw_43, ↓hw_45, ↓hw_5, ↓hw_6, ↓hw_8, ↓hw_9, ↓reduceIte, zkeep_n, zkeep_i, zkeep_r, zkeep_l, zup_eq, zIR, zLR, List.length_cons, List.length_nil, Nat.reduceAdd, Nat.reduceLeDiff, Nat.reduceEqDiff, Nat.reduceSub, Int.reduceLE, Int.reduceLT, Int.reduceEq, Int.reduceNe, Int.reduceNeg, Int.reduceAdd, Int.reduceSub, Int.reduceMul, Int.reduceToNat, Nat.le_refl, Nat.zero_le, Nat.zero_add, Int.zero_add, Int.add_zero, and_true, true_and, and_false, false_and, not_true_eq_false, not_false_eq_true, eq_self, ne_eq, true_implies, false_implies, implies_true, or_true, true_or, or_false, false_or, reduceCtorEq, Option.some.injEq, Sum.inl.injEq, exists_eq_left', exists_eq_left, n1, x2, x5, zite]
      repeat' (first | with_reducible apply And.intro | with_reducible intro _)
      all_goals first | omega | (exact fin (by omega)) | (exact next (by omega))
  refine L (n, zup (zup (zup M 13 n te) 14 n wh) 15 n co) ⟨⟨by simp only; omega, Nat.le_refl _⟩, fun k i _ => rfl, fun i hi => ?_, fun i h1 h2 => ?_⟩
  · simp only [zup_eq, Nat.reduceEqDiff, false_and, if_false]
  · simp only at h1
    omega
set_option maxRecDepth 100000 in
set_option maxHeartbeats 4000000 in
theorem s_dropLast {M : zM} {R : zP} {n : Nat} {ft : Int → Int} (hn : M 7 4 = n) (hn8 : n ≤ 8) (hL : LA M 11 (qord n ft)) (hft : ∀ f : Nat, f < n → 0 ≤ ft f ∧ ft f < 20)
    (h0 : n = 0 → R (some (.inl (-3))) M)
    (hR : 0 < n → ∀ M', (∀ k i, k ≠ 7 → k ≠ 11 → M' k i = M k i) → M' 7 4 = (n : Int) - 1 → LA M' 11 (qord (n - 1) ft) → R (some (.inl ((n : Int) - 1))) M') : tX4_dropLast [.inr (.inr 7)] M R := by
  simp only [↓eX4_dropLast, ↓rX4_dropLast_0, ↓rX4_dropLast_1, ↓rX4_dropLast_4, ↓rX4_dropLast_7, ↓rX4_dropLast_9, ↓rX4_dropLast_10, ↓rX4_dropLast_11, ↓rX4_dropLast_12, ↓rX4_dropLast_13, ↓hg_fX4_24_12, ↓hg_fX4_24_7, ↓reduceIte, zkeep_n, zkeep_i, zkeep_r, zkeep_l, zup_eq, zIR, zLR, List.length_cons, List.length_nil, Nat.reduceAdd, Nat.reduceLeDiff, Nat.reduceEqDiff, Nat.reduceSub, Int.reduceLE, Int.reduceLT, Int.reduceEq, Int.reduceNe, Int.reduceNeg, Int.reduceAdd, Int.reduceSub, Int.reduceMul, Int.reduceToNat, Nat.le_refl, Nat.zero_le, Nat.zero_add, Int.zero_add, Int.add_zero, and_true, true_and, and_false, false_and, not_true_eq_false, not_false_eq_true, eq_self, ne_eq, true_implies, false_implies, implies_true, or_true, true_or, or_false, false_or, reduceCtorEq, Option.some.injEq, Sum.inl.injEq, exists_eq_left', exists_eq_left, hn, zite]
  refine ⟨⟨by omega, by omega⟩, fun h => ?_, fun h => h0 (by omega)⟩
  have hpos : 0 < n := by omega
  have hR := hR hpos
  obtain ⟨m, rfl⟩ : ∃ m, n = m + 1 := ⟨n - 1, by omega⟩
  have hlen := qseg_len (n := 0) (ft := ft) (m + 1) hft
  rw [Nat.add_sub_cancel] at hR
  have hd : (qord (m + 1) ft).filter (fun f => decide (f ≠ m)) = qord m ft := qseg_drop m ft 0 20
  rw [← hd] at hR
  obtain ⟨pr, hpr⟩ : ∃ pr : Nat → Bool, pr = fun f => decide (f ≠ m) := ⟨_, rfl⟩
  have hp1 : ∀ f, f ≠ m → pr f = true := fun f hf => by rw [hpr]; simp [hf]
  have hp0 : pr m = false := by rw [hpr]; simp
  rw [← hpr] at hR
  have hmem : ∀ f ∈ qord (m + 1) ft, f < m + 1 := fun f hf => (qseg_mem.mp hf).1
  generalize qord (m + 1) ft = l at *
  have L : ∀ s : List Nat × List Nat × zM, (l = s.1 ++ s.2.1 ∧ (∀ k i, k ≠ 11 → s.2.2 k i = M k i) ∧ (∀ (j x : Nat), (s.1.filter pr)[j]? = some x → s.2.2 11 j = x) ∧ (∀ i : Nat, s.1.length ≤ i → s.2.2 11 i = M 11 i)) → uX4_dropLast R 14 [some (.inr (.inr 7)), some (.inl ((s.1.filter pr).length : Int)), some (.inl (s.1.length : Int))] [] s.2.2 := by
    refine zind (fun s => s.2.1.length) ?_
    rintro ⟨a, b, N⟩ ⟨hab, hfr, hlo, hhi⟩ ih
    simp only at hab hfr hlo hhi ih
    have n1 : N 7 4 = ((m + 1 : Nat) : Int) := (hfr 7 4 (by decide)).trans hn
    have hl2 : a.length + b.length = m + 1 := by rw [← hlen, hab, List.length_append]
    have hfl : (a.filter pr).length ≤ a.length := List.length_filter_le _ _
    cases b with
    | nil =>
      simp only [List.length_nil, List.append_nil] at hl2 hab
      have fin : R (some (.inl (((m + 1 : Nat) : Int) - 1))) (zup N 7 4 (((m + 1 : Nat) : Int) - 1)) := by
        refine hR _ (fun k i h1 h2 => ?_) (by simp [zup_eq]) (fun j x hx => ?_)
        · rw [zup_ne h1]
          exact hfr k i h2
        · rw [zup_ne (by decide)]
          rw [hab] at hx
          exact hlo j x hx
      refine rX4_dropLast_14.mpr ?_
      simp only [↓rX4_dropLast_15, ↓rX4_dropLast_16, ↓rX4_dropLast_19, ↓rX4_dropLast_58, ↓rX4_dropLast_59, ↓rX4_dropLast_60, ↓rX4_dropLast_63, ↓rX4_dropLast_64, ↓rX4_dropLast_65, ↓rX4_dropLast_68, ↓rX4_dropLast_69, ↓rX4_dropLast_72, ↓hg_fX4_24_12, ↓hg_fX4_24_7, ↓hp_fX4_24_12, ↓hp_fX4_24_7, ↓reduceIte, zkeep_n, zkeep_i, zkeep_r, zkeep_l, zup_eq, zIR, zLR, List.length_cons, List.length_nil, Nat.reduceAdd, Nat.reduceLeDiff, Nat.reduceEqDiff, Nat.reduceSub, Int.reduceLE, Int.reduceLT, Int.reduceEq, Int.reduceNe, Int.reduceNeg, Int.reduceAdd, Int.reduceSub, Int.reduceMul, Int.reduceToNat, Nat.le_refl, Nat.zero_le, Nat.zero_add, Int.zero_add, Int.add_zero, and_true, true_and, and_false, false_and, not_true_eq_false, not_false_eq_true, eq_self, ne_eq, true_implies, false_implies, implies_true, or_true, true_or, or_false, false_or, reduceCtorEq, Option.some.injEq, Sum.inl.injEq, exists_eq_left', exists_eq_left, n1, zite]
      repeat' (first | with_reducible apply And.intro | with_reducible intro _)
      all_goals first | omega | (exact fin)
    | cons x b =>
      have hxm : x < m + 1 := hmem x (by rw [hab]; simp)
      have hx11 : N 11 (a.length : Int) = x := by
        rw [hhi a.length (Nat.le_refl _)]
        exact hL _ x (by rw [hab, List.getElem?_append_right (Nat.le_refl _), Nat.sub_self]; rfl)
      simp only [List.length_cons] at hl2
      by_cases hxe : x = m
      · have next := ih (a ++ [x], b, N) ⟨by simp [hab], hfr, fun j y hy => hlo j y (by simpa [List.filter_append, hxe, hp0] using hy), fun i hi => hhi i (by simp at hi; omega)⟩ (by simp)
        simp [List.filter_append, hxe, hp0] at next
        refine rX4_dropLast_14.mpr ?_
        simp only [↓rX4_dropLast_15, ↓rX4_dropLast_16, ↓rX4_dropLast_19, ↓rX4_dropLast_22, ↓rX4_dropLast_23, ↓rX4_dropLast_26, ↓rX4_dropLast_27, ↓rX4_dropLast_28, ↓rX4_dropLast_29, ↓rX4_dropLast_32, ↓rX4_dropLast_33, ↓rX4_dropLast_34, ↓rX4_dropLast_52, ↓rX4_dropLast_55, ↓hg_fX4_21_12, ↓hg_fX4_21_7, ↓hg_fX4_24_12, ↓hg_fX4_24_7, ↓hr_10, ↓hr_11, ↓hr_13, ↓hr_14, ↓hr_15, ↓hr_16, ↓hr_18, ↓hr_19, ↓hr_2, ↓hr_20, ↓hr_21, ↓hr_24, ↓hr_25, ↓hr_26, ↓hr_28, ↓hr_29, ↓hr_3, ↓hr_30, ↓hr_33, ↓hr_34, ↓hr_35, ↓hr_36, ↓hr_37, ↓hr_39, ↓hr_41, ↓hr_43, ↓hr_45, ↓hr_5, ↓hr_6, ↓hr_8, ↓hr_9, ↓hw_10, ↓hw_11, ↓hw_13, ↓hw_14, ↓hw_15, ↓hw_16, ↓hw_18, ↓hw_19, ↓hw_2, ↓hw_20, ↓hw_21, ↓hw_24, ↓hw_25, ↓hw_26, ↓hw_28, ↓hw_29, ↓hw_3, ↓hw_30, ↓hw_33, ↓hw_34, ↓hw_35, ↓hw_36, ↓hw_37, ↓hw_39, ↓hw_41, ↓hw_43, ↓hw_45, ↓hw_5, ↓hw_6, ↓hw_8, ↓hw_9, ↓reduceIte, zkeep_n, zkeep_i, zkeep_r, zkeep_l, zup_eq, zIR, zLR, List.length_cons, List.length_nil, Nat.reduceAdd, Nat.reduceLeDiff, Nat.reduceEqDiff, Nat.reduceSub, Int.reduceLE, Int.reduceLT, Int.reduceEq, Int.reduceNe, Int.reduceNeg, Int.reduceAdd, Int.reduceSub, Int.reduceMul, Int.reduceToNat, Nat.le_refl, Nat.zero_le, Nat.zero_add, Int.zero_add, Int.add_zero, and_true, true_and, and_false, false_and, not_true_eq_false, not_false_eq_true, eq_self, ne_eq, true_implies, false_implies, implies_true, or_true, true_or, or_false, false_or, reduceCtorEq, Option.some.injEq, Sum.inl.injEq, exists_eq_left', exists_eq_left, n1, hx11, zite]
        repeat' (first | with_reducible apply And.intro | with_reducible intro _)
        all_goals first | omega | (exact next)
      · have next := ih (a ++ [x], b, zup N 11 ((a.filter pr).length : Nat) x) ⟨by simp [hab], fun k i hk => (zup_ne hk).trans (hfr k i hk), fun j y hy => ?_, fun i hi => ?_⟩ (by simp)
        · simp [List.filter_append, hp1 x hxe] at next
          refine rX4_dropLast_14.mpr ?_
          simp only [↓rX4_dropLast_15, ↓rX4_dropLast_16, ↓rX4_dropLast_19, ↓rX4_dropLast_22, ↓rX4_dropLast_23, ↓rX4_dropLast_26, ↓rX4_dropLast_27, ↓rX4_dropLast_28, ↓rX4_dropLast_29, ↓rX4_dropLast_32, ↓rX4_dropLast_33, ↓rX4_dropLast_34, ↓rX4_dropLast_37, ↓rX4_dropLast_38, ↓rX4_dropLast_41, ↓rX4_dropLast_42, ↓rX4_dropLast_43, ↓rX4_dropLast_46, ↓rX4_dropLast_47, ↓rX4_dropLast_48, ↓rX4_dropLast_49, ↓rX4_dropLast_52, ↓rX4_dropLast_55, ↓hg_fX4_21_12, ↓hg_fX4_21_7, ↓hg_fX4_24_12, ↓hg_fX4_24_7, ↓hr_10, ↓hr_11, ↓hr_13, ↓hr_14, ↓hr_15, ↓hr_16, ↓hr_18, ↓hr_19, ↓hr_2, ↓hr_20, ↓hr_21, ↓hr_24, ↓hr_25, ↓hr_26, ↓hr_28, ↓hr_29, ↓hr_3, ↓hr_30, ↓hr_33, ↓hr_34, ↓hr_35, ↓hr_36, ↓hr_37, ↓hr_39, ↓hr_41, ↓hr_43, ↓hr_45, ↓hr_5, ↓hr_6, ↓hr_8, ↓hr_9, ↓hw_10, ↓hw_11, ↓hw_13, ↓hw_14, ↓hw_15, ↓hw_16, ↓hw_18, ↓hw_19, ↓hw_2, ↓hw_20, ↓hw_21, ↓hw_24, ↓hw_25, ↓hw_26, ↓hw_28, ↓hw_29, ↓hw_3, ↓hw_30, ↓hw_33, ↓hw_34, ↓hw_35, ↓hw_36, ↓hw_37, ↓hw_39, ↓hw_41, ↓hw_43, ↓hw_45, ↓hw_5, ↓hw_6, ↓hw_8, ↓hw_9, ↓reduceIte, zkeep_n, zkeep_i, zkeep_r, zkeep_l, zup_eq, zIR, zLR, List.length_cons, List.length_nil, Nat.reduceAdd, Nat.reduceLeDiff, Nat.reduceEqDiff, Nat.reduceSub, Int.reduceLE, Int.reduceLT, Int.reduceEq, Int.reduceNe, Int.reduceNeg, Int.reduceAdd, Int.reduceSub, Int.reduceMul, Int.reduceToNat, Nat.le_refl, Nat.zero_le, Nat.zero_add, Int.zero_add, Int.add_zero, and_true, true_and, and_false, false_and, not_true_eq_false, not_false_eq_true, eq_self, ne_eq, true_implies, false_implies, implies_true, or_true, true_or, or_false, false_or, reduceCtorEq, Option.some.injEq, Sum.inl.injEq, exists_eq_left', exists_eq_left, n1, hx11, zite]
          repeat' (first | with_reducible apply And.intro | with_reducible intro _)
          all_goals first | omega | (exact next)
        · simp only [List.filter_append] at hy
          simp only [zup_in]
          by_cases c : j < (a.filter pr).length
          · rw [List.getElem?_append_left c] at hy
            rw [if_neg (by omega)]
            exact hlo j y hy
          · rw [List.getElem?_append_right (by omega)] at hy
            simp [hp1 x hxe] at hy
            have h9 := (List.getElem?_eq_some_iff.mp hy).1
            simp at h9
            have h10 : j = (a.filter pr).length := by omega
            subst h10
            simp at hy
            rw [if_pos rfl, hy]
        · simp at hi
          simp only [zup_in]
          rw [if_neg (by omega)]
          exact hhi i (by omega)
  refine L ([], l, M) ⟨rfl, fun _ _ _ => rfl, fun j x hx => ?_, fun _ _ => rfl⟩
  simp at hx
