def wsw (wt : Nat → Int) (s : Nat) : Nat → Int
  | 0 => 0
  | k + 1 => wsw wt s k + if s / 2 ^ k % 2 = 1 then wt k else 0
theorem nbit_d : ∀ m : Fin 8, ∀ s : Fin 256, s.val < 2 ^ m.val → ((s.val + 2 ^ m.val) / 2 ^ m.val % 2 = 1 ∧ s.val / 2 ^ m.val % 2 = 0) ∧ ∀ j : Fin 8, j.val < m.val → (s.val + 2 ^ m.val) / 2 ^ j.val % 2 = s.val / 2 ^ j.val % 2 := by decide +kernel
theorem nbit2_d : ∀ m : Fin 8, ∀ s : Fin 256, s.val / 2 ^ m.val % 2 = 0 → ((s.val + 2 ^ m.val) / 2 ^ m.val % 2 = 1) ∧ ∀ j : Fin 8, j.val ≠ m.val → (s.val + 2 ^ m.val) / 2 ^ j.val % 2 = s.val / 2 ^ j.val % 2 := by decide +kernel
theorem nmach_d : ∀ m : Fin 8, ∀ s : Fin 256, (zand s.val (zshl 1 m.val) = 0 ↔ s.val / 2 ^ m.val % 2 = 0) ∧ (-2147483648 ≤ zand s.val (zshl 1 m.val) ∧ zand s.val (zshl 1 m.val) ≤ 2147483647) ∧ (s.val / 2 ^ m.val % 2 = 0 → zor s.val (zshl 1 m.val) = ((s.val + 2 ^ m.val : Nat) : Int)) := by decide +kernel
theorem nshl_d : ∀ m : Fin 9, zshl 1 m.val = ((2 ^ m.val : Nat) : Int) := by decide +kernel
theorem npow_le {m : Nat} (h : m ≤ 8) : 2 ^ m ≤ 256 := by
  have : ∀ m : Fin 9, 2 ^ m.val ≤ 256 := by decide
  exact this ⟨m, by omega⟩
theorem wsw_same {wt : Nat → Int} {s s' : Nat} : ∀ k : Nat, (∀ j : Nat, j < k → s' / 2 ^ j % 2 = s / 2 ^ j % 2) → wsw wt s' k = wsw wt s k
  | 0, _ => rfl
  | k + 1, h => by
    unfold wsw
    rw [wsw_same k (fun j hj => h j (by omega)), h k (by omega)]
theorem wsw_low {wt : Nat → Int} {m s : Nat} (hm : m < 8) (hs : s < 2 ^ m) : wsw wt s (m + 1) = wsw wt s m ∧ wsw wt (s + 2 ^ m) (m + 1) = wsw wt s m + wt m := by
  have h2 := npow_le (show m ≤ 8 by omega)
  have hd := nbit_d ⟨m, hm⟩ ⟨s, by omega⟩ hs
  have e := wsw_same (wt := wt) (s := s) (s' := s + 2 ^ m) m (fun j hj => hd.2 ⟨j, by omega⟩ hj)
  constructor
  · show wsw wt s m + _ = _
    rw [if_neg (by rw [hd.1.2]; decide), Int.add_zero]
  · show wsw wt (s + 2 ^ m) m + _ = _
    rw [if_pos hd.1.1, e]
theorem wsw_add {wt : Nat → Int} {m s : Nat} (hm : m < 8) (hs : s < 256) (hb : s / 2 ^ m % 2 = 0) : ∀ k : Nat, k ≤ 8 → wsw wt (s + 2 ^ m) k = wsw wt s k + if m < k then wt m else 0
  | 0, _ => by simp [wsw]
  | k + 1, hk => by
    have ih := wsw_add (wt := wt) hm hs hb k (by omega)
    have hd := nbit2_d ⟨m, hm⟩ ⟨s, hs⟩ hb
    unfold wsw
    rw [ih]
    by_cases e : k = m
    · subst e
      have h1 : s / 2 ^ k % 2 = 0 := hb
      rw [if_pos hd.1, h1, if_neg (show ¬ k < k by omega), if_pos (show k < k + 1 by omega), if_neg (by decide)]
      try omega
    · have h1 := hd.2 ⟨k, by omega⟩ e
      simp only at h1
      rw [h1]
      by_cases c : m < k
      · rw [if_pos c, if_pos (show m < k + 1 by omega)]
        omega
      · rw [if_neg c, if_neg (show ¬ m < k + 1 by omega)]
        omega
theorem wsw_all {wt : Nat → Int} : ∀ k : Nat, k ≤ 8 → wsw wt (2 ^ k - 1) k = wsum wt k
  | 0, _ => rfl
  | k + 1, hk => by
    have ih := wsw_all (wt := wt) k (by omega)
    have hp : 0 < 2 ^ k := Nat.pow_pos (by decide)
    have h := (wsw_low (wt := wt) (m := k) (s := 2 ^ k - 1) (by omega) (by omega)).2
    have e : 2 ^ (k + 1) - 1 = (2 ^ k - 1) + 2 ^ k := by rw [Nat.pow_succ]; omega
    rw [e, h, ih]
    rfl
theorem wsw_R {wt : Nat → Int} (s : Nat) : ∀ k : Nat, (∀ j : Nat, j < k → 0 ≤ wt j ∧ wt j ≤ 10) → 0 ≤ wsw wt s k ∧ wsw wt s k ≤ 10 * k
  | 0, _ => by simp [wsw]
  | k + 1, h => by
    have := wsw_R s k (fun j hj => h j (by omega))
    have := h k (by omega)
    unfold wsw
    split <;> omega
def wwt (S : zM) (qu : Int) : Nat → Int := fun m => wV S m 19 (8 + qu) - wV S m 19 (4 + qu) + 1
set_option maxRecDepth 100000 in
set_option maxHeartbeats 4000000 in
theorem s_weigh {S M : zM} {R : zP} {qu : Int} (h : RX S M) (hqu : 0 ≤ qu ∧ qu < 4)
    (hR : ∀ M', QF M M' → (∀ s : Nat, s < 2 ^ qk S → M' 36 s = wsw (wwt S qu) s (qk S)) → R none M') : tX7_weigh [.inr (.inr 0), .inl qu] M R := by
  have hqn := (h.2.2.2.1.1 0 (by decide)).1
  have hqk : (qk S : Int) = qn S 0 := by unfold qk; omega
  simp only [↓eX7_weigh, ↓rX7_weigh_0, ↓rX7_weigh_1, ↓rX7_weigh_4, ↓rX7_weigh_5, ↓rX7_weigh_6, ↓rX7_weigh_7, ↓rX7_weigh_8, ↓hg_fX7_86_0, ↓hr_10, ↓hr_11, ↓hr_13, ↓hr_14, ↓hr_15, ↓hr_16, ↓hr_18, ↓hr_19, ↓hr_2, ↓hr_20, ↓hr_21, ↓hr_24, ↓hr_25, ↓hr_26, ↓hr_28, ↓hr_29, ↓hr_3, ↓hr_30, ↓hr_33, ↓hr_34, ↓hr_35, ↓hr_36, ↓hr_37, ↓hr_39, ↓hr_41, ↓hr_43, ↓hr_45, ↓hr_5, ↓hr_6, ↓hr_8, ↓hr_9, ↓hr_fX7_104, ↓hw_10, ↓hw_11, ↓hw_13, ↓hw_14, ↓hw_15, ↓hw_16, ↓hw_18, ↓hw_19, ↓hw_2, ↓hw_20, ↓hw_21, ↓hw_24, ↓hw_25, ↓hw_26, ↓hw_28, ↓hw_29, ↓hw_3, ↓hw_30, ↓hw_33, ↓hw_34, ↓hw_35, ↓hw_36, ↓hw_37, ↓hw_39, ↓hw_41, ↓hw_43, ↓hw_45, ↓hw_5, ↓hw_6, ↓hw_8, ↓hw_9, ↓reduceIte, zkeep_n, zkeep_i, zkeep_r, zkeep_l, zup_eq, zIR, zLR, List.length_cons, List.length_nil, Nat.reduceAdd, Nat.reduceLeDiff, Nat.reduceEqDiff, Nat.reduceSub, Int.reduceLE, Int.reduceLT, Int.reduceEq, Int.reduceNe, Int.reduceNeg, Int.reduceAdd, Int.reduceSub, Int.reduceMul, Int.reduceToNat, Nat.le_refl, Nat.zero_le, Nat.zero_add, Int.zero_add, Int.add_zero, and_true, true_and, and_false, false_and, not_true_eq_false, not_false_eq_true, eq_self, ne_eq, true_implies, false_implies, implies_true, or_true, true_or, or_false, false_or, reduceCtorEq, Option.some.injEq, Sum.inl.injEq, exists_eq_left', exists_eq_left, zite]
  have L : ∀ t : Nat × zM, (t.1 ≤ qk S ∧ QF M t.2 ∧ (∀ s : Nat, s < 2 ^ t.1 → t.2 36 s = wsw (wwt S qu) s t.1)) → ∀ x3 x4 x5, uX7_weigh R 9 [some (.inr (.inr 0)), some (.inl qu), some (.inl (t.1 : Int)), x3, x4, x5] [] t.2 := by
    refine zind (fun t => qk S - t.1) ?_
    rintro ⟨m, N⟩ ⟨hm, hN, hw⟩ ih x3 x4 x5
    simp only at hm hN hw ih
    have hRN := RX_qf h hN
    have n1 : N 1 5 = qn S 0 := hRN.2.2.2.1.2.1
    refine rX7_weigh_9.mpr ?_
    by_cases he : m = qk S
    · subst he
      have fin := hR N hN hw
      simp only [↓rX7_weigh_10, ↓rX7_weigh_11, ↓rX7_weigh_14, ↓rX7_weigh_17, ↓rX7_weigh_102, ↓hg_fX7_116_1, ↓hg_fX7_116_4, ↓hg_fX7_14_0, ↓reduceIte, zkeep_n, zkeep_i, zkeep_r, zkeep_l, zup_eq, zIR, zLR, List.length_cons, List.length_nil, Nat.reduceAdd, Nat.reduceLeDiff, Nat.reduceEqDiff, Nat.reduceSub, Int.reduceLE, Int.reduceLT, Int.reduceEq, Int.reduceNe, Int.reduceNeg, Int.reduceAdd, Int.reduceSub, Int.reduceMul, Int.reduceToNat, Nat.le_refl, Nat.zero_le, Nat.zero_add, Int.zero_add, Int.add_zero, and_true, true_and, and_false, false_and, not_true_eq_false, not_false_eq_true, eq_self, ne_eq, true_implies, false_implies, implies_true, or_true, true_or, or_false, false_or, reduceCtorEq, Option.some.injEq, Sum.inl.injEq, exists_eq_left', exists_eq_left, n1, zite]
      repeat' (first | with_reducible apply And.intro | with_reducible intro _)
      all_goals first | omega | (exact fin)
    · have call : zcn (zv 7 tX7_raise) [.inr (.inr 0), .inr (.inr 7), .inl (m : Int), .inl 19, .inl 255] N (fun N' => uX7_weigh R 34 [some (.inr (.inr 0)), some (.inl qu), some (.inl (m : Int)), x3, x4, x5] [] N') := by
        refine zcnv rfl (RX_raise hRN (by decide) (by omega) (by omega) (fun N1 f1 f2 => ⟨rfl, ?_⟩))
        rw [show (19 : Int).toNat = 19 by rfl] at f2
        have hp8 := npow_le (show m + 1 ≤ 8 by omega)
        rw [Nat.pow_succ] at hp8
        have c2 : N1 25 qu = wV S m 19 (4 + qu) := (f2.1 qu hqu.1 hqu.2).2.1
        have c3 : N1 26 qu = wV S m 19 (8 + qu) := (f2.1 qu hqu.1 hqu.2).2.2
        have ew : wV S m 19 (8 + qu) - wV S m 19 (4 + qu) + 1 = wwt S qu m := rfl
        have esh := nshl_d ⟨m, by omega⟩
        simp only at esh
        have I : ∀ t : Nat × zM, (t.1 ≤ 2 ^ m ∧ (∀ k i, k ≠ 36 → t.2 k i = N1 k i) ∧ (∀ s : Nat, s < 2 ^ m → t.2 36 s = wsw (wwt S qu) s m) ∧ (∀ s : Nat, s < t.1 → t.2 36 ((s + 2 ^ m : Nat) : Int) = wsw (wwt S qu) s m + wwt S qu m)) → uX7_weigh R 64 [some (.inr (.inr 0)), some (.inl qu), some (.inl (m : Int)), some (.inl (wwt S qu m)), some (.inl ((2 ^ m : Nat) : Int)), some (.inl (t.1 : Int))] [] t.2 := by
          refine zind (fun t => 2 ^ m - t.1) ?_
          rintro ⟨s, P⟩ ⟨hs, p1, p2, p3⟩ ih2
          simp only at hs p1 p2 p3 ih2
          refine rX7_weigh_64.mpr ?_
          by_cases hse : s = 2 ^ m
          · have nx := ih (m + 1, P) ⟨by simp only; omega, hN.trans (fun k i a b => (p1 k i (by omega)).trans (f1 k i (by omega))), fun s' hs' => ?_⟩ (by simp only; omega) (some (.inl (wwt S qu m))) (some (.inl ((2 ^ m : Nat) : Int))) (some (.inl (s : Int)))
            · simp only [↓rX7_weigh_66, ↓rX7_weigh_68, ↓rX7_weigh_96, ↓rX7_weigh_99, ↓reduceIte, zkeep_n, zkeep_i, zkeep_r, zkeep_l, zup_eq, zIR, zLR, List.length_cons, List.length_nil, Nat.reduceAdd, Nat.reduceLeDiff, Nat.reduceEqDiff, Nat.reduceSub, Int.reduceLE, Int.reduceLT, Int.reduceEq, Int.reduceNe, Int.reduceNeg, Int.reduceAdd, Int.reduceSub, Int.reduceMul, Int.reduceToNat, Nat.le_refl, Nat.zero_le, Nat.zero_add, Int.zero_add, Int.add_zero, and_true, true_and, and_false, false_and, not_true_eq_false, not_false_eq_true, eq_self, ne_eq, true_implies, false_implies, implies_true, or_true, true_or, or_false, false_or, reduceCtorEq, Option.some.injEq, Sum.inl.injEq, exists_eq_left', exists_eq_left, zite]
              repeat' (first | with_reducible apply And.intro | with_reducible intro _)
              all_goals first | omega | (exact nx)
            · simp only at hs' ⊢
              rw [Nat.pow_succ] at hs'
              by_cases c : s' < 2 ^ m
              · rw [p2 s' c]
                exact (wsw_low (by omega) c).1.symm
              · obtain ⟨u, rfl⟩ : ∃ u, s' = u + 2 ^ m := ⟨s' - 2 ^ m, by omega⟩
                rw [p3 u (by omega)]
                exact (wsw_low (by omega) (by omega)).2.symm
          · have e36 := p2 s (by omega)
            have eidx : (s : Int) + ((2 ^ m : Nat) : Int) = ((s + 2 ^ m : Nat) : Int) := by omega
            have nx := ih2 (s + 1, zup P 36 ((s + 2 ^ m : Nat) : Int) (wsw (wwt S qu) s m + wwt S qu m)) ⟨by simp only; omega, fun k i hk => (zup_ne hk).trans (p1 k i hk), fun s' hs' => ?_, fun s' hs' => ?_⟩ (by simp only; omega)
            · simp only [↓rX7_weigh_66, ↓rX7_weigh_68, ↓rX7_weigh_71, ↓rX7_weigh_72, ↓rX7_weigh_75, ↓rX7_weigh_77, ↓rX7_weigh_79, ↓rX7_weigh_80, ↓rX7_weigh_81, ↓rX7_weigh_84, ↓rX7_weigh_86, ↓rX7_weigh_87, ↓rX7_weigh_88, ↓rX7_weigh_89, ↓rX7_weigh_90, ↓rX7_weigh_93, ↓hg_fX7_86_0, ↓hr_10, ↓hr_11, ↓hr_13, ↓hr_14, ↓hr_15, ↓hr_16, ↓hr_18, ↓hr_19, ↓hr_2, ↓hr_20, ↓hr_21, ↓hr_24, ↓hr_25, ↓hr_26, ↓hr_28, ↓hr_29, ↓hr_3, ↓hr_30, ↓hr_33, ↓hr_34, ↓hr_35, ↓hr_36, ↓hr_37, ↓hr_39, ↓hr_41, ↓hr_43, ↓hr_45, ↓hr_5, ↓hr_6, ↓hr_8, ↓hr_9, ↓hr_fX7_104, ↓hw_10, ↓hw_11, ↓hw_13, ↓hw_14, ↓hw_15, ↓hw_16, ↓hw_18, ↓hw_19, ↓hw_2, ↓hw_20, ↓hw_21, ↓hw_24, ↓hw_25, ↓hw_26, ↓hw_28, ↓hw_29, ↓hw_3, ↓hw_30, ↓hw_33, ↓hw_34, ↓hw_35, ↓hw_36, ↓hw_37, ↓hw_39, ↓hw_41, ↓hw_43, ↓hw_45, ↓hw_5, ↓hw_6, ↓hw_8, ↓hw_9, ↓reduceIte, zkeep_n, zkeep_i, zkeep_r, zkeep_l, zup_eq, zIR, zLR, List.length_cons, List.length_nil, Nat.reduceAdd, Nat.reduceLeDiff, Nat.reduceEqDiff, Nat.reduceSub, Int.reduceLE, Int.reduceLT, Int.reduceEq, Int.reduceNe, Int.reduceNeg, Int.reduceAdd, Int.reduceSub, Int.reduceMul, Int.reduceToNat, Nat.le_refl, Nat.zero_le, Nat.zero_add, Int.zero_add, Int.add_zero, and_true, true_and, and_false, false_and, not_true_eq_false, not_false_eq_true, eq_self, ne_eq, true_implies, false_implies, implies_true, or_true, true_or, or_false, false_or, reduceCtorEq, Option.some.injEq, Sum.inl.injEq, exists_eq_left', exists_eq_left, e36, eidx, zite]
              repeat' (first | with_reducible apply And.intro | with_reducible intro _)
              all_goals first | omega | (exact nx)
            · simp only [zup_in]
              rw [if_neg (by omega)]
              exact p2 s' hs'
            · simp only [zup_in] at hs' ⊢
              by_cases c : s' = s
              · rw [if_pos (by rw [c]), c]
              · rw [if_neg (by omega)]
                exact p3 s' (by omega)
        have st := I (0, N1) ⟨Nat.zero_le _, fun _ _ _ => rfl, fun s hs => (f1 _ _ (by decide)).trans (hw s hs), fun s hs => by simp at hs⟩
        simp only [↓rX7_weigh_34, ↓rX7_weigh_35, ↓rX7_weigh_38, ↓rX7_weigh_41, ↓rX7_weigh_42, ↓rX7_weigh_43, ↓rX7_weigh_44, ↓rX7_weigh_47, ↓rX7_weigh_50, ↓rX7_weigh_51, ↓rX7_weigh_52, ↓rX7_weigh_53, ↓rX7_weigh_54, ↓rX7_weigh_55, ↓rX7_weigh_56, ↓rX7_weigh_57, ↓rX7_weigh_58, ↓rX7_weigh_59, ↓rX7_weigh_61, ↓rX7_weigh_62, ↓hg_fX7_149_23, ↓hg_fX7_149_27, ↓hg_fX7_152_23, ↓hg_fX7_152_27, ↓hg_fX7_55_0, ↓hr_10, ↓hr_11, ↓hr_13, ↓hr_14, ↓hr_15, ↓hr_16, ↓hr_18, ↓hr_19, ↓hr_2, ↓hr_20, ↓hr_21, ↓hr_24, ↓hr_25, ↓hr_26, ↓hr_28, ↓hr_29, ↓hr_3, ↓hr_30, ↓hr_33, ↓hr_34, ↓hr_35, ↓hr_36, ↓hr_37, ↓hr_39, ↓hr_41, ↓hr_43, ↓hr_45, ↓hr_5, ↓hr_6, ↓hr_8, ↓hr_9, ↓hr_fX7_104, ↓hw_10, ↓hw_11, ↓hw_13, ↓hw_14, ↓hw_15, ↓hw_16, ↓hw_18, ↓hw_19, ↓hw_2, ↓hw_20, ↓hw_21, ↓hw_24, ↓hw_25, ↓hw_26, ↓hw_28, ↓hw_29, ↓hw_3, ↓hw_30, ↓hw_33, ↓hw_34, ↓hw_35, ↓hw_36, ↓hw_37, ↓hw_39, ↓hw_41, ↓hw_43, ↓hw_45, ↓hw_5, ↓hw_6, ↓hw_8, ↓hw_9, ↓reduceIte, zkeep_n, zkeep_i, zkeep_r, zkeep_l, zup_eq, zIR, zLR, List.length_cons, List.length_nil, Nat.reduceAdd, Nat.reduceLeDiff, Nat.reduceEqDiff, Nat.reduceSub, Int.reduceLE, Int.reduceLT, Int.reduceEq, Int.reduceNe, Int.reduceNeg, Int.reduceAdd, Int.reduceSub, Int.reduceMul, Int.reduceToNat, Nat.le_refl, Nat.zero_le, Nat.zero_add, Int.zero_add, Int.add_zero, and_true, true_and, and_false, false_and, not_true_eq_false, not_false_eq_true, eq_self, ne_eq, true_implies, false_implies, implies_true, or_true, true_or, or_false, false_or, reduceCtorEq, Option.some.injEq, Sum.inl.injEq, exists_eq_left', exists_eq_left, c2, c3, ew, esh, zite]
        repeat' (first | with_reducible apply And.intro | with_reducible intro _)
        all_goals first | omega | (exact st)
      simp only [↓rX7_weigh_10, ↓rX7_weigh_11, ↓rX7_weigh_14, ↓rX7_weigh_17, ↓rX7_weigh_20, ↓rX7_weigh_21, ↓rX7_weigh_22, ↓rX7_weigh_25, ↓rX7_weigh_26, ↓rX7_weigh_28, ↓rX7_weigh_31, ↓hg_fX7_116_1, ↓hg_fX7_116_4, ↓hg_fX7_14_0, ↓hg_fX7_28_0, ↓reduceIte, zkeep_n, zkeep_i, zkeep_r, zkeep_l, zup_eq, zIR, zLR, List.length_cons, List.length_nil, Nat.reduceAdd, Nat.reduceLeDiff, Nat.reduceEqDiff, Nat.reduceSub, Int.reduceLE, Int.reduceLT, Int.reduceEq, Int.reduceNe, Int.reduceNeg, Int.reduceAdd, Int.reduceSub, Int.reduceMul, Int.reduceToNat, Nat.le_refl, Nat.zero_le, Nat.zero_add, Int.zero_add, Int.add_zero, and_true, true_and, and_false, false_and, not_true_eq_false, not_false_eq_true, eq_self, ne_eq, true_implies, false_implies, implies_true, or_true, true_or, or_false, false_or, reduceCtorEq, Option.some.injEq, Sum.inl.injEq, exists_eq_left', exists_eq_left, n1, zite]
      repeat' (first | with_reducible apply And.intro | with_reducible intro _)
      all_goals first | omega | (exact call)
  refine L (0, zup M 36 0 0) ⟨Nat.zero_le _, fun k i a b => zup_ne (by omega), fun s hs => ?_⟩ none none none
  simp only [Nat.pow_zero] at hs
  have : s = 0 := by omega
  subst this
  simp [zup_eq, wsw]
