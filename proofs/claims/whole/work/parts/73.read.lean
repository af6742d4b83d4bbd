def rdS (it : Int → Int) (sz : Int) : Nat → Int → zM → zM × Int
  | 0, i, S => (S, i)
  | f + 1, i, S => if 3 * i + 2 < sz ∧ 0 < aFeed S (it (3 * i)) (it (3 * i + 1)) (it (3 * i + 2)) then rdS it sz f (i + 1) (mFeed S (it (3 * i)) (it (3 * i + 1)) (it (3 * i + 2))) else (S, i)
def aRead (S : zM) (s : Int) : Int := if 0 ≤ s ∧ s < 4 then (if S 12 s = 0 then -11 else (rdS (S (15 + s.toNat)) (S 14 s) 21 0 S).2) else -2
def mRead (S : zM) (s : Int) : zM := if 0 ≤ s ∧ s < 4 then (if S 12 s = 0 then zup S 19 0 1 else (rdS (S (15 + s.toNat)) (S 14 s) 21 0 S).1) else S
theorem mFeed_ne {S : zM} {te me co : Int} {k : Nat} {i : Int} (hk : ¬ (3 ≤ k ∧ k ≤ 6)) : mFeed S te me co k i = S k i := by
  unfold mFeed
  split
  · unfold nFeed
    rw [zup_ne (by omega), zup_ne (by omega), zup_ne (by omega), zup_ne (by omega)]
  · rfl
theorem aFeed_R {S : zM} (h : 0 ≤ S 3 0 ∧ S 3 0 ≤ 8) (te me co : Int) : -4 ≤ aFeed S te me co ∧ aFeed S te me co ≤ 9 ∧ aFeed S te me co ≠ 0 ∧ (aFeed S te me co < 0 → mFeed S te me co = S) := by
  unfold aFeed mFeed
  by_cases g : (0 ≤ te ∧ te < 20) ∧ (0 ≤ me ∧ me < 8) ∧ (0 ≤ co ∧ co < 8)
  · rw [if_pos g]
    by_cases e : S 3 0 = 8
    · rw [if_pos e, if_neg (fun z => z.2 e)]
      exact ⟨by decide, by decide, by decide, fun _ => rfl⟩
    · rw [if_neg e]
      exact ⟨by omega, by omega, by omega, fun q => by omega⟩
  · rw [if_neg g, if_neg (fun z => g z.1)]
    exact ⟨by decide, by decide, by decide, fun _ => rfl⟩
set_option maxRecDepth 100000 in
set_option maxHeartbeats 4000000 in
theorem x_read0 {S M : zM} {R : zP} (h : RX S M) (hR : ∀ M', RX (mRead S 0) M' → XF M M' → R (some (.inl (aRead S 0))) M') : tX7_read [.inr (.inr 0), .inl 0] M R := by
  unfold mRead aRead at hR
  have g0 : (0 : Int) ≤ 0 ∧ (0 : Int) < 4 := by decide
  rw [if_pos g0, if_pos g0] at hR
  obtain ⟨l1, l2, l3, l4⟩ := RX_L40 h
  by_cases e : S 12 0 = 0
  · rw [if_pos e, if_pos e] at hR
    have e1 := l2 e
    have fin := hR _ (RX_find h (by decide)) XF_find
    simp only [↓eX7_read, ↓rX7_read_0, ↓rX7_read_1, ↓rX7_read_2, ↓rX7_read_5, ↓rX7_read_8, ↓rX7_read_10, ↓rX7_read_11, ↓rX7_read_12, ↓rX7_read_15, ↓rX7_read_16, ↓rX7_read_17, ↓rX7_read_18, ↓rX7_read_19, ↓rX7_read_22, ↓rX7_read_25, ↓rX7_read_26, ↓rX7_read_27, ↓rX7_read_30, ↓rX7_read_31, ↓rX7_read_32, ↓rX7_read_33, ↓rX7_read_34, ↓rX7_read_36, ↓rX7_read_38, ↓rX7_read_39, ↓rX7_read_40, ↓rX7_read_41, ↓rX7_read_44, ↓rX7_read_47, ↓rX7_read_48, ↓rX7_read_49, ↓rX7_read_52, ↓rX7_read_54, ↓rX7_read_55, ↓rX7_read_56, ↓rX7_read_59, ↓rX7_read_61, ↓rX7_read_62, ↓rX7_read_63, ↓rX7_read_64, ↓rX7_read_65, ↓rX7_read_68, ↓rX7_read_70, ↓rX7_read_71, ↓rX7_read_72, ↓rX7_read_73, ↓rX7_read_91, ↓rX7_read_92, ↓hg_fX7_134_38, ↓hg_fX7_134_40, ↓hg_fX7_134_42, ↓hg_fX7_134_44, ↓hg_fX7_137_38, ↓hg_fX7_137_40, ↓hg_fX7_137_42, ↓hg_fX7_137_44, ↓hg_fX7_44_0, ↓hr_10, ↓hr_11, ↓hr_13, ↓hr_14, ↓hr_15, ↓hr_16, ↓hr_18, ↓hr_19, ↓hr_2, ↓hr_20, ↓hr_21, ↓hr_24, ↓hr_25, ↓hr_26, ↓hr_28, ↓hr_29, ↓hr_3, ↓hr_30, ↓hr_33, ↓hr_34, ↓hr_35, ↓hr_36, ↓hr_37, ↓hr_39, ↓hr_41, ↓hr_43, ↓hr_45, ↓hr_5, ↓hr_6, ↓hr_8, ↓hr_9, ↓hr_fX7_104, ↓hrow_22, ↓hw_10, ↓hw_11, ↓hw_13, ↓hw_14, ↓hw_15, ↓hw_16, ↓hw_18, ↓hw_19, ↓hw_2, ↓hw_20, ↓hw_21, ↓hw_24, ↓hw_25, ↓hw_26, ↓hw_28, ↓hw_29, ↓hw_3, ↓hw_30, ↓hw_33, ↓hw_34, ↓hw_35, ↓hw_36, ↓hw_37, ↓hw_39, ↓hw_41, ↓hw_43, ↓hw_45, ↓hw_5, ↓hw_6, ↓hw_8, ↓hw_9, ↓i_finding, ↓i_isLost38, ↓i_isLost40, ↓i_isLost42, ↓i_isLost44, ↓i_outside, ↓reduceIte, ↓hrw, ↓hgd0, ↓hgd1, ↓hgd2, ↓hgd3, zkeep_n, zkeep_i, zkeep_r, zkeep_l, zIR, zLR, List.length_cons, List.length_nil, Nat.reduceAdd, Nat.reduceLeDiff, Nat.reduceEqDiff, Nat.reduceSub, Int.reduceLE, Int.reduceLT, Int.reduceEq, Int.reduceNe, Int.reduceNeg, Int.reduceAdd, Int.reduceSub, Int.reduceMul, Int.reduceToNat, Nat.le_refl, Nat.zero_le, Nat.zero_add, Int.zero_add, Int.add_zero, and_true, true_and, and_false, false_and, not_true_eq_false, not_false_eq_true, eq_self, ne_eq, true_implies, false_implies, implies_true, or_true, true_or, or_false, false_or, reduceCtorEq, Option.some.injEq, Sum.inl.injEq, exists_eq_left', exists_eq_left, e1, zite]
    repeat' (first | with_reducible apply And.intro | with_reducible intro _)
    all_goals first | omega | (exact fin)
  · rw [if_neg e, if_neg e] at hR
    obtain ⟨l5, l6⟩ := l3 (by omega)
    have e1 := l5.1
    have e2 := l6.1
    have hR : ∀ M', RX (rdS (S 15) (S 14 0) 21 0 S).1 M' → XF M M' → R (some (.inl (rdS (S 15) (S 14 0) 21 0 S).2)) M' := hR
    generalize hit : S 15 = it at hR
    have L : ∀ (f n : Nat) (T N : zM), n + f = 21 → 3 * (n : Int) ≤ S 14 0 + 2 → RX T N → XF M N → (∀ k i, ¬ (3 ≤ k ∧ k ≤ 6) → T k i = S k i) → (∀ k i, 38 ≤ k → N k i = M k i) → rdS it (S 14 0) f n T = rdS it (S 14 0) 21 0 S → uX7_read R 36 [some (.inr (.inr 0)), some (.inl 0), some (.inr (.inr 38)), some (.inl (n : Int)), some (.inl (3 * (n : Int)))] [] N := by
      intro f
      induction f with
      | zero => intro n T N h1 h2; omega
      | succ f ih =>
        intro n T N h1 h2 hT hX hTS hN hrd
        have c2 : N 38 2 = S 14 0 := (hN _ _ (by decide)).trans e2
        have stop : ¬ (3 * (n : Int) + 2 < S 14 0 ∧ 0 < aFeed T (it (3 * n)) (it (3 * n + 1)) (it (3 * n + 2))) → ∀ N', RX T N' → XF M N' → R (some (.inl (n : Int))) N' := fun q N' q1 q2 => by
          rw [← hrd] at hR
          unfold rdS at hR
          rw [if_neg q] at hR
          exact hR N' q1 q2
        refine rX7_read_36.mpr ?_
        by_cases hlt : 3 * (n : Int) + 2 < S 14 0
        · have i0 := l4 (3 * n) (by omega) (by omega)
          have i1 := l4 (3 * n + 1) (by omega) (by omega)
          have i2 := l4 (3 * n + 2) (by omega) (by omega)
          rw [hit] at i0 i1 i2
          have c0 : N 39 (3 * n) = it (3 * n) := (hN _ _ (by decide)).trans i0.1
          have c1 : N 39 (3 * n + 1) = it (3 * n + 1) := (hN _ _ (by decide)).trans i1.1
          have c3 : N 39 (3 * n + 2) = it (3 * n + 2) := (hN _ _ (by decide)).trans i2.1
          have aR := aFeed_R hT.2.2.2.2.1.1 (it (3 * n)) (it (3 * n + 1)) (it (3 * n + 2))
          have call : zcv (zv 7 tX7_feed) [.inr (.inr 0), .inl (it (3 * n)), .inl (it (3 * n + 1)), .inl (it (3 * n + 2))] N (fun v M' => uX7_read R 76 [some (.inr (.inr 0)), some (.inl 0), some (.inr (.inr 38)), some (.inl (n : Int)), some (.inl (3 * (n : Int)))] [v] M') := by
            refine zcvv rfl (x_feed hT i0.2 i1.2 i2.2 (fun N' g1 g2 => ⟨_, rfl, ?_⟩))
            have xf : XF M N' := fun k i hk => (g2 k i (by omega)).trans (hX k i hk)
            have no : aFeed T (it (3 * n)) (it (3 * n + 1)) (it (3 * n + 2)) < 0 → R (some (.inl (n : Int))) N' := fun q => by
              refine stop (by omega) N' ?_ xf
              rw [aR.2.2.2 q] at g1
              exact g1
            have yes : ¬ aFeed T (it (3 * n)) (it (3 * n + 1)) (it (3 * n + 2)) < 0 → uX7_read R 36 [some (.inr (.inr 0)), some (.inl 0), some (.inr (.inr 38)), some (.inl ((n : Int) + 1)), some (.inl (3 * (n : Int) + 3))] [] N' := fun q => by
              have := ih (n + 1) (mFeed T (it (3 * n)) (it (3 * n + 1)) (it (3 * n + 2))) N' (by omega) (by omega) g1 xf (fun k i hk => (mFeed_ne hk).trans (hTS k i hk)) (fun k i hk => (g2 k i (by omega)).trans (hN k i hk)) (by
                rw [← hrd]
                conv => rhs; unfold rdS
                rw [if_pos ⟨hlt, by omega⟩]
                rfl)
              rw [show 3 * (n : Int) + 3 = 3 * ((n + 1 : Nat) : Int) by omega]
              exact this
            simp only [↓rX7_read_76, ↓rX7_read_79, ↓rX7_read_91, ↓rX7_read_92, ↓rX7_read_82, ↓rX7_read_85, ↓rX7_read_88, ↓reduceIte, zkeep_n, zkeep_i, zkeep_r, zkeep_l, zup_eq, zIR, zLR, List.length_cons, List.length_nil, Nat.reduceAdd, Nat.reduceLeDiff, Nat.reduceEqDiff, Nat.reduceSub, Int.reduceLE, Int.reduceLT, Int.reduceEq, Int.reduceNe, Int.reduceNeg, Int.reduceAdd, Int.reduceSub, Int.reduceMul, Int.reduceToNat, Nat.le_refl, Nat.zero_le, Nat.zero_add, Int.zero_add, Int.add_zero, and_true, true_and, and_false, false_and, not_true_eq_false, not_false_eq_true, eq_self, ne_eq, true_implies, false_implies, implies_true, or_true, true_or, or_false, false_or, reduceCtorEq, Option.some.injEq, Sum.inl.injEq, exists_eq_left', exists_eq_left, zite]
            repeat' (first | with_reducible apply And.intro | with_reducible intro _)
            all_goals first | omega | (exact no (by omega)) | (exact yes (by omega))
          simp only [↓rX7_read_38, ↓rX7_read_39, ↓rX7_read_40, ↓rX7_read_41, ↓rX7_read_44, ↓rX7_read_47, ↓rX7_read_48, ↓rX7_read_49, ↓rX7_read_52, ↓rX7_read_54, ↓rX7_read_55, ↓rX7_read_56, ↓rX7_read_59, ↓rX7_read_61, ↓rX7_read_62, ↓rX7_read_63, ↓rX7_read_64, ↓rX7_read_65, ↓rX7_read_68, ↓rX7_read_70, ↓rX7_read_71, ↓rX7_read_72, ↓rX7_read_73, ↓hg_fX7_134_38, ↓hg_fX7_134_40, ↓hg_fX7_134_42, ↓hg_fX7_134_44, ↓hg_fX7_137_38, ↓hg_fX7_137_40, ↓hg_fX7_137_42, ↓hg_fX7_137_44, ↓hr_10, ↓hr_11, ↓hr_13, ↓hr_14, ↓hr_15, ↓hr_16, ↓hr_18, ↓hr_19, ↓hr_2, ↓hr_20, ↓hr_21, ↓hr_24, ↓hr_25, ↓hr_26, ↓hr_28, ↓hr_29, ↓hr_3, ↓hr_30, ↓hr_33, ↓hr_34, ↓hr_35, ↓hr_36, ↓hr_37, ↓hr_39, ↓hr_41, ↓hr_43, ↓hr_45, ↓hr_5, ↓hr_6, ↓hr_8, ↓hr_9, ↓hr_fX7_104, ↓hw_10, ↓hw_11, ↓hw_13, ↓hw_14, ↓hw_15, ↓hw_16, ↓hw_18, ↓hw_19, ↓hw_2, ↓hw_20, ↓hw_21, ↓hw_24, ↓hw_25, ↓hw_26, ↓hw_28, ↓hw_29, ↓hw_3, ↓hw_30, ↓hw_33, ↓hw_34, ↓hw_35, ↓hw_36, ↓hw_37, ↓hw_39, ↓hw_41, ↓hw_43, ↓hw_45, ↓hw_5, ↓hw_6, ↓hw_8, ↓hw_9, ↓reduceIte, zkeep_n, zkeep_i, zkeep_r, zkeep_l, zup_eq, zIR, zLR, List.length_cons, List.length_nil, Nat.reduceAdd, Nat.reduceLeDiff, Nat.reduceEqDiff, Nat.reduceSub, Int.reduceLE, Int.reduceLT, Int.reduceEq, Int.reduceNe, Int.reduceNeg, Int.reduceAdd, Int.reduceSub, Int.reduceMul, Int.reduceToNat, Nat.le_refl, Nat.zero_le, Nat.zero_add, Int.zero_add, Int.add_zero, and_true, true_and, and_false, false_and, not_true_eq_false, not_false_eq_true, eq_self, ne_eq, true_implies, false_implies, implies_true, or_true, true_or, or_false, false_or, reduceCtorEq, Option.some.injEq, Sum.inl.injEq, exists_eq_left', exists_eq_left, c2, c0, c1, c3, zite]
          repeat' (first | with_reducible apply And.intro | with_reducible intro _)
          all_goals first | omega | (exact call)
        · have fin := stop (fun q => hlt q.1) N hT hX
          simp only [↓rX7_read_38, ↓rX7_read_39, ↓rX7_read_40, ↓rX7_read_41, ↓rX7_read_44, ↓rX7_read_91, ↓rX7_read_92, ↓hg_fX7_134_38, ↓hg_fX7_134_40, ↓hg_fX7_134_42, ↓hg_fX7_134_44, ↓reduceIte, zkeep_n, zkeep_i, zkeep_r, zkeep_l, zup_eq, zIR, zLR, List.length_cons, List.length_nil, Nat.reduceAdd, Nat.reduceLeDiff, Nat.reduceEqDiff, Nat.reduceSub, Int.reduceLE, Int.reduceLT, Int.reduceEq, Int.reduceNe, Int.reduceNeg, Int.reduceAdd, Int.reduceSub, Int.reduceMul, Int.reduceToNat, Nat.le_refl, Nat.zero_le, Nat.zero_add, Int.zero_add, Int.add_zero, and_true, true_and, and_false, false_and, not_true_eq_false, not_false_eq_true, eq_self, ne_eq, true_implies, false_implies, implies_true, or_true, true_or, or_false, false_or, reduceCtorEq, Option.some.injEq, Sum.inl.injEq, exists_eq_left', exists_eq_left, c2, zite]
          repeat' (first | with_reducible apply And.intro | with_reducible intro _)
          all_goals first | omega | (exact fin)
    have st := L 21 0 S M (by decide) (by omega) h XF.rfl (fun _ _ _ => rfl) (fun _ _ _ => rfl) rfl
    simp only [↓eX7_read, ↓rX7_read_0, ↓rX7_read_1, ↓rX7_read_2, ↓rX7_read_5, ↓rX7_read_8, ↓rX7_read_10, ↓rX7_read_11, ↓rX7_read_12, ↓rX7_read_15, ↓rX7_read_16, ↓rX7_read_17, ↓rX7_read_18, ↓rX7_read_19, ↓rX7_read_22, ↓rX7_read_25, ↓rX7_read_26, ↓rX7_read_27, ↓rX7_read_30, ↓rX7_read_31, ↓rX7_read_32, ↓rX7_read_33, ↓rX7_read_34, ↓hg_fX7_44_0, ↓hrow_22, ↓i_finding, ↓i_isLost38, ↓i_isLost40, ↓i_isLost42, ↓i_isLost44, ↓i_outside, ↓reduceIte, ↓hrw, ↓hgd0, ↓hgd1, ↓hgd2, ↓hgd3, zkeep_n, zkeep_i, zkeep_r, zkeep_l, zIR, zLR, List.length_cons, List.length_nil, Nat.reduceAdd, Nat.reduceLeDiff, Nat.reduceEqDiff, Nat.reduceSub, Int.reduceLE, Int.reduceLT, Int.reduceEq, Int.reduceNe, Int.reduceNeg, Int.reduceAdd, Int.reduceSub, Int.reduceMul, Int.reduceToNat, Nat.le_refl, Nat.zero_le, Nat.zero_add, Int.zero_add, Int.add_zero, and_true, true_and, and_false, false_and, not_true_eq_false, not_false_eq_true, eq_self, ne_eq, true_implies, false_implies, implies_true, or_true, true_or, or_false, false_or, reduceCtorEq, Option.some.injEq, Sum.inl.injEq, exists_eq_left', exists_eq_left, e1, zite]
    repeat' (first | with_reducible apply And.intro | with_reducible intro _)
    all_goals first | omega | (exact st)
set_option maxRecDepth 100000 in
set_option maxHeartbeats 4000000 in
theorem x_read1 {S M : zM} {R : zP} (h : RX S M) (hR : ∀ M', RX (mRead S 1) M' → XF M M' → R (some (.inl (aRead S 1))) M') : tX7_read [.inr (.inr 0), .inl 1] M R := by
  unfold mRead aRead at hR
  have g0 : (0 : Int) ≤ 1 ∧ (1 : Int) < 4 := by decide
  rw [if_pos g0, if_pos g0] at hR
  obtain ⟨l1, l2, l3, l4⟩ := RX_L41 h
  by_cases e : S 12 1 = 0
  · rw [if_pos e, if_pos e] at hR
    have e1 := l2 e
    have fin := hR _ (RX_find h (by decide)) XF_find
    simp only [↓eX7_read, ↓rX7_read_0, ↓rX7_read_1, ↓rX7_read_2, ↓rX7_read_5, ↓rX7_read_8, ↓rX7_read_10, ↓rX7_read_11, ↓rX7_read_12, ↓rX7_read_15, ↓rX7_read_16, ↓rX7_read_17, ↓rX7_read_18, ↓rX7_read_19, ↓rX7_read_22, ↓rX7_read_25, ↓rX7_read_26, ↓rX7_read_27, ↓rX7_read_30, ↓rX7_read_31, ↓rX7_read_32, ↓rX7_read_33, ↓rX7_read_34, ↓rX7_read_36, ↓rX7_read_38, ↓rX7_read_39, ↓rX7_read_40, ↓rX7_read_41, ↓rX7_read_44, ↓rX7_read_47, ↓rX7_read_48, ↓rX7_read_49, ↓rX7_read_52, ↓rX7_read_54, ↓rX7_read_55, ↓rX7_read_56, ↓rX7_read_59, ↓rX7_read_61, ↓rX7_read_62, ↓rX7_read_63, ↓rX7_read_64, ↓rX7_read_65, ↓rX7_read_68, ↓rX7_read_70, ↓rX7_read_71, ↓rX7_read_72, ↓rX7_read_73, ↓rX7_read_91, ↓rX7_read_92, ↓hg_fX7_134_38, ↓hg_fX7_134_40, ↓hg_fX7_134_42, ↓hg_fX7_134_44, ↓hg_fX7_137_38, ↓hg_fX7_137_40, ↓hg_fX7_137_42, ↓hg_fX7_137_44, ↓hg_fX7_44_0, ↓hr_10, ↓hr_11, ↓hr_13, ↓hr_14, ↓hr_15, ↓hr_16, ↓hr_18, ↓hr_19, ↓hr_2, ↓hr_20, ↓hr_21, ↓hr_24, ↓hr_25, ↓hr_26, ↓hr_28, ↓hr_29, ↓hr_3, ↓hr_30, ↓hr_33, ↓hr_34, ↓hr_35, ↓hr_36, ↓hr_37, ↓hr_39, ↓hr_41, ↓hr_43, ↓hr_45, ↓hr_5, ↓hr_6, ↓hr_8, ↓hr_9, ↓hr_fX7_104, ↓hrow_22, ↓hw_10, ↓hw_11, ↓hw_13, ↓hw_14, ↓hw_15, ↓hw_16, ↓hw_18, ↓hw_19, ↓hw_2, ↓hw_20, ↓hw_21, ↓hw_24, ↓hw_25, ↓hw_26, ↓hw_28, ↓hw_29, ↓hw_3, ↓hw_30, ↓hw_33, ↓hw_34, ↓hw_35, ↓hw_36, ↓hw_37, ↓hw_39, ↓hw_41, ↓hw_43, ↓hw_45, ↓hw_5, ↓hw_6, ↓hw_8, ↓hw_9, ↓i_finding, ↓i_isLost38, ↓i_isLost40, ↓i_isLost42, ↓i_isLost44, ↓i_outside, ↓reduceIte, ↓hrw, ↓hgd0, ↓hgd1, ↓hgd2, ↓hgd3, zkeep_n, zkeep_i, zkeep_r, zkeep_l, zIR, zLR, List.length_cons, List.length_nil, Nat.reduceAdd, Nat.reduceLeDiff, Nat.reduceEqDiff, Nat.reduceSub, Int.reduceLE, Int.reduceLT, Int.reduceEq, Int.reduceNe, Int.reduceNeg, Int.reduceAdd, Int.reduceSub, Int.reduceMul, Int.reduceToNat, Nat.le_refl, Nat.zero_le, Nat.zero_add, Int.zero_add, Int.add_zero, and_true, true_and, and_false, false_and, not_true_eq_false, not_false_eq_true, eq_self, ne_eq, true_implies, false_implies, implies_true, or_true, true_or, or_false, false_or, reduceCtorEq, Option.some.injEq, Sum.inl.injEq, exists_eq_left', exists_eq_left, e1, zite]
    repeat' (first | with_reducible apply And.intro | with_reducible intro _)
    all_goals first | omega | (exact fin)
  · rw [if_neg e, if_neg e] at hR
    obtain ⟨l5, l6⟩ := l3 (by omega)
    have e1 := l5.1
    have e2 := l6.1
    have hR : ∀ M', RX (rdS (S 16) (S 14 1) 21 0 S).1 M' → XF M M' → R (some (.inl (rdS (S 16) (S 14 1) 21 0 S).2)) M' := hR
    generalize hit : S 16 = it at hR
    have L : ∀ (f n : Nat) (T N : zM), n + f = 21 → 3 * (n : Int) ≤ S 14 1 + 2 → RX T N → XF M N → (∀ k i, ¬ (3 ≤ k ∧ k ≤ 6) → T k i = S k i) → (∀ k i, 38 ≤ k → N k i = M k i) → rdS it (S 14 1) f n T = rdS it (S 14 1) 21 0 S → uX7_read R 36 [some (.inr (.inr 0)), some (.inl 1), some (.inr (.inr 40)), some (.inl (n : Int)), some (.inl (3 * (n : Int)))] [] N := by
      intro f
      induction f with
      | zero => intro n T N h1 h2; omega
      | succ f ih =>
        intro n T N h1 h2 hT hX hTS hN hrd
        have c2 : N 40 2 = S 14 1 := (hN _ _ (by decide)).trans e2
        have stop : ¬ (3 * (n : Int) + 2 < S 14 1 ∧ 0 < aFeed T (it (3 * n)) (it (3 * n + 1)) (it (3 * n + 2))) → ∀ N', RX T N' → XF M N' → R (some (.inl (n : Int))) N' := fun q N' q1 q2 => by
          rw [← hrd] at hR
          unfold rdS at hR
          rw [if_neg q] at hR
          exact hR N' q1 q2
        refine rX7_read_36.mpr ?_
        by_cases hlt : 3 * (n : Int) + 2 < S 14 1
        · have i0 := l4 (3 * n) (by omega) (by omega)
          have i1 := l4 (3 * n + 1) (by omega) (by omega)
          have i2 := l4 (3 * n + 2) (by omega) (by omega)
          rw [hit] at i0 i1 i2
          have c0 : N 41 (3 * n) = it (3 * n) := (hN _ _ (by decide)).trans i0.1
          have c1 : N 41 (3 * n + 1) = it (3 * n + 1) := (hN _ _ (by decide)).trans i1.1
          have c3 : N 41 (3 * n + 2) = it (3 * n + 2) := (hN _ _ (by decide)).trans i2.1
          have aR := aFeed_R hT.2.2.2.2.1.1 (it (3 * n)) (it (3 * n + 1)) (it (3 * n + 2))
          have call : zcv (zv 7 tX7_feed) [.inr (.inr 0), .inl (it (3 * n)), .inl (it (3 * n + 1)), .inl (it (3 * n + 2))] N (fun v M' => uX7_read R 76 [some (.inr (.inr 0)), some (.inl 1), some (.inr (.inr 40)), some (.inl (n : Int)), some (.inl (3 * (n : Int)))] [v] M') := by
            refine zcvv rfl (x_feed hT i0.2 i1.2 i2.2 (fun N' g1 g2 => ⟨_, rfl, ?_⟩))
            have xf : XF M N' := fun k i hk => (g2 k i (by omega)).trans (hX k i hk)
            have no : aFeed T (it (3 * n)) (it (3 * n + 1)) (it (3 * n + 2)) < 0 → R (some (.inl (n : Int))) N' := fun q => by
              refine stop (by omega) N' ?_ xf
              rw [aR.2.2.2 q] at g1
              exact g1
            have yes : ¬ aFeed T (it (3 * n)) (it (3 * n + 1)) (it (3 * n + 2)) < 0 → uX7_read R 36 [some (.inr (.inr 0)), some (.inl 1), some (.inr (.inr 40)), some (.inl ((n : Int) + 1)), some (.inl (3 * (n : Int) + 3))] [] N' := fun q => by
              have := ih (n + 1) (mFeed T (it (3 * n)) (it (3 * n + 1)) (it (3 * n + 2))) N' (by omega) (by omega) g1 xf (fun k i hk => (mFeed_ne hk).trans (hTS k i hk)) (fun k i hk => (g2 k i (by omega)).trans (hN k i hk)) (by
                rw [← hrd]
                conv => rhs; unfold rdS
                rw [if_pos ⟨hlt, by omega⟩]
                rfl)
              rw [show 3 * (n : Int) + 3 = 3 * ((n + 1 : Nat) : Int) by omega]
              exact this
            simp only [↓rX7_read_76, ↓rX7_read_79, ↓rX7_read_91, ↓rX7_read_92, ↓rX7_read_82, ↓rX7_read_85, ↓rX7_read_88, ↓reduceIte, zkeep_n, zkeep_i, zkeep_r, zkeep_l, zup_eq, zIR, zLR, List.length_cons, List.length_nil, Nat.reduceAdd, Nat.reduceLeDiff, Nat.reduceEqDiff, Nat.reduceSub, Int.reduceLE, Int.reduceLT, Int.reduceEq, Int.reduceNe, Int.reduceNeg, Int.reduceAdd, Int.reduceSub, Int.reduceMul, Int.reduceToNat, Nat.le_refl, Nat.zero_le, Nat.zero_add, Int.zero_add, Int.add_zero, and_true, true_and, and_false, false_and, not_true_eq_false, not_false_eq_true, eq_self, ne_eq, true_implies, false_implies, implies_true, or_true, true_or, or_false, false_or, reduceCtorEq, Option.some.injEq, Sum.inl.injEq, exists_eq_left', exists_eq_left, zite]
            repeat' (first | with_reducible apply And.intro | with_reducible intro _)
            all_goals first | omega | (exact no (by omega)) | (exact yes (by omega))
          simp only [↓rX7_read_38, ↓rX7_read_39, ↓rX7_read_40, ↓rX7_read_41, ↓rX7_read_44, ↓rX7_read_47, ↓rX7_read_48, ↓rX7_read_49, ↓rX7_read_52, ↓rX7_read_54, ↓rX7_read_55, ↓rX7_read_56, ↓rX7_read_59, ↓rX7_read_61, ↓rX7_read_62, ↓rX7_read_63, ↓rX7_read_64, ↓rX7_read_65, ↓rX7_read_68, ↓rX7_read_70, ↓rX7_read_71, ↓rX7_read_72, ↓rX7_read_73, ↓hg_fX7_134_38, ↓hg_fX7_134_40, ↓hg_fX7_134_42, ↓hg_fX7_134_44, ↓hg_fX7_137_38, ↓hg_fX7_137_40, ↓hg_fX7_137_42, ↓hg_fX7_137_44, ↓hr_10, ↓hr_11, ↓hr_13, ↓hr_14, ↓hr_15, ↓hr_16, ↓hr_18, ↓hr_19, ↓hr_2, ↓hr_20, ↓hr_21, ↓hr_24, ↓hr_25, ↓hr_26, ↓hr_28, ↓hr_29, ↓hr_3, ↓hr_30, ↓hr_33, ↓hr_34, ↓hr_35, ↓hr_36, ↓hr_37, ↓hr_39, ↓hr_41, ↓hr_43, ↓hr_45, ↓hr_5, ↓hr_6, ↓hr_8, ↓hr_9, ↓hr_fX7_104, ↓hw_10, ↓hw_11, ↓hw_13, ↓hw_14, ↓hw_15, ↓hw_16, ↓hw_18, ↓hw_19, ↓hw_2, ↓hw_20, ↓hw_21, ↓hw_24, ↓hw_25, ↓hw_26, ↓hw_28, ↓hw_29, ↓hw_3, ↓hw_30, ↓hw_33, ↓hw_34, ↓hw_35, ↓hw_36, ↓hw_37, ↓hw_39, ↓hw_41, ↓hw_43, ↓hw_45, ↓hw_5, ↓hw_6, ↓hw_8, ↓hw_9, ↓reduceIte, zkeep_n, zkeep_i, zkeep_r, zkeep_l, zup_eq, zIR, zLR, List.length_cons, List.length_nil, Nat.reduceAdd, Nat.reduceLeDiff, Nat.reduceEqDiff, Nat.reduceSub, Int.reduceLE, Int.reduceLT, Int.reduceEq, Int.reduceNe, Int.reduceNeg, Int.reduceAdd, Int.reduceSub, Int.reduceMul, Int.reduceToNat, Nat.le_refl, Nat.zero_le, Nat.zero_add, Int.zero_add, Int.add_zero, and_true, true_and, and_false, false_and, not_true_eq_false, not_false_eq_true, eq_self, ne_eq, true_implies, false_implies, implies_true, or_true, true_or, or_false, false_or, reduceCtorEq, Option.some.injEq, Sum.inl.injEq, exists_eq_left', exists_eq_left, c2, c0, c1, c3, zite]
          repeat' (first | with_reducible apply And.intro | with_reducible intro _)
          all_goals first | omega | (exact call)
        · have fin := stop (fun q => hlt q.1) N hT hX
          simp only [↓rX7_read_38, ↓rX7_read_39, ↓rX7_read_40, ↓rX7_read_41, ↓rX7_read_44, ↓rX7_read_91, ↓rX7_read_92, ↓hg_fX7_134_38, ↓hg_fX7_134_40, ↓hg_fX7_134_42, ↓hg_fX7_134_44, ↓reduceIte, zkeep_n, zkeep_i, zkeep_r, zkeep_l, zup_eq, zIR, zLR, List.length_cons, List.length_nil, Nat.reduceAdd, Nat.reduceLeDiff, Nat.reduceEqDiff, Nat.reduceSub, Int.reduceLE, Int.reduceLT, Int.reduceEq, Int.reduceNe, Int.reduceNeg, Int.reduceAdd, Int.reduceSub, Int.reduceMul, Int.reduceToNat, Nat.le_refl, Nat.zero_le, Nat.zero_add, Int.zero_add, Int.add_zero, and_true, true_and, and_false, false_and, not_true_eq_false, not_false_eq_true, eq_self, ne_eq, true_implies, false_implies, implies_true, or_true, true_or, or_false, false_or, reduceCtorEq, Option.some.injEq, Sum.inl.injEq, exists_eq_left', exists_eq_left, c2, zite]
          repeat' (first | with_reducible apply And.intro | with_reducible intro _)
          all_goals first | omega | (exact fin)
    have st := L 21 0 S M (by decide) (by omega) h XF.rfl (fun _ _ _ => rfl) (fun _ _ _ => rfl) rfl
    simp only [↓eX7_read, ↓rX7_read_0, ↓rX7_read_1, ↓rX7_read_2, ↓rX7_read_5, ↓rX7_read_8, ↓rX7_read_10, ↓rX7_read_11, ↓rX7_read_12, ↓rX7_read_15, ↓rX7_read_16, ↓rX7_read_17, ↓rX7_read_18, ↓rX7_read_19, ↓rX7_read_22, ↓rX7_read_25, ↓rX7_read_26, ↓rX7_read_27, ↓rX7_read_30, ↓rX7_read_31, ↓rX7_read_32, ↓rX7_read_33, ↓rX7_read_34, ↓hg_fX7_44_0, ↓hrow_22, ↓i_finding, ↓i_isLost38, ↓i_isLost40, ↓i_isLost42, ↓i_isLost44, ↓i_outside, ↓reduceIte, ↓hrw, ↓hgd0, ↓hgd1, ↓hgd2, ↓hgd3, zkeep_n, zkeep_i, zkeep_r, zkeep_l, zIR, zLR, List.length_cons, List.length_nil, Nat.reduceAdd, Nat.reduceLeDiff, Nat.reduceEqDiff, Nat.reduceSub, Int.reduceLE, Int.reduceLT, Int.reduceEq, Int.reduceNe, Int.reduceNeg, Int.reduceAdd, Int.reduceSub, Int.reduceMul, Int.reduceToNat, Nat.le_refl, Nat.zero_le, Nat.zero_add, Int.zero_add, Int.add_zero, and_true, true_and, and_false, false_and, not_true_eq_false, not_false_eq_true, eq_self, ne_eq, true_implies, false_implies, implies_true, or_true, true_or, or_false, false_or, reduceCtorEq, Option.some.injEq, Sum.inl.injEq, exists_eq_left', exists_eq_left, e1, zite]
    repeat' (first | with_reducible apply And.intro | with_reducible intro _)
    all_goals first | omega | (exact st)
set_option maxRecDepth 100000 in
set_option maxHeartbeats 4000000 in
theorem x_read2 {S M : zM} {R : zP} (h : RX S M) (hR : ∀ M', RX (mRead S 2) M' → XF M M' → R (some (.inl (aRead S 2))) M') : tX7_read [.inr (.inr 0), .inl 2] M R := by
  unfold mRead aRead at hR
  have g0 : (0 : Int) ≤ 2 ∧ (2 : Int) < 4 := by decide
  rw [if_pos g0, if_pos g0] at hR
  obtain ⟨l1, l2, l3, l4⟩ := RX_L42 h
  by_cases e : S 12 2 = 0
  · rw [if_pos e, if_pos e] at hR
    have e1 := l2 e
    have fin := hR _ (RX_find h (by decide)) XF_find
    simp only [↓eX7_read, ↓rX7_read_0, ↓rX7_read_1, ↓rX7_read_2, ↓rX7_read_5, ↓rX7_read_8, ↓rX7_read_10, ↓rX7_read_11, ↓rX7_read_12, ↓rX7_read_15, ↓rX7_read_16, ↓rX7_read_17, ↓rX7_read_18, ↓rX7_read_19, ↓rX7_read_22, ↓rX7_read_25, ↓rX7_read_26, ↓rX7_read_27, ↓rX7_read_30, ↓rX7_read_31, ↓rX7_read_32, ↓rX7_read_33, ↓rX7_read_34, ↓rX7_read_36, ↓rX7_read_38, ↓rX7_read_39, ↓rX7_read_40, ↓rX7_read_41, ↓rX7_read_44, ↓rX7_read_47, ↓rX7_read_48, ↓rX7_read_49, ↓rX7_read_52, ↓rX7_read_54, ↓rX7_read_55, ↓rX7_read_56, ↓rX7_read_59, ↓rX7_read_61, ↓rX7_read_62, ↓rX7_read_63, ↓rX7_read_64, ↓rX7_read_65, ↓rX7_read_68, ↓rX7_read_70, ↓rX7_read_71, ↓rX7_read_72, ↓rX7_read_73, ↓rX7_read_91, ↓rX7_read_92, ↓hg_fX7_134_38, ↓hg_fX7_134_40, ↓hg_fX7_134_42, ↓hg_fX7_134_44, ↓hg_fX7_137_38, ↓hg_fX7_137_40, ↓hg_fX7_137_42, ↓hg_fX7_137_44, ↓hg_fX7_44_0, ↓hr_10, ↓hr_11, ↓hr_13, ↓hr_14, ↓hr_15, ↓hr_16, ↓hr_18, ↓hr_19, ↓hr_2, ↓hr_20, ↓hr_21, ↓hr_24, ↓hr_25, ↓hr_26, ↓hr_28, ↓hr_29, ↓hr_3, ↓hr_30, ↓hr_33, ↓hr_34, ↓hr_35, ↓hr_36, ↓hr_37, ↓hr_39, ↓hr_41, ↓hr_43, ↓hr_45, ↓hr_5, ↓hr_6, ↓hr_8, ↓hr_9, ↓hr_fX7_104, ↓hrow_22, ↓hw_10, ↓hw_11, ↓hw_13, ↓hw_14, ↓hw_15, ↓hw_16, ↓hw_18, ↓hw_19, ↓hw_2, ↓hw_20, ↓hw_21, ↓hw_24, ↓hw_25, ↓hw_26, ↓hw_28, ↓hw_29, ↓hw_3, ↓hw_30, ↓hw_33, ↓hw_34, ↓hw_35, ↓hw_36, ↓hw_37, ↓hw_39, ↓hw_41, ↓hw_43, ↓hw_45, ↓hw_5, ↓hw_6, ↓hw_8, ↓hw_9, ↓i_finding, ↓i_isLost38, ↓i_isLost40, ↓i_isLost42, ↓i_isLost44, ↓i_outside, ↓reduceIte, ↓hrw, ↓hgd0, ↓hgd1, ↓hgd2, ↓hgd3, zkeep_n, zkeep_i, zkeep_r, zkeep_l, zIR, zLR, List.length_cons, List.length_nil, Nat.reduceAdd, Nat.reduceLeDiff, Nat.reduceEqDiff, Nat.reduceSub, Int.reduceLE, Int.reduceLT, Int.reduceEq, Int.reduceNe, Int.reduceNeg, Int.reduceAdd, Int.reduceSub, Int.reduceMul, Int.reduceToNat, Nat.le_refl, Nat.zero_le, Nat.zero_add, Int.zero_add, Int.add_zero, and_true, true_and, and_false, false_and, not_true_eq_false, not_false_eq_true, eq_self, ne_eq, true_implies, false_implies, implies_true, or_true, true_or, or_false, false_or, reduceCtorEq, Option.some.injEq, Sum.inl.injEq, exists_eq_left', exists_eq_left, e1, zite]
    repeat' (first | with_reducible apply And.intro | with_reducible intro _)
    all_goals first | omega | (exact fin)
  · rw [if_neg e, if_neg e] at hR
    obtain ⟨l5, l6⟩ := l3 (by omega)
    have e1 := l5.1
    have e2 := l6.1
    have hR : ∀ M', RX (rdS (S 17) (S 14 2) 21 0 S).1 M' → XF M M' → R (some (.inl (rdS (S 17) (S 14 2) 21 0 S).2)) M' := hR
    generalize hit : S 17 = it at hR
    have L : ∀ (f n : Nat) (T N : zM), n + f = 21 → 3 * (n : Int) ≤ S 14 2 + 2 → RX T N → XF M N → (∀ k i, ¬ (3 ≤ k ∧ k ≤ 6) → T k i = S k i) → (∀ k i, 38 ≤ k → N k i = M k i) → rdS it (S 14 2) f n T = rdS it (S 14 2) 21 0 S → uX7_read R 36 [some (.inr (.inr 0)), some (.inl 2), some (.inr (.inr 42)), some (.inl (n : Int)), some (.inl (3 * (n : Int)))] [] N := by
      intro f
      induction f with
      | zero => intro n T N h1 h2; omega
      | succ f ih =>
        intro n T N h1 h2 hT hX hTS hN hrd
        have c2 : N 42 2 = S 14 2 := (hN _ _ (by decide)).trans e2
        have stop : ¬ (3 * (n : Int) + 2 < S 14 2 ∧ 0 < aFeed T (it (3 * n)) (it (3 * n + 1)) (it (3 * n + 2))) → ∀ N', RX T N' → XF M N' → R (some (.inl (n : Int))) N' := fun q N' q1 q2 => by
          rw [← hrd] at hR
          unfold rdS at hR
          rw [if_neg q] at hR
          exact hR N' q1 q2
        refine rX7_read_36.mpr ?_
        by_cases hlt : 3 * (n : Int) + 2 < S 14 2
        · have i0 := l4 (3 * n) (by omega) (by omega)
          have i1 := l4 (3 * n + 1) (by omega) (by omega)
          have i2 := l4 (3 * n + 2) (by omega) (by omega)
          rw [hit] at i0 i1 i2
          have c0 : N 43 (3 * n) = it (3 * n) := (hN _ _ (by decide)).trans i0.1
          have c1 : N 43 (3 * n + 1) = it (3 * n + 1) := (hN _ _ (by decide)).trans i1.1
          have c3 : N 43 (3 * n + 2) = it (3 * n + 2) := (hN _ _ (by decide)).trans i2.1
          have aR := aFeed_R hT.2.2.2.2.1.1 (it (3 * n)) (it (3 * n + 1)) (it (3 * n + 2))
          have call : zcv (zv 7 tX7_feed) [.inr (.inr 0), .inl (it (3 * n)), .inl (it (3 * n + 1)), .inl (it (3 * n + 2))] N (fun v M' => uX7_read R 76 [some (.inr (.inr 0)), some (.inl 2), some (.inr (.inr 42)), some (.inl (n : Int)), some (.inl (3 * (n : Int)))] [v] M') := by
            refine zcvv rfl (x_feed hT i0.2 i1.2 i2.2 (fun N' g1 g2 => ⟨_, rfl, ?_⟩))
            have xf : XF M N' := fun k i hk => (g2 k i (by omega)).trans (hX k i hk)
            have no : aFeed T (it (3 * n)) (it (3 * n + 1)) (it (3 * n + 2)) < 0 → R (some (.inl (n : Int))) N' := fun q => by
              refine stop (by omega) N' ?_ xf
              rw [aR.2.2.2 q] at g1
              exact g1
            have yes : ¬ aFeed T (it (3 * n)) (it (3 * n + 1)) (it (3 * n + 2)) < 0 → uX7_read R 36 [some (.inr (.inr 0)), some (.inl 2), some (.inr (.inr 42)), some (.inl ((n : Int) + 1)), some (.inl (3 * (n : Int) + 3))] [] N' := fun q => by
              have := ih (n + 1) (mFeed T (it (3 * n)) (it (3 * n + 1)) (it (3 * n + 2))) N' (by omega) (by omega) g1 xf (fun k i hk => (mFeed_ne hk).trans (hTS k i hk)) (fun k i hk => (g2 k i (by omega)).trans (hN k i hk)) (by
                rw [← hrd]
                conv => rhs; unfold rdS
                rw [if_pos ⟨hlt, by omega⟩]
                rfl)
              rw [show 3 * (n : Int) + 3 = 3 * ((n + 1 : Nat) : Int) by omega]
              exact this
            simp only [↓rX7_read_76, ↓rX7_read_79, ↓rX7_read_91, ↓rX7_read_92, ↓rX7_read_82, ↓rX7_read_85, ↓rX7_read_88, ↓reduceIte, zkeep_n, zkeep_i, zkeep_r, zkeep_l, zup_eq, zIR, zLR, List.length_cons, List.length_nil, Nat.reduceAdd, Nat.reduceLeDiff, Nat.reduceEqDiff, Nat.reduceSub, Int.reduceLE, Int.reduceLT, Int.reduceEq, Int.reduceNe, Int.reduceNeg, Int.reduceAdd, Int.reduceSub, Int.reduceMul, Int.reduceToNat, Nat.le_refl, Nat.zero_le, Nat.zero_add, Int.zero_add, Int.add_zero, and_true, true_and, and_false, false_and, not_true_eq_false, not_false_eq_true, eq_self, ne_eq, true_implies, false_implies, implies_true, or_true, true_or, or_false, false_or, reduceCtorEq, Option.some.injEq, Sum.inl.injEq, exists_eq_left', exists_eq_left, zite]
            repeat' (first | with_reducible apply And.intro | with_reducible intro _)
            all_goals first | omega | (exact no (by omega)) | (exact yes (by omega))
          simp only [↓rX7_read_38, ↓rX7_read_39, ↓rX7_read_40, ↓rX7_read_41, ↓rX7_read_44, ↓rX7_read_47, ↓rX7_read_48, ↓rX7_read_49, ↓rX7_read_52, ↓rX7_read_54, ↓rX7_read_55, ↓rX7_read_56, ↓rX7_read_59, ↓rX7_read_61, ↓rX7_read_62, ↓rX7_read_63, ↓rX7_read_64, ↓rX7_read_65, ↓rX7_read_68, ↓rX7_read_70, ↓rX7_read_71, ↓rX7_read_72, ↓rX7_read_73, ↓hg_fX7_134_38, ↓hg_fX7_134_40, ↓hg_fX7_134_42, ↓hg_fX7_134_44, ↓hg_fX7_137_38, ↓hg_fX7_137_40, ↓hg_fX7_137_42, ↓hg_fX7_137_44, ↓hr_10, ↓hr_11, ↓hr_13, ↓hr_14, ↓hr_15, ↓hr_16, ↓hr_18, ↓hr_19, ↓hr_2, ↓hr_20, ↓hr_21, ↓hr_24, ↓hr_25, ↓hr_26, ↓hr_28, ↓hr_29, ↓hr_3, ↓hr_30, ↓hr_33, ↓hr_34, ↓hr_35, ↓hr_36, ↓hr_37, ↓hr_39, ↓hr_41, ↓hr_43, ↓hr_45, ↓hr_5, ↓hr_6, ↓hr_8, ↓hr_9, ↓hr_fX7_104, ↓hw_10, ↓hw_11, ↓hw_13, ↓hw_14, ↓hw_15, ↓hw_16, ↓hw_18, ↓hw_19, ↓hw_2, ↓hw_20, ↓hw_21, ↓hw_24, ↓hw_25, ↓hw_26, ↓hw_28, ↓hw_29, ↓hw_3, ↓hw_30, ↓hw_33, ↓hw_34, ↓hw_35, ↓hw_36, ↓hw_37, ↓hw_39, ↓hw_41, ↓hw_43, ↓hw_45, ↓hw_5, ↓hw_6, ↓hw_8, ↓hw_9, ↓reduceIte, zkeep_n, zkeep_i, zkeep_r, zkeep_l, zup_eq, zIR, zLR, List.length_cons, List.length_nil, Nat.reduceAdd, Nat.reduceLeDiff, Nat.reduceEqDiff, Nat.reduceSub, Int.reduceLE, Int.reduceLT, Int.reduceEq, Int.reduceNe, Int.reduceNeg, Int.reduceAdd, Int.reduceSub, Int.reduceMul, Int.reduceToNat, Nat.le_refl, Nat.zero_le, Nat.zero_add, Int.zero_add, Int.add_zero, and_true, true_and, and_false, false_and, not_true_eq_false, not_false_eq_true, eq_self, ne_eq, true_implies, false_implies, implies_true, or_true, true_or, or_false, false_or, reduceCtorEq, Option.some.injEq, Sum.inl.injEq, exists_eq_left', exists_eq_left, c2, c0, c1, c3, zite]
          repeat' (first | with_reducible apply And.intro | with_reducible intro _)
          all_goals first | omega | (exact call)
        · have fin := stop (fun q => hlt q.1) N hT hX
          simp only [↓rX7_read_38, ↓rX7_read_39, ↓rX7_read_40, ↓rX7_read_41, ↓rX7_read_44, ↓rX7_read_91, ↓rX7_read_92, ↓hg_fX7_134_38, ↓hg_fX7_134_40, ↓hg_fX7_134_42, ↓hg_fX7_134_44, ↓reduceIte, zkeep_n, zkeep_i, zkeep_r, zkeep_l, zup_eq, zIR, zLR, List.length_cons, List.length_nil, Nat.reduceAdd, Nat.reduceLeDiff, Nat.reduceEqDiff, Nat.reduceSub, Int.reduceLE, Int.reduceLT, Int.reduceEq, Int.reduceNe, Int.reduceNeg, Int.reduceAdd, Int.reduceSub, Int.reduceMul, Int.reduceToNat, Nat.le_refl, Nat.zero_le, Nat.zero_add, Int.zero_add, Int.add_zero, and_true, true_and, and_false, false_and, not_true_eq_false, not_false_eq_true, eq_self, ne_eq, true_implies, false_implies, implies_true, or_true, true_or, or_false, false_or, reduceCtorEq, Option.some.injEq, Sum.inl.injEq, exists_eq_left', exists_eq_left, c2, zite]
          repeat' (first | with_reducible apply And.intro | with_reducible intro _)
          all_goals first | omega | (exact fin)
    have st := L 21 0 S M (by decide) (by omega) h XF.rfl (fun _ _ _ => rfl) (fun _ _ _ => rfl) rfl
    simp only [↓eX7_read, ↓rX7_read_0, ↓rX7_read_1, ↓rX7_read_2, ↓rX7_read_5, ↓rX7_read_8, ↓rX7_read_10, ↓rX7_read_11, ↓rX7_read_12, ↓rX7_read_15, ↓rX7_read_16, ↓rX7_read_17, ↓rX7_read_18, ↓rX7_read_19, ↓rX7_read_22, ↓rX7_read_25, ↓rX7_read_26, ↓rX7_read_27, ↓rX7_read_30, ↓rX7_read_31, ↓rX7_read_32, ↓rX7_read_33, ↓rX7_read_34, ↓hg_fX7_44_0, ↓hrow_22, ↓i_finding, ↓i_isLost38, ↓i_isLost40, ↓i_isLost42, ↓i_isLost44, ↓i_outside, ↓reduceIte, ↓hrw, ↓hgd0, ↓hgd1, ↓hgd2, ↓hgd3, zkeep_n, zkeep_i, zkeep_r, zkeep_l, zIR, zLR, List.length_cons, List.length_nil, Nat.reduceAdd, Nat.reduceLeDiff, Nat.reduceEqDiff, Nat.reduceSub, Int.reduceLE, Int.reduceLT, Int.reduceEq, Int.reduceNe, Int.reduceNeg, Int.reduceAdd, Int.reduceSub, Int.reduceMul, Int.reduceToNat, Nat.le_refl, Nat.zero_le, Nat.zero_add, Int.zero_add, Int.add_zero, and_true, true_and, and_false, false_and, not_true_eq_false, not_false_eq_true, eq_self, ne_eq, true_implies, false_implies, implies_true, or_true, true_or, or_false, false_or, reduceCtorEq, Option.some.injEq, Sum.inl.injEq, exists_eq_left', exists_eq_left, e1, zite]
    repeat' (first | with_reducible apply And.intro | with_reducible intro _)
    all_goals first | omega | (exact st)
set_option maxRecDepth 100000 in
set_option maxHeartbeats 4000000 in
theorem x_read3 {S M : zM} {R : zP} (h : RX S M) (hR : ∀ M', RX (mRead S 3) M' → XF M M' → R (some (.inl (aRead S 3))) M') : tX7_read [.inr (.inr 0), .inl 3] M R := by
  unfold mRead aRead at hR
  have g0 : (0 : Int) ≤ 3 ∧ (3 : Int) < 4 := by decide
  rw [if_pos g0, if_pos g0] at hR
  obtain ⟨l1, l2, l3, l4⟩ := RX_L43 h
  by_cases e : S 12 3 = 0
  · rw [if_pos e, if_pos e] at hR
    have e1 := l2 e
    have fin := hR _ (RX_find h (by decide)) XF_find
    simp only [↓eX7_read, ↓rX7_read_0, ↓rX7_read_1, ↓rX7_read_2, ↓rX7_read_5, ↓rX7_read_8, ↓rX7_read_10, ↓rX7_read_11, ↓rX7_read_12, ↓rX7_read_15, ↓rX7_read_16, ↓rX7_read_17, ↓rX7_read_18, ↓rX7_read_19, ↓rX7_read_22, ↓rX7_read_25, ↓rX7_read_26, ↓rX7_read_27, ↓rX7_read_30, ↓rX7_read_31, ↓rX7_read_32, ↓rX7_read_33, ↓rX7_read_34, ↓rX7_read_36, ↓rX7_read_38, ↓rX7_read_39, ↓rX7_read_40, ↓rX7_read_41, ↓rX7_read_44, ↓rX7_read_47, ↓rX7_read_48, ↓rX7_read_49, ↓rX7_read_52, ↓rX7_read_54, ↓rX7_read_55, ↓rX7_read_56, ↓rX7_read_59, ↓rX7_read_61, ↓rX7_read_62, ↓rX7_read_63, ↓rX7_read_64, ↓rX7_read_65, ↓rX7_read_68, ↓rX7_read_70, ↓rX7_read_71, ↓rX7_read_72, ↓rX7_read_73, ↓rX7_read_91, ↓rX7_read_92, ↓hg_fX7_134_38, ↓hg_fX7_134_40, ↓hg_fX7_134_42, ↓hg_fX7_134_44, ↓hg_fX7_137_38, ↓hg_fX7_137_40, ↓hg_fX7_137_42, ↓hg_fX7_137_44, ↓hg_fX7_44_0, ↓hr_10, ↓hr_11, ↓hr_13, ↓hr_14, ↓hr_15, ↓hr_16, ↓hr_18, ↓hr_19, ↓hr_2, ↓hr_20, ↓hr_21, ↓hr_24, ↓hr_25, ↓hr_26, ↓hr_28, ↓hr_29, ↓hr_3, ↓hr_30, ↓hr_33, ↓hr_34, ↓hr_35, ↓hr_36, ↓hr_37, ↓hr_39, ↓hr_41, ↓hr_43, ↓hr_45, ↓hr_5, ↓hr_6, ↓hr_8, ↓hr_9, ↓hr_fX7_104, ↓hrow_22, ↓hw_10, ↓hw_11, ↓hw_13, ↓hw_14, ↓hw_15, ↓hw_16, ↓hw_18, ↓hw_19, ↓hw_2, ↓hw_20, ↓hw_21, ↓hw_24, ↓hw_25, ↓hw_26, ↓hw_28, ↓hw_29, ↓hw_3, ↓hw_30, ↓hw_33, ↓hw_34, ↓hw_35, ↓hw_36, ↓hw_37, ↓hw_39, ↓hw_41, ↓hw_43, ↓hw_45, ↓hw_5, ↓hw_6, ↓hw_8, ↓hw_9, ↓i_finding, ↓i_isLost38, ↓i_isLost40, ↓i_isLost42, ↓i_isLost44, ↓i_outside, ↓reduceIte, ↓hrw, ↓hgd0, ↓hgd1, ↓hgd2, ↓hgd3, zkeep_n, zkeep_i, zkeep_r, zkeep_l, zIR, zLR, List.length_cons, List.length_nil, Nat.reduceAdd, Nat.reduceLeDiff, Nat.reduceEqDiff, Nat.reduceSub, Int.reduceLE, Int.reduceLT, Int.reduceEq, Int.reduceNe, Int.reduceNeg, Int.reduceAdd, Int.reduceSub, Int.reduceMul, Int.reduceToNat, Nat.le_refl, Nat.zero_le, Nat.zero_add, Int.zero_add, Int.add_zero, and_true, true_and, and_false, false_and, not_true_eq_false, not_false_eq_true, eq_self, ne_eq, true_implies, false_implies, implies_true, or_true, true_or, or_false, false_or, reduceCtorEq, Option.some.injEq, Sum.inl.injEq, exists_eq_left', exists_eq_left, e1, zite]
    repeat' (first | with_reducible apply And.intro | with_reducible intro _)
    all_goals first | omega | (exact fin)
  · rw [if_neg e, if_neg e] at hR
    obtain ⟨l5, l6⟩ := l3 (by omega)
    have e1 := l5.1
    have e2 := l6.1
    have hR : ∀ M', RX (rdS (S 18) (S 14 3) 21 0 S).1 M' → XF M M' → R (some (.inl (rdS (S 18) (S 14 3) 21 0 S).2)) M' := hR
    generalize hit : S 18 = it at hR
    have L : ∀ (f n : Nat) (T N : zM), n + f = 21 → 3 * (n : Int) ≤ S 14 3 + 2 → RX T N → XF M N → (∀ k i, ¬ (3 ≤ k ∧ k ≤ 6) → T k i = S k i) → (∀ k i, 38 ≤ k → N k i = M k i) → rdS it (S 14 3) f n T = rdS it (S 14 3) 21 0 S → uX7_read R 36 [some (.inr (.inr 0)), some (.inl 3), some (.inr (.inr 44)), some (.inl (n : Int)), some (.inl (3 * (n : Int)))] [] N := by
      intro f
      induction f with
      | zero => intro n T N h1 h2; omega
      | succ f ih =>
        intro n T N h1 h2 hT hX hTS hN hrd
        have c2 : N 44 2 = S 14 3 := (hN _ _ (by decide)).trans e2
        have stop : ¬ (3 * (n : Int) + 2 < S 14 3 ∧ 0 < aFeed T (it (3 * n)) (it (3 * n + 1)) (it (3 * n + 2))) → ∀ N', RX T N' → XF M N' → R (some (.inl (n : Int))) N' := fun q N' q1 q2 => by
          rw [← hrd] at hR
          unfold rdS at hR
          rw [if_neg q] at hR
          exact hR N' q1 q2
        refine rX7_read_36.mpr ?_
        by_cases hlt : 3 * (n : Int) + 2 < S 14 3
        · have i0 := l4 (3 * n) (by omega) (by omega)
          have i1 := l4 (3 * n + 1) (by omega) (by omega)
          have i2 := l4 (3 * n + 2) (by omega) (by omega)
          rw [hit] at i0 i1 i2
          have c0 : N 45 (3 * n) = it (3 * n) := (hN _ _ (by decide)).trans i0.1
          have c1 : N 45 (3 * n + 1) = it (3 * n + 1) := (hN _ _ (by decide)).trans i1.1
          have c3 : N 45 (3 * n + 2) = it (3 * n + 2) := (hN _ _ (by decide)).trans i2.1
          have aR := aFeed_R hT.2.2.2.2.1.1 (it (3 * n)) (it (3 * n + 1)) (it (3 * n + 2))
          have call : zcv (zv 7 tX7_feed) [.inr (.inr 0), .inl (it (3 * n)), .inl (it (3 * n + 1)), .inl (it (3 * n + 2))] N (fun v M' => uX7_read R 76 [some (.inr (.inr 0)), some (.inl 3), some (.inr (.inr 44)), some (.inl (n : Int)), some (.inl (3 * (n : Int)))] [v] M') := by
            refine zcvv rfl (x_feed hT i0.2 i1.2 i2.2 (fun N' g1 g2 => ⟨_, rfl, ?_⟩))
            have xf : XF M N' := fun k i hk => (g2 k i (by omega)).trans (hX k i hk)
            have no : aFeed T (it (3 * n)) (it (3 * n + 1)) (it (3 * n + 2)) < 0 → R (some (.inl (n : Int))) N' := fun q => by
              refine stop (by omega) N' ?_ xf
              rw [aR.2.2.2 q] at g1
              exact g1
            have yes : ¬ aFeed T (it (3 * n)) (it (3 * n + 1)) (it (3 * n + 2)) < 0 → uX7_read R 36 [some (.inr (.inr 0)), some (.inl 3), some (.inr (.inr 44)), some (.inl ((n : Int) + 1)), some (.inl (3 * (n : Int) + 3))] [] N' := fun q => by
              have := ih (n + 1) (mFeed T (it (3 * n)) (it (3 * n + 1)) (it (3 * n + 2))) N' (by omega) (by omega) g1 xf (fun k i hk => (mFeed_ne hk).trans (hTS k i hk)) (fun k i hk => (g2 k i (by omega)).trans (hN k i hk)) (by
                rw [← hrd]
                conv => rhs; unfold rdS
                rw [if_pos ⟨hlt, by omega⟩]
                rfl)
              rw [show 3 * (n : Int) + 3 = 3 * ((n + 1 : Nat) : Int) by omega]
              exact this
            simp only [↓rX7_read_76, ↓rX7_read_79, ↓rX7_read_91, ↓rX7_read_92, ↓rX7_read_82, ↓rX7_read_85, ↓rX7_read_88, ↓reduceIte, zkeep_n, zkeep_i, zkeep_r, zkeep_l, zup_eq, zIR, zLR, List.length_cons, List.length_nil, Nat.reduceAdd, Nat.reduceLeDiff, Nat.reduceEqDiff, Nat.reduceSub, Int.reduceLE, Int.reduceLT, Int.reduceEq, Int.reduceNe, Int.reduceNeg, Int.reduceAdd, Int.reduceSub, Int.reduceMul, Int.reduceToNat, Nat.le_refl, Nat.zero_le, Nat.zero_add, Int.zero_add, Int.add_zero, and_true, true_and, and_false, false_and, not_true_eq_false, not_false_eq_true, eq_self, ne_eq, true_implies, false_implies, implies_true, or_true, true_or, or_false, false_or, reduceCtorEq, Option.some.injEq, Sum.inl.injEq, exists_eq_left', exists_eq_left, zite]
            repeat' (first | with_reducible apply And.intro | with_reducible intro _)
            all_goals first | omega | (exact no (by omega)) | (exact yes (by omega))
          simp only [↓rX7_read_38, ↓rX7_read_39, ↓rX7_read_40, ↓rX7_read_41, ↓rX7_read_44, ↓rX7_read_47, ↓rX7_read_48, ↓rX7_read_49, ↓rX7_read_52, ↓rX7_read_54, ↓rX7_read_55, ↓rX7_read_56, ↓rX7_read_59, ↓rX7_read_61, ↓rX7_read_62, ↓rX7_read_63, ↓rX7_read_64, ↓rX7_read_65, ↓rX7_read_68, ↓rX7_read_70, ↓rX7_read_71, ↓rX7_read_72, ↓rX7_read_73, ↓hg_fX7_134_38, ↓hg_fX7_134_40, ↓hg_fX7_134_42, ↓hg_fX7_134_44, ↓hg_fX7_137_38, ↓hg_fX7_137_40, ↓hg_fX7_137_42, ↓hg_fX7_137_44, ↓hr_10, ↓hr_11, ↓hr_13, ↓hr_14, ↓hr_15, ↓hr_16, ↓hr_18, ↓hr_19, ↓hr_2, ↓hr_20, ↓hr_21, ↓hr_24, ↓hr_25, ↓hr_26, ↓hr_28, ↓hr_29, ↓hr_3, ↓hr_30, ↓hr_33, ↓hr_34, ↓hr_35, ↓hr_36, ↓hr_37, ↓hr_39, ↓hr_41, ↓hr_43, ↓hr_45, ↓hr_5, ↓hr_6, ↓hr_8, ↓hr_9, ↓hr_fX7_104, ↓hw_10, ↓hw_11, ↓hw_13, ↓hw_14, ↓hw_15, ↓hw_16, ↓hw_18, ↓hw_19, ↓hw_2, ↓hw_20, ↓hw_21, ↓hw_24, ↓hw_25, ↓hw_26, ↓hw_28, ↓hw_29, ↓hw_3, ↓hw_30, ↓hw_33, ↓hw_34, ↓hw_35, ↓hw_36, ↓hw_37, ↓hw_39, ↓hw_41, ↓hw_43, ↓hw_45, ↓hw_5, ↓hw_6, ↓hw_8, ↓hw_9, ↓reduceIte, zkeep_n, zkeep_i, zkeep_r, zkeep_l, zup_eq, zIR, zLR, List.length_cons, List.length_nil, Nat.reduceAdd, Nat.reduceLeDiff, Nat.reduceEqDiff, Nat.reduceSub, Int.reduceLE, Int.reduceLT, Int.reduceEq, Int.reduceNe, Int.reduceNeg, Int.reduceAdd, Int.reduceSub, Int.reduceMul, Int.reduceToNat, Nat.le_refl, Nat.zero_le, Nat.zero_add, Int.zero_add, Int.add_zero, and_true, true_and, and_false, false_and, not_true_eq_false, not_false_eq_true, eq_self, ne_eq, true_implies, false_implies, implies_true, or_true, true_or, or_false, false_or, reduceCtorEq, Option.some.injEq, Sum.inl.injEq, exists_eq_left', exists_eq_left, c2, c0, c1, c3, zite]
          repeat' (first | with_reducible apply And.intro | with_reducible intro _)
          all_goals first | omega | (exact call)
        · have fin := stop (fun q => hlt q.1) N hT hX
          simp only [↓rX7_read_38, ↓rX7_read_39, ↓rX7_read_40, ↓rX7_read_41, ↓rX7_read_44, ↓rX7_read_91, ↓rX7_read_92, ↓hg_fX7_134_38, ↓hg_fX7_134_40, ↓hg_fX7_134_42, ↓hg_fX7_134_44, ↓reduceIte, zkeep_n, zkeep_i, zkeep_r, zkeep_l, zup_eq, zIR, zLR, List.length_cons, List.length_nil, Nat.reduceAdd, Nat.reduceLeDiff, Nat.reduceEqDiff, Nat.reduceSub, Int.reduceLE, Int.reduceLT, Int.reduceEq, Int.reduceNe, Int.reduceNeg, Int.reduceAdd, Int.reduceSub, Int.reduceMul, Int.reduceToNat, Nat.le_refl, Nat.zero_le, Nat.zero_add, Int.zero_add, Int.add_zero, and_true, true_and, and_false, false_and, not_true_eq_false, not_false_eq_true, eq_self, ne_eq, true_implies, false_implies, implies_true, or_true, true_or, or_false, false_or, reduceCtorEq, Option.some.injEq, Sum.inl.injEq, exists_eq_left', exists_eq_left, c2, zite]
          repeat' (first | with_reducible apply And.intro | with_reducible intro _)
          all_goals first | omega | (exact fin)
    have st := L 21 0 S M (by decide) (by omega) h XF.rfl (fun _ _ _ => rfl) (fun _ _ _ => rfl) rfl
    simp only [↓eX7_read, ↓rX7_read_0, ↓rX7_read_1, ↓rX7_read_2, ↓rX7_read_5, ↓rX7_read_8, ↓rX7_read_10, ↓rX7_read_11, ↓rX7_read_12, ↓rX7_read_15, ↓rX7_read_16, ↓rX7_read_17, ↓rX7_read_18, ↓rX7_read_19, ↓rX7_read_22, ↓rX7_read_25, ↓rX7_read_26, ↓rX7_read_27, ↓rX7_read_30, ↓rX7_read_31, ↓rX7_read_32, ↓rX7_read_33, ↓rX7_read_34, ↓hg_fX7_44_0, ↓hrow_22, ↓i_finding, ↓i_isLost38, ↓i_isLost40, ↓i_isLost42, ↓i_isLost44, ↓i_outside, ↓reduceIte, ↓hrw, ↓hgd0, ↓hgd1, ↓hgd2, ↓hgd3, zkeep_n, zkeep_i, zkeep_r, zkeep_l, zIR, zLR, List.length_cons, List.length_nil, Nat.reduceAdd, Nat.reduceLeDiff, Nat.reduceEqDiff, Nat.reduceSub, Int.reduceLE, Int.reduceLT, Int.reduceEq, Int.reduceNe, Int.reduceNeg, Int.reduceAdd, Int.reduceSub, Int.reduceMul, Int.reduceToNat, Nat.le_refl, Nat.zero_le, Nat.zero_add, Int.zero_add, Int.add_zero, and_true, true_and, and_false, false_and, not_true_eq_false, not_false_eq_true, eq_self, ne_eq, true_implies, false_implies, implies_true, or_true, true_or, or_false, false_or, reduceCtorEq, Option.some.injEq, Sum.inl.injEq, exists_eq_left', exists_eq_left, e1, zite]
    repeat' (first | with_reducible apply And.intro | with_reducible intro _)
    all_goals first | omega | (exact st)
set_option maxRecDepth 100000 in
set_option maxHeartbeats 4000000 in
theorem x_read {S M : zM} {R : zP} {s : Int} (h : RX S M) (z1 : zIR s) (hR : ∀ M', RX (mRead S s) M' → XF M M' → R (some (.inl (aRead S s))) M') : tX7_read [.inr (.inr 0), .inl s] M R := by
  by_cases hs : 0 ≤ s ∧ s < 4
  · have e : s = 0 ∨ s = 1 ∨ s = 2 ∨ s = 3 := by omega
    rcases e with rfl | rfl | rfl | rfl
    · exact x_read0 h hR
    · exact x_read1 h hR
    · exact x_read2 h hR
    · exact x_read3 h hR
  · have fin := hR M (by unfold mRead; rw [if_neg hs]; exact h) XF.rfl
    unfold aRead at fin
    rw [if_neg hs] at fin
    unfold zIR at z1
    simp only [↓eX7_read, ↓rX7_read_0, ↓rX7_read_1, ↓rX7_read_2, ↓rX7_read_5, ↓rX7_read_8, ↓rX7_read_10, ↓i_outside, ↓reduceIte, zkeep_n, zkeep_i, zkeep_r, zkeep_l, zup_eq, zIR, zLR, List.length_cons, List.length_nil, Nat.reduceAdd, Nat.reduceLeDiff, Nat.reduceEqDiff, Nat.reduceSub, Int.reduceLE, Int.reduceLT, Int.reduceEq, Int.reduceNe, Int.reduceNeg, Int.reduceAdd, Int.reduceSub, Int.reduceMul, Int.reduceToNat, Nat.le_refl, Nat.zero_le, Nat.zero_add, Int.zero_add, Int.add_zero, and_true, true_and, and_false, false_and, not_true_eq_false, not_false_eq_true, eq_self, ne_eq, true_implies, false_implies, implies_true, or_true, true_or, or_false, false_or, reduceCtorEq, Option.some.injEq, Sum.inl.injEq, exists_eq_left', exists_eq_left, zite]
    repeat' (first | with_reducible apply And.intro | with_reducible intro _)
    all_goals first | omega | (exact fin)
