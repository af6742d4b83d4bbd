def mn20 (n : Int) : Int := if 20 < n then 20 else n
def aWrite (S : zM) (me qu s : Int) : Int := if (0 ≤ me ∧ me < qn S 0) ∧ (0 ≤ qu ∧ qu < 4) ∧ (0 ≤ s ∧ s < 4) then (if S 12 s = 0 then -11 else mn20 (S 14 s)) else -2
def nWrite (S : zM) (me qu s : Int) : zM := fun k x => if k = 15 + s.toNat ∧ 0 ≤ x ∧ x < mn20 (S 14 s) then wV S me x.toNat qu else S k x
def mWrite (S : zM) (me qu s : Int) : zM := if (0 ≤ me ∧ me < qn S 0) ∧ (0 ≤ qu ∧ qu < 4) ∧ (0 ≤ s ∧ s < 4) then (if S 12 s = 0 then zup S 19 0 1 else nWrite S me qu s) else S
set_option maxRecDepth 100000 in
set_option maxHeartbeats 4000000 in
theorem x_write0 {S M : zM} {R : zP} {me qu : Int} (h : RX S M) (z1 : zIR me) (z2 : zIR qu) (hR : ∀ M', RX (mWrite S me qu 0) M' → XF M M' → R (some (.inl (aWrite S me qu 0))) M') : tX7_write [.inr (.inr 0), .inl me, .inl qu, .inl 0] M R := by
  unfold mWrite aWrite at hR
  unfold zIR at z1 z2
  have hqn := (h.2.2.2.1.1 0 (by decide)).1
  have n1 : M 1 5 = qn S 0 := h.2.2.2.1.2.1
  obtain ⟨l1, l2, l3, l4⟩ := RX_L40 h
  have bad : ¬ ((0 ≤ me ∧ me < qn S 0) ∧ (0 ≤ qu ∧ qu < 4)) → R (some (.inl (-2))) M := fun q => by
    have q' : ¬ ((0 ≤ me ∧ me < qn S 0) ∧ (0 ≤ qu ∧ qu < 4) ∧ ((0 : Int) ≤ 0 ∧ (0 : Int) < 4)) := fun z => q ⟨z.1, z.2.1⟩
    rw [if_neg q', if_neg q'] at hR
    exact hR M h XF.rfl
  by_cases e : S 12 0 = 0
  · have e1 := l2 e
    have lost : ((0 ≤ me ∧ me < qn S 0) ∧ (0 ≤ qu ∧ qu < 4)) → R (some (.inl (-11))) (zup M 0 6 1) := fun q => by
      have q' : ((0 ≤ me ∧ me < qn S 0) ∧ (0 ≤ qu ∧ qu < 4) ∧ ((0 : Int) ≤ 0 ∧ (0 : Int) < 4)) := ⟨q.1, q.2, by decide⟩
      rw [if_pos q', if_pos q', if_pos e, if_pos e] at hR
      exact hR _ (RX_find h (by decide)) XF_find
    simp only [↓eX7_write, ↓rX7_write_0, ↓rX7_write_1, ↓rX7_write_2, ↓rX7_write_5, ↓rX7_write_8, ↓rX7_write_11, ↓rX7_write_14, ↓rX7_write_15, ↓rX7_write_16, ↓rX7_write_19, ↓rX7_write_22, ↓rX7_write_23, ↓rX7_write_24, ↓rX7_write_27, ↓rX7_write_30, ↓rX7_write_32, ↓rX7_write_33, ↓rX7_write_34, ↓rX7_write_37, ↓rX7_write_38, ↓rX7_write_39, ↓rX7_write_41, ↓rX7_write_43, ↓rX7_write_46, ↓rX7_write_49, ↓rX7_write_50, ↓rX7_write_51, ↓rX7_write_54, ↓hg_fX7_116_1, ↓hg_fX7_116_4, ↓hg_fX7_14_0, ↓hg_fX7_44_0, ↓hrow_22, ↓i_finding, ↓i_isLost38, ↓i_isLost40, ↓i_isLost42, ↓i_isLost44, ↓i_outside, ↓reduceIte, ↓hrw, ↓hgd0, ↓hgd1, ↓hgd2, ↓hgd3, zkeep_n, zkeep_i, zkeep_r, zkeep_l, zIR, zLR, List.length_cons, List.length_nil, Nat.reduceAdd, Nat.reduceLeDiff, Nat.reduceEqDiff, Nat.reduceSub, Int.reduceLE, Int.reduceLT, Int.reduceEq, Int.reduceNe, Int.reduceNeg, Int.reduceAdd, Int.reduceSub, Int.reduceMul, Int.reduceToNat, Nat.le_refl, Nat.zero_le, Nat.zero_add, Int.zero_add, Int.add_zero, and_true, true_and, and_false, false_and, not_true_eq_false, not_false_eq_true, eq_self, ne_eq, true_implies, false_implies, implies_true, or_true, true_or, or_false, false_or, reduceCtorEq, Option.some.injEq, Sum.inl.injEq, exists_eq_left', exists_eq_left, n1, e1, zite]
    repeat' (first | with_reducible apply And.intro | with_reducible intro _)
    all_goals first | omega | (exact bad (by omega)) | (exact lost (by omega))
  · obtain ⟨l5, l6⟩ := l3 (by omega)
    have e1 := l5.1
    have e2 := l6.1
    have go : ((0 ≤ me ∧ me < qn S 0) ∧ (0 ≤ qu ∧ qu < 4)) → zcn (zv 3 tX3_enter) [.inr (.inr 23), .inr (.inr 1), .inl me] M (fun M' => uX7_write R 67 [some (.inr (.inr 0)), some (.inl me), some (.inl qu), some (.inl 0), some (.inr (.inr 38)), none, none] [] M') := fun q => by
      have q' : ((0 ≤ me ∧ me < qn S 0) ∧ (0 ≤ qu ∧ qu < 4) ∧ ((0 : Int) ≤ 0 ∧ (0 : Int) < 4)) := ⟨q.1, q.2, by decide⟩
      rw [if_pos q', if_pos q', if_neg e, if_neg e] at hR
      have hby := wbyS_R S me
      have hn8 := h.2.2.2.2.1.2.2.1
      refine zcnv rfl (s_enterS h.2.2.2.1 q.1.1 q.1.2 (fun M1 f1 f2 f3 => ⟨rfl, ?_⟩))
      simp only [↓rX7_write_67, ↓rX7_write_68, ↓rX7_write_69, ↓rX7_write_72, ↓reduceIte, zkeep_n, zkeep_i, zkeep_r, zkeep_l, zup_eq, zIR, zLR, List.length_cons, List.length_nil, Nat.reduceAdd, Nat.reduceLeDiff, Nat.reduceEqDiff, Nat.reduceSub, Int.reduceLE, Int.reduceLT, Int.reduceEq, Int.reduceNe, Int.reduceNeg, Int.reduceAdd, Int.reduceSub, Int.reduceMul, Int.reduceToNat, Nat.le_refl, Nat.zero_le, Nat.zero_add, Int.zero_add, Int.add_zero, and_true, true_and, and_false, false_and, not_true_eq_false, not_false_eq_true, eq_self, ne_eq, true_implies, false_implies, implies_true, or_true, true_or, or_false, false_or, reduceCtorEq, Option.some.injEq, Sum.inl.injEq, exists_eq_left', exists_eq_left, zite]
      refine zcnv rfl (s_trace (S := S) (g := gt S) (n := nf S) (CW_fr h.2.2.2.1 (fun k i hk => f1 k i (by omega))) (FR_fr h.2.2.2.2.1.2 (fun k i a b => f1 k i (by omega))) f3 (vokb_wst h.2.2.2.1.1 q.1.1 q.1.2) (by decide) f2 hby (by omega) (fun M2 g1 g2 => ⟨rfl, ?_⟩))
      have hfr : ∀ k i, ¬ (23 ≤ k ∧ k ≤ 37) → M2 k i = M k i := fun k i a => (g1 k i (by omega) (by omega)).trans (f1 k i (by omega))
      have hw : ∀ t : Nat, t < 20 → M2 33 ((t : Int) * 4 + qu) = wV S me t qu := fun t ht => by
        rw [g2 t ht qu q.2.1 q.2.2]
        have e := wvec_255 (S := S) (g := gt S) (m := me) (T := t) hn8
        unfold wV
        rw [← e]
        rfl
      have hv : ∀ t : Nat, t < 20 → 0 ≤ wV S me t qu ∧ wV S me t qu ≤ 9 := fun t ht => (RX_V h q.1.1 q.1.2 ht).1 qu (by omega) (by omega)
      have c2 : M2 38 2 = S 14 0 := (hfr _ _ (by decide)).trans e2
      have mR : 0 ≤ mn20 (S 14 0) ∧ mn20 (S 14 0) ≤ 20 ∧ mn20 (S 14 0) ≤ 60 := by unfold mn20; split <;> omega
      have L : ∀ t : Nat × zM, ((t.1 : Int) ≤ mn20 (S 14 0) ∧ (∀ k i, k ≠ 39 → t.2 k i = M2 k i) ∧ (∀ i, 0 ≤ i → i < 60 → t.2 39 i = if i < t.1 then wV S me i.toNat qu else S 15 i)) → uX7_write R 90 [some (.inr (.inr 0)), some (.inl me), some (.inl qu), some (.inl 0), some (.inr (.inr 38)), some (.inl (mn20 (S 14 0))), some (.inl (t.1 : Int))] [] t.2 := by
        refine zind (fun t => 20 - t.1) ?_
        rintro ⟨t, N⟩ ⟨ht, k1, k2⟩ ih
        simp only at ht k1 k2 ih
        refine rX7_write_90.mpr ?_
        by_cases he : (t : Int) = mn20 (S 14 0)
        · have fin := hR N (by
            have eo : ∀ k x, k ≠ 15 → nWrite S me qu 0 k x = S k x := fun k x hk => by
              unfold nWrite
              rw [if_neg (fun z => hk z.1)]
            have en : ∀ x, 0 ≤ x → nWrite S me qu 0 15 x = if x < mn20 (S 14 0) then wV S me x.toNat qu else S 15 x := fun x hx => by
              unfold nWrite
              by_cases c : x < mn20 (S 14 0)
              · rw [if_pos c, if_pos ⟨by decide, hx, c⟩]
              · rw [if_neg c, if_neg (fun z => c z.2.2)]
            refine RX_one0 h (fun k x hk => eo k x (by omega)) (fun k x h1 h2 h3 h4 h5 h6 => eo k x h1) (fun k x h1 h2 h3 => (k1 k x h3).trans (hfr k x h1)) ?_
            unfold L4
            rw [eo 12 _ (by decide), eo 13 _ (by decide), eo 14 _ (by decide), k1 _ _ (by decide), k1 _ _ (by decide), hfr _ _ (by decide), hfr _ _ (by decide)]
            refine ⟨l1, l2, l3, fun x a b => ?_⟩
            rw [k2 x a b, en x a, he]
            split
            · have := hv x.toNat (by omega)
              exact ⟨rfl, by omega, by omega⟩
            · exact ⟨rfl, (l4 x a b).2⟩) (fun k x hk => (k1 k x (by omega)).trans (hfr k x (by omega)))
          simp only [↓rX7_write_92, ↓rX7_write_94, ↓rX7_write_121, ↓rX7_write_123, ↓reduceIte, zkeep_n, zkeep_i, zkeep_r, zkeep_l, zup_eq, zIR, zLR, List.length_cons, List.length_nil, Nat.reduceAdd, Nat.reduceLeDiff, Nat.reduceEqDiff, Nat.reduceSub, Int.reduceLE, Int.reduceLT, Int.reduceEq, Int.reduceNe, Int.reduceNeg, Int.reduceAdd, Int.reduceSub, Int.reduceMul, Int.reduceToNat, Nat.le_refl, Nat.zero_le, Nat.zero_add, Int.zero_add, Int.add_zero, and_true, true_and, and_false, false_and, not_true_eq_false, not_false_eq_true, eq_self, ne_eq, true_implies, false_implies, implies_true, or_true, true_or, or_false, false_or, reduceCtorEq, Option.some.injEq, Sum.inl.injEq, exists_eq_left', exists_eq_left, zite]
          repeat' (first | with_reducible apply And.intro | with_reducible intro _)
          all_goals first | omega | (exact fin)
        · have c1 : N 38 1 = S 13 0 := (k1 _ _ (by decide)).trans ((hfr _ _ (by decide)).trans e1)
          have c33 : N 33 ((t : Int) * 4 + qu) = wV S me t qu := (k1 _ _ (by decide)).trans (hw t (by omega))
          have nx : ∀ w, w = zconv (S 13 0) (wV S me t qu) → uX7_write R 90 [some (.inr (.inr 0)), some (.inl me), some (.inl qu), some (.inl 0), some (.inr (.inr 38)), some (.inl (mn20 (S 14 0))), some (.inl ((t : Int) + 1))] [] (zup N 39 t w) := fun w hw2 => by
            rw [zconv_s (hv t (by omega))] at hw2
            refine ih (t + 1, zup N 39 t w) ⟨by simp only; omega, fun k x hk => (zup_ne hk).trans (k1 k x hk), fun x a b => ?_⟩ (by simp only; omega)
            simp only [zup_in]
            by_cases ex : x = t
            · rw [if_pos ex, if_pos (by omega), hw2, ex, Int.toNat_natCast]
            · rw [if_neg ex, k2 x a b]
              by_cases ex2 : x < t
              · rw [if_pos ex2, if_pos (by omega)]
              · rw [if_neg ex2, if_neg (by omega)]
          simp only [↓rX7_write_92, ↓rX7_write_94, ↓rX7_write_97, ↓rX7_write_99, ↓rX7_write_101, ↓rX7_write_102, ↓rX7_write_105, ↓rX7_write_107, ↓rX7_write_108, ↓rX7_write_109, ↓rX7_write_110, ↓rX7_write_111, ↓rX7_write_112, ↓rX7_write_115, ↓rX7_write_118, ↓hg_fX7_76_0, ↓hr_10, ↓hr_11, ↓hr_13, ↓hr_14, ↓hr_15, ↓hr_16, ↓hr_18, ↓hr_19, ↓hr_2, ↓hr_20, ↓hr_21, ↓hr_24, ↓hr_25, ↓hr_26, ↓hr_28, ↓hr_29, ↓hr_3, ↓hr_30, ↓hr_33, ↓hr_34, ↓hr_35, ↓hr_36, ↓hr_37, ↓hr_39, ↓hr_41, ↓hr_43, ↓hr_45, ↓hr_5, ↓hr_6, ↓hr_8, ↓hr_9, ↓hr_fX7_104, ↓hw_10, ↓hw_11, ↓hw_13, ↓hw_14, ↓hw_15, ↓hw_16, ↓hw_18, ↓hw_19, ↓hw_2, ↓hw_20, ↓hw_21, ↓hw_24, ↓hw_25, ↓hw_26, ↓hw_28, ↓hw_29, ↓hw_3, ↓hw_30, ↓hw_33, ↓hw_34, ↓hw_35, ↓hw_36, ↓hw_37, ↓hw_39, ↓hw_41, ↓hw_43, ↓hw_45, ↓hw_5, ↓hw_6, ↓hw_8, ↓hw_9, ↓i_store38, ↓i_store40, ↓i_store42, ↓i_store44, ↓reduceIte, zkeep_n, zkeep_i, zkeep_r, zkeep_l, zIR, zLR, List.length_cons, List.length_nil, Nat.reduceAdd, Nat.reduceLeDiff, Nat.reduceEqDiff, Nat.reduceSub, Int.reduceLE, Int.reduceLT, Int.reduceEq, Int.reduceNe, Int.reduceNeg, Int.reduceAdd, Int.reduceSub, Int.reduceMul, Int.reduceToNat, Nat.le_refl, Nat.zero_le, Nat.zero_add, Int.zero_add, Int.add_zero, and_true, true_and, and_false, false_and, not_true_eq_false, not_false_eq_true, eq_self, ne_eq, true_implies, false_implies, implies_true, or_true, true_or, or_false, false_or, reduceCtorEq, Option.some.injEq, Sum.inl.injEq, exists_eq_left', exists_eq_left, c1, c33, zite]
          repeat' (first | with_reducible apply And.intro | with_reducible intro _)
          all_goals first | omega | (refine nx _ ?_; unfold zconv; rw [if_pos (by omega)]) | (refine nx _ ?_; unfold zconv; rw [if_neg (by omega), if_pos (by omega)]) | (refine nx _ ?_; unfold zconv; rw [if_neg (by omega), if_neg (by omega)])
      have st : ∀ m, m = mn20 (S 14 0) → uX7_write R 90 [some (.inr (.inr 0)), some (.inl me), some (.inl qu), some (.inl 0), some (.inr (.inr 38)), some (.inl m), some (.inl 0)] [] M2 := fun m hm => by
        subst hm
        exact L (0, M2) ⟨mR.1, fun _ _ _ => rfl, fun x a b => by rw [if_neg (by simp only; omega)]; exact ((hfr _ _ (by decide)).trans (l4 x a b).1)⟩
      simp only [↓rX7_write_75, ↓rX7_write_77, ↓rX7_write_80, ↓rX7_write_82, ↓rX7_write_85, ↓rX7_write_87, ↓rX7_write_88, ↓hg_fX7_134_38, ↓hg_fX7_134_40, ↓hg_fX7_134_42, ↓hg_fX7_134_44, ↓i_min, ↓reduceIte, zkeep_n, zkeep_i, zkeep_r, zkeep_l, zup_eq, zIR, zLR, List.length_cons, List.length_nil, Nat.reduceAdd, Nat.reduceLeDiff, Nat.reduceEqDiff, Nat.reduceSub, Int.reduceLE, Int.reduceLT, Int.reduceEq, Int.reduceNe, Int.reduceNeg, Int.reduceAdd, Int.reduceSub, Int.reduceMul, Int.reduceToNat, Nat.le_refl, Nat.zero_le, Nat.zero_add, Int.zero_add, Int.add_zero, and_true, true_and, and_false, false_and, not_true_eq_false, not_false_eq_true, eq_self, ne_eq, true_implies, false_implies, implies_true, or_true, true_or, or_false, false_or, reduceCtorEq, Option.some.injEq, Sum.inl.injEq, exists_eq_left', exists_eq_left, c2]
      exact ⟨by omega, st _ rfl⟩
    simp only [↓eX7_write, ↓rX7_write_0, ↓rX7_write_1, ↓rX7_write_2, ↓rX7_write_5, ↓rX7_write_8, ↓rX7_write_11, ↓rX7_write_14, ↓rX7_write_15, ↓rX7_write_16, ↓rX7_write_19, ↓rX7_write_22, ↓rX7_write_23, ↓rX7_write_24, ↓rX7_write_27, ↓rX7_write_30, ↓rX7_write_32, ↓rX7_write_33, ↓rX7_write_34, ↓rX7_write_37, ↓rX7_write_38, ↓rX7_write_39, ↓rX7_write_41, ↓rX7_write_43, ↓rX7_write_46, ↓rX7_write_49, ↓rX7_write_50, ↓rX7_write_51, ↓rX7_write_54, ↓rX7_write_55, ↓rX7_write_56, ↓rX7_write_59, ↓rX7_write_60, ↓rX7_write_63, ↓rX7_write_64, ↓hg_fX7_116_1, ↓hg_fX7_116_4, ↓hg_fX7_14_0, ↓hg_fX7_44_0, ↓hg_fX7_55_0, ↓hrow_22, ↓i_finding, ↓i_isLost38, ↓i_isLost40, ↓i_isLost42, ↓i_isLost44, ↓i_outside, ↓reduceIte, ↓hrw, ↓hgd0, ↓hgd1, ↓hgd2, ↓hgd3, zkeep_n, zkeep_i, zkeep_r, zkeep_l, zIR, zLR, List.length_cons, List.length_nil, Nat.reduceAdd, Nat.reduceLeDiff, Nat.reduceEqDiff, Nat.reduceSub, Int.reduceLE, Int.reduceLT, Int.reduceEq, Int.reduceNe, Int.reduceNeg, Int.reduceAdd, Int.reduceSub, Int.reduceMul, Int.reduceToNat, Nat.le_refl, Nat.zero_le, Nat.zero_add, Int.zero_add, Int.add_zero, and_true, true_and, and_false, false_and, not_true_eq_false, not_false_eq_true, eq_self, ne_eq, true_implies, false_implies, implies_true, or_true, true_or, or_false, false_or, reduceCtorEq, Option.some.injEq, Sum.inl.injEq, exists_eq_left', exists_eq_left, n1, e1, zite]
    repeat' (first | with_reducible apply And.intro | with_reducible intro _)
    all_goals first | omega | (exact bad (by omega)) | (exact go (by omega))
set_option maxRecDepth 100000 in
set_option maxHeartbeats 4000000 in
theorem x_write1 {S M : zM} {R : zP} {me qu : Int} (h : RX S M) (z1 : zIR me) (z2 : zIR qu) (hR : ∀ M', RX (mWrite S me qu 1) M' → XF M M' → R (some (.inl (aWrite S me qu 1))) M') : tX7_write [.inr (.inr 0), .inl me, .inl qu, .inl 1] M R := by
  unfold mWrite aWrite at hR
  unfold zIR at z1 z2
  have hqn := (h.2.2.2.1.1 0 (by decide)).1
  have n1 : M 1 5 = qn S 0 := h.2.2.2.1.2.1
  obtain ⟨l1, l2, l3, l4⟩ := RX_L41 h
  have bad : ¬ ((0 ≤ me ∧ me < qn S 0) ∧ (0 ≤ qu ∧ qu < 4)) → R (some (.inl (-2))) M := fun q => by
    have q' : ¬ ((0 ≤ me ∧ me < qn S 0) ∧ (0 ≤ qu ∧ qu < 4) ∧ ((0 : Int) ≤ 1 ∧ (1 : Int) < 4)) := fun z => q ⟨z.1, z.2.1⟩
    rw [if_neg q', if_neg q'] at hR
    exact hR M h XF.rfl
  by_cases e : S 12 1 = 0
  · have e1 := l2 e
    have lost : ((0 ≤ me ∧ me < qn S 0) ∧ (0 ≤ qu ∧ qu < 4)) → R (some (.inl (-11))) (zup M 0 6 1) := fun q => by
      have q' : ((0 ≤ me ∧ me < qn S 0) ∧ (0 ≤ qu ∧ qu < 4) ∧ ((0 : Int) ≤ 1 ∧ (1 : Int) < 4)) := ⟨q.1, q.2, by decide⟩
      rw [if_pos q', if_pos q', if_pos e, if_pos e] at hR
      exact hR _ (RX_find h (by decide)) XF_find
    simp only [↓eX7_write, ↓rX7_write_0, ↓rX7_write_1, ↓rX7_write_2, ↓rX7_write_5, ↓rX7_write_8, ↓rX7_write_11, ↓rX7_write_14, ↓rX7_write_15, ↓rX7_write_16, ↓rX7_write_19, ↓rX7_write_22, ↓rX7_write_23, ↓rX7_write_24, ↓rX7_write_27, ↓rX7_write_30, ↓rX7_write_32, ↓rX7_write_33, ↓rX7_write_34, ↓rX7_write_37, ↓rX7_write_38, ↓rX7_write_39, ↓rX7_write_41, ↓rX7_write_43, ↓rX7_write_46, ↓rX7_write_49, ↓rX7_write_50, ↓rX7_write_51, ↓rX7_write_54, ↓hg_fX7_116_1, ↓hg_fX7_116_4, ↓hg_fX7_14_0, ↓hg_fX7_44_0, ↓hrow_22, ↓i_finding, ↓i_isLost38, ↓i_isLost40, ↓i_isLost42, ↓i_isLost44, ↓i_outside, ↓reduceIte, ↓hrw, ↓hgd0, ↓hgd1, ↓hgd2, ↓hgd3, zkeep_n, zkeep_i, zkeep_r, zkeep_l, zIR, zLR, List.length_cons, List.length_nil, Nat.reduceAdd, Nat.reduceLeDiff, Nat.reduceEqDiff, Nat.reduceSub, Int.reduceLE, Int.reduceLT, Int.reduceEq, Int.reduceNe, Int.reduceNeg, Int.reduceAdd, Int.reduceSub, Int.reduceMul, Int.reduceToNat, Nat.le_refl, Nat.zero_le, Nat.zero_add, Int.zero_add, Int.add_zero, and_true, true_and, and_false, false_and, not_true_eq_false, not_false_eq_true, eq_self, ne_eq, true_implies, false_implies, implies_true, or_true, true_or, or_false, false_or, reduceCtorEq, Option.some.injEq, Sum.inl.injEq, exists_eq_left', exists_eq_left, n1, e1, zite]
    repeat' (first | with_reducible apply And.intro | with_reducible intro _)
    all_goals first | omega | (exact bad (by omega)) | (exact lost (by omega))
  · obtain ⟨l5, l6⟩ := l3 (by omega)
    have e1 := l5.1
    have e2 := l6.1
    have go : ((0 ≤ me ∧ me < qn S 0) ∧ (0 ≤ qu ∧ qu < 4)) → zcn (zv 3 tX3_enter) [.inr (.inr 23), .inr (.inr 1), .inl me] M (fun M' => uX7_write R 67 [some (.inr (.inr 0)), some (.inl me), some (.inl qu), some (.inl 1), some (.inr (.inr 40)), none, none] [] M') := fun q => by
      have q' : ((0 ≤ me ∧ me < qn S 0) ∧ (0 ≤ qu ∧ qu < 4) ∧ ((0 : Int) ≤ 1 ∧ (1 : Int) < 4)) := ⟨q.1, q.2, by decide⟩
      rw [if_pos q', if_pos q', if_neg e, if_neg e] at hR
      have hby := wbyS_R S me
      have hn8 := h.2.2.2.2.1.2.2.1
      refine zcnv rfl (s_enterS h.2.2.2.1 q.1.1 q.1.2 (fun M1 f1 f2 f3 => ⟨rfl, ?_⟩))
      simp only [↓rX7_write_67, ↓rX7_write_68, ↓rX7_write_69, ↓rX7_write_72, ↓reduceIte, zkeep_n, zkeep_i, zkeep_r, zkeep_l, zup_eq, zIR, zLR, List.length_cons, List.length_nil, Nat.reduceAdd, Nat.reduceLeDiff, Nat.reduceEqDiff, Nat.reduceSub, Int.reduceLE, Int.reduceLT, Int.reduceEq, Int.reduceNe, Int.reduceNeg, Int.reduceAdd, Int.reduceSub, Int.reduceMul, Int.reduceToNat, Nat.le_refl, Nat.zero_le, Nat.zero_add, Int.zero_add, Int.add_zero, and_true, true_and, and_false, false_and, not_true_eq_false, not_false_eq_true, eq_self, ne_eq, true_implies, false_implies, implies_true, or_true, true_or, or_false, false_or, reduceCtorEq, Option.some.injEq, Sum.inl.injEq, exists_eq_left', exists_eq_left, zite]
      refine zcnv rfl (s_trace (S := S) (g := gt S) (n := nf S) (CW_fr h.2.2.2.1 (fun k i hk => f1 k i (by omega))) (FR_fr h.2.2.2.2.1.2 (fun k i a b => f1 k i (by omega))) f3 (vokb_wst h.2.2.2.1.1 q.1.1 q.1.2) (by decide) f2 hby (by omega) (fun M2 g1 g2 => ⟨rfl, ?_⟩))
      have hfr : ∀ k i, ¬ (23 ≤ k ∧ k ≤ 37) → M2 k i = M k i := fun k i a => (g1 k i (by omega) (by omega)).trans (f1 k i (by omega))
      have hw : ∀ t : Nat, t < 20 → M2 33 ((t : Int) * 4 + qu) = wV S me t qu := fun t ht => by
        rw [g2 t ht qu q.2.1 q.2.2]
        have e := wvec_255 (S := S) (g := gt S) (m := me) (T := t) hn8
        unfold wV
        rw [← e]
        rfl
      have hv : ∀ t : Nat, t < 20 → 0 ≤ wV S me t qu ∧ wV S me t qu ≤ 9 := fun t ht => (RX_V h q.1.1 q.1.2 ht).1 qu (by omega) (by omega)
      have c2 : M2 40 2 = S 14 1 := (hfr _ _ (by decide)).trans e2
      have mR : 0 ≤ mn20 (S 14 1) ∧ mn20 (S 14 1) ≤ 20 ∧ mn20 (S 14 1) ≤ 60 := by unfold mn20; split <;> omega
      have L : ∀ t : Nat × zM, ((t.1 : Int) ≤ mn20 (S 14 1) ∧ (∀ k i, k ≠ 41 → t.2 k i = M2 k i) ∧ (∀ i, 0 ≤ i → i < 60 → t.2 41 i = if i < t.1 then wV S me i.toNat qu else S 16 i)) → uX7_write R 90 [some (.inr (.inr 0)), some (.inl me), some (.inl qu), some (.inl 1), some (.inr (.inr 40)), some (.inl (mn20 (S 14 1))), some (.inl (t.1 : Int))] [] t.2 := by
        refine zind (fun t => 20 - t.1) ?_
        rintro ⟨t, N⟩ ⟨ht, k1, k2⟩ ih
        simp only at ht k1 k2 ih
        refine rX7_write_90.mpr ?_
        by_cases he : (t : Int) = mn20 (S 14 1)
        · have fin := hR N (by
            have eo : ∀ k x, k ≠ 16 → nWrite S me qu 1 k x = S k x := fun k x hk => by
              unfold nWrite
              rw [if_neg (fun z => hk z.1)]
            have en : ∀ x, 0 ≤ x → nWrite S me qu 1 16 x = if x < mn20 (S 14 1) then wV S me x.toNat qu else S 16 x := fun x hx => by
              unfold nWrite
              by_cases c : x < mn20 (S 14 1)
              · rw [if_pos c, if_pos ⟨by decide, hx, c⟩]
              · rw [if_neg c, if_neg (fun z => c z.2.2)]
            refine RX_one1 h (fun k x hk => eo k x (by omega)) (fun k x h1 h2 h3 h4 h5 h6 => eo k x h1) (fun k x h1 h2 h3 => (k1 k x h3).trans (hfr k x h1)) ?_
            unfold L4
            rw [eo 12 _ (by decide), eo 13 _ (by decide), eo 14 _ (by decide), k1 _ _ (by decide), k1 _ _ (by decide), hfr _ _ (by decide), hfr _ _ (by decide)]
            refine ⟨l1, l2, l3, fun x a b => ?_⟩
            rw [k2 x a b, en x a, he]
            split
            · have := hv x.toNat (by omega)
              exact ⟨rfl, by omega, by omega⟩
            · exact ⟨rfl, (l4 x a b).2⟩) (fun k x hk => (k1 k x (by omega)).trans (hfr k x (by omega)))
          simp only [↓rX7_write_92, ↓rX7_write_94, ↓rX7_write_121, ↓rX7_write_123, ↓reduceIte, zkeep_n, zkeep_i, zkeep_r, zkeep_l, zup_eq, zIR, zLR, List.length_cons, List.length_nil, Nat.reduceAdd, Nat.reduceLeDiff, Nat.reduceEqDiff, Nat.reduceSub, Int.reduceLE, Int.reduceLT, Int.reduceEq, Int.reduceNe, Int.reduceNeg, Int.reduceAdd, Int.reduceSub, Int.reduceMul, Int.reduceToNat, Nat.le_refl, Nat.zero_le, Nat.zero_add, Int.zero_add, Int.add_zero, and_true, true_and, and_false, false_and, not_true_eq_false, not_false_eq_true, eq_self, ne_eq, true_implies, false_implies, implies_true, or_true, true_or, or_false, false_or, reduceCtorEq, Option.some.injEq, Sum.inl.injEq, exists_eq_left', exists_eq_left, zite]
          repeat' (first | with_reducible apply And.intro | with_reducible intro _)
          all_goals first | omega | (exact fin)
        · have c1 : N 40 1 = S 13 1 := (k1 _ _ (by decide)).trans ((hfr _ _ (by decide)).trans e1)
          have c33 : N 33 ((t : Int) * 4 + qu) = wV S me t qu := (k1 _ _ (by decide)).trans (hw t (by omega))
          have nx : ∀ w, w = zconv (S 13 1) (wV S me t qu) → uX7_write R 90 [some (.inr (.inr 0)), some (.inl me), some (.inl qu), some (.inl 1), some (.inr (.inr 40)), some (.inl (mn20 (S 14 1))), some (.inl ((t : Int) + 1))] [] (zup N 41 t w) := fun w hw2 => by
            rw [zconv_s (hv t (by omega))] at hw2
            refine ih (t + 1, zup N 41 t w) ⟨by simp only; omega, fun k x hk => (zup_ne hk).trans (k1 k x hk), fun x a b => ?_⟩ (by simp only; omega)
            simp only [zup_in]
            by_cases ex : x = t
            · rw [if_pos ex, if_pos (by omega), hw2, ex, Int.toNat_natCast]
            · rw [if_neg ex, k2 x a b]
              by_cases ex2 : x < t
              · rw [if_pos ex2, if_pos (by omega)]
              · rw [if_neg ex2, if_neg (by omega)]
          simp only [↓rX7_write_92, ↓rX7_write_94, ↓rX7_write_97, ↓rX7_write_99, ↓rX7_write_101, ↓rX7_write_102, ↓rX7_write_105, ↓rX7_write_107, ↓rX7_write_108, ↓rX7_write_109, ↓rX7_write_110, ↓rX7_write_111, ↓rX7_write_112, ↓rX7_write_115, ↓rX7_write_118, ↓hg_fX7_76_0, ↓hr_10, ↓hr_11, ↓hr_13, ↓hr_14, ↓hr_15, ↓hr_16, ↓hr_18, ↓hr_19, ↓hr_2, ↓hr_20, ↓hr_21, ↓hr_24, ↓hr_25, ↓hr_26, ↓hr_28, ↓hr_29, ↓hr_3, ↓hr_30, ↓hr_33, ↓hr_34, ↓hr_35, ↓hr_36, ↓hr_37, ↓hr_39, ↓hr_41, ↓hr_43, ↓hr_45, ↓hr_5, ↓hr_6, ↓hr_8, ↓hr_9, ↓hr_fX7_104, ↓hw_10, ↓hw_11, ↓hw_13, ↓hw_14, ↓hw_15, ↓hw_16, ↓hw_18, ↓hw_19, ↓hw_2, ↓hw_20, ↓hw_21, ↓hw_24, ↓hw_25, ↓hw_26, ↓hw_28, ↓hw_29, ↓hw_3, ↓hw_30, ↓hw_33, ↓hw_34, ↓hw_35, ↓hw_36, ↓hw_37, ↓hw_39, ↓hw_41, ↓hw_43, ↓hw_45, ↓hw_5, ↓hw_6, ↓hw_8, ↓hw_9, ↓i_store38, ↓i_store40, ↓i_store42, ↓i_store44, ↓reduceIte, zkeep_n, zkeep_i, zkeep_r, zkeep_l, zIR, zLR, List.length_cons, List.length_nil, Nat.reduceAdd, Nat.reduceLeDiff, Nat.reduceEqDiff, Nat.reduceSub, Int.reduceLE, Int.reduceLT, Int.reduceEq, Int.reduceNe, Int.reduceNeg, Int.reduceAdd, Int.reduceSub, Int.reduceMul, Int.reduceToNat, Nat.le_refl, Nat.zero_le, Nat.zero_add, Int.zero_add, Int.add_zero, and_true, true_and, and_false, false_and, not_true_eq_false, not_false_eq_true, eq_self, ne_eq, true_implies, false_implies, implies_true, or_true, true_or, or_false, false_or, reduceCtorEq, Option.some.injEq, Sum.inl.injEq, exists_eq_left', exists_eq_left, c1, c33, zite]
          repeat' (first | with_reducible apply And.intro | with_reducible intro _)
          all_goals first | omega | (refine nx _ ?_; unfold zconv; rw [if_pos (by omega)]) | (refine nx _ ?_; unfold zconv; rw [if_neg (by omega), if_pos (by omega)]) | (refine nx _ ?_; unfold zconv; rw [if_neg (by omega), if_neg (by omega)])
      have st : ∀ m, m = mn20 (S 14 1) → uX7_write R 90 [some (.inr (.inr 0)), some (.inl me), some (.inl qu), some (.inl 1), some (.inr (.inr 40)), some (.inl m), some (.inl 0)] [] M2 := fun m hm => by
        subst hm
        exact L (0, M2) ⟨mR.1, fun _ _ _ => rfl, fun x a b => by rw [if_neg (by simp only; omega)]; exact ((hfr _ _ (by decide)).trans (l4 x a b).1)⟩
      simp only [↓rX7_write_75, ↓rX7_write_77, ↓rX7_write_80, ↓rX7_write_82, ↓rX7_write_85, ↓rX7_write_87, ↓rX7_write_88, ↓hg_fX7_134_38, ↓hg_fX7_134_40, ↓hg_fX7_134_42, ↓hg_fX7_134_44, ↓i_min, ↓reduceIte, zkeep_n, zkeep_i, zkeep_r, zkeep_l, zup_eq, zIR, zLR, List.length_cons, List.length_nil, Nat.reduceAdd, Nat.reduceLeDiff, Nat.reduceEqDiff, Nat.reduceSub, Int.reduceLE, Int.reduceLT, Int.reduceEq, Int.reduceNe, Int.reduceNeg, Int.reduceAdd, Int.reduceSub, Int.reduceMul, Int.reduceToNat, Nat.le_refl, Nat.zero_le, Nat.zero_add, Int.zero_add, Int.add_zero, and_true, true_and, and_false, false_and, not_true_eq_false, not_false_eq_true, eq_self, ne_eq, true_implies, false_implies, implies_true, or_true, true_or, or_false, false_or, reduceCtorEq, Option.some.injEq, Sum.inl.injEq, exists_eq_left', exists_eq_left, c2]
      exact ⟨by omega, st _ rfl⟩
    simp only [↓eX7_write, ↓rX7_write_0, ↓rX7_write_1, ↓rX7_write_2, ↓rX7_write_5, ↓rX7_write_8, ↓rX7_write_11, ↓rX7_write_14, ↓rX7_write_15, ↓rX7_write_16, ↓rX7_write_19, ↓rX7_write_22, ↓rX7_write_23, ↓rX7_write_24, ↓rX7_write_27, ↓rX7_write_30, ↓rX7_write_32, ↓rX7_write_33, ↓rX7_write_34, ↓rX7_write_37, ↓rX7_write_38, ↓rX7_write_39, ↓rX7_write_41, ↓rX7_write_43, ↓rX7_write_46, ↓rX7_write_49, ↓rX7_write_50, ↓rX7_write_51, ↓rX7_write_54, ↓rX7_write_55, ↓rX7_write_56, ↓rX7_write_59, ↓rX7_write_60, ↓rX7_write_63, ↓rX7_write_64, ↓hg_fX7_116_1, ↓hg_fX7_116_4, ↓hg_fX7_14_0, ↓hg_fX7_44_0, ↓hg_fX7_55_0, ↓hrow_22, ↓i_finding, ↓i_isLost38, ↓i_isLost40, ↓i_isLost42, ↓i_isLost44, ↓i_outside, ↓reduceIte, ↓hrw, ↓hgd0, ↓hgd1, ↓hgd2, ↓hgd3, zkeep_n, zkeep_i, zkeep_r, zkeep_l, zIR, zLR, List.length_cons, List.length_nil, Nat.reduceAdd, Nat.reduceLeDiff, Nat.reduceEqDiff, Nat.reduceSub, Int.reduceLE, Int.reduceLT, Int.reduceEq, Int.reduceNe, Int.reduceNeg, Int.reduceAdd, Int.reduceSub, Int.reduceMul, Int.reduceToNat, Nat.le_refl, Nat.zero_le, Nat.zero_add, Int.zero_add, Int.add_zero, and_true, true_and, and_false, false_and, not_true_eq_false, not_false_eq_true, eq_self, ne_eq, true_implies, false_implies, implies_true, or_true, true_or, or_false, false_or, reduceCtorEq, Option.some.injEq, Sum.inl.injEq, exists_eq_left', exists_eq_left, n1, e1, zite]
    repeat' (first | with_reducible apply And.intro | with_reducible intro _)
    all_goals first | omega | (exact bad (by omega)) | (exact go (by omega))
set_option maxRecDepth 100000 in
set_option maxHeartbeats 4000000 in
theorem x_write2 {S M : zM} {R : zP} {me qu : Int} (h : RX S M) (z1 : zIR me) (z2 : zIR qu) (hR : ∀ M', RX (mWrite S me qu 2) M' → XF M M' → R (some (.inl (aWrite S me qu 2))) M') : tX7_write [.inr (.inr 0), .inl me, .inl qu, .inl 2] M R := by
  unfold mWrite aWrite at hR
  unfold zIR at z1 z2
  have hqn := (h.2.2.2.1.1 0 (by decide)).1
  have n1 : M 1 5 = qn S 0 := h.2.2.2.1.2.1
  obtain ⟨l1, l2, l3, l4⟩ := RX_L42 h
  have bad : ¬ ((0 ≤ me ∧ me < qn S 0) ∧ (0 ≤ qu ∧ qu < 4)) → R (some (.inl (-2))) M := fun q => by
    have q' : ¬ ((0 ≤ me ∧ me < qn S 0) ∧ (0 ≤ qu ∧ qu < 4) ∧ ((0 : Int) ≤ 2 ∧ (2 : Int) < 4)) := fun z => q ⟨z.1, z.2.1⟩
    rw [if_neg q', if_neg q'] at hR
    exact hR M h XF.rfl
  by_cases e : S 12 2 = 0
  · have e1 := l2 e
    have lost : ((0 ≤ me ∧ me < qn S 0) ∧ (0 ≤ qu ∧ qu < 4)) → R (some (.inl (-11))) (zup M 0 6 1) := fun q => by
      have q' : ((0 ≤ me ∧ me < qn S 0) ∧ (0 ≤ qu ∧ qu < 4) ∧ ((0 : Int) ≤ 2 ∧ (2 : Int) < 4)) := ⟨q.1, q.2, by decide⟩
      rw [if_pos q', if_pos q', if_pos e, if_pos e] at hR
      exact hR _ (RX_find h (by decide)) XF_find
    simp only [↓eX7_write, ↓rX7_write_0, ↓rX7_write_1, ↓rX7_write_2, ↓rX7_write_5, ↓rX7_write_8, ↓rX7_write_11, ↓rX7_write_14, ↓rX7_write_15, ↓rX7_write_16, ↓rX7_write_19, ↓rX7_write_22, ↓rX7_write_23, ↓rX7_write_24, ↓rX7_write_27, ↓rX7_write_30, ↓rX7_write_32, ↓rX7_write_33, ↓rX7_write_34, ↓rX7_write_37, ↓rX7_write_38, ↓rX7_write_39, ↓rX7_write_41, ↓rX7_write_43, ↓rX7_write_46, ↓rX7_write_49, ↓rX7_write_50, ↓rX7_write_51, ↓rX7_write_54, ↓hg_fX7_116_1, ↓hg_fX7_116_4, ↓hg_fX7_14_0, ↓hg_fX7_44_0, ↓hrow_22, ↓i_finding, ↓i_isLost38, ↓i_isLost40, ↓i_isLost42, ↓i_isLost44, ↓i_outside, ↓reduceIte, ↓hrw, ↓hgd0, ↓hgd1, ↓hgd2, ↓hgd3, zkeep_n, zkeep_i, zkeep_r, zkeep_l, zIR, zLR, List.length_cons, List.length_nil, Nat.reduceAdd, Nat.reduceLeDiff, Nat.reduceEqDiff, Nat.reduceSub, Int.reduceLE, Int.reduceLT, Int.reduceEq, Int.reduceNe, Int.reduceNeg, Int.reduceAdd, Int.reduceSub, Int.reduceMul, Int.reduceToNat, Nat.le_refl, Nat.zero_le, Nat.zero_add, Int.zero_add, Int.add_zero, and_true, true_and, and_false, false_and, not_true_eq_false, not_false_eq_true, eq_self, ne_eq, true_implies, false_implies, implies_true, or_true, true_or, or_false, false_or, reduceCtorEq, Option.some.injEq, Sum.inl.injEq, exists_eq_left', exists_eq_left, n1, e1, zite]
    repeat' (first | with_reducible apply And.intro | with_reducible intro _)
    all_goals first | omega | (exact bad (by omega)) | (exact lost (by omega))
  · obtain ⟨l5, l6⟩ := l3 (by omega)
    have e1 := l5.1
    have e2 := l6.1
    have go : ((0 ≤ me ∧ me < qn S 0) ∧ (0 ≤ qu ∧ qu < 4)) → zcn (zv 3 tX3_enter) [.inr (.inr 23), .inr (.inr 1), .inl me] M (fun M' => uX7_write R 67 [some (.inr (.inr 0)), some (.inl me), some (.inl qu), some (.inl 2), some (.inr (.inr 42)), none, none] [] M') := fun q => by
      have q' : ((0 ≤ me ∧ me < qn S 0) ∧ (0 ≤ qu ∧ qu < 4) ∧ ((0 : Int) ≤ 2 ∧ (2 : Int) < 4)) := ⟨q.1, q.2, by decide⟩
      rw [if_pos q', if_pos q', if_neg e, if_neg e] at hR
      have hby := wbyS_R S me
      have hn8 := h.2.2.2.2.1.2.2.1
      refine zcnv rfl (s_enterS h.2.2.2.1 q.1.1 q.1.2 (fun M1 f1 f2 f3 => ⟨rfl, ?_⟩))
      simp only [↓rX7_write_67, ↓rX7_write_68, ↓rX7_write_69, ↓rX7_write_72, ↓reduceIte, zkeep_n, zkeep_i, zkeep_r, zkeep_l, zup_eq, zIR, zLR, List.length_cons, List.length_nil, Nat.reduceAdd, Nat.reduceLeDiff, Nat.reduceEqDiff, Nat.reduceSub, Int.reduceLE, Int.reduceLT, Int.reduceEq, Int.reduceNe, Int.reduceNeg, Int.reduceAdd, Int.reduceSub, Int.reduceMul, Int.reduceToNat, Nat.le_refl, Nat.zero_le, Nat.zero_add, Int.zero_add, Int.add_zero, and_true, true_and, and_false, false_and, not_true_eq_false, not_false_eq_true, eq_self, ne_eq, true_implies, false_implies, implies_true, or_true, true_or, or_false, false_or, reduceCtorEq, Option.some.injEq, Sum.inl.injEq, exists_eq_left', exists_eq_left, zite]
      refine zcnv rfl (s_trace (S := S) (g := gt S) (n := nf S) (CW_fr h.2.2.2.1 (fun k i hk => f1 k i (by omega))) (FR_fr h.2.2.2.2.1.2 (fun k i a b => f1 k i (by omega))) f3 (vokb_wst h.2.2.2.1.1 q.1.1 q.1.2) (by decide) f2 hby (by omega) (fun M2 g1 g2 => ⟨rfl, ?_⟩))
      have hfr : ∀ k i, ¬ (23 ≤ k ∧ k ≤ 37) → M2 k i = M k i := fun k i a => (g1 k i (by omega) (by omega)).trans (f1 k i (by omega))
      have hw : ∀ t : Nat, t < 20 → M2 33 ((t : Int) * 4 + qu) = wV S me t qu := fun t ht => by
        rw [g2 t ht qu q.2.1 q.2.2]
        have e := wvec_255 (S := S) (g := gt S) (m := me) (T := t) hn8
        unfold wV
        rw [← e]
        rfl
      have hv : ∀ t : Nat, t < 20 → 0 ≤ wV S me t qu ∧ wV S me t qu ≤ 9 := fun t ht => (RX_V h q.1.1 q.1.2 ht).1 qu (by omega) (by omega)
      have c2 : M2 42 2 = S 14 2 := (hfr _ _ (by decide)).trans e2
      have mR : 0 ≤ mn20 (S 14 2) ∧ mn20 (S 14 2) ≤ 20 ∧ mn20 (S 14 2) ≤ 60 := by unfold mn20; split <;> omega
      have L : ∀ t : Nat × zM, ((t.1 : Int) ≤ mn20 (S 14 2) ∧ (∀ k i, k ≠ 43 → t.2 k i = M2 k i) ∧ (∀ i, 0 ≤ i → i < 60 → t.2 43 i = if i < t.1 then wV S me i.toNat qu else S 17 i)) → uX7_write R 90 [some (.inr (.inr 0)), some (.inl me), some (.inl qu), some (.inl 2), some (.inr (.inr 42)), some (.inl (mn20 (S 14 2))), some (.inl (t.1 : Int))] [] t.2 := by
        refine zind (fun t => 20 - t.1) ?_
        rintro ⟨t, N⟩ ⟨ht, k1, k2⟩ ih
        simp only at ht k1 k2 ih
        refine rX7_write_90.mpr ?_
        by_cases he : (t : Int) = mn20 (S 14 2)
        · have fin := hR N (by
            have eo : ∀ k x, k ≠ 17 → nWrite S me qu 2 k x = S k x := fun k x hk => by
              unfold nWrite
              rw [if_neg (fun z => hk z.1)]
            have en : ∀ x, 0 ≤ x → nWrite S me qu 2 17 x = if x < mn20 (S 14 2) then wV S me x.toNat qu else S 17 x := fun x hx => by
              unfold nWrite
              by_cases c : x < mn20 (S 14 2)
              · rw [if_pos c, if_pos ⟨by decide, hx, c⟩]
              · rw [if_neg c, if_neg (fun z => c z.2.2)]
            refine RX_one2 h (fun k x hk => eo k x (by omega)) (fun k x h1 h2 h3 h4 h5 h6 => eo k x h1) (fun k x h1 h2 h3 => (k1 k x h3).trans (hfr k x h1)) ?_
            unfold L4
            rw [eo 12 _ (by decide), eo 13 _ (by decide), eo 14 _ (by decide), k1 _ _ (by decide), k1 _ _ (by decide), hfr _ _ (by decide), hfr _ _ (by decide)]
            refine ⟨l1, l2, l3, fun x a b => ?_⟩
            rw [k2 x a b, en x a, he]
            split
            · have := hv x.toNat (by omega)
              exact ⟨rfl, by omega, by omega⟩
            · exact ⟨rfl, (l4 x a b).2⟩) (fun k x hk => (k1 k x (by omega)).trans (hfr k x (by omega)))
          simp only [↓rX7_write_92, ↓rX7_write_94, ↓rX7_write_121, ↓rX7_write_123, ↓reduceIte, zkeep_n, zkeep_i, zkeep_r, zkeep_l, zup_eq, zIR, zLR, List.length_cons, List.length_nil, Nat.reduceAdd, Nat.reduceLeDiff, Nat.reduceEqDiff, Nat.reduceSub, Int.reduceLE, Int.reduceLT, Int.reduceEq, Int.reduceNe, Int.reduceNeg, Int.reduceAdd, Int.reduceSub, Int.reduceMul, Int.reduceToNat, Nat.le_refl, Nat.zero_le, Nat.zero_add, Int.zero_add, Int.add_zero, and_true, true_and, and_false, false_and, not_true_eq_false, not_false_eq_true, eq_self, ne_eq, true_implies, false_implies, implies_true, or_true, true_or, or_false, false_or, reduceCtorEq, Option.some.injEq, Sum.inl.injEq, exists_eq_left', exists_eq_left, zite]
          repeat' (first | with_reducible apply And.intro | with_reducible intro _)
          all_goals first | omega | (exact fin)
        · have c1 : N 42 1 = S 13 2 := (k1 _ _ (by decide)).trans ((hfr _ _ (by decide)).trans e1)
          have c33 : N 33 ((t : Int) * 4 + qu) = wV S me t qu := (k1 _ _ (by decide)).trans (hw t (by omega))
          have nx : ∀ w, w = zconv (S 13 2) (wV S me t qu) → uX7_write R 90 [some (.inr (.inr 0)), some (.inl me), some (.inl qu), some (.inl 2), some (.inr (.inr 42)), some (.inl (mn20 (S 14 2))), some (.inl ((t : Int) + 1))] [] (zup N 43 t w) := fun w hw2 => by
            rw [zconv_s (hv t (by omega))] at hw2
            refine ih (t + 1, zup N 43 t w) ⟨by simp only; omega, fun k x hk => (zup_ne hk).trans (k1 k x hk), fun x a b => ?_⟩ (by simp only; omega)
            simp only [zup_in]
            by_cases ex : x = t
            · rw [if_pos ex, if_pos (by omega), hw2, ex, Int.toNat_natCast]
            · rw [if_neg ex, k2 x a b]
              by_cases ex2 : x < t
              · rw [if_pos ex2, if_pos (by omega)]
              · rw [if_neg ex2, if_neg (by omega)]
          simp only [↓rX7_write_92, ↓rX7_write_94, ↓rX7_write_97, ↓rX7_write_99, ↓rX7_write_101, ↓rX7_write_102, ↓rX7_write_105, ↓rX7_write_107, ↓rX7_write_108, ↓rX7_write_109, ↓rX7_write_110, ↓rX7_write_111, ↓rX7_write_112, ↓rX7_write_115, ↓rX7_write_118, ↓hg_fX7_76_0, ↓hr_10, ↓hr_11, ↓hr_13, ↓hr_14, ↓hr_15, ↓hr_16, ↓hr_18, ↓hr_19, ↓hr_2, ↓hr_20, ↓hr_21, ↓hr_24, ↓hr_25, ↓hr_26, ↓hr_28, ↓hr_29, ↓hr_3, ↓hr_30, ↓hr_33, ↓hr_34, ↓hr_35, ↓hr_36, ↓hr_37, ↓hr_39, ↓hr_41, ↓hr_43, ↓hr_45, ↓hr_5, ↓hr_6, ↓hr_8, ↓hr_9, ↓hr_fX7_104, ↓hw_10, ↓hw_11, ↓hw_13, ↓hw_14, ↓hw_15, ↓hw_16, ↓hw_18, ↓hw_19, ↓hw_2, ↓hw_20, ↓hw_21, ↓hw_24, ↓hw_25, ↓hw_26, ↓hw_28, ↓hw_29, ↓hw_3, ↓hw_30, ↓hw_33, ↓hw_34, ↓hw_35, ↓hw_36, ↓hw_37, ↓hw_39, ↓hw_41, ↓hw_43, ↓hw_45, ↓hw_5, ↓hw_6, ↓hw_8, ↓hw_9, ↓i_store38, ↓i_store40, ↓i_store42, ↓i_store44, ↓reduceIte, zkeep_n, zkeep_i, zkeep_r, zkeep_l, zIR, zLR, List.length_cons, List.length_nil, Nat.reduceAdd, Nat.reduceLeDiff, Nat.reduceEqDiff, Nat.reduceSub, Int.reduceLE, Int.reduceLT, Int.reduceEq, Int.reduceNe, Int.reduceNeg, Int.reduceAdd, Int.reduceSub, Int.reduceMul, Int.reduceToNat, Nat.le_refl, Nat.zero_le, Nat.zero_add, Int.zero_add, Int.add_zero, and_true, true_and, and_false, false_and, not_true_eq_false, not_false_eq_true, eq_self, ne_eq, true_implies, false_implies, implies_true, or_true, true_or, or_false, false_or, reduceCtorEq, Option.some.injEq, Sum.inl.injEq, exists_eq_left', exists_eq_left, c1, c33, zite]
          repeat' (first | with_reducible apply And.intro | with_reducible intro _)
          all_goals first | omega | (refine nx _ ?_; unfold zconv; rw [if_pos (by omega)]) | (refine nx _ ?_; unfold zconv; rw [if_neg (by omega), if_pos (by omega)]) | (refine nx _ ?_; unfold zconv; rw [if_neg (by omega), if_neg (by omega)])
      have st : ∀ m, m = mn20 (S 14 2) → uX7_write R 90 [some (.inr (.inr 0)), some (.inl me), some (.inl qu), some (.inl 2), some (.inr (.inr 42)), some (.inl m), some (.inl 0)] [] M2 := fun m hm => by
        subst hm
        exact L (0, M2) ⟨mR.1, fun _ _ _ => rfl, fun x a b => by rw [if_neg (by simp only; omega)]; exact ((hfr _ _ (by decide)).trans (l4 x a b).1)⟩
      simp only [↓rX7_write_75, ↓rX7_write_77, ↓rX7_write_80, ↓rX7_write_82, ↓rX7_write_85, ↓rX7_write_87, ↓rX7_write_88, ↓hg_fX7_134_38, ↓hg_fX7_134_40, ↓hg_fX7_134_42, ↓hg_fX7_134_44, ↓i_min, ↓reduceIte, zkeep_n, zkeep_i, zkeep_r, zkeep_l, zup_eq, zIR, zLR, List.length_cons, List.length_nil, Nat.reduceAdd, Nat.reduceLeDiff, Nat.reduceEqDiff, Nat.reduceSub, Int.reduceLE, Int.reduceLT, Int.reduceEq, Int.reduceNe, Int.reduceNeg, Int.reduceAdd, Int.reduceSub, Int.reduceMul, Int.reduceToNat, Nat.le_refl, Nat.zero_le, Nat.zero_add, Int.zero_add, Int.add_zero, and_true, true_and, and_false, false_and, not_true_eq_false, not_false_eq_true, eq_self, ne_eq, true_implies, false_implies, implies_true, or_true, true_or, or_false, false_or, reduceCtorEq, Option.some.injEq, Sum.inl.injEq, exists_eq_left', exists_eq_left, c2]
      exact ⟨by omega, st _ rfl⟩
    simp only [↓eX7_write, ↓rX7_write_0, ↓rX7_write_1, ↓rX7_write_2, ↓rX7_write_5, ↓rX7_write_8, ↓rX7_write_11, ↓rX7_write_14, ↓rX7_write_15, ↓rX7_write_16, ↓rX7_write_19, ↓rX7_write_22, ↓rX7_write_23, ↓rX7_write_24, ↓rX7_write_27, ↓rX7_write_30, ↓rX7_write_32, ↓rX7_write_33, ↓rX7_write_34, ↓rX7_write_37, ↓rX7_write_38, ↓rX7_write_39, ↓rX7_write_41, ↓rX7_write_43, ↓rX7_write_46, ↓rX7_write_49, ↓rX7_write_50, ↓rX7_write_51, ↓rX7_write_54, ↓rX7_write_55, ↓rX7_write_56, ↓rX7_write_59, ↓rX7_write_60, ↓rX7_write_63, ↓rX7_write_64, ↓hg_fX7_116_1, ↓hg_fX7_116_4, ↓hg_fX7_14_0, ↓hg_fX7_44_0, ↓hg_fX7_55_0, ↓hrow_22, ↓i_finding, ↓i_isLost38, ↓i_isLost40, ↓i_isLost42, ↓i_isLost44, ↓i_outside, ↓reduceIte, ↓hrw, ↓hgd0, ↓hgd1, ↓hgd2, ↓hgd3, zkeep_n, zkeep_i, zkeep_r, zkeep_l, zIR, zLR, List.length_cons, List.length_nil, Nat.reduceAdd, Nat.reduceLeDiff, Nat.reduceEqDiff, Nat.reduceSub, Int.reduceLE, Int.reduceLT, Int.reduceEq, Int.reduceNe, Int.reduceNeg, Int.reduceAdd, Int.reduceSub, Int.reduceMul, Int.reduceToNat, Nat.le_refl, Nat.zero_le, Nat.zero_add, Int.zero_add, Int.add_zero, and_true, true_and, and_false, false_and, not_true_eq_false, not_false_eq_true, eq_self, ne_eq, true_implies, false_implies, implies_true, or_true, true_or, or_false, false_or, reduceCtorEq, Option.some.injEq, Sum.inl.injEq, exists_eq_left', exists_eq_left, n1, e1, zite]
    repeat' (first | with_reducible apply And.intro | with_reducible intro _)
    all_goals first | omega | (exact bad (by omega)) | (exact go (by omega))
set_option maxRecDepth 100000 in
set_option maxHeartbeats 4000000 in
theorem x_write3 {S M : zM} {R : zP} {me qu : Int} (h : RX S M) (z1 : zIR me) (z2 : zIR qu) (hR : ∀ M', RX (mWrite S me qu 3) M' → XF M M' → R (some (.inl (aWrite S me qu 3))) M') : tX7_write [.inr (.inr 0), .inl me, .inl qu, .inl 3] M R := by
  unfold mWrite aWrite at hR
  unfold zIR at z1 z2
  have hqn := (h.2.2.2.1.1 0 (by decide)).1
  have n1 : M 1 5 = qn S 0 := h.2.2.2.1.2.1
  obtain ⟨l1, l2, l3, l4⟩ := RX_L43 h
  have bad : ¬ ((0 ≤ me ∧ me < qn S 0) ∧ (0 ≤ qu ∧ qu < 4)) → R (some (.inl (-2))) M := fun q => by
    have q' : ¬ ((0 ≤ me ∧ me < qn S 0) ∧ (0 ≤ qu ∧ qu < 4) ∧ ((0 : Int) ≤ 3 ∧ (3 : Int) < 4)) := fun z => q ⟨z.1, z.2.1⟩
    rw [if_neg q', if_neg q'] at hR
    exact hR M h XF.rfl
  by_cases e : S 12 3 = 0
  · have e1 := l2 e
    have lost : ((0 ≤ me ∧ me < qn S 0) ∧ (0 ≤ qu ∧ qu < 4)) → R (some (.inl (-11))) (zup M 0 6 1) := fun q => by
      have q' : ((0 ≤ me ∧ me < qn S 0) ∧ (0 ≤ qu ∧ qu < 4) ∧ ((0 : Int) ≤ 3 ∧ (3 : Int) < 4)) := ⟨q.1, q.2, by decide⟩
      rw [if_pos q', if_pos q', if_pos e, if_pos e] at hR
      exact hR _ (RX_find h (by decide)) XF_find
    simp only [↓eX7_write, ↓rX7_write_0, ↓rX7_write_1, ↓rX7_write_2, ↓rX7_write_5, ↓rX7_write_8, ↓rX7_write_11, ↓rX7_write_14, ↓rX7_write_15, ↓rX7_write_16, ↓rX7_write_19, ↓rX7_write_22, ↓rX7_write_23, ↓rX7_write_24, ↓rX7_write_27, ↓rX7_write_30, ↓rX7_write_32, ↓rX7_write_33, ↓rX7_write_34, ↓rX7_write_37, ↓rX7_write_38, ↓rX7_write_39, ↓rX7_write_41, ↓rX7_write_43, ↓rX7_write_46, ↓rX7_write_49, ↓rX7_write_50, ↓rX7_write_51, ↓rX7_write_54, ↓hg_fX7_116_1, ↓hg_fX7_116_4, ↓hg_fX7_14_0, ↓hg_fX7_44_0, ↓hrow_22, ↓i_finding, ↓i_isLost38, ↓i_isLost40, ↓i_isLost42, ↓i_isLost44, ↓i_outside, ↓reduceIte, ↓hrw, ↓hgd0, ↓hgd1, ↓hgd2, ↓hgd3, zkeep_n, zkeep_i, zkeep_r, zkeep_l, zIR, zLR, List.length_cons, List.length_nil, Nat.reduceAdd, Nat.reduceLeDiff, Nat.reduceEqDiff, Nat.reduceSub, Int.reduceLE, Int.reduceLT, Int.reduceEq, Int.reduceNe, Int.reduceNeg, Int.reduceAdd, Int.reduceSub, Int.reduceMul, Int.reduceToNat, Nat.le_refl, Nat.zero_le, Nat.zero_add, Int.zero_add, Int.add_zero, and_true, true_and, and_false, false_and, not_true_eq_false, not_false_eq_true, eq_self, ne_eq, true_implies, false_implies, implies_true, or_true, true_or, or_false, false_or, reduceCtorEq, Option.some.injEq, Sum.inl.injEq, exists_eq_left', exists_eq_left, n1, e1, zite]
    repeat' (first | with_reducible apply And.intro | with_reducible intro _)
    all_goals first | omega | (exact bad (by omega)) | (exact lost (by omega))
  · obtain ⟨l5, l6⟩ := l3 (by omega)
    have e1 := l5.1
    have e2 := l6.1
    have go : ((0 ≤ me ∧ me < qn S 0) ∧ (0 ≤ qu ∧ qu < 4)) → zcn (zv 3 tX3_enter) [.inr (.inr 23), .inr (.inr 1), .inl me] M (fun M' => uX7_write R 67 [some (.inr (.inr 0)), some (.inl me), some (.inl qu), some (.inl 3), some (.inr (.inr 44)), none, none] [] M') := fun q => by
      have q' : ((0 ≤ me ∧ me < qn S 0) ∧ (0 ≤ qu ∧ qu < 4) ∧ ((0 : Int) ≤ 3 ∧ (3 : Int) < 4)) := ⟨q.1, q.2, by decide⟩
      rw [if_pos q', if_pos q', if_neg e, if_neg e] at hR
      have hby := wbyS_R S me
      have hn8 := h.2.2.2.2.1.2.2.1
      refine zcnv rfl (s_enterS h.2.2.2.1 q.1.1 q.1.2 (fun M1 f1 f2 f3 => ⟨rfl, ?_⟩))
      simp only [↓rX7_write_67, ↓rX7_write_68, ↓rX7_write_69, ↓rX7_write_72, ↓reduceIte, zkeep_n, zkeep_i, zkeep_r, zkeep_l, zup_eq, zIR, zLR, List.length_cons, List.length_nil, Nat.reduceAdd, Nat.reduceLeDiff, Nat.reduceEqDiff, Nat.reduceSub, Int.reduceLE, Int.reduceLT, Int.reduceEq, Int.reduceNe, Int.reduceNeg, Int.reduceAdd, Int.reduceSub, Int.reduceMul, Int.reduceToNat, Nat.le_refl, Nat.zero_le, Nat.zero_add, Int.zero_add, Int.add_zero, and_true, true_and, and_false, false_and, not_true_eq_false, not_false_eq_true, eq_self, ne_eq, true_implies, false_implies, implies_true, or_true, true_or, or_false, false_or, reduceCtorEq, Option.some.injEq, Sum.inl.injEq, exists_eq_left', exists_eq_left, zite]
      refine zcnv rfl (s_trace (S := S) (g := gt S) (n := nf S) (CW_fr h.2.2.2.1 (fun k i hk => f1 k i (by omega))) (FR_fr h.2.2.2.2.1.2 (fun k i a b => f1 k i (by omega))) f3 (vokb_wst h.2.2.2.1.1 q.1.1 q.1.2) (by decide) f2 hby (by omega) (fun M2 g1 g2 => ⟨rfl, ?_⟩))
      have hfr : ∀ k i, ¬ (23 ≤ k ∧ k ≤ 37) → M2 k i = M k i := fun k i a => (g1 k i (by omega) (by omega)).trans (f1 k i (by omega))
      have hw : ∀ t : Nat, t < 20 → M2 33 ((t : Int) * 4 + qu) = wV S me t qu := fun t ht => by
        rw [g2 t ht qu q.2.1 q.2.2]
        have e := wvec_255 (S := S) (g := gt S) (m := me) (T := t) hn8
        unfold wV
        rw [← e]
        rfl
      have hv : ∀ t : Nat, t < 20 → 0 ≤ wV S me t qu ∧ wV S me t qu ≤ 9 := fun t ht => (RX_V h q.1.1 q.1.2 ht).1 qu (by omega) (by omega)
      have c2 : M2 44 2 = S 14 3 := (hfr _ _ (by decide)).trans e2
      have mR : 0 ≤ mn20 (S 14 3) ∧ mn20 (S 14 3) ≤ 20 ∧ mn20 (S 14 3) ≤ 60 := by unfold mn20; split <;> omega
      have L : ∀ t : Nat × zM, ((t.1 : Int) ≤ mn20 (S 14 3) ∧ (∀ k i, k ≠ 45 → t.2 k i = M2 k i) ∧ (∀ i, 0 ≤ i → i < 60 → t.2 45 i = if i < t.1 then wV S me i.toNat qu else S 18 i)) → uX7_write R 90 [some (.inr (.inr 0)), some (.inl me), some (.inl qu), some (.inl 3), some (.inr (.inr 44)), some (.inl (mn20 (S 14 3))), some (.inl (t.1 : Int))] [] t.2 := by
        refine zind (fun t => 20 - t.1) ?_
        rintro ⟨t, N⟩ ⟨ht, k1, k2⟩ ih
        simp only at ht k1 k2 ih
        refine rX7_write_90.mpr ?_
        by_cases he : (t : Int) = mn20 (S 14 3)
        · have fin := hR N (by
            have eo : ∀ k x, k ≠ 18 → nWrite S me qu 3 k x = S k x := fun k x hk => by
              unfold nWrite
              rw [if_neg (fun z => hk z.1)]
            have en : ∀ x, 0 ≤ x → nWrite S me qu 3 18 x = if x < mn20 (S 14 3) then wV S me x.toNat qu else S 18 x := fun x hx => by
              unfold nWrite
              by_cases c : x < mn20 (S 14 3)
              · rw [if_pos c, if_pos ⟨by decide, hx, c⟩]
              · rw [if_neg c, if_neg (fun z => c z.2.2)]
            refine RX_one3 h (fun k x hk => eo k x (by omega)) (fun k x h1 h2 h3 h4 h5 h6 => eo k x h1) (fun k x h1 h2 h3 => (k1 k x h3).trans (hfr k x h1)) ?_
            unfold L4
            rw [eo 12 _ (by decide), eo 13 _ (by decide), eo 14 _ (by decide), k1 _ _ (by decide), k1 _ _ (by decide), hfr _ _ (by decide), hfr _ _ (by decide)]
            refine ⟨l1, l2, l3, fun x a b => ?_⟩
            rw [k2 x a b, en x a, he]
            split
            · have := hv x.toNat (by omega)
              exact ⟨rfl, by omega, by omega⟩
            · exact ⟨rfl, (l4 x a b).2⟩) (fun k x hk => (k1 k x (by omega)).trans (hfr k x (by omega)))
          simp only [↓rX7_write_92, ↓rX7_write_94, ↓rX7_write_121, ↓rX7_write_123, ↓reduceIte, zkeep_n, zkeep_i, zkeep_r, zkeep_l, zup_eq, zIR, zLR, List.length_cons, List.length_nil, Nat.reduceAdd, Nat.reduceLeDiff, Nat.reduceEqDiff, Nat.reduceSub, Int.reduceLE, Int.reduceLT, Int.reduceEq, Int.reduceNe, Int.reduceNeg, Int.reduceAdd, Int.reduceSub, Int.reduceMul, Int.reduceToNat, Nat.le_refl, Nat.zero_le, Nat.zero_add, Int.zero_add, Int.add_zero, and_true, true_and, and_false, false_and, not_true_eq_false, not_false_eq_true, eq_self, ne_eq, true_implies, false_implies, implies_true, or_true, true_or, or_false, false_or, reduceCtorEq, Option.some.injEq, Sum.inl.injEq, exists_eq_left', exists_eq_left, zite]
          repeat' (first | with_reducible apply And.intro | with_reducible intro _)
          all_goals first | omega | (exact fin)
        · have c1 : N 44 1 = S 13 3 := (k1 _ _ (by decide)).trans ((hfr _ _ (by decide)).trans e1)
          have c33 : N 33 ((t : Int) * 4 + qu) = wV S me t qu := (k1 _ _ (by decide)).trans (hw t (by omega))
          have nx : ∀ w, w = zconv (S 13 3) (wV S me t qu) → uX7_write R 90 [some (.inr (.inr 0)), some (.inl me), some (.inl qu), some (.inl 3), some (.inr (.inr 44)), some (.inl (mn20 (S 14 3))), some (.inl ((t : Int) + 1))] [] (zup N 45 t w) := fun w hw2 => by
            rw [zconv_s (hv t (by omega))] at hw2
            refine ih (t + 1, zup N 45 t w) ⟨by simp only; omega, fun k x hk => (zup_ne hk).trans (k1 k x hk), fun x a b => ?_⟩ (by simp only; omega)
            simp only [zup_in]
            by_cases ex : x = t
            · rw [if_pos ex, if_pos (by omega), hw2, ex, Int.toNat_natCast]
            · rw [if_neg ex, k2 x a b]
              by_cases ex2 : x < t
              · rw [if_pos ex2, if_pos (by omega)]
              · rw [if_neg ex2, if_neg (by omega)]
          simp only [↓rX7_write_92, ↓rX7_write_94, ↓rX7_write_97, ↓rX7_write_99, ↓rX7_write_101, ↓rX7_write_102, ↓rX7_write_105, ↓rX7_write_107, ↓rX7_write_108, ↓rX7_write_109, ↓rX7_write_110, ↓rX7_write_111, ↓rX7_write_112, ↓rX7_write_115, ↓rX7_write_118, ↓hg_fX7_76_0, ↓hr_10, ↓hr_11, ↓hr_13, ↓hr_14, ↓hr_15, ↓hr_16, ↓hr_18, ↓hr_19, ↓hr_2, ↓hr_20, ↓hr_21, ↓hr_24, ↓hr_25, ↓hr_26, ↓hr_28, ↓hr_29, ↓hr_3, ↓hr_30, ↓hr_33, ↓hr_34, ↓hr_35, ↓hr_36, ↓hr_37, ↓hr_39, ↓hr_41, ↓hr_43, ↓hr_45, ↓hr_5, ↓hr_6, ↓hr_8, ↓hr_9, ↓hr_fX7_104, ↓hw_10, ↓hw_11, ↓hw_13, ↓hw_14, ↓hw_15, ↓hw_16, ↓hw_18, ↓hw_19, ↓hw_2, ↓hw_20, ↓hw_21, ↓hw_24, ↓hw_25, ↓hw_26, ↓hw_28, ↓hw_29, ↓hw_3, ↓hw_30, ↓hw_33, ↓hw_34, ↓hw_35, ↓hw_36, ↓hw_37, ↓hw_39, ↓hw_41, ↓hw_43, ↓hw_45, ↓hw_5, ↓hw_6, ↓hw_8, ↓hw_9, ↓i_store38, ↓i_store40, ↓i_store42, ↓i_store44, ↓reduceIte, zkeep_n, zkeep_i, zkeep_r, zkeep_l, zIR, zLR, List.length_cons, List.length_nil, Nat.reduceAdd, Nat.reduceLeDiff, Nat.reduceEqDiff, Nat.reduceSub, Int.reduceLE, Int.reduceLT, Int.reduceEq, Int.reduceNe, Int.reduceNeg, Int.reduceAdd, Int.reduceSub, Int.reduceMul, Int.reduceToNat, Nat.le_refl, Nat.zero_le, Nat.zero_add, Int.zero_add, Int.add_zero, and_true, true_and, and_false, false_and, not_true_eq_false, not_false_eq_true, eq_self, ne_eq, true_implies, false_implies, implies_true, or_true, true_or, or_false, false_or, reduceCtorEq, Option.some.injEq, Sum.inl.injEq, exists_eq_left', exists_eq_left, c1, c33, zite]
          repeat' (first | with_reducible apply And.intro | with_reducible intro _)
          all_goals first | omega | (refine nx _ ?_; unfold zconv; rw [if_pos (by omega)]) | (refine nx _ ?_; unfold zconv; rw [if_neg (by omega), if_pos (by omega)]) | (refine nx _ ?_; unfold zconv; rw [if_neg (by omega), if_neg (by omega)])
      have st : ∀ m, m = mn20 (S 14 3) → uX7_write R 90 [some (.inr (.inr 0)), some (.inl me), some (.inl qu), some (.inl 3), some (.inr (.inr 44)), some (.inl m), some (.inl 0)] [] M2 := fun m hm => by
        subst hm
        exact L (0, M2) ⟨mR.1, fun _ _ _ => rfl, fun x a b => by rw [if_neg (by simp only; omega)]; exact ((hfr _ _ (by decide)).trans (l4 x a b).1)⟩
      simp only [↓rX7_write_75, ↓rX7_write_77, ↓rX7_write_80, ↓rX7_write_82, ↓rX7_write_85, ↓rX7_write_87, ↓rX7_write_88, ↓hg_fX7_134_38, ↓hg_fX7_134_40, ↓hg_fX7_134_42, ↓hg_fX7_134_44, ↓i_min, ↓reduceIte, zkeep_n, zkeep_i, zkeep_r, zkeep_l, zup_eq, zIR, zLR, List.length_cons, List.length_nil, Nat.reduceAdd, Nat.reduceLeDiff, Nat.reduceEqDiff, Nat.reduceSub, Int.reduceLE, Int.reduceLT, Int.reduceEq, Int.reduceNe, Int.reduceNeg, Int.reduceAdd, Int.reduceSub, Int.reduceMul, Int.reduceToNat, Nat.le_refl, Nat.zero_le, Nat.zero_add, Int.zero_add, Int.add_zero, and_true, true_and, and_false, false_and, not_true_eq_false, not_false_eq_true, eq_self, ne_eq, true_implies, false_implies, implies_true, or_true, true_or, or_false, false_or, reduceCtorEq, Option.some.injEq, Sum.inl.injEq, exists_eq_left', exists_eq_left, c2]
      exact ⟨by omega, st _ rfl⟩
    simp only [↓eX7_write, ↓rX7_write_0, ↓rX7_write_1, ↓rX7_write_2, ↓rX7_write_5, ↓rX7_write_8, ↓rX7_write_11, ↓rX7_write_14, ↓rX7_write_15, ↓rX7_write_16, ↓rX7_write_19, ↓rX7_write_22, ↓rX7_write_23, ↓rX7_write_24, ↓rX7_write_27, ↓rX7_write_30, ↓rX7_write_32, ↓rX7_write_33, ↓rX7_write_34, ↓rX7_write_37, ↓rX7_write_38, ↓rX7_write_39, ↓rX7_write_41, ↓rX7_write_43, ↓rX7_write_46, ↓rX7_write_49, ↓rX7_write_50, ↓rX7_write_51, ↓rX7_write_54, ↓rX7_write_55, ↓rX7_write_56, ↓rX7_write_59, ↓rX7_write_60, ↓rX7_write_63, ↓rX7_write_64, ↓hg_fX7_116_1, ↓hg_fX7_116_4, ↓hg_fX7_14_0, ↓hg_fX7_44_0, ↓hg_fX7_55_0, ↓hrow_22, ↓i_finding, ↓i_isLost38, ↓i_isLost40, ↓i_isLost42, ↓i_isLost44, ↓i_outside, ↓reduceIte, ↓hrw, ↓hgd0, ↓hgd1, ↓hgd2, ↓hgd3, zkeep_n, zkeep_i, zkeep_r, zkeep_l, zIR, zLR, List.length_cons, List.length_nil, Nat.reduceAdd, Nat.reduceLeDiff, Nat.reduceEqDiff, Nat.reduceSub, Int.reduceLE, Int.reduceLT, Int.reduceEq, Int.reduceNe, Int.reduceNeg, Int.reduceAdd, Int.reduceSub, Int.reduceMul, Int.reduceToNat, Nat.le_refl, Nat.zero_le, Nat.zero_add, Int.zero_add, Int.add_zero, and_true, true_and, and_false, false_and, not_true_eq_false, not_false_eq_true, eq_self, ne_eq, true_implies, false_implies, implies_true, or_true, true_or, or_false, false_or, reduceCtorEq, Option.some.injEq, Sum.inl.injEq, exists_eq_left', exists_eq_left, n1, e1, zite]
    repeat' (first | with_reducible apply And.intro | with_reducible intro _)
    all_goals first | omega | (exact bad (by omega)) | (exact go (by omega))
set_option maxRecDepth 100000 in
set_option maxHeartbeats 4000000 in
theorem x_write {S M : zM} {R : zP} {me qu s : Int} (h : RX S M) (z1 : zIR me) (z2 : zIR qu) (z3 : zIR s) (hR : ∀ M', RX (mWrite S me qu s) M' → XF M M' → R (some (.inl (aWrite S me qu s))) M') : tX7_write [.inr (.inr 0), .inl me, .inl qu, .inl s] M R := by
  by_cases hs : 0 ≤ s ∧ s < 4
  · have e : s = 0 ∨ s = 1 ∨ s = 2 ∨ s = 3 := by omega
    rcases e with rfl | rfl | rfl | rfl
    · exact x_write0 h z1 z2 hR
    · exact x_write1 h z1 z2 hR
    · exact x_write2 h z1 z2 hR
    · exact x_write3 h z1 z2 hR
  · have fin := hR M (by unfold mWrite; rw [if_neg (fun q => hs q.2.2)]; exact h) XF.rfl
    unfold aWrite at fin
    rw [if_neg (fun q => hs q.2.2)] at fin
    have hqn := (h.2.2.2.1.1 0 (by decide)).1
    have n1 : M 1 5 = qn S 0 := h.2.2.2.1.2.1
    unfold zIR at z1 z2 z3
    simp only [↓eX7_write, ↓rX7_write_0, ↓rX7_write_1, ↓rX7_write_2, ↓rX7_write_5, ↓rX7_write_8, ↓rX7_write_11, ↓rX7_write_14, ↓rX7_write_15, ↓rX7_write_16, ↓rX7_write_19, ↓rX7_write_22, ↓rX7_write_23, ↓rX7_write_24, ↓rX7_write_27, ↓rX7_write_30, ↓rX7_write_32, ↓hg_fX7_116_1, ↓hg_fX7_116_4, ↓hg_fX7_14_0, ↓i_outside, ↓reduceIte, zkeep_n, zkeep_i, zkeep_r, zkeep_l, zup_eq, zIR, zLR, List.length_cons, List.length_nil, Nat.reduceAdd, Nat.reduceLeDiff, Nat.reduceEqDiff, Nat.reduceSub, Int.reduceLE, Int.reduceLT, Int.reduceEq, Int.reduceNe, Int.reduceNeg, Int.reduceAdd, Int.reduceSub, Int.reduceMul, Int.reduceToNat, Nat.le_refl, Nat.zero_le, Nat.zero_add, Int.zero_add, Int.add_zero, and_true, true_and, and_false, false_and, not_true_eq_false, not_false_eq_true, eq_self, ne_eq, true_implies, false_implies, implies_true, or_true, true_or, or_false, false_or, reduceCtorEq, Option.some.injEq, Sum.inl.injEq, exists_eq_left', exists_eq_left, n1, zite]
    repeat' (first | with_reducible apply And.intro | with_reducible intro _)
    all_goals first | omega | (exact fin)
