def wlst (p : Nat → Bool) : Nat → Int
  | 0 => -1
  | k + 1 => if wlst p k ≠ -1 then wlst p k else if p k = true then (k : Int) else -1
theorem wlst_none {p : Nat → Bool} : ∀ k : Nat, (∀ j : Nat, j < k → p j = false) → wlst p k = -1
  | 0, _ => rfl
  | k + 1, h => by
    unfold wlst
    rw [wlst_none k (fun j hj => h j (by omega)), h k (by omega)]
    simp
theorem wlst_found {p : Nat → Bool} {m : Nat} (hm : p m = true) (hl : ∀ j : Nat, j < m → p j = false) : ∀ k : Nat, m < k → wlst p k = m
  | 0, h => by omega
  | k + 1, h => by
    unfold wlst
    by_cases e : m = k
    · subst e
      rw [wlst_none m hl, hm]
      simp
    · rw [wlst_found hm hl k (by omega)]
      rw [if_pos (by omega)]
def qk (S : zM) : Nat := (qn S 0).toNat
def fst (S : zM) (m : Int) : Int → Int := fun q => qfact S 0 m (1 + q)
def aAble (S : zM) (te me wh : Int) : Int := if (0 ≤ te ∧ te < 20) ∧ (0 ≤ me ∧ me < qn S 0) ∧ (0 ≤ wh ∧ wh < 3) then (if wh = 0 then wV S me te.toNat 12 else if wh = 1 then wV S me te.toNat 13 else if wknb (wV S me te.toNat) (fst S me) = true then 1 else 0) else -2
def pay (S : zM) (te : Nat) (qu : Int) : Nat → Bool := fun m => decide (5 ≤ wV S m te qu)
def aHouse (S : zM) (te qu wh : Int) : Int := if (0 ≤ te ∧ te < 20) ∧ (0 ≤ qu ∧ qu < 4) ∧ (0 ≤ wh ∧ wh < 3) then (if wh = 0 then wct (pay S te.toNat qu) (qk S) else if wh = 1 then (if 2 * wct (pay S te.toNat qu) (qk S) ≤ qn S 0 then 0 else 1) else wbs (whin (pay S te.toNat qu) (qn S 0) (qk S)) (qk S)) else -2
def aWeaned (S : zM) : Int := wbs (fun m => !wknb (wV S m 19) (fst S m)) (qk S)
def aSays (S : zM) (qu : Int) : Int := if 0 ≤ qu ∧ qu < 4 then (if 2 * wct (pay S 19 qu) (qk S) ≤ qn S 0 then -1 else wlst (fun m => !pay S 19 qu m) (qk S)) else -2
set_option maxRecDepth 100000 in
set_option maxHeartbeats 4000000 in
theorem x_able {S M : zM} {R : zP} {te me wh : Int} (h : RX S M) (z1 : zIR te) (z2 : zIR me) (z4 : zIR wh) (hR : ∀ M', QF M M' → R (some (.inl (aAble S te me wh))) M') : tX7_able [.inr (.inr 0), .inl te, .inl me, .inl wh] M R := by
  have hqn := (h.2.2.2.1.1 0 (by decide)).1
  have n1 := h.2.2.2.1.2.1
  unfold zIR at z1 z2 z4
  have bad : ¬ ((0 ≤ te ∧ te < 20) ∧ (0 ≤ me ∧ me < qn S 0) ∧ (0 ≤ wh ∧ wh < 3)) → R (some (.inl (-2))) M := fun hb => by
    have := hR M QF.rfl
    unfold aAble at this
    rw [if_neg hb] at this
    exact this
  have call : ((0 ≤ te ∧ te < 20) ∧ (0 ≤ me ∧ me < qn S 0) ∧ (0 ≤ wh ∧ wh < 3)) → zcn (zv 7 tX7_raise) [.inr (.inr 0), .inr (.inr 7), .inl me, .inl te, .inl 255] M (fun M' => uX7_able R 47 [some (.inr (.inr 0)), some (.inl te), some (.inl me), some (.inl wh)] [] M') := by
    intro hg
    refine zcnv rfl (RX_raise h hg.1 hg.2.1.1 hg.2.1.2 (fun M' f1 f2 => ⟨rfl, ?_⟩))
    have fin := hR M' (QF.of f1)
    unfold aAble at fin
    rw [if_pos hg] at fin
    have hv := RX_V h hg.2.1.1 hg.2.1.2 (T := te.toNat) (by omega)
    have c1 : M' 23 3 = wV S me te.toNat 12 := f2.2.1
    have c2 : M' 23 5 = wV S me te.toNat 13 := f2.2.2
    have e24 : ∀ q, 0 ≤ q → q < 4 → M' 24 q = wV S me te.toNat q := fun q a b => (f2.1 q a b).1
    have hCN : CW S M' := CW_fr h.2.2.2.1 (fun k i hk => f1 k i (by omega))
    have hfac : ∀ q, 0 ≤ q → q < 4 → M' 3 (me * 5 + 1 + q) = fst S me q := fun q a b => by
      rw [Int.add_assoc]
      exact hCN.2.2.2.1 me (1 + q) (by omega) (by omega) (by omega) (by omega)
    have hfr2 : ∀ q, 0 ≤ q → q < 4 → 0 ≤ fst S me q ∧ fst S me q ≤ 9 := fun q a b => ((h.2.2.2.1.1 0 (by decide)).2 me (by omega) (by omega)).2.2 (1 + q) (by omega) (by omega)
    have hkn := wknb_iff (v := M' 24) (v' := wV S me te.toNat) (fi := fun q => M' 3 (me * 5 + 1 + q)) (fi' := fst S me) e24 hfac
    have kn : wh = 2 → zcv (zv 3 tX3_knows) [.inr (.inr 23), .inr (.inr 1), .inl me] M' (fun v M' => uX7_able R 104 [some (.inr (.inr 0)), some (.inl te), some (.inl me), some (.inl wh)] [v] M') := by
      intro hw
      refine zcvv rfl (s_knows (by omega) (fun q a b => by rw [e24 q a b]; exact hv.1 q (by omega) (by omega)) (fun q a b => by rw [hfac q a b]; exact hfr2 q a b) (fun hk => ⟨_, rfl, ?_⟩) (fun hk => ⟨_, rfl, ?_⟩))
      · simp only [↓rX7_able_104, ↓rX7_able_107, ↓i_bit, ↓reduceIte, zkeep_n, zkeep_i, zkeep_r, zkeep_l, zup_eq, zIR, zLR, List.length_cons, List.length_nil, Nat.reduceAdd, Nat.reduceLeDiff, Nat.reduceEqDiff, Nat.reduceSub, Int.reduceLE, Int.reduceLT, Int.reduceEq, Int.reduceNe, Int.reduceNeg, Int.reduceAdd, Int.reduceSub, Int.reduceMul, Int.reduceToNat, Nat.le_refl, Nat.zero_le, Nat.zero_add, Int.zero_add, Int.add_zero, and_true, true_and, and_false, false_and, not_true_eq_false, not_false_eq_true, eq_self, ne_eq, true_implies, false_implies, implies_true, or_true, true_or, or_false, false_or, reduceCtorEq, Option.some.injEq, Sum.inl.injEq, exists_eq_left', exists_eq_left, zite]
        rw [hkn] at hk
        rw [if_neg (by omega), if_neg (by omega), if_pos hk] at fin
        exact fin
      · simp only [↓rX7_able_104, ↓rX7_able_107, ↓i_bit, ↓reduceIte, zkeep_n, zkeep_i, zkeep_r, zkeep_l, zup_eq, zIR, zLR, List.length_cons, List.length_nil, Nat.reduceAdd, Nat.reduceLeDiff, Nat.reduceEqDiff, Nat.reduceSub, Int.reduceLE, Int.reduceLT, Int.reduceEq, Int.reduceNe, Int.reduceNeg, Int.reduceAdd, Int.reduceSub, Int.reduceMul, Int.reduceToNat, Nat.le_refl, Nat.zero_le, Nat.zero_add, Int.zero_add, Int.add_zero, and_true, true_and, and_false, false_and, not_true_eq_false, not_false_eq_true, eq_self, ne_eq, true_implies, false_implies, implies_true, or_true, true_or, or_false, false_or, reduceCtorEq, Option.some.injEq, Sum.inl.injEq, exists_eq_left', exists_eq_left, zite]
        rw [hkn] at hk
        rw [if_neg (by omega), if_neg (by omega), if_neg hk] at fin
        exact fin
    simp only [↓rX7_able_47, ↓rX7_able_48, ↓rX7_able_84, ↓rX7_able_85, ↓rX7_able_88, ↓rX7_able_91, ↓rX7_able_76, ↓rX7_able_77, ↓rX7_able_80, ↓rX7_able_83, ↓rX7_able_92, ↓rX7_able_93, ↓rX7_able_96, ↓rX7_able_97, ↓rX7_able_100, ↓rX7_able_101, ↓hg_fX7_14_0, ↓hg_fX7_159_23, ↓hg_fX7_159_27, ↓hg_fX7_162_23, ↓hg_fX7_162_27, ↓hg_fX7_55_0, ↓reduceIte, zkeep_n, zkeep_i, zkeep_r, zkeep_l, zup_eq, zIR, zLR, List.length_cons, List.length_nil, Nat.reduceAdd, Nat.reduceLeDiff, Nat.reduceEqDiff, Nat.reduceSub, Int.reduceLE, Int.reduceLT, Int.reduceEq, Int.reduceNe, Int.reduceNeg, Int.reduceAdd, Int.reduceSub, Int.reduceMul, Int.reduceToNat, Nat.le_refl, Nat.zero_le, Nat.zero_add, Int.zero_add, Int.add_zero, and_true, true_and, and_false, false_and, not_true_eq_false, not_false_eq_true, eq_self, ne_eq, true_implies, false_implies, implies_true, or_true, true_or, or_false, false_or, reduceCtorEq, Option.some.injEq, Sum.inl.injEq, exists_eq_left', exists_eq_left, c1, c2, zite]
    repeat' (first | with_reducible apply And.intro | with_reducible intro _)
    all_goals first | omega | (rw [if_pos (by omega)] at fin; exact fin) | (rw [if_neg (by omega), if_pos (by omega)] at fin; exact fin) | (exact kn (by omega))
  simp only [↓eX7_able, ↓rX7_able_0, ↓rX7_able_1, ↓rX7_able_3, ↓rX7_able_6, ↓rX7_able_9, ↓rX7_able_10, ↓rX7_able_11, ↓rX7_able_14, ↓rX7_able_17, ↓rX7_able_20, ↓rX7_able_23, ↓rX7_able_24, ↓rX7_able_25, ↓rX7_able_28, ↓rX7_able_31, ↓rX7_able_33, ↓rX7_able_34, ↓rX7_able_35, ↓rX7_able_36, ↓rX7_able_39, ↓rX7_able_40, ↓rX7_able_41, ↓rX7_able_44, ↓hg_fX7_116_1, ↓hg_fX7_116_4, ↓hg_fX7_14_0, ↓hg_fX7_28_0, ↓i_outside, ↓reduceIte, zkeep_n, zkeep_i, zkeep_r, zkeep_l, zup_eq, zIR, zLR, List.length_cons, List.length_nil, Nat.reduceAdd, Nat.reduceLeDiff, Nat.reduceEqDiff, Nat.reduceSub, Int.reduceLE, Int.reduceLT, Int.reduceEq, Int.reduceNe, Int.reduceNeg, Int.reduceAdd, Int.reduceSub, Int.reduceMul, Int.reduceToNat, Nat.le_refl, Nat.zero_le, Nat.zero_add, Int.zero_add, Int.add_zero, and_true, true_and, and_false, false_and, not_true_eq_false, not_false_eq_true, eq_self, ne_eq, true_implies, false_implies, implies_true, or_true, true_or, or_false, false_or, reduceCtorEq, Option.some.injEq, Sum.inl.injEq, exists_eq_left', exists_eq_left, n1, zite]
  repeat' (first | with_reducible apply And.intro | with_reducible intro _)
  all_goals first | omega | (exact bad (by omega)) | (exact call (by omega))
theorem RX_ayes {S M : zM} {R : zP} {te qu : Int} (h : RX S M) (hT : 0 ≤ te ∧ te < 20) (hq : 0 ≤ qu ∧ qu < 4) (hR : ∀ M', (∀ k i, ¬ (23 ≤ k ∧ k ≤ 26) → M' k i = M k i) → R (some (.inl (wbs (pay S te.toNat qu) (qk S)))) M') : tX7_ayes [.inr (.inr 0), .inl te, .inl qu] M R := by
  have := s_ayes (S := S) (M := M) (g := gt S) (n := nf S) (T := te.toNat) (q := qu) (R := R) h.2.2.2.1 h.2.2.2.2.1.2 (by omega) hq (fun M' f1 => by
    have e := fun m => wvec_255 (S := S) (g := gt S) (m := m) (T := te.toNat) h.2.2.2.2.1.2.2.1
    simp only [e]
    exact hR M' f1)
  rw [Int.toNat_of_nonneg hT.1] at this
  exact this
set_option maxRecDepth 100000 in
set_option maxHeartbeats 4000000 in
theorem x_house {S M : zM} {R : zP} {te qu wh : Int} (h : RX S M) (z1 : zIR te) (z2 : zIR qu) (z4 : zIR wh) (hR : ∀ M', QF M M' → R (some (.inl (aHouse S te qu wh))) M') : tX7_house [.inr (.inr 0), .inl te, .inl qu, .inl wh] M R := by
  have hqn := (h.2.2.2.1.1 0 (by decide)).1
  unfold zIR at z1 z2 z4
  have bad : ¬ ((0 ≤ te ∧ te < 20) ∧ (0 ≤ qu ∧ qu < 4) ∧ (0 ≤ wh ∧ wh < 3)) → R (some (.inl (-2))) M := fun hb => by
    have := hR M QF.rfl
    unfold aHouse at this
    rw [if_neg hb] at this
    exact this
  have call : ((0 ≤ te ∧ te < 20) ∧ (0 ≤ qu ∧ qu < 4) ∧ (0 ≤ wh ∧ wh < 3)) → zcv (zv 7 tX7_ayes) [.inr (.inr 0), .inl te, .inl qu] M (fun v M' => uX7_house R 34 [some (.inr (.inr 0)), some (.inl te), some (.inl qu), some (.inl wh), none] [v] M') := by
    intro hg
    refine zcvv rfl (RX_ayes h hg.1 hg.2.1 (fun M' f1 => ⟨_, rfl, ?_⟩))
    have fin := hR M' (QF.of f1)
    unfold aHouse at fin
    rw [if_pos hg] at fin
    have hk8 : qk S ≤ 8 := by unfold qk; omega
    have hp8 := wbs_8 (pay S te.toNat qu) hk8
    have hCN : CW S M' := CW_fr h.2.2.2.1 (fun k i hk => f1 k i (by omega))
    have i1 := fun f => s_haveIt_gen (S := S) (M := M') (f := f) hCN hp8
    have e1 := zbc_at hp8.1 hp8.2
    rw [wones_wbs _ _ hk8] at i1 e1
    have hin : 2 ≤ wh → zcv (zv 7 tX7_hinges) [.inr (.inr 0), .inl (wbs (pay S te.toNat qu) (qk S))] M' (fun v M' => uX7_house R 86 [some (.inr (.inr 0)), some (.inl te), some (.inl qu), some (.inl wh), some (.inl (wbs (pay S te.toNat qu) (qk S)))] [v] M') := by
      intro hw
      refine zcvv rfl (s_hinges hCN ⟨_, rfl, ?_⟩)
      simp only [↓rX7_house_86, ↓reduceIte, zkeep_n, zkeep_i, zkeep_r, zkeep_l, zup_eq, zIR, zLR, List.length_cons, List.length_nil, Nat.reduceAdd, Nat.reduceLeDiff, Nat.reduceEqDiff, Nat.reduceSub, Int.reduceLE, Int.reduceLT, Int.reduceEq, Int.reduceNe, Int.reduceNeg, Int.reduceAdd, Int.reduceSub, Int.reduceMul, Int.reduceToNat, Nat.le_refl, Nat.zero_le, Nat.zero_add, Int.zero_add, Int.add_zero, and_true, true_and, and_false, false_and, not_true_eq_false, not_false_eq_true, eq_self, ne_eq, true_implies, false_implies, implies_true, or_true, true_or, or_false, false_or, reduceCtorEq, Option.some.injEq, Sum.inl.injEq, exists_eq_left', exists_eq_left, zite]
      rw [if_neg (by omega), if_neg (by omega)] at fin
      exact fin
    simp only [↓rX7_house_34, ↓rX7_house_36, ↓rX7_house_37, ↓rX7_house_70, ↓rX7_house_71, ↓rX7_house_73, ↓rX7_house_76, ↓rX7_house_79, ↓rX7_house_64, ↓rX7_house_66, ↓rX7_house_69, ↓rX7_house_80, ↓rX7_house_81, ↓rX7_house_83, ↓i_bit, ↓i_bitCount, ↓reduceIte, ↓i1, zkeep_n, zkeep_i, zkeep_r, zkeep_l, zup_eq, zIR, zLR, List.length_cons, List.length_nil, Nat.reduceAdd, Nat.reduceLeDiff, Nat.reduceEqDiff, Nat.reduceSub, Int.reduceLE, Int.reduceLT, Int.reduceEq, Int.reduceNe, Int.reduceNeg, Int.reduceAdd, Int.reduceSub, Int.reduceMul, Int.reduceToNat, Nat.le_refl, Nat.zero_le, Nat.zero_add, Int.zero_add, Int.add_zero, and_true, true_and, and_false, false_and, not_true_eq_false, not_false_eq_true, eq_self, ne_eq, true_implies, false_implies, implies_true, or_true, true_or, or_false, false_or, reduceCtorEq, Option.some.injEq, Sum.inl.injEq, exists_eq_left', exists_eq_left, e1, zite]
    repeat' (first | with_reducible apply And.intro | with_reducible intro _)
    all_goals first | omega | (rw [if_pos (by omega)] at fin; exact fin) | (rw [if_neg (by omega), if_pos (by omega), if_pos (by omega)] at fin; exact fin) | (rw [if_neg (by omega), if_pos (by omega), if_neg (by omega)] at fin; exact fin) | (exact hin (by omega))
  simp only [↓eX7_house, ↓rX7_house_0, ↓rX7_house_1, ↓rX7_house_3, ↓rX7_house_6, ↓rX7_house_9, ↓rX7_house_10, ↓rX7_house_11, ↓rX7_house_14, ↓rX7_house_17, ↓rX7_house_18, ↓rX7_house_19, ↓rX7_house_22, ↓rX7_house_25, ↓rX7_house_27, ↓rX7_house_28, ↓rX7_house_29, ↓rX7_house_30, ↓rX7_house_31, ↓i_outside, ↓reduceIte, zkeep_n, zkeep_i, zkeep_r, zkeep_l, zup_eq, zIR, zLR, List.length_cons, List.length_nil, Nat.reduceAdd, Nat.reduceLeDiff, Nat.reduceEqDiff, Nat.reduceSub, Int.reduceLE, Int.reduceLT, Int.reduceEq, Int.reduceNe, Int.reduceNeg, Int.reduceAdd, Int.reduceSub, Int.reduceMul, Int.reduceToNat, Nat.le_refl, Nat.zero_le, Nat.zero_add, Int.zero_add, Int.add_zero, and_true, true_and, and_false, false_and, not_true_eq_false, not_false_eq_true, eq_self, ne_eq, true_implies, false_implies, implies_true, or_true, true_or, or_false, false_or, reduceCtorEq, Option.some.injEq, Sum.inl.injEq, exists_eq_left', exists_eq_left, zite]
  repeat' (first | with_reducible apply And.intro | with_reducible intro _)
  all_goals first | omega | (exact bad (by omega)) | (exact call (by omega))
set_option maxRecDepth 100000 in
set_option maxHeartbeats 4000000 in
theorem x_weaned {S M : zM} {R : zP} (h : RX S M) (hR : ∀ M', QF M M' → R (some (.inl (aWeaned S))) M') : tX7_weaned [.inr (.inr 0)] M R := by
  simp only [↓eX7_weaned, ↓rX7_weaned_0, ↓rX7_weaned_1, ↓rX7_weaned_2, ↓rX7_weaned_5, ↓rX7_weaned_8, ↓hg_fX7_28_0, ↓reduceIte, zkeep_n, zkeep_i, zkeep_r, zkeep_l, zup_eq, zIR, zLR, List.length_cons, List.length_nil, Nat.reduceAdd, Nat.reduceLeDiff, Nat.reduceEqDiff, Nat.reduceSub, Int.reduceLE, Int.reduceLT, Int.reduceEq, Int.reduceNe, Int.reduceNeg, Int.reduceAdd, Int.reduceSub, Int.reduceMul, Int.reduceToNat, Nat.le_refl, Nat.zero_le, Nat.zero_add, Int.zero_add, Int.add_zero, and_true, true_and, and_false, false_and, not_true_eq_false, not_false_eq_true, eq_self, ne_eq, true_implies, false_implies, implies_true, or_true, true_or, or_false, false_or, reduceCtorEq, Option.some.injEq, Sum.inl.injEq, exists_eq_left', exists_eq_left, zite]
  refine zcvv rfl (s_unknowing7 (S := S) (M := M) (g := gt S) (n := nf S) (kept := 255) h.2.2.2.1 h.2.2.2.2.1.2 (fun M' f1 => ⟨_, rfl, ?_⟩))
  have e := fun m => wvec_255 (S := S) (g := gt S) (m := m) (T := 19) h.2.2.2.2.1.2.2.1
  simp only [e]
  simp only [↓rX7_weaned_11, ↓reduceIte, zkeep_n, zkeep_i, zkeep_r, zkeep_l, zup_eq, zIR, zLR, List.length_cons, List.length_nil, Nat.reduceAdd, Nat.reduceLeDiff, Nat.reduceEqDiff, Nat.reduceSub, Int.reduceLE, Int.reduceLT, Int.reduceEq, Int.reduceNe, Int.reduceNeg, Int.reduceAdd, Int.reduceSub, Int.reduceMul, Int.reduceToNat, Nat.le_refl, Nat.zero_le, Nat.zero_add, Int.zero_add, Int.add_zero, and_true, true_and, and_false, false_and, not_true_eq_false, not_false_eq_true, eq_self, ne_eq, true_implies, false_implies, implies_true, or_true, true_or, or_false, false_or, reduceCtorEq, Option.some.injEq, Sum.inl.injEq, exists_eq_left', exists_eq_left, zite]
  exact hR M' (QF.of f1)
set_option maxRecDepth 100000 in
set_option maxHeartbeats 4000000 in
theorem x_says {S M : zM} {R : zP} {qu : Int} (h : RX S M) (z2 : zIR qu) (hR : ∀ M', QF M M' → R (some (.inl (aSays S qu))) M') : tX7_says [.inr (.inr 0), .inl qu] M R := by
  have hqn := (h.2.2.2.1.1 0 (by decide)).1
  unfold zIR at z2
  have bad : ¬ (0 ≤ qu ∧ qu < 4) → R (some (.inl (-2))) M := fun hb => by
    have := hR M QF.rfl
    unfold aSays at this
    rw [if_neg hb] at this
    exact this
  have call : (0 ≤ qu ∧ qu < 4) → zcv (zv 7 tX7_ayes) [.inr (.inr 0), .inl 19, .inl qu] M (fun v M' => uX7_says R 18 [some (.inr (.inr 0)), some (.inl qu), none, none] [v] M') := by
    intro hg
    refine zcvv rfl (RX_ayes h (by decide) hg (fun M' f1 => ⟨_, rfl, ?_⟩))
    have fin := hR M' (QF.of f1)
    unfold aSays at fin
    rw [if_pos hg] at fin
    rw [show (19 : Int).toNat = 19 by rfl]
    have hk8 : qk S ≤ 8 := by unfold qk; omega
    have hp8 := wbs_8 (pay S 19 qu) hk8
    have hCN : CW S M' := CW_fr h.2.2.2.1 (fun k i hk => f1 k i (by omega))
    have n1 : M' 1 5 = qn S 0 := hCN.2.1
    have i1 := fun f => s_haveIt_gen (S := S) (M := M') (f := f) hCN hp8
    rw [wones_wbs _ _ hk8] at i1
    have L : ¬ 2 * wct (pay S 19 qu) (qk S) ≤ qn S 0 → ∀ m : Nat, (m ≤ qk S ∧ ∀ j : Nat, j < m → pay S 19 qu j = true) → uX7_says R 31 [some (.inr (.inr 0)), some (.inl qu), some (.inl (wbs (pay S 19 qu) (qk S))), some (.inl (m : Int))] [] M' := by
      intro hc
      rw [if_neg hc] at fin
      refine zind (fun m => qk S - m) ?_
      rintro m ⟨hm, hall⟩ ih
      refine rX7_says_31.mpr ?_
      have hqk : (qk S : Int) = qn S 0 := by unfold qk; omega
      by_cases he : m = qk S
      · have e : wlst (fun m => !pay S 19 qu m) (qk S) = -1 := wlst_none _ (fun j hj => by simp [hall j (by omega)])
        rw [e] at fin
        simp only [↓rX7_says_32, ↓rX7_says_33, ↓rX7_says_36, ↓rX7_says_39, ↓rX7_says_58, ↓rX7_says_59, ↓hg_fX7_116_1, ↓hg_fX7_116_4, ↓hg_fX7_14_0, ↓reduceIte, zkeep_n, zkeep_i, zkeep_r, zkeep_l, zup_eq, zIR, zLR, List.length_cons, List.length_nil, Nat.reduceAdd, Nat.reduceLeDiff, Nat.reduceEqDiff, Nat.reduceSub, Int.reduceLE, Int.reduceLT, Int.reduceEq, Int.reduceNe, Int.reduceNeg, Int.reduceAdd, Int.reduceSub, Int.reduceMul, Int.reduceToNat, Nat.le_refl, Nat.zero_le, Nat.zero_add, Int.zero_add, Int.add_zero, and_true, true_and, and_false, false_and, not_true_eq_false, not_false_eq_true, eq_self, ne_eq, true_implies, false_implies, implies_true, or_true, true_or, or_false, false_or, reduceCtorEq, Option.some.injEq, Sum.inl.injEq, exists_eq_left', exists_eq_left, n1, zite]
        repeat' (first | with_reducible apply And.intro | with_reducible intro _)
        all_goals first | omega | (exact fin)
      · have hb := zbit_wbs (pay S 19 qu) hk8 (show m < qk S by omega)
        have fnd : pay S 19 qu m = false → R (some (.inl (m : Int))) M' := fun hp => by
          have e : wlst (fun m => !pay S 19 qu m) (qk S) = m := wlst_found (p := fun m => !pay S 19 qu m) (by simp [hp]) (fun j hj => by simp [hall j hj]) _ (by omega)
          rw [e] at fin
          exact fin
        have next : pay S 19 qu m = true → uX7_says R 31 [some (.inr (.inr 0)), some (.inl qu), some (.inl (wbs (pay S 19 qu) (qk S))), some (.inl ((m : Int) + 1))] [] M' := fun hp => by
          refine ih (m + 1) ⟨by omega, fun j hj => ?_⟩ (by omega)
          by_cases e : j = m
          · rw [e]; exact hp
          · exact hall j (by omega)
        cases hp : pay S 19 qu m with
        | true =>
          rw [hp, if_pos rfl] at hb
          have next := next hp
          simp only [↓rX7_says_32, ↓rX7_says_33, ↓rX7_says_36, ↓rX7_says_39, ↓rX7_says_42, ↓rX7_says_43, ↓rX7_says_44, ↓rX7_says_45, ↓rX7_says_46, ↓rX7_says_47, ↓rX7_says_50, ↓rX7_says_51, ↓rX7_says_52, ↓rX7_says_55, ↓hg_fX7_116_1, ↓hg_fX7_116_4, ↓hg_fX7_14_0, ↓reduceIte, zkeep_n, zkeep_i, zkeep_r, zkeep_l, zup_eq, zIR, zLR, List.length_cons, List.length_nil, Nat.reduceAdd, Nat.reduceLeDiff, Nat.reduceEqDiff, Nat.reduceSub, Int.reduceLE, Int.reduceLT, Int.reduceEq, Int.reduceNe, Int.reduceNeg, Int.reduceAdd, Int.reduceSub, Int.reduceMul, Int.reduceToNat, Nat.le_refl, Nat.zero_le, Nat.zero_add, Int.zero_add, Int.add_zero, and_true, true_and, and_false, false_and, not_true_eq_false, not_false_eq_true, eq_self, ne_eq, true_implies, false_implies, implies_true, or_true, true_or, or_false, false_or, reduceCtorEq, Option.some.injEq, Sum.inl.injEq, exists_eq_left', exists_eq_left, n1, hb, zite]
          repeat' (first | with_reducible apply And.intro | with_reducible intro _)
          all_goals first | omega | (exact next)
        | false =>
          rw [hp, if_neg (by simp)] at hb
          have fnd := fnd hp
          simp only [↓rX7_says_32, ↓rX7_says_33, ↓rX7_says_36, ↓rX7_says_39, ↓rX7_says_42, ↓rX7_says_43, ↓rX7_says_44, ↓rX7_says_45, ↓rX7_says_46, ↓rX7_says_47, ↓rX7_says_50, ↓rX7_says_51, ↓rX7_says_52, ↓rX7_says_55, ↓hg_fX7_116_1, ↓hg_fX7_116_4, ↓hg_fX7_14_0, ↓reduceIte, zkeep_n, zkeep_i, zkeep_r, zkeep_l, zup_eq, zIR, zLR, List.length_cons, List.length_nil, Nat.reduceAdd, Nat.reduceLeDiff, Nat.reduceEqDiff, Nat.reduceSub, Int.reduceLE, Int.reduceLT, Int.reduceEq, Int.reduceNe, Int.reduceNeg, Int.reduceAdd, Int.reduceSub, Int.reduceMul, Int.reduceToNat, Nat.le_refl, Nat.zero_le, Nat.zero_add, Int.zero_add, Int.add_zero, and_true, true_and, and_false, false_and, not_true_eq_false, not_false_eq_true, eq_self, ne_eq, true_implies, false_implies, implies_true, or_true, true_or, or_false, false_or, reduceCtorEq, Option.some.injEq, Sum.inl.injEq, exists_eq_left', exists_eq_left, n1, hb, zite]
          repeat' (first | with_reducible apply And.intro | with_reducible intro _)
          all_goals first | omega | (exact fnd)
    have yes : ¬ 2 * wct (pay S 19 qu) (qk S) ≤ qn S 0 → uX7_says R 31 [some (.inr (.inr 0)), some (.inl qu), some (.inl (wbs (pay S 19 qu) (qk S))), some (.inl 0)] [] M' := fun hc => L hc 0 ⟨Nat.zero_le _, fun j hj => by omega⟩
    simp only [↓rX7_says_18, ↓rX7_says_19, ↓rX7_says_20, ↓rX7_says_21, ↓rX7_says_24, ↓rX7_says_27, ↓rX7_says_28, ↓rX7_says_29, ↓rX7_says_30, ↓reduceIte, ↓i1, zkeep_n, zkeep_i, zkeep_r, zkeep_l, zup_eq, zIR, zLR, List.length_cons, List.length_nil, Nat.reduceAdd, Nat.reduceLeDiff, Nat.reduceEqDiff, Nat.reduceSub, Int.reduceLE, Int.reduceLT, Int.reduceEq, Int.reduceNe, Int.reduceNeg, Int.reduceAdd, Int.reduceSub, Int.reduceMul, Int.reduceToNat, Nat.le_refl, Nat.zero_le, Nat.zero_add, Int.zero_add, Int.add_zero, and_true, true_and, and_false, false_and, not_true_eq_false, not_false_eq_true, eq_self, ne_eq, true_implies, false_implies, implies_true, or_true, true_or, or_false, false_or, reduceCtorEq, Option.some.injEq, Sum.inl.injEq, exists_eq_left', exists_eq_left, zite]
    repeat' (first | with_reducible apply And.intro | with_reducible intro _)
    all_goals first | omega | (rw [if_pos (by omega)] at fin; exact fin) | (exact yes (by omega))
  simp only [↓eX7_says, ↓rX7_says_0, ↓rX7_says_1, ↓rX7_says_2, ↓rX7_says_5, ↓rX7_says_8, ↓rX7_says_10, ↓rX7_says_11, ↓rX7_says_12, ↓rX7_says_14, ↓rX7_says_15, ↓i_outside, ↓reduceIte, zkeep_n, zkeep_i, zkeep_r, zkeep_l, zup_eq, zIR, zLR, List.length_cons, List.length_nil, Nat.reduceAdd, Nat.reduceLeDiff, Nat.reduceEqDiff, Nat.reduceSub, Int.reduceLE, Int.reduceLT, Int.reduceEq, Int.reduceNe, Int.reduceNeg, Int.reduceAdd, Int.reduceSub, Int.reduceMul, Int.reduceToNat, Nat.le_refl, Nat.zero_le, Nat.zero_add, Int.zero_add, Int.add_zero, and_true, true_and, and_false, false_and, not_true_eq_false, not_false_eq_true, eq_self, ne_eq, true_implies, false_implies, implies_true, or_true, true_or, or_false, false_or, reduceCtorEq, Option.some.injEq, Sum.inl.injEq, exists_eq_left', exists_eq_left, zite]
  repeat' (first | with_reducible apply And.intro | with_reducible intro _)
  all_goals first | omega | (exact bad (by omega)) | (exact call (by omega))
