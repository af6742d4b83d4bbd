def pT (S : zM) : Int := wlst (fun t => (List.range (qk S)).any (fun m => decide (wall (wV S m t)))) 20
def pM (S : zM) : Int := wlst (fun m => decide (wall (wV S m (pT S).toNat))) (qk S)
def pQ (v : Int → Int) : Int := if v 4 = 0 ∧ v 8 = 9 then 0 else if v 5 = 0 ∧ v 9 = 9 then 1 else if v 6 = 0 ∧ v 10 = 9 then 2 else if v 7 = 0 ∧ v 11 = 9 then 3 else -1
def aPusey (S : zM) (wh : Int) : Int := if 0 ≤ wh ∧ wh < 3 then (if pT S = -1 then -1 else if wh = 0 then pT S else if wh = 1 then pM S else pQ (wV S (pM S) (pT S).toNat)) else -2
theorem pT_none {S : zM} (h : ∀ (m t : Nat), m < qk S → t < 20 → ¬ wall (wV S m t)) : pT S = -1 := wlst_none _ (fun t ht => by
  rw [List.any_eq_false]
  intro m hm
  simp [h m t (List.mem_range.mp hm) ht])
theorem pT_found {S : zM} {w t : Nat} (hw : w < qk S) (ht : t < 20) (h1 : wall (wV S w t)) (h2 : ∀ (m j : Nat), m < qk S → j < t → ¬ wall (wV S m j)) : pT S = t := wlst_found (p := fun t => (List.range (qk S)).any (fun m => decide (wall (wV S m t)))) (by
    rw [List.any_eq_true]
    exact ⟨w, List.mem_range.mpr hw, by simpa using h1⟩) (fun j hj => by
    rw [List.any_eq_false]
    intro m hm
    simp [h2 m j (List.mem_range.mp hm) hj]) _ ht
theorem pM_found {S : zM} {w t : Nat} (hw : w < qk S) (e : pT S = t) (h1 : wall (wV S w t)) (h2 : ∀ m : Nat, m < w → ¬ wall (wV S m t)) : pM S = w := by
  unfold pM
  rw [e, Int.toNat_natCast]
  exact wlst_found (p := fun m => decide (wall (wV S m t))) (by simpa using h1) (fun j hj => by simpa using h2 j hj) _ hw
set_option maxRecDepth 100000 in
set_option maxHeartbeats 4000000 in
theorem x_pusey {S M : zM} {R : zP} {wh : Int} (h : RX S M) (z2 : zIR wh) (hR : ∀ M', QF M M' → R (some (.inl (aPusey S wh))) M') : tX7_pusey [.inr (.inr 0), .inl wh] M R := by
  have hqn := (h.2.2.2.1.1 0 (by decide)).1
  have hqk : (qk S : Int) = qn S 0 := by unfold qk; omega
  unfold zIR at z2
  have bad : ¬ (0 ≤ wh ∧ wh < 3) → R (some (.inl (-2))) M := fun hb => by
    have := hR M QF.rfl
    unfold aPusey at this
    rw [if_neg hb] at this
    exact this
  have e255 := fun (m : Int) (t : Nat) => wvec_255 (S := S) (g := gt S) (m := m) (T := t) h.2.2.2.2.1.2.2.1
  have L : (0 ≤ wh ∧ wh < 3) → ∀ s : Nat × Nat × Int × zM, (s.1 ≤ qk S ∧ s.2.1 ≤ 20 ∧ (∀ (m j : Nat), m < s.1 → j < s.2.1 → ¬ wall (wV S m j)) ∧ ((s.2.2.1 = -1 ∧ s.2.1 = 20) ∨ (0 ≤ s.2.2.1 ∧ s.2.2.1 < s.1 ∧ s.2.1 < 20 ∧ wall (wV S s.2.2.1 s.2.1) ∧ ∀ m : Nat, (m : Int) < s.2.2.1 → ¬ wall (wV S m s.2.1))) ∧ (∀ k i, ¬ (23 ≤ k ∧ k ≤ 26) → s.2.2.2 k i = M k i)) → ∀ x5, uX7_pusey R 19 [some (.inr (.inr 0)), some (.inl wh), some (.inl (s.2.1 : Int)), some (.inl s.2.2.1), some (.inl (s.1 : Int)), x5] [] s.2.2.2 := by
    intro hg
    refine zind (fun s => qk S - s.1) ?_
    rintro ⟨m, e, w, N⟩ ⟨hm, he, hno, hw, hfr⟩ ih x5
    simp only at hm he hno hw hfr ih
    have n1 : N 1 5 = qn S 0 := (hfr _ _ (by decide)).trans h.2.2.2.1.2.1
    have hN : RX S N := RX_qf h (QF.of hfr)
    refine rX7_pusey_19.mpr ?_
    by_cases hme : m = qk S
    · subst hme
      have fin := hR N (QF.of hfr)
      unfold aPusey at fin
      rw [if_pos hg] at fin
      rcases hw with ⟨rfl, rfl⟩ | ⟨w0, w1, e20, hwl, hwm⟩
      · rw [if_pos (pT_none hno)] at fin
        simp only [↓rX7_pusey_21, ↓rX7_pusey_22, ↓rX7_pusey_25, ↓rX7_pusey_28, ↓rX7_pusey_58, ↓rX7_pusey_59, ↓rX7_pusey_60, ↓rX7_pusey_63, ↓rX7_pusey_64, ↓rX7_pusey_65, ↓rX7_pusey_68, ↓rX7_pusey_69, ↓rX7_pusey_70, ↓rX7_pusey_71, ↓rX7_pusey_74, ↓rX7_pusey_75, ↓rX7_pusey_76, ↓rX7_pusey_77, ↓rX7_pusey_78, ↓rX7_pusey_81, ↓rX7_pusey_82, ↓rX7_pusey_83, ↓rX7_pusey_86, ↓hg_fX7_116_1, ↓hg_fX7_116_4, ↓hg_fX7_14_0, ↓hg_fX7_28_0, ↓reduceIte, zkeep_n, zkeep_i, zkeep_r, zkeep_l, zup_eq, zIR, zLR, List.length_cons, List.length_nil, Nat.reduceAdd, Nat.reduceLeDiff, Nat.reduceEqDiff, Nat.reduceSub, Int.reduceLE, Int.reduceLT, Int.reduceEq, Int.reduceNe, Int.reduceNeg, Int.reduceAdd, Int.reduceSub, Int.reduceMul, Int.reduceToNat, Nat.le_refl, Nat.zero_le, Nat.zero_add, Int.zero_add, Int.add_zero, and_true, true_and, and_false, false_and, not_true_eq_false, not_false_eq_true, eq_self, ne_eq, true_implies, false_implies, implies_true, or_true, true_or, or_false, false_or, reduceCtorEq, Option.some.injEq, Sum.inl.injEq, exists_eq_left', exists_eq_left, n1, zite]
        repeat' (first | with_reducible apply And.intro | with_reducible intro _)
        all_goals first | omega | (exact fin)
      · obtain ⟨w, rfl⟩ : ∃ w' : Nat, w = w' := ⟨w.toNat, by omega⟩
        have eT := pT_found (by omega) e20 hwl hno
        have eM := pM_found (by omega) eT hwl (fun m hm => hwm m (by omega))
        rw [eT, eM, if_neg (by omega), Int.toNat_natCast] at fin
        have last : wh = 2 → zcn (zv 7 tX7_raise) [.inr (.inr 0), .inr (.inr 7), .inl (w : Int), .inl (e : Int), .inl 255] N (fun N' => uX7_pusey R 89 [some (.inr (.inr 0)), some (.inl wh), some (.inl (e : Int)), some (.inl (w : Int)), some (.inl (qk S : Int)), x5] [] N') := by
          intro hwh
          refine zcnv rfl (RX_raise hN (by omega) (by omega) (by omega) (fun N' f1 f2 => ⟨rfl, ?_⟩))
          rw [Int.toNat_natCast] at f2
          have hv := RX_V h (m := w) (by omega) (by omega) (T := e) e20
          have c25 : ∀ q, 0 ≤ q → q < 4 → N' 25 q = wV S w e (4 + q) := fun q a b => (f2.1 q a b).2.1
          have c26 : ∀ q, 0 ≤ q → q < 4 → N' 26 q = wV S w e (8 + q) := fun q a b => (f2.1 q a b).2.2
          have fin2 := hR N' (fun k i a b => (f1 k i (by omega)).trans (hfr k i (by omega)))
          unfold aPusey at fin2
          rw [if_pos hg, eT, eM, if_neg (by omega), Int.toNat_natCast, if_neg (by omega), if_neg (by omega)] at fin2
          simp only [↓rX7_pusey_89, ↓rX7_pusey_90, ↓rX7_pusey_93, ↓hg_fX7_55_0, ↓reduceIte, zkeep_n, zkeep_i, zkeep_r, zkeep_l, zup_eq, zIR, zLR, List.length_cons, List.length_nil, Nat.reduceAdd, Nat.reduceLeDiff, Nat.reduceEqDiff, Nat.reduceSub, Int.reduceLE, Int.reduceLT, Int.reduceEq, Int.reduceNe, Int.reduceNeg, Int.reduceAdd, Int.reduceSub, Int.reduceMul, Int.reduceToNat, Nat.le_refl, Nat.zero_le, Nat.zero_add, Int.zero_add, Int.add_zero, and_true, true_and, and_false, false_and, not_true_eq_false, not_false_eq_true, eq_self, ne_eq, true_implies, false_implies, implies_true, or_true, true_or, or_false, false_or, reduceCtorEq, Option.some.injEq, Sum.inl.injEq, exists_eq_left', exists_eq_left, zite]
          refine zcvv rfl (s_all (fun q q0 q1 => by rw [c25 q q0 q1, c26 q q0 q1]; exact ⟨hv.1 _ (by omega) (by omega), hv.1 _ (by omega) (by omega)⟩) (fun r hr => ⟨_, rfl, ?_⟩))
          rw [c25 0 (by decide) (by decide), c25 1 (by decide) (by decide), c25 2 (by decide) (by decide), c25 3 (by decide) (by decide), c26 0 (by decide) (by decide), c26 1 (by decide) (by decide), c26 2 (by decide) (by decide), c26 3 (by decide) (by decide)] at hr
          simp only [Int.reduceAdd] at hr
          have er : r = pQ (wV S w e) := by
            unfold pQ
            rcases hr with hr | hr | hr | hr | hr
            · rw [if_pos hr.2]; exact hr.1
            · rw [if_neg hr.2.1, if_pos hr.2.2]; exact hr.1
            · rw [if_neg hr.2.1, if_neg hr.2.2.1, if_pos hr.2.2.2]; exact hr.1
            · rw [if_neg hr.2.1, if_neg hr.2.2.1, if_neg hr.2.2.2.1, if_pos hr.2.2.2.2]; exact hr.1
            · rw [if_neg hr.2.1, if_neg hr.2.2.1, if_neg hr.2.2.2.1, if_neg hr.2.2.2.2]; exact hr.1
          rw [er]
          simp only [↓rX7_pusey_96, ↓reduceIte, zkeep_n, zkeep_i, zkeep_r, zkeep_l, zup_eq, zIR, zLR, List.length_cons, List.length_nil, Nat.reduceAdd, Nat.reduceLeDiff, Nat.reduceEqDiff, Nat.reduceSub, Int.reduceLE, Int.reduceLT, Int.reduceEq, Int.reduceNe, Int.reduceNeg, Int.reduceAdd, Int.reduceSub, Int.reduceMul, Int.reduceToNat, Nat.le_refl, Nat.zero_le, Nat.zero_add, Int.zero_add, Int.add_zero, and_true, true_and, and_false, false_and, not_true_eq_false, not_false_eq_true, eq_self, ne_eq, true_implies, false_implies, implies_true, or_true, true_or, or_false, false_or, reduceCtorEq, Option.some.injEq, Sum.inl.injEq, exists_eq_left', exists_eq_left, zite]
          exact fin2
        simp only [↓rX7_pusey_21, ↓rX7_pusey_22, ↓rX7_pusey_25, ↓rX7_pusey_28, ↓rX7_pusey_58, ↓rX7_pusey_59, ↓rX7_pusey_60, ↓rX7_pusey_63, ↓rX7_pusey_64, ↓rX7_pusey_65, ↓rX7_pusey_68, ↓rX7_pusey_69, ↓rX7_pusey_70, ↓rX7_pusey_71, ↓rX7_pusey_74, ↓rX7_pusey_75, ↓rX7_pusey_76, ↓rX7_pusey_77, ↓rX7_pusey_78, ↓rX7_pusey_81, ↓rX7_pusey_82, ↓rX7_pusey_83, ↓rX7_pusey_86, ↓hg_fX7_116_1, ↓hg_fX7_116_4, ↓hg_fX7_14_0, ↓hg_fX7_28_0, ↓reduceIte, zkeep_n, zkeep_i, zkeep_r, zkeep_l, zup_eq, zIR, zLR, List.length_cons, List.length_nil, Nat.reduceAdd, Nat.reduceLeDiff, Nat.reduceEqDiff, Nat.reduceSub, Int.reduceLE, Int.reduceLT, Int.reduceEq, Int.reduceNe, Int.reduceNeg, Int.reduceAdd, Int.reduceSub, Int.reduceMul, Int.reduceToNat, Nat.le_refl, Nat.zero_le, Nat.zero_add, Int.zero_add, Int.add_zero, and_true, true_and, and_false, false_and, not_true_eq_false, not_false_eq_true, eq_self, ne_eq, true_implies, false_implies, implies_true, or_true, true_or, or_false, false_or, reduceCtorEq, Option.some.injEq, Sum.inl.injEq, exists_eq_left', exists_eq_left, n1, zite]
        repeat' (first | with_reducible apply And.intro | with_reducible intro _)
        all_goals first | omega | (rw [if_pos (by omega)] at fin; exact fin) | (rw [if_neg (by omega), if_pos (by omega)] at fin; exact fin) | (exact last (by omega))
    · have call : zcv (zv 7 tX7_termOfAllSides) [.inr (.inr 0), .inl (m : Int), .inl (e : Int)] N (fun v N' => uX7_pusey R 38 [some (.inr (.inr 0)), some (.inl wh), some (.inl (e : Int)), some (.inl w), some (.inl (m : Int)), x5] [v] N') := by
        refine zcvv rfl (s_termOf (S := S) (g := gt S) (n := nf S) hN.2.2.2.1 hN.2.2.2.2.1.2 he (by omega) (by omega) (fun t N' f1 ht hnt hyt => ⟨_, rfl, ?_⟩))
        simp only [e255] at hnt hyt
        have hnt : ∀ j : Nat, j < t → ¬ wall (wV S m j) := hnt
        have hyt : t < e → wall (wV S m t) := hyt
        have same : t = e → uX7_pusey R 19 [some (.inr (.inr 0)), some (.inl wh), some (.inl (e : Int)), some (.inl w), some (.inl ((m : Int) + 1)), some (.inl (t : Int))] [] N' := fun hte => by
          refine ih (m + 1, e, w, N') ⟨by simp only; omega, he, fun m' j h1 h2 => ?_, ?_, fun k i hk => (f1 k i hk).trans (hfr k i hk)⟩ (by simp only; omega) _
          · simp only at h1 h2
            by_cases hmm : m' = m
            · rw [hmm]; exact hnt j (by omega)
            · exact hno m' j (by omega) h2
          · rcases hw with hw | hw
            · exact Or.inl hw
            · exact Or.inr ⟨hw.1, by simp only; omega, hw.2.2⟩
        have less : t < e → uX7_pusey R 19 [some (.inr (.inr 0)), some (.inl wh), some (.inl (t : Int)), some (.inl (m : Int)), some (.inl ((m : Int) + 1)), some (.inl (t : Int))] [] N' := fun hte => by
          refine ih (m + 1, t, (m : Int), N') ⟨by simp only; omega, by simp only; omega, fun m' j h1 h2 => ?_, Or.inr ⟨by simp only; omega, by simp only; omega, by simp only; omega, hyt hte, fun m' hm' => hno m' t (by simp only at hm'; omega) hte⟩, fun k i hk => (f1 k i hk).trans (hfr k i hk)⟩ (by simp only; omega) _
          simp only at h1 h2
          by_cases hmm : m' = m
          · rw [hmm]; exact hnt j h2
          · exact hno m' j (by omega) (by omega)
        simp only [↓rX7_pusey_38, ↓rX7_pusey_40, ↓rX7_pusey_42, ↓rX7_pusey_43, ↓rX7_pusey_46, ↓rX7_pusey_48, ↓rX7_pusey_49, ↓rX7_pusey_51, ↓rX7_pusey_52, ↓rX7_pusey_55, ↓reduceIte, zkeep_n, zkeep_i, zkeep_r, zkeep_l, zup_eq, zIR, zLR, List.length_cons, List.length_nil, Nat.reduceAdd, Nat.reduceLeDiff, Nat.reduceEqDiff, Nat.reduceSub, Int.reduceLE, Int.reduceLT, Int.reduceEq, Int.reduceNe, Int.reduceNeg, Int.reduceAdd, Int.reduceSub, Int.reduceMul, Int.reduceToNat, Nat.le_refl, Nat.zero_le, Nat.zero_add, Int.zero_add, Int.add_zero, and_true, true_and, and_false, false_and, not_true_eq_false, not_false_eq_true, eq_self, ne_eq, true_implies, false_implies, implies_true, or_true, true_or, or_false, false_or, reduceCtorEq, Option.some.injEq, Sum.inl.injEq, exists_eq_left', exists_eq_left, zite]
        repeat' (first | with_reducible apply And.intro | with_reducible intro _)
        all_goals first | omega | (exact same (by omega)) | (exact less (by omega))
      simp only [↓rX7_pusey_21, ↓rX7_pusey_22, ↓rX7_pusey_25, ↓rX7_pusey_28, ↓rX7_pusey_31, ↓rX7_pusey_32, ↓rX7_pusey_34, ↓rX7_pusey_35, ↓hg_fX7_116_1, ↓hg_fX7_116_4, ↓hg_fX7_14_0, ↓reduceIte, zkeep_n, zkeep_i, zkeep_r, zkeep_l, zup_eq, zIR, zLR, List.length_cons, List.length_nil, Nat.reduceAdd, Nat.reduceLeDiff, Nat.reduceEqDiff, Nat.reduceSub, Int.reduceLE, Int.reduceLT, Int.reduceEq, Int.reduceNe, Int.reduceNeg, Int.reduceAdd, Int.reduceSub, Int.reduceMul, Int.reduceToNat, Nat.le_refl, Nat.zero_le, Nat.zero_add, Int.zero_add, Int.add_zero, and_true, true_and, and_false, false_and, not_true_eq_false, not_false_eq_true, eq_self, ne_eq, true_implies, false_implies, implies_true, or_true, true_or, or_false, false_or, reduceCtorEq, Option.some.injEq, Sum.inl.injEq, exists_eq_left', exists_eq_left, n1, zite]
      repeat' (first | with_reducible apply And.intro | with_reducible intro _)
      all_goals first | omega | (exact call)
  have st : (0 ≤ wh ∧ wh < 3) → uX7_pusey R 19 [some (.inr (.inr 0)), some (.inl wh), some (.inl 20), some (.inl (-1)), some (.inl 0), none] [] M := fun hg => L hg (0, 20, -1, M) ⟨Nat.zero_le _, Nat.le_refl _, fun m j hm => by simp at hm, Or.inl ⟨rfl, rfl⟩, fun _ _ _ => rfl⟩ none
  simp only [↓eX7_pusey, ↓rX7_pusey_0, ↓rX7_pusey_1, ↓rX7_pusey_2, ↓rX7_pusey_5, ↓rX7_pusey_8, ↓rX7_pusey_10, ↓rX7_pusey_11, ↓rX7_pusey_13, ↓rX7_pusey_14, ↓rX7_pusey_15, ↓rX7_pusey_16, ↓rX7_pusey_17, ↓i_outside, ↓reduceIte, zkeep_n, zkeep_i, zkeep_r, zkeep_l, zup_eq, zIR, zLR, List.length_cons, List.length_nil, Nat.reduceAdd, Nat.reduceLeDiff, Nat.reduceEqDiff, Nat.reduceSub, Int.reduceLE, Int.reduceLT, Int.reduceEq, Int.reduceNe, Int.reduceNeg, Int.reduceAdd, Int.reduceSub, Int.reduceMul, Int.reduceToNat, Nat.le_refl, Nat.zero_le, Nat.zero_add, Int.zero_add, Int.add_zero, and_true, true_and, and_false, false_and, not_true_eq_false, not_false_eq_true, eq_self, ne_eq, true_implies, false_implies, implies_true, or_true, true_or, or_false, false_or, reduceCtorEq, Option.some.injEq, Sum.inl.injEq, exists_eq_left', exists_eq_left, zite]
  repeat' (first | with_reducible apply And.intro | with_reducible intro _)
  all_goals first | omega | (exact bad (by omega)) | (exact st (by omega))
