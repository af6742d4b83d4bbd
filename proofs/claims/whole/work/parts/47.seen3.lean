theorem wbs_false {p : Nat → Bool} : ∀ k : Nat, (∀ j : Nat, j < k → p j = false) → wbs p k = 0
  | 0, _ => rfl
  | k + 1, h => by
    unfold wbs
    rw [wbs_false k (fun j hj => h j (by omega)), h k (by omega)]
    rfl
theorem wstart_so {so so' : Int} {fi : Int → Int} {j : Int} (h0 : 0 ≤ j) (h1 : j < 12) : wstart so fi j = wstart so' fi j := by
  unfold wstart
  by_cases c1 : 0 ≤ j ∧ j < 4
  · simp only [if_pos c1]
  · by_cases c2 : 4 ≤ j ∧ j < 8
    · simp only [if_neg c1, if_pos c2]
    · simp only [if_neg c1, if_neg c2, if_pos (show 8 ≤ j ∧ j < 12 by omega)]
set_option maxRecDepth 100000 in
set_option maxHeartbeats 4000000 in
theorem x_sort {S M : zM} {R : zP} {me : Int} (h : RX S M) (z1 : zIR me) (hR : ∀ M', QF M M' → R (some (.inl (aSort S me))) M') : tX7_sort [.inr (.inr 0), .inl me] M R := by
  have hqn := (h.2.2.2.1.1 0 (by decide)).1
  have n1 := h.2.2.2.1.2.1
  have hn8 := h.2.2.2.2.1.2.2.1
  have hs0 := h.2.2.2.2.2.1.2.1.1
  have hq := h.2.2.2.1.1
  have hF := h.2.2.2.2.1.2
  unfold zIR at z1
  have bad : ¬ (0 ≤ me ∧ me < qn S 0) → R (some (.inl (-2))) M := fun hb => by
    have := hR M QF.rfl
    unfold aSort at this
    rw [if_neg hb] at this
    exact this
  have call : (0 ≤ me ∧ me < qn S 0) → zcv (zv 7 tX7_restAgree) [.inr (.inr 0), .inl me, .inl 255] M (fun v M' => uX7_sort R 27 [some (.inr (.inr 0)), some (.inl me), some (.inl 0), none] [v] M') := by
    intro hg
    have hV : ∀ (v : Nat) m T, m ≠ me → wX S kall (fup (so0 S) me v) (fst S) m T = wX S kall (so0 S) (fst S) m T := fun v m T hm => wX_other (by simp [fup, hm]) rfl
    refine zcvv rfl (s_rest h (by omega) (fun M1 f1 hall => ⟨_, rfl, ?_⟩) (fun M1 f1 hex => ⟨_, rfl, ?_⟩))
    · simp only [kall_255 hn8] at hall
      have hf0 : QF M M1 := fun k i a b => f1 k i (by omega) (by omega)
      unfold aSort at hR
      rw [if_pos hg] at hR
      generalize hp : (fun v : Nat => wsee S (wX S kall (fup (so0 S) me v) (fst S))) = p at hR
      have L : ∀ s : Nat × zM, (s.1 ≤ 3 ∧ QF M s.2) → uX7_sort R 32 [some (.inr (.inr 0)), some (.inl me), some (.inl (wbs p s.1)), some (.inl (s.1 : Int))] [] s.2 := by
        refine zind (fun s => 3 - s.1) ?_
        rintro ⟨v, N⟩ ⟨hv, hfr⟩ ih
        simp only at hv hfr ih
        refine rX7_sort_32.mpr ?_
        by_cases he : v = 3
        · subst he
          have fin := hR N hfr
          simp only [↓rX7_sort_33, ↓rX7_sort_34, ↓rX7_sort_91, ↓rX7_sort_92, ↓reduceIte, zkeep_n, zkeep_i, zkeep_r, zkeep_l, zup_eq, zIR, zLR, List.length_cons, List.length_nil, Nat.reduceAdd, Nat.reduceLeDiff, Nat.reduceEqDiff, Nat.reduceSub, Int.reduceLE, Int.reduceLT, Int.reduceEq, Int.reduceNe, Int.reduceNeg, Int.reduceAdd, Int.reduceSub, Int.reduceMul, Int.reduceToNat, Nat.le_refl, Nat.zero_le, Nat.zero_add, Int.zero_add, Int.add_zero, and_true, true_and, and_false, false_and, not_true_eq_false, not_false_eq_true, eq_self, ne_eq, true_implies, false_implies, implies_true, or_true, true_or, or_false, false_or, reduceCtorEq, Option.some.injEq, Sum.inl.injEq, exists_eq_left', exists_eq_left, zite]
          repeat' (first | with_reducible apply And.intro | with_reducible intro _)
          all_goals first | omega | (exact fin)
        · have hw := wbs_R p v
          have hw2 := two_le v (by omega)
          have z1 := zor_1 (m := v) (by omega) hw.1 hw.2
          have z0 := zor_0 (m := v) (by omega) hw.1 (by omega)
          have hN := RX_qf h hfr
          have ent : zcn (zv 3 tX3_enter) [.inr (.inr 23), .inr (.inr 1), .inl me] N (fun N' => uX7_sort R 49 [some (.inr (.inr 0)), some (.inl me), some (.inl (wbs p v)), some (.inl (v : Int))] [] N') := by
            refine zcnv rfl (s_enterS hN.2.2.2.1 hg.1 hg.2 (fun N1 g1 g2 g3 => ⟨rfl, ?_⟩))
            have hP2 : PV 23 (zup (zup N1 23 3 (zk102 v)) 23 4 (zk103 v)) (wstart v (fst S me)) := by
              refine ⟨fun q q0 q1 => ?_, by simp [zup_eq, wstart, zk102, wstom], ?_⟩
              · have := g3.1 q q0 q1
                simp only [zup_ne (show 23 + 1 ≠ 23 by decide), zup_ne (show 23 + 2 ≠ 23 by decide), zup_ne (show 23 + 3 ≠ 23 by decide)]
                refine ⟨this.1.trans ?_, this.2.1.trans ?_, this.2.2.trans ?_⟩
                · exact wstart_so (by omega) (by omega)
                · exact wstart_so (by omega) (by omega)
                · exact wstart_so (by omega) (by omega)
              · simp only [zup_eq]
                simp
                exact g3.2.2
            have hfu : ∀ q, 0 ≤ q → q < 4 → 0 ≤ fst S me q ∧ fst S me q ≤ 9 := fun q a b => ((hq 0 (by decide)).2 me hg.1 hg.2).2.2 (1 + q) (by omega) (by omega)
            have hb4 : zup (zup N1 23 3 (zk102 v)) 23 4 (zk103 v) 23 4 = wby v := by simp [zup_eq, zk103, wby]
            have hbR : 0 ≤ wby v ∧ wby v ≤ 2 := by
              unfold wby
              split
              · omega
              · split <;> omega
            have gz : ∀ k i, ¬ (23 ≤ k ∧ k ≤ 26) → zup (zup N1 23 3 (zk102 v)) 23 4 (zk103 v) k i = N k i := fun k i a => by
              rw [zup_ne (by omega), zup_ne (by omega)]
              exact g1 k i a
            have tr : zcn (zv 7 tX7_trace) [.inr (.inr 0), .inl me, .inl 255] (zup (zup N1 23 3 (zk102 v)) 23 4 (zk103 v)) (fun N' => uX7_sort R 65 [some (.inr (.inr 0)), some (.inl me), some (.inl (wbs p v)), some (.inl (v : Int))] [] N') := by
              refine zcnv rfl (s_trace (S := S) (g := gt S) (n := nf S) (CW_fr hN.2.2.2.1 (fun k i a => gz k i (by omega))) (FR_fr hN.2.2.2.2.1.2 (fun k i a b => gz k i (by omega))) hP2 (vokb_start hfu) (by decide) hb4 hbR (by omega) (fun N2 k1 k2 => ⟨rfl, ?_⟩))
              have hfr2 : ∀ k i, ¬ (23 ≤ k ∧ k ≤ 26) → k ≠ 33 → N2 k i = N k i := fun k i a b => (k1 k i a b).trans (gz k i a)
              have hS2 : SR S N2 := SR_fr hN.2.2.2.2.2.1 (fun k i a b => hfr2 k i (by omega) (by omega))
              have hmv : ∀ t, wX S kall (fup (so0 S) me v) (fst S) me t = wseg S (gt S) (nf S) (kpm 255) (wby v) me 0 (t + 1) (wstart v (fst S me)) := fun t => by
                unfold wX
                rw [show fup (so0 S) me v me = v by simp [fup]]
                exact (wseg_kp (fun f hf => kpm_255d ⟨f, by omega⟩) _).symm
              have hspl := wsee_split (me := me) hs0 hg.2 (hV v)
              have hpv : p v = wsee S (wX S kall (fup (so0 S) me v) (fst S)) := by rw [← hp]
              have next := ih (v + 1, N2) ⟨by simp only; omega, hfr.trans (fun k i a b => hfr2 k i (by omega) (by omega))⟩ (by simp only; omega)
              simp only [wbs] at next
              simp only [↓rX7_sort_65, ↓rX7_sort_66, ↓rX7_sort_67, ↓rX7_sort_70, ↓rX7_sort_71, ↓rX7_sort_72, ↓rX7_sort_75, ↓hg_fX7_38_0, ↓hg_fX7_76_0, ↓reduceIte, zkeep_n, zkeep_i, zkeep_r, zkeep_l, zup_eq, zIR, zLR, List.length_cons, List.length_nil, Nat.reduceAdd, Nat.reduceLeDiff, Nat.reduceEqDiff, Nat.reduceSub, Int.reduceLE, Int.reduceLT, Int.reduceEq, Int.reduceNe, Int.reduceNeg, Int.reduceAdd, Int.reduceSub, Int.reduceMul, Int.reduceToNat, Nat.le_refl, Nat.zero_le, Nat.zero_add, Int.zero_add, Int.add_zero, and_true, true_and, and_false, false_and, not_true_eq_false, not_false_eq_true, eq_self, ne_eq, true_implies, false_implies, implies_true, or_true, true_or, or_false, false_or, reduceCtorEq, Option.some.injEq, Sum.inl.injEq, exists_eq_left', exists_eq_left, zite]
              refine zcvv rfl (s_agree (B := fun t q => wX S kall (fup (so0 S) me v) (fst S) me t q) hS2 (by omega) (fun t ht q q0 q1 => ⟨by rw [hmv]; exact k2 t ht q q0 q1, by rw [hmv]; exact (vokb_seg (S := S) (g := gt S) (n := nf S) (kp := kpm 255) (m := me) hq hbR.1 (vokb_start (so := v) hfu) (FR_g hF) hn8 (T := t + 1) (by omega)).1 q (by omega) (by omega)⟩) (fun hag => ⟨_, rfl, ?_⟩) (fun hex2 => ⟨_, rfl, ?_⟩))
              · rw [if_pos (by rw [hpv, hspl]; exact ⟨hall, hag⟩)] at next
                simp only [↓rX7_sort_78, ↓rX7_sort_81, ↓rX7_sort_82, ↓rX7_sort_83, ↓rX7_sort_84, ↓rX7_sort_85, ↓rX7_sort_88, ↓i_bit, ↓reduceIte, zkeep_n, zkeep_i, zkeep_r, zkeep_l, zup_eq, zIR, zLR, List.length_cons, List.length_nil, Nat.reduceAdd, Nat.reduceLeDiff, Nat.reduceEqDiff, Nat.reduceSub, Int.reduceLE, Int.reduceLT, Int.reduceEq, Int.reduceNe, Int.reduceNeg, Int.reduceAdd, Int.reduceSub, Int.reduceMul, Int.reduceToNat, Nat.le_refl, Nat.zero_le, Nat.zero_add, Int.zero_add, Int.add_zero, and_true, true_and, and_false, false_and, not_true_eq_false, not_false_eq_true, eq_self, ne_eq, true_implies, false_implies, implies_true, or_true, true_or, or_false, false_or, reduceCtorEq, Option.some.injEq, Sum.inl.injEq, exists_eq_left', exists_eq_left, zite]
                rw [z1]
                exact next
              · rw [if_neg (by rw [hpv, hspl]; obtain ⟨i, a, b, c, d⟩ := hex2; exact fun q => d (q.2 i a b c)), Int.add_zero] at next
                simp only [↓rX7_sort_78, ↓rX7_sort_81, ↓rX7_sort_82, ↓rX7_sort_83, ↓rX7_sort_84, ↓rX7_sort_85, ↓rX7_sort_88, ↓i_bit, ↓reduceIte, zkeep_n, zkeep_i, zkeep_r, zkeep_l, zup_eq, zIR, zLR, List.length_cons, List.length_nil, Nat.reduceAdd, Nat.reduceLeDiff, Nat.reduceEqDiff, Nat.reduceSub, Int.reduceLE, Int.reduceLT, Int.reduceEq, Int.reduceNe, Int.reduceNeg, Int.reduceAdd, Int.reduceSub, Int.reduceMul, Int.reduceToNat, Nat.le_refl, Nat.zero_le, Nat.zero_add, Int.zero_add, Int.add_zero, and_true, true_and, and_false, false_and, not_true_eq_false, not_false_eq_true, eq_self, ne_eq, true_implies, false_implies, implies_true, or_true, true_or, or_false, false_or, reduceCtorEq, Option.some.injEq, Sum.inl.injEq, exists_eq_left', exists_eq_left, zite]
                rw [z0]
                exact next
            simp only [↓rX7_sort_49, ↓rX7_sort_50, ↓rX7_sort_53, ↓rX7_sort_54, ↓rX7_sort_57, ↓rX7_sort_58, ↓rX7_sort_59, ↓rX7_sort_62, ↓hg_fX7_55_0, ↓i_become23, ↓reduceIte, zkeep_n, zkeep_i, zkeep_r, zkeep_l, zIR, zLR, List.length_cons, List.length_nil, Nat.reduceAdd, Nat.reduceLeDiff, Nat.reduceEqDiff, Nat.reduceSub, Int.reduceLE, Int.reduceLT, Int.reduceEq, Int.reduceNe, Int.reduceNeg, Int.reduceAdd, Int.reduceSub, Int.reduceMul, Int.reduceToNat, Nat.le_refl, Nat.zero_le, Nat.zero_add, Int.zero_add, Int.add_zero, and_true, true_and, and_false, false_and, not_true_eq_false, not_false_eq_true, eq_self, ne_eq, true_implies, false_implies, implies_true, or_true, true_or, or_false, false_or, reduceCtorEq, Option.some.injEq, Sum.inl.injEq, exists_eq_left', exists_eq_left, zite]
            repeat' (first | with_reducible apply And.intro | with_reducible intro _)
            all_goals first | omega | (exact tr)
          simp only [↓rX7_sort_33, ↓rX7_sort_34, ↓rX7_sort_37, ↓rX7_sort_38, ↓rX7_sort_41, ↓rX7_sort_42, ↓rX7_sort_45, ↓rX7_sort_46, ↓hg_fX7_14_0, ↓hg_fX7_55_0, ↓reduceIte, zkeep_n, zkeep_i, zkeep_r, zkeep_l, zup_eq, zIR, zLR, List.length_cons, List.length_nil, Nat.reduceAdd, Nat.reduceLeDiff, Nat.reduceEqDiff, Nat.reduceSub, Int.reduceLE, Int.reduceLT, Int.reduceEq, Int.reduceNe, Int.reduceNeg, Int.reduceAdd, Int.reduceSub, Int.reduceMul, Int.reduceToNat, Nat.le_refl, Nat.zero_le, Nat.zero_add, Int.zero_add, Int.add_zero, and_true, true_and, and_false, false_and, not_true_eq_false, not_false_eq_true, eq_self, ne_eq, true_implies, false_implies, implies_true, or_true, true_or, or_false, false_or, reduceCtorEq, Option.some.injEq, Sum.inl.injEq, exists_eq_left', exists_eq_left, zite]
          repeat' (first | with_reducible apply And.intro | with_reducible intro _)
          all_goals first | omega | (exact ent)
      have st := L (0, M1) ⟨Nat.zero_le _, hf0⟩
      simp only [↓rX7_sort_27, ↓rX7_sort_30, ↓rX7_sort_31, ↓rX7_sort_91, ↓rX7_sort_92, ↓reduceIte, zkeep_n, zkeep_i, zkeep_r, zkeep_l, zup_eq, zIR, zLR, List.length_cons, List.length_nil, Nat.reduceAdd, Nat.reduceLeDiff, Nat.reduceEqDiff, Nat.reduceSub, Int.reduceLE, Int.reduceLT, Int.reduceEq, Int.reduceNe, Int.reduceNeg, Int.reduceAdd, Int.reduceSub, Int.reduceMul, Int.reduceToNat, Nat.le_refl, Nat.zero_le, Nat.zero_add, Int.zero_add, Int.add_zero, and_true, true_and, and_false, false_and, not_true_eq_false, not_false_eq_true, eq_self, ne_eq, true_implies, false_implies, implies_true, or_true, true_or, or_false, false_or, reduceCtorEq, Option.some.injEq, Sum.inl.injEq, exists_eq_left', exists_eq_left, zite]
      exact st
    · simp only [kall_255 hn8] at hex
      have fin := hR M1 (fun k i a b => f1 k i (by omega) (by omega))
      have e0 : aSort S me = 0 := by
        unfold aSort
        rw [if_pos hg]
        have : ∀ v : Nat, wsee S (wX S kall (fup (so0 S) me v) (fst S)) = false := fun v => by
          rw [← Bool.not_eq_true, wsee_split (me := me) hs0 hg.2 (hV v)]
          obtain ⟨i, a, b, c, d⟩ := hex
          exact fun q => d (q.1 i a b c)
        exact wbs_false 3 (fun j _ => this j)
      rw [e0] at fin
      simp only [↓rX7_sort_27, ↓rX7_sort_91, ↓rX7_sort_92, ↓reduceIte, zkeep_n, zkeep_i, zkeep_r, zkeep_l, zup_eq, zIR, zLR, List.length_cons, List.length_nil, Nat.reduceAdd, Nat.reduceLeDiff, Nat.reduceEqDiff, Nat.reduceSub, Int.reduceLE, Int.reduceLT, Int.reduceEq, Int.reduceNe, Int.reduceNeg, Int.reduceAdd, Int.reduceSub, Int.reduceMul, Int.reduceToNat, Nat.le_refl, Nat.zero_le, Nat.zero_add, Int.zero_add, Int.add_zero, and_true, true_and, and_false, false_and, not_true_eq_false, not_false_eq_true, eq_self, ne_eq, true_implies, false_implies, implies_true, or_true, true_or, or_false, false_or, reduceCtorEq, Option.some.injEq, Sum.inl.injEq, exists_eq_left', exists_eq_left, zite]
      exact fin
  simp only [↓eX7_sort, ↓rX7_sort_0, ↓rX7_sort_1, ↓rX7_sort_2, ↓rX7_sort_5, ↓rX7_sort_8, ↓rX7_sort_11, ↓rX7_sort_14, ↓rX7_sort_16, ↓rX7_sort_17, ↓rX7_sort_18, ↓rX7_sort_19, ↓rX7_sort_20, ↓rX7_sort_21, ↓rX7_sort_24, ↓hg_fX7_116_1, ↓hg_fX7_116_4, ↓hg_fX7_14_0, ↓i_outside, ↓reduceIte, zkeep_n, zkeep_i, zkeep_r, zkeep_l, zup_eq, zIR, zLR, List.length_cons, List.length_nil, Nat.reduceAdd, Nat.reduceLeDiff, Nat.reduceEqDiff, Nat.reduceSub, Int.reduceLE, Int.reduceLT, Int.reduceEq, Int.reduceNe, Int.reduceNeg, Int.reduceAdd, Int.reduceSub, Int.reduceMul, Int.reduceToNat, Nat.le_refl, Nat.zero_le, Nat.zero_add, Int.zero_add, Int.add_zero, and_true, true_and, and_false, false_and, not_true_eq_false, not_false_eq_true, eq_self, ne_eq, true_implies, false_implies, implies_true, or_true, true_or, or_false, false_or, reduceCtorEq, Option.some.injEq, Sum.inl.injEq, exists_eq_left', exists_eq_left, n1, zite]
  repeat' (first | with_reducible apply And.intro | with_reducible intro _)
  all_goals first | omega | (exact bad (by omega)) | (exact call (by omega))
