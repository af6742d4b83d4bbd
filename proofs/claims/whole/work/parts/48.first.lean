set_option maxRecDepth 100000 in
set_option maxHeartbeats 4000000 in
theorem s_guess {S M : zM} {R : zP} {me qu : Int} (h : RX S M) (hg : 0 ≤ me ∧ me < qn S 0) (hqu : 0 ≤ qu ∧ qu < 4) (hall : ∀ i, 0 ≤ i → i < S 7 0 → S 9 i ≠ me → (S 9 i < qn S 0 ∧ wX S kall (so0 S) (fst S) (S 9 i) (S 8 i).toNat (S 10 i) = S 11 i))
    (hR : ∀ M', QF M M' → (∀ v : Nat, v < 10 → ∀ t : Nat, t < 20 → M' 34 ((v : Int) * 20 + t) = wX S kall (so0 S) (fup2 (fst S) me qu v) me t qu) → R (some (.inl (wbs (pfst S me qu) 10))) M') : tX7_guessFirst [.inr (.inr 0), .inl me, .inl qu] M R := by
  have hqn := (h.2.2.2.1.1 0 (by decide)).1
  have hn8 := h.2.2.2.2.1.2.2.1
  have hs0 := h.2.2.2.2.2.1.2.1.1
  have hq := h.2.2.2.1.1
  have hF := h.2.2.2.2.1.2
  have hV : ∀ (v : Nat) m T, m ≠ me → wX S kall (so0 S) (fup2 (fst S) me qu v) m T = wX S kall (so0 S) (fst S) m T := fun v m T hm => wX_other rfl (by funext q; simp [fup2, hm])
  generalize hp : pfst S me qu = p at hR
  simp only [↓eX7_guessFirst, ↓rX7_guessFirst_0, ↓rX7_guessFirst_1, ↓rX7_guessFirst_2, ↓rX7_guessFirst_3, ↓reduceIte, zkeep_n, zkeep_i, zkeep_r, zkeep_l, zup_eq, zIR, zLR, List.length_cons, List.length_nil, Nat.reduceAdd, Nat.reduceLeDiff, Nat.reduceEqDiff, Nat.reduceSub, Int.reduceLE, Int.reduceLT, Int.reduceEq, Int.reduceNe, Int.reduceNeg, Int.reduceAdd, Int.reduceSub, Int.reduceMul, Int.reduceToNat, Nat.le_refl, Nat.zero_le, Nat.zero_add, Int.zero_add, Int.add_zero, and_true, true_and, and_false, false_and, not_true_eq_false, not_false_eq_true, eq_self, ne_eq, true_implies, false_implies, implies_true, or_true, true_or, or_false, false_or, reduceCtorEq, Option.some.injEq, Sum.inl.injEq, exists_eq_left', exists_eq_left, zite]
  have L : ∀ s : Nat × zM, (s.1 ≤ 10 ∧ QF M s.2 ∧ (∀ v : Nat, v < s.1 → ∀ t : Nat, t < 20 → s.2 34 ((v : Int) * 20 + t) = wX S kall (so0 S) (fup2 (fst S) me qu v) me t qu)) → ∀ x5, uX7_guessFirst R 5 [some (.inr (.inr 0)), some (.inl me), some (.inl qu), some (.inl (wbs p s.1)), some (.inl (s.1 : Int)), x5] [] s.2 := by
    refine zind (fun s => 10 - s.1) ?_
    rintro ⟨v, N⟩ ⟨hv, hfr, hgs⟩ ih x5
    simp only at hv hfr hgs ih
    refine rX7_guessFirst_5.mpr ?_
    by_cases he : v = 10
    · subst he
      have fin := hR N hfr hgs
      simp only [↓rX7_guessFirst_7, ↓rX7_guessFirst_9, ↓rX7_guessFirst_109, ↓rX7_guessFirst_110, ↓reduceIte, zkeep_n, zkeep_i, zkeep_r, zkeep_l, zup_eq, zIR, zLR, List.length_cons, List.length_nil, Nat.reduceAdd, Nat.reduceLeDiff, Nat.reduceEqDiff, Nat.reduceSub, Int.reduceLE, Int.reduceLT, Int.reduceEq, Int.reduceNe, Int.reduceNeg, Int.reduceAdd, Int.reduceSub, Int.reduceMul, Int.reduceToNat, Nat.le_refl, Nat.zero_le, Nat.zero_add, Int.zero_add, Int.add_zero, and_true, true_and, and_false, false_and, not_true_eq_false, not_false_eq_true, eq_self, ne_eq, true_implies, false_implies, implies_true, or_true, true_or, or_false, false_or, reduceCtorEq, Option.some.injEq, Sum.inl.injEq, exists_eq_left', exists_eq_left, zite]
      repeat' (first | with_reducible apply And.intro | with_reducible intro _)
      all_goals first | omega | (exact fin)
    · have hw := wbs_R p v
      have hw2 := two_leX v (by omega)
      have z1 := zor_1X (m := v) (by omega) hw.1 hw.2
      have z0 := zor_0X (m := v) (by omega) hw.1 (by omega)
      have hN := RX_qf h hfr
      have ent : zcn (zv 3 tX3_enter) [.inr (.inr 23), .inr (.inr 1), .inl me] N (fun N' => uX7_guessFirst R 24 [some (.inr (.inr 0)), some (.inl me), some (.inl qu), some (.inl (wbs p v)), some (.inl (v : Int)), x5] [] N') := by
        refine zcnv rfl (s_enterS hN.2.2.2.1 hg.1 hg.2 (fun N1 g1 g2 g3 => ⟨rfl, ?_⟩))
        have hfx : ∀ q, fup2 (fst S) me qu v me q = if q = qu then (v : Int) else fst S me q := fun q => by simp [fup2]
        have hP2 : PV 23 (zup (zup (zup N1 24 qu v) 25 qu v) 26 qu v) (wstart (so0 S me) (fup2 (fst S) me qu v me)) := by
          refine ⟨fun q q0 q1 => ?_, ?_, ?_⟩
          · have := g3.1 q q0 q1
            have w1 : wst S me q = fst S me q := by unfold wst wstart; rw [if_pos (by omega)]; rfl
            have w2 : wst S me (4 + q) = fst S me q := by unfold wst wstart; rw [if_neg (by omega), if_pos (by omega), show 4 + q - 4 = q by omega]; rfl
            have w3 : wst S me (8 + q) = fst S me q := by unfold wst wstart; rw [if_neg (by omega), if_neg (by omega), if_pos (by omega), show 8 + q - 8 = q by omega]; rfl
            have u1 : wstart (so0 S me) (fup2 (fst S) me qu v me) q = fup2 (fst S) me qu v me q := by unfold wstart; rw [if_pos (by omega)]
            have u2 : wstart (so0 S me) (fup2 (fst S) me qu v me) (4 + q) = fup2 (fst S) me qu v me q := by unfold wstart; rw [if_neg (by omega), if_pos (by omega), show 4 + q - 4 = q by omega]
            have u3 : wstart (so0 S me) (fup2 (fst S) me qu v me) (8 + q) = fup2 (fst S) me qu v me q := by unfold wstart; rw [if_neg (by omega), if_neg (by omega), if_pos (by omega), show 8 + q - 8 = q by omega]
            rw [w1, w2, w3] at this
            rw [u1, u2, u3, hfx]
            simp only [zup_eq, Nat.reduceAdd, Nat.reduceEqDiff, false_and, true_and, if_false]
            by_cases e : q = qu
            · simp only [e, if_true, and_self]
            · simp only [e, if_false]
              exact this
          · rw [zup_ne (by decide), zup_ne (by decide), zup_ne (by decide), g3.2.1]
            rfl
          · rw [zup_ne (by decide), zup_ne (by decide), zup_ne (by decide), g3.2.2]
            rfl
        have hfu : ∀ q, 0 ≤ q → q < 4 → 0 ≤ fup2 (fst S) me qu v me q ∧ fup2 (fst S) me qu v me q ≤ 9 := fun q a b => by
          rw [hfx]
          split
          · omega
          · exact ((hq 0 (by decide)).2 me hg.1 hg.2).2.2 (1 + q) (by omega) (by omega)
        have hb4 : zup (zup (zup N1 24 qu v) 25 qu v) 26 qu v 23 4 = wbyS S me := by rw [zup_ne (by decide), zup_ne (by decide), zup_ne (by decide)]; exact g2
        have hbR := wbyS_R S me
        have gz : ∀ k i, ¬ (23 ≤ k ∧ k ≤ 26) → zup (zup (zup N1 24 qu v) 25 qu v) 26 qu v k i = N k i := fun k i a => by
          rw [zup_ne (by omega), zup_ne (by omega), zup_ne (by omega)]
          exact g1 k i a
        have tr : zcn (zv 7 tX7_trace) [.inr (.inr 0), .inl me, .inl 255] (zup (zup (zup N1 24 qu v) 25 qu v) 26 qu v) (fun N' => uX7_guessFirst R 42 [some (.inr (.inr 0)), some (.inl me), some (.inl qu), some (.inl (wbs p v)), some (.inl (v : Int)), x5] [] N') := by
          refine zcnv rfl (s_trace (S := S) (g := gt S) (n := nf S) (CW_fr hN.2.2.2.1 (fun k i a => gz k i (by omega))) (FR_fr hN.2.2.2.2.1.2 (fun k i a b => gz k i (by omega))) hP2 (vokb_start hfu) (by decide) hb4 hbR (by omega) (fun N2 k1 k2 => ⟨rfl, ?_⟩))
          have hfr2 : ∀ k i, ¬ (23 ≤ k ∧ k ≤ 26) → k ≠ 33 → N2 k i = N k i := fun k i a b => (k1 k i a b).trans (gz k i a)
          have hS2 : SR S N2 := SR_fr hN.2.2.2.2.2.1 (fun k i a b => hfr2 k i (by omega) (by omega))
          have hmv : ∀ t, wX S kall (so0 S) (fup2 (fst S) me qu v) me t = wseg S (gt S) (nf S) (kpm 255) (wbyS S me) me 0 (t + 1) (wstart (so0 S me) (fup2 (fst S) me qu v me)) := fun t => (wseg_kp (fun f hf => kpm_255d ⟨f, by omega⟩) _).symm
          have hrng : ∀ t : Nat, t < 20 → ∀ q, 0 ≤ q → q < 4 → 0 ≤ wX S kall (so0 S) (fup2 (fst S) me qu v) me t q ∧ wX S kall (so0 S) (fup2 (fst S) me qu v) me t q ≤ 9 := fun t ht q q0 q1 => by
            rw [hmv]
            exact (vokb_seg (S := S) (g := gt S) (n := nf S) (kp := kpm 255) (m := me) hq hbR.1 (vokb_start (so := so0 S me) hfu) (FR_g hF) hn8 (T := t + 1) (by omega)).1 q (by omega) (by omega)
          have k3 : ∀ t : Nat, t < 20 → ∀ q, 0 ≤ q → q < 4 → N2 33 ((t : Int) * 4 + q) = wX S kall (so0 S) (fup2 (fst S) me qu v) me t q := fun t ht q q0 q1 => by rw [hmv]; exact k2 t ht q q0 q1
          have hspl := wsee_split (me := me) hs0 hg.2 (hV v)
          have hpv : p v = wsee S (wX S kall (so0 S) (fup2 (fst S) me qu v)) := by rw [← hp]; rfl
          have cp : ∀ s : Nat × zM, (s.1 ≤ 20 ∧ (∀ k i, k ≠ 34 → s.2 k i = N2 k i) ∧ (∀ v' : Nat, v' < v → ∀ t : Nat, t < 20 → s.2 34 ((v' : Int) * 20 + t) = wX S kall (so0 S) (fup2 (fst S) me qu v') me t qu) ∧ (∀ t : Nat, t < s.1 → s.2 34 ((v : Int) * 20 + t) = wX S kall (so0 S) (fup2 (fst S) me qu v) me t qu)) → uX7_guessFirst R 66 [some (.inr (.inr 0)), some (.inl me), some (.inl qu), some (.inl (wbs p (v + 1))), some (.inl (v : Int)), some (.inl (s.1 : Int))] [] s.2 := by
            refine zind (fun s => 20 - s.1) ?_
            rintro ⟨t, N3⟩ ⟨ht, c1, c2, c3⟩ ih2
            simp only at ht c1 c2 c3 ih2
            refine rX7_guessFirst_66.mpr ?_
            by_cases he2 : t = 20
            · subst he2
              have nx := ih (v + 1, N3) ⟨by simp only; omega, hfr.trans (fun k i a b => (c1 k i (by omega)).trans (hfr2 k i (by omega) (by omega))), fun v' hv' t ht => ?_⟩ (by simp only; omega) (some (.inl (20 : Nat)))
              · simp only [↓rX7_guessFirst_68, ↓rX7_guessFirst_70, ↓rX7_guessFirst_103, ↓rX7_guessFirst_106, ↓reduceIte, zkeep_n, zkeep_i, zkeep_r, zkeep_l, zup_eq, zIR, zLR, List.length_cons, List.length_nil, Nat.reduceAdd, Nat.reduceLeDiff, Nat.reduceEqDiff, Nat.reduceSub, Int.reduceLE, Int.reduceLT, Int.reduceEq, Int.reduceNe, Int.reduceNeg, Int.reduceAdd, Int.reduceSub, Int.reduceMul, Int.reduceToNat, Nat.le_refl, Nat.zero_le, Nat.zero_add, Int.zero_add, Int.add_zero, and_true, true_and, and_false, false_and, not_true_eq_false, not_false_eq_true, eq_self, ne_eq, true_implies, false_implies, implies_true, or_true, true_or, or_false, false_or, reduceCtorEq, Option.some.injEq, Sum.inl.injEq, exists_eq_left', exists_eq_left, zite]
                repeat' (first | with_reducible apply And.intro | with_reducible intro _)
                all_goals first | omega | (exact nx)
              · simp only at hv'
                by_cases e : v' = v
                · rw [e]; exact c3 t ht
                · exact c2 v' (by omega) t ht
            · have e33 : N3 33 ((t : Int) * 4 + qu) = wX S kall (so0 S) (fup2 (fst S) me qu v) me t qu := (c1 _ _ (by decide)).trans (k3 t (by omega) qu hqu.1 hqu.2)
              have nx := ih2 (t + 1, zup N3 34 ((v : Int) * 20 + t) (wX S kall (so0 S) (fup2 (fst S) me qu v) me t qu)) ⟨by simp only; omega, fun k i hk => (zup_ne hk).trans (c1 k i hk), fun v' hv' t' ht' => ?_, fun t' ht' => ?_⟩ (by simp only; omega)
              · simp only [↓rX7_guessFirst_68, ↓rX7_guessFirst_70, ↓rX7_guessFirst_73, ↓rX7_guessFirst_74, ↓rX7_guessFirst_77, ↓rX7_guessFirst_79, ↓rX7_guessFirst_81, ↓rX7_guessFirst_82, ↓rX7_guessFirst_84, ↓rX7_guessFirst_85, ↓rX7_guessFirst_86, ↓rX7_guessFirst_89, ↓rX7_guessFirst_91, ↓rX7_guessFirst_92, ↓rX7_guessFirst_93, ↓rX7_guessFirst_94, ↓rX7_guessFirst_95, ↓rX7_guessFirst_96, ↓rX7_guessFirst_97, ↓rX7_guessFirst_100, ↓hg_fX7_76_0, ↓hg_fX7_80_0, ↓hr_10, ↓hr_11, ↓hr_13, ↓hr_14, ↓hr_15, ↓hr_16, ↓hr_18, ↓hr_19, ↓hr_2, ↓hr_20, ↓hr_21, ↓hr_24, ↓hr_25, ↓hr_26, ↓hr_28, ↓hr_29, ↓hr_3, ↓hr_30, ↓hr_33, ↓hr_34, ↓hr_35, ↓hr_36, ↓hr_37, ↓hr_39, ↓hr_41, ↓hr_43, ↓hr_45, ↓hr_5, ↓hr_6, ↓hr_8, ↓hr_9, ↓hr_fX7_104, ↓hw_10, ↓hw_11, ↓hw_13, ↓hw_14, ↓hw_15, ↓hw_16, ↓hw_18, ↓hw_19, ↓hw_2, ↓hw_20, ↓hw_21, ↓hw_24, ↓hw_25, ↓hw_26, ↓hw_28, ↓hw_29, ↓hw_3, ↓hw_30, ↓hw_33, ↓hw_34, ↓hw_35, ↓hw_36, ↓hw_37, ↓hw_39, ↓hw_41, ↓hw_43, ↓hw_45, ↓hw_5, ↓hw_6, ↓hw_8, ↓hw_9, ↓reduceIte, zkeep_n, zkeep_i, zkeep_r, zkeep_l, zup_eq, zIR, zLR, List.length_cons, List.length_nil, Nat.reduceAdd, Nat.reduceLeDiff, Nat.reduceEqDiff, Nat.reduceSub, Int.reduceLE, Int.reduceLT, Int.reduceEq, Int.reduceNe, Int.reduceNeg, Int.reduceAdd, Int.reduceSub, Int.reduceMul, Int.reduceToNat, Nat.le_refl, Nat.zero_le, Nat.zero_add, Int.zero_add, Int.add_zero, and_true, true_and, and_false, false_and, not_true_eq_false, not_false_eq_true, eq_self, ne_eq, true_implies, false_implies, implies_true, or_true, true_or, or_false, false_or, reduceCtorEq, Option.some.injEq, Sum.inl.injEq, exists_eq_left', exists_eq_left, e33, zite]
                repeat' (first | with_reducible apply And.intro | with_reducible intro _)
                all_goals first | omega | (exact nx)
              · simp only [zup_in]
                rw [if_neg (by omega)]
                exact c2 v' hv' t' ht'
              · simp only [zup_in]
                simp only at ht'
                by_cases e : t' = t
                · rw [if_pos (by rw [e]), e]
                · rw [if_neg (by omega)]
                  exact c3 t' (by omega)
          have cp0 := cp (0, N2) ⟨Nat.zero_le _, fun _ _ _ => rfl, fun v' hv' t ht => (hfr2 _ _ (by decide) (by decide)).trans (hgs v' hv' t ht), fun t ht => by simp at ht⟩
          simp only [wbs] at cp0
          simp only [↓rX7_guessFirst_42, ↓rX7_guessFirst_43, ↓rX7_guessFirst_44, ↓rX7_guessFirst_47, ↓rX7_guessFirst_48, ↓rX7_guessFirst_49, ↓rX7_guessFirst_52, ↓hg_fX7_38_0, ↓hg_fX7_76_0, ↓reduceIte, zkeep_n, zkeep_i, zkeep_r, zkeep_l, zup_eq, zIR, zLR, List.length_cons, List.length_nil, Nat.reduceAdd, Nat.reduceLeDiff, Nat.reduceEqDiff, Nat.reduceSub, Int.reduceLE, Int.reduceLT, Int.reduceEq, Int.reduceNe, Int.reduceNeg, Int.reduceAdd, Int.reduceSub, Int.reduceMul, Int.reduceToNat, Nat.le_refl, Nat.zero_le, Nat.zero_add, Int.zero_add, Int.add_zero, and_true, true_and, and_false, false_and, not_true_eq_false, not_false_eq_true, eq_self, ne_eq, true_implies, false_implies, implies_true, or_true, true_or, or_false, false_or, reduceCtorEq, Option.some.injEq, Sum.inl.injEq, exists_eq_left', exists_eq_left, zite]
          refine zcvv rfl (s_agree (B := fun t q => wX S kall (so0 S) (fup2 (fst S) me qu v) me t q) hS2 (by omega) (fun t ht q q0 q1 => ⟨k3 t ht q q0 q1, hrng t ht q q0 q1⟩) (fun hag => ⟨_, rfl, ?_⟩) (fun hex2 => ⟨_, rfl, ?_⟩))
          · rw [if_pos (by rw [hpv, hspl]; exact ⟨hall, hag⟩)] at cp0
            simp only [↓rX7_guessFirst_55, ↓rX7_guessFirst_58, ↓rX7_guessFirst_60, ↓rX7_guessFirst_61, ↓rX7_guessFirst_62, ↓rX7_guessFirst_63, ↓rX7_guessFirst_64, ↓i_bit, ↓reduceIte, zkeep_n, zkeep_i, zkeep_r, zkeep_l, zup_eq, zIR, zLR, List.length_cons, List.length_nil, Nat.reduceAdd, Nat.reduceLeDiff, Nat.reduceEqDiff, Nat.reduceSub, Int.reduceLE, Int.reduceLT, Int.reduceEq, Int.reduceNe, Int.reduceNeg, Int.reduceAdd, Int.reduceSub, Int.reduceMul, Int.reduceToNat, Nat.le_refl, Nat.zero_le, Nat.zero_add, Int.zero_add, Int.add_zero, and_true, true_and, and_false, false_and, not_true_eq_false, not_false_eq_true, eq_self, ne_eq, true_implies, false_implies, implies_true, or_true, true_or, or_false, false_or, reduceCtorEq, Option.some.injEq, Sum.inl.injEq, exists_eq_left', exists_eq_left, zite]
            rw [z1]
            exact cp0
          · rw [if_neg (by rw [hpv, hspl]; obtain ⟨i, a, b, c, d⟩ := hex2; exact fun q => d (q.2 i a b c)), Int.add_zero] at cp0
            simp only [↓rX7_guessFirst_55, ↓rX7_guessFirst_58, ↓rX7_guessFirst_60, ↓rX7_guessFirst_61, ↓rX7_guessFirst_62, ↓rX7_guessFirst_63, ↓rX7_guessFirst_64, ↓i_bit, ↓reduceIte, zkeep_n, zkeep_i, zkeep_r, zkeep_l, zup_eq, zIR, zLR, List.length_cons, List.length_nil, Nat.reduceAdd, Nat.reduceLeDiff, Nat.reduceEqDiff, Nat.reduceSub, Int.reduceLE, Int.reduceLT, Int.reduceEq, Int.reduceNe, Int.reduceNeg, Int.reduceAdd, Int.reduceSub, Int.reduceMul, Int.reduceToNat, Nat.le_refl, Nat.zero_le, Nat.zero_add, Int.zero_add, Int.add_zero, and_true, true_and, and_false, false_and, not_true_eq_false, not_false_eq_true, eq_self, ne_eq, true_implies, false_implies, implies_true, or_true, true_or, or_false, false_or, reduceCtorEq, Option.some.injEq, Sum.inl.injEq, exists_eq_left', exists_eq_left, zite]
            rw [z0]
            exact cp0
        simp only [↓rX7_guessFirst_24, ↓rX7_guessFirst_25, ↓rX7_guessFirst_28, ↓rX7_guessFirst_29, ↓rX7_guessFirst_31, ↓rX7_guessFirst_34, ↓rX7_guessFirst_35, ↓rX7_guessFirst_36, ↓rX7_guessFirst_39, ↓hg_fX7_55_0, ↓i_hold23, ↓reduceIte, zkeep_n, zkeep_i, zkeep_r, zkeep_l, zIR, zLR, List.length_cons, List.length_nil, Nat.reduceAdd, Nat.reduceLeDiff, Nat.reduceEqDiff, Nat.reduceSub, Int.reduceLE, Int.reduceLT, Int.reduceEq, Int.reduceNe, Int.reduceNeg, Int.reduceAdd, Int.reduceSub, Int.reduceMul, Int.reduceToNat, Nat.le_refl, Nat.zero_le, Nat.zero_add, Int.zero_add, Int.add_zero, and_true, true_and, and_false, false_and, not_true_eq_false, not_false_eq_true, eq_self, ne_eq, true_implies, false_implies, implies_true, or_true, true_or, or_false, false_or, reduceCtorEq, Option.some.injEq, Sum.inl.injEq, exists_eq_left', exists_eq_left, zite]
        repeat' (first | with_reducible apply And.intro | with_reducible intro _)
        all_goals first | omega | (exact tr)
      simp only [↓rX7_guessFirst_7, ↓rX7_guessFirst_9, ↓rX7_guessFirst_12, ↓rX7_guessFirst_13, ↓rX7_guessFirst_16, ↓rX7_guessFirst_17, ↓rX7_guessFirst_20, ↓rX7_guessFirst_21, ↓hg_fX7_14_0, ↓hg_fX7_55_0, ↓reduceIte, zkeep_n, zkeep_i, zkeep_r, zkeep_l, zup_eq, zIR, zLR, List.length_cons, List.length_nil, Nat.reduceAdd, Nat.reduceLeDiff, Nat.reduceEqDiff, Nat.reduceSub, Int.reduceLE, Int.reduceLT, Int.reduceEq, Int.reduceNe, Int.reduceNeg, Int.reduceAdd, Int.reduceSub, Int.reduceMul, Int.reduceToNat, Nat.le_refl, Nat.zero_le, Nat.zero_add, Int.zero_add, Int.add_zero, and_true, true_and, and_false, false_and, not_true_eq_false, not_false_eq_true, eq_self, ne_eq, true_implies, false_implies, implies_true, or_true, true_or, or_false, false_or, reduceCtorEq, Option.some.injEq, Sum.inl.injEq, exists_eq_left', exists_eq_left, zite]
      repeat' (first | with_reducible apply And.intro | with_reducible intro _)
      all_goals first | omega | (exact ent)
  exact L (0, M) ⟨Nat.zero_le _, QF.rfl, fun v hv => by simp at hv⟩ none
set_option maxRecDepth 100000 in
set_option maxHeartbeats 4000000 in
theorem x_first {S M : zM} {R : zP} {me qu : Int} (h : RX S M) (z1 : zIR me) (z2 : zIR qu) (hR : ∀ M', QF M M' → R (some (.inl (aFirst S me qu))) M') : tX7_first [.inr (.inr 0), .inl me, .inl qu] M R := by
  have hqn := (h.2.2.2.1.1 0 (by decide)).1
  have n1 := h.2.2.2.1.2.1
  have hn8 := h.2.2.2.2.1.2.2.1
  have hs0 := h.2.2.2.2.2.1.2.1.1
  unfold zIR at z1 z2
  have bad : ¬ ((0 ≤ me ∧ me < qn S 0) ∧ (0 ≤ qu ∧ qu < 4)) → R (some (.inl (-2))) M := fun hb => by
    have := hR M QF.rfl
    unfold aFirst at this
    rw [if_neg hb] at this
    exact this
  have call : ((0 ≤ me ∧ me < qn S 0) ∧ (0 ≤ qu ∧ qu < 4)) → zcv (zv 7 tX7_restAgree) [.inr (.inr 0), .inl me, .inl 255] M (fun v M' => uX7_first R 33 [some (.inr (.inr 0)), some (.inl me), some (.inl qu)] [v] M') := by
    intro hg
    unfold aFirst at hR
    rw [if_pos hg] at hR
    refine zcvv rfl (s_rest h (by omega) (fun M1 f1 hall => ⟨_, rfl, ?_⟩) (fun M1 f1 hex => ⟨_, rfl, ?_⟩))
    · simp only [kall_255 hn8] at hall
      have hf0 : QF M M1 := fun k i a b => f1 k i (by omega) (by omega)
      have gc : zcv (zv 7 tX7_guessFirst) [.inr (.inr 0), .inl me, .inl qu] M1 (fun v M' => uX7_first R 42 [some (.inr (.inr 0)), some (.inl me), some (.inl qu)] [v] M') := by
        refine zcvv rfl (s_guess (RX_qf h hf0) hg.1 hg.2 hall (fun M2 f2 f3 => ⟨_, rfl, ?_⟩))
        simp only [↓rX7_first_42, ↓rX7_first_46, ↓reduceIte, zkeep_n, zkeep_i, zkeep_r, zkeep_l, zup_eq, zIR, zLR, List.length_cons, List.length_nil, Nat.reduceAdd, Nat.reduceLeDiff, Nat.reduceEqDiff, Nat.reduceSub, Int.reduceLE, Int.reduceLT, Int.reduceEq, Int.reduceNe, Int.reduceNeg, Int.reduceAdd, Int.reduceSub, Int.reduceMul, Int.reduceToNat, Nat.le_refl, Nat.zero_le, Nat.zero_add, Int.zero_add, Int.add_zero, and_true, true_and, and_false, false_and, not_true_eq_false, not_false_eq_true, eq_self, ne_eq, true_implies, false_implies, implies_true, or_true, true_or, or_false, false_or, reduceCtorEq, Option.some.injEq, Sum.inl.injEq, exists_eq_left', exists_eq_left, zite]
        exact hR M2 (hf0.trans f2)
      simp only [↓rX7_first_33, ↓rX7_first_36, ↓rX7_first_37, ↓rX7_first_38, ↓rX7_first_39, ↓reduceIte, zkeep_n, zkeep_i, zkeep_r, zkeep_l, zup_eq, zIR, zLR, List.length_cons, List.length_nil, Nat.reduceAdd, Nat.reduceLeDiff, Nat.reduceEqDiff, Nat.reduceSub, Int.reduceLE, Int.reduceLT, Int.reduceEq, Int.reduceNe, Int.reduceNeg, Int.reduceAdd, Int.reduceSub, Int.reduceMul, Int.reduceToNat, Nat.le_refl, Nat.zero_le, Nat.zero_add, Int.zero_add, Int.add_zero, and_true, true_and, and_false, false_and, not_true_eq_false, not_false_eq_true, eq_self, ne_eq, true_implies, false_implies, implies_true, or_true, true_or, or_false, false_or, reduceCtorEq, Option.some.injEq, Sum.inl.injEq, exists_eq_left', exists_eq_left, zite]
      exact gc
    · simp only [kall_255 hn8] at hex
      have hV : ∀ (v : Nat) m T, m ≠ me → wX S kall (so0 S) (fup2 (fst S) me qu v) m T = wX S kall (so0 S) (fst S) m T := fun v m T hm => wX_other rfl (by funext q; simp [fup2, hm])
      have fin := hR M1 (fun k i a b => f1 k i (by omega) (by omega))
      have e0 : wbs (pfst S me qu) 10 = 0 := wbs_false 10 (fun v _ => by
          unfold pfst
          rw [← Bool.not_eq_true, wsee_split (me := me) hs0 hg.1.2 (hV v)]
          obtain ⟨i, a, b, c, d⟩ := hex
          exact fun q => d (q.1 i a b c))
      rw [e0] at fin
      simp only [↓rX7_first_33, ↓rX7_first_45, ↓rX7_first_46, ↓reduceIte, zkeep_n, zkeep_i, zkeep_r, zkeep_l, zup_eq, zIR, zLR, List.length_cons, List.length_nil, Nat.reduceAdd, Nat.reduceLeDiff, Nat.reduceEqDiff, Nat.reduceSub, Int.reduceLE, Int.reduceLT, Int.reduceEq, Int.reduceNe, Int.reduceNeg, Int.reduceAdd, Int.reduceSub, Int.reduceMul, Int.reduceToNat, Nat.le_refl, Nat.zero_le, Nat.zero_add, Int.zero_add, Int.add_zero, and_true, true_and, and_false, false_and, not_true_eq_false, not_false_eq_true, eq_self, ne_eq, true_implies, false_implies, implies_true, or_true, true_or, or_false, false_or, reduceCtorEq, Option.some.injEq, Sum.inl.injEq, exists_eq_left', exists_eq_left, zite]
      exact fin
  simp only [↓eX7_first, ↓rX7_first_0, ↓rX7_first_1, ↓rX7_first_2, ↓rX7_first_5, ↓rX7_first_8, ↓rX7_first_11, ↓rX7_first_14, ↓rX7_first_15, ↓rX7_first_16, ↓rX7_first_19, ↓rX7_first_22, ↓rX7_first_24, ↓rX7_first_25, ↓rX7_first_26, ↓rX7_first_27, ↓rX7_first_30, ↓hg_fX7_116_1, ↓hg_fX7_116_4, ↓hg_fX7_14_0, ↓i_outside, ↓reduceIte, zkeep_n, zkeep_i, zkeep_r, zkeep_l, zup_eq, zIR, zLR, List.length_cons, List.length_nil, Nat.reduceAdd, Nat.reduceLeDiff, Nat.reduceEqDiff, Nat.reduceSub, Int.reduceLE, Int.reduceLT, Int.reduceEq, Int.reduceNe, Int.reduceNeg, Int.reduceAdd, Int.reduceSub, Int.reduceMul, Int.reduceToNat, Nat.le_refl, Nat.zero_le, Nat.zero_add, Int.zero_add, Int.add_zero, and_true, true_and, and_false, false_and, not_true_eq_false, not_false_eq_true, eq_self, ne_eq, true_implies, false_implies, implies_true, or_true, true_or, or_false, false_or, reduceCtorEq, Option.some.injEq, Sum.inl.injEq, exists_eq_left', exists_eq_left, n1, zite]
  repeat' (first | with_reducible apply And.intro | with_reducible intro _)
  all_goals first | omega | (exact bad (by omega)) | (exact call (by omega))
