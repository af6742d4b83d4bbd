theorem RX_tc {S S' M M' : zM} (h1 : VT S) (h2 : TX S 0 1 M) (h3 : TX S 1 4 M) (h4 : CW S M) (hS : ∀ k i, k ≤ 2 → S' k i = S k i) (hM : ∀ k i, 1 ≤ k → k ≤ 6 → M' k i = M k i) : VT S' ∧ TX S' 0 1 M' ∧ TX S' 1 4 M' ∧ CW S' M' := by
  have q0 := q_cg (S := S) (S' := S') (k := 0) (hS _ _ (by decide)) (funext (fun i => hS _ i (by decide)))
  have q1 := q_cg (S := S) (S' := S') (k := 1) (hS _ _ (by decide)) (funext (fun i => hS _ i (by decide)))
  have hV : VT S' := fun k hk => by
    rw [hS 0 _ (by decide)]
    refine ⟨(h1 k hk).1, fun i a b => ?_⟩
    rw [hS (1 + k) _ (by omega)]
    exact (h1 k hk).2 i a b
  refine ⟨hV, ⟨?_, fun i a b => ?_, ?_⟩, ⟨?_, fun i a b => ?_, ?_⟩, VT_QR hV, ?_, ?_, fun i j a b c d => ?_, fun i j a b c d => ?_⟩
  · rw [hM _ _ (by decide) (by decide), hS 0 _ (by decide)]; exact h2.1
  · rw [hS 0 _ (by decide)] at b
    rw [hM _ _ (by decide) (by decide), hS _ _ (by decide)]; exact h2.2.1 i a b
  · rw [hM _ _ (by decide) (by decide), q0.1]; exact h2.2.2
  · rw [hM _ _ (by decide) (by decide), hS 0 _ (by decide)]; exact h3.1
  · rw [hS 0 _ (by decide)] at b
    rw [hM _ _ (by decide) (by decide), hS _ _ (by decide)]; exact h3.2.1 i a b
  · rw [hM _ _ (by decide) (by decide), q1.1]; exact h3.2.2
  · rw [hM _ _ (by decide) (by decide), q0.2.1]; exact h4.2.1
  · rw [hM _ _ (by decide) (by decide), q1.2.1]; exact h4.2.2.1
  · rw [q0.2.1] at b
    rw [hM _ _ (by decide) (by decide), q0.2.2]; exact h4.2.2.2.1 i j a b c d
  · rw [q1.2.1] at b
    rw [hM _ _ (by decide) (by decide), q1.2.2]; exact h4.2.2.2.2 i j a b c d
theorem RX_feeds {S S' M M' : zM} (h : RX S M) (hS : ∀ k i, ¬ (3 ≤ k ∧ k ≤ 6) → S' k i = S k i) (hM : ∀ k i, ¬ (7 ≤ k ∧ k ≤ 11) → M' k i = M k i) (hF : (0 ≤ S' 3 0 ∧ S' 3 0 ≤ 8) ∧ FR 7 (nf S') (gt S') M') : RX S' M' := by
  obtain ⟨h1, h2, h3, h4, h5, h6, h7, h8⟩ := h
  obtain ⟨a1, a2, a3, a4⟩ := RX_tc h1 h2 h3 h4 (S' := S') (M' := M') (fun k i a => hS k i (by omega)) (fun k i a b => hM k i (by omega))
  refine ⟨a1, a2, a3, a4, hF, SR_S (SR_fr h6 (fun k i a b => hM k i (by omega))) (fun k i a _ => hS k i (by omega)), LR_S (LR_fr h7 (fun k i a b => hM k i (by omega))) (fun k i a _ => hS k i (by omega)), ?_, ?_⟩
  · rw [hM _ _ (by decide), hS _ _ (by decide)]; exact h8.1
  · rw [hS _ _ (by decide)]; exact h8.2
theorem RX_seens {S S' M M' : zM} (h : RX S M) (hS : ∀ k i, ¬ (7 ≤ k ∧ k ≤ 11) → S' k i = S k i) (hM : ∀ k i, ¬ (17 ≤ k ∧ k ≤ 21) → M' k i = M k i) (hF : SR S' M') : RX S' M' := by
  obtain ⟨h1, h2, h3, h4, h5, h6, h7, h8⟩ := h
  obtain ⟨a1, a2, a3, a4⟩ := RX_tc h1 h2 h3 h4 (S' := S') (M' := M') (fun k i a => hS k i (by omega)) (fun k i a b => hM k i (by omega))
  obtain ⟨ng, gg⟩ := gt_S (S := S) (S' := S') (fun k i a b => hS k i (by omega))
  refine ⟨a1, a2, a3, a4, ⟨by rw [hS _ _ (by decide)]; exact h5.1, FR_S (FR_fr h5.2 (fun k i a b => hM k i (by omega))) ng gg⟩, hF, LR_S (LR_fr h7 (fun k i a b => hM k i (by omega))) (fun k i a _ => hS k i (by omega)), ?_, ?_⟩
  · rw [hM _ _ (by decide), hS _ _ (by decide)]; exact h8.1
  · rw [hS _ _ (by decide)]; exact h8.2
theorem RX_leafs {S S' M M' : zM} (h : RX S M) (hS : ∀ k i, ¬ (12 ≤ k ∧ k ≤ 19) → S' k i = S k i) (hM : ∀ k i, k ≠ 0 → ¬ (23 ≤ k ∧ k ≤ 37) → ¬ (38 ≤ k ∧ k ≤ 45) → M' k i = M k i) (hL : LR S' M') (hF : M' 0 6 = S' 19 0 ∧ 0 ≤ S' 19 0 ∧ S' 19 0 ≤ 5) : RX S' M' := by
  obtain ⟨h1, h2, h3, h4, h5, h6, h7, h8⟩ := h
  obtain ⟨a1, a2, a3, a4⟩ := RX_tc h1 h2 h3 h4 (S' := S') (M' := M') (fun k i a => hS k i (by omega)) (fun k i a b => hM k i (by omega) (by omega) (by omega))
  obtain ⟨ng, gg⟩ := gt_S (S := S) (S' := S') (fun k i a b => hS k i (by omega))
  exact ⟨a1, a2, a3, a4, ⟨by rw [hS _ _ (by decide)]; exact h5.1, FR_S (FR_fr h5.2 (fun k i a b => hM k i (by omega) (by omega) (by omega))) ng gg⟩, SR_S (SR_fr h6 (fun k i a b => hM k i (by omega) (by omega) (by omega))) (fun k i a _ => hS k i (by omega)), hL, hF⟩
def nFeed (S : zM) (te me co : Int) : zM := zup (zup (zup (zup S 4 (S 3 0) te) 5 (S 3 0) me) 6 (S 3 0) co) 3 0 (S 3 0 + 1)
def aFeed (S : zM) (te me co : Int) : Int := if (0 ≤ te ∧ te < 20) ∧ (0 ≤ me ∧ me < 8) ∧ (0 ≤ co ∧ co < 8) then (if S 3 0 = 8 then -4 else S 3 0 + 1) else -2
def mFeed (S : zM) (te me co : Int) : zM := if ((0 ≤ te ∧ te < 20) ∧ (0 ≤ me ∧ me < 8) ∧ (0 ≤ co ∧ co < 8)) ∧ S 3 0 ≠ 8 then nFeed S te me co else S
set_option maxRecDepth 100000 in
set_option maxHeartbeats 4000000 in
theorem x_feed {S M : zM} {R : zP} {te me co : Int} (h : RX S M) (z1 : zIR te) (z2 : zIR me) (z3 : zIR co) (hR : ∀ M', RX (mFeed S te me co) M' → (∀ k i, ¬ (7 ≤ k ∧ k ≤ 11) → M' k i = M k i) → R (some (.inl (aFeed S te me co))) M') : tX7_feed [.inr (.inr 0), .inl te, .inl me, .inl co] M R := by
  unfold zIR at z1 z2 z3
  unfold mFeed aFeed at hR
  have bad : ¬ ((0 ≤ te ∧ te < 20) ∧ (0 ≤ me ∧ me < 8) ∧ (0 ≤ co ∧ co < 8)) → R (some (.inl (-2))) M := fun hb => by
    have := hR M (by rw [if_neg (fun q => hb q.1)]; exact h) (fun _ _ _ => rfl)
    rw [if_neg hb] at this
    exact this
  have go : ((0 ≤ te ∧ te < 20) ∧ (0 ≤ me ∧ me < 8) ∧ (0 ≤ co ∧ co < 8)) → zcv (zv 4 tX4_add) [.inr (.inr 7), .inl te, .inl me, .inl co] M (fun v M' => uX7_feed R 40 [some (.inr (.inr 0)), some (.inl te), some (.inl me), some (.inl co)] [v] M') := fun hg => by
    obtain ⟨h30, hF⟩ := h.2.2.2.2.1
    obtain ⟨hn4, hn8, hL, hf⟩ := hF
    have hn : (nf S : Int) = S 3 0 := by unfold nf; omega
    refine zcvv rfl (s_add7 (n := nf S) (ft := gt S 1) hn4 hn8 hL (fun f hf2 => (hf f hf2).1) hg.1 (fun h8 => ⟨_, rfl, ?_⟩) (fun h8 M' f1 f2 f3 f4 f5 f6 f7 => ⟨_, rfl, ?_⟩))
    · have := hR M (by rw [if_neg (fun z => z.2 (by omega))]; exact h) (fun _ _ _ => rfl)
      rw [if_pos hg, if_pos (by omega)] at this
      simp only [↓rX7_feed_40, ↓reduceIte, zkeep_n, zkeep_i, zkeep_r, zkeep_l, zup_eq, zIR, zLR, List.length_cons, List.length_nil, Nat.reduceAdd, Nat.reduceLeDiff, Nat.reduceEqDiff, Nat.reduceSub, Int.reduceLE, Int.reduceLT, Int.reduceEq, Int.reduceNe, Int.reduceNeg, Int.reduceAdd, Int.reduceSub, Int.reduceMul, Int.reduceToNat, Nat.le_refl, Nat.zero_le, Nat.zero_add, Int.zero_add, Int.add_zero, and_true, true_and, and_false, false_and, not_true_eq_false, not_false_eq_true, eq_self, ne_eq, true_implies, false_implies, implies_true, or_true, true_or, or_false, false_or, reduceCtorEq, Option.some.injEq, Sum.inl.injEq, exists_eq_left', exists_eq_left, zite]
      exact this
    · have fr : ∀ k i, ¬ (7 ≤ k ∧ k ≤ 11) → M' k i = M k i := fun k i hk => f1 k i (by omega) (by omega) (by omega) (by omega) (by omega)
      have e30 : nFeed S te me co 3 0 = S 3 0 + 1 := by unfold nFeed; rw [zup_in, if_pos rfl]
      have en : nf (nFeed S te me co) = nf S + 1 := by unfold nf; rw [e30]; unfold nf at hn; omega
      have g1 : ∀ i, gt (nFeed S te me co) 1 i = if i = nf S then te else gt S 1 i := fun i => by
        show nFeed S te me co 4 i = if i = nf S then te else S 4 i
        unfold nFeed
        rw [zup_ne (by decide), zup_ne (by decide), zup_ne (by decide), zup_in, hn]
      have g2 : ∀ i, gt (nFeed S te me co) 2 i = if i = nf S then me else gt S 2 i := fun i => by
        show nFeed S te me co 5 i = if i = nf S then me else S 5 i
        unfold nFeed
        rw [zup_ne (by decide), zup_ne (by decide), zup_in, zup_ne (by decide), hn]
      have g3 : ∀ i, gt (nFeed S te me co) 3 i = if i = nf S then co else gt S 3 i := fun i => by
        show nFeed S te me co 6 i = if i = nf S then co else S 6 i
        unfold nFeed
        rw [zup_ne (by decide), zup_in, zup_ne (by decide), zup_ne (by decide), hn]
      have := hR M' (by
        rw [if_pos ⟨hg, by omega⟩]
        refine RX_feeds h (fun k i hk => ?_) fr ⟨by omega, ?_, by omega, ?_, fun f hf2 => ?_⟩
        · unfold nFeed
          rw [zup_ne (by omega), zup_ne (by omega), zup_ne (by omega), zup_ne (by omega)]
        · rw [en, f2]; rfl
        · rw [en, show gt (nFeed S te me co) 1 = fun f => if f = (nf S : Int) then te else gt S 1 f from funext g1]
          exact f7
        · rw [g1, g2, g3]
          by_cases e : f = nf S
          · subst e
            rw [if_pos rfl, if_pos rfl, if_pos rfl]
            exact ⟨⟨f4, hg.1⟩, ⟨f5, hg.2.1⟩, ⟨f6, hg.2.2⟩⟩
          · rw [if_neg (by omega), if_neg (by omega), if_neg (by omega)]
            have q := f3 f (by omega)
            have q2 := hf f (by omega)
            exact ⟨⟨q.1.trans q2.1.1, q2.1.2⟩, ⟨q.2.1.trans q2.2.1.1, q2.2.1.2⟩, ⟨q.2.2.trans q2.2.2.1, q2.2.2.2⟩⟩) fr
      rw [if_pos hg, if_neg (by omega)] at this
      simp only [↓rX7_feed_40, ↓reduceIte, zkeep_n, zkeep_i, zkeep_r, zkeep_l, zup_eq, zIR, zLR, List.length_cons, List.length_nil, Nat.reduceAdd, Nat.reduceLeDiff, Nat.reduceEqDiff, Nat.reduceSub, Int.reduceLE, Int.reduceLT, Int.reduceEq, Int.reduceNe, Int.reduceNeg, Int.reduceAdd, Int.reduceSub, Int.reduceMul, Int.reduceToNat, Nat.le_refl, Nat.zero_le, Nat.zero_add, Int.zero_add, Int.add_zero, and_true, true_and, and_false, false_and, not_true_eq_false, not_false_eq_true, eq_self, ne_eq, true_implies, false_implies, implies_true, or_true, true_or, or_false, false_or, reduceCtorEq, Option.some.injEq, Sum.inl.injEq, exists_eq_left', exists_eq_left, zite]
      rw [hn]
      exact this
  simp only [↓eX7_feed, ↓rX7_feed_0, ↓rX7_feed_1, ↓rX7_feed_3, ↓rX7_feed_6, ↓rX7_feed_9, ↓rX7_feed_10, ↓rX7_feed_12, ↓rX7_feed_15, ↓rX7_feed_18, ↓rX7_feed_19, ↓rX7_feed_21, ↓rX7_feed_24, ↓rX7_feed_27, ↓rX7_feed_29, ↓rX7_feed_30, ↓rX7_feed_31, ↓rX7_feed_34, ↓rX7_feed_35, ↓rX7_feed_36, ↓rX7_feed_37, ↓hg_fX7_28_0, ↓i_outside, ↓reduceIte, zkeep_n, zkeep_i, zkeep_r, zkeep_l, zup_eq, zIR, zLR, List.length_cons, List.length_nil, Nat.reduceAdd, Nat.reduceLeDiff, Nat.reduceEqDiff, Nat.reduceSub, Int.reduceLE, Int.reduceLT, Int.reduceEq, Int.reduceNe, Int.reduceNeg, Int.reduceAdd, Int.reduceSub, Int.reduceMul, Int.reduceToNat, Nat.le_refl, Nat.zero_le, Nat.zero_add, Int.zero_add, Int.add_zero, and_true, true_and, and_false, false_and, not_true_eq_false, not_false_eq_true, eq_self, ne_eq, true_implies, false_implies, implies_true, or_true, true_or, or_false, false_or, reduceCtorEq, Option.some.injEq, Sum.inl.injEq, exists_eq_left', exists_eq_left, zite]
  repeat' (first | with_reducible apply And.intro | with_reducible intro _)
  all_goals first | omega | (exact bad (by omega)) | (exact go (by omega))
def aBack (S : zM) : Int := if S 3 0 = 0 then -3 else S 3 0 - 1
def mBack (S : zM) : zM := if S 3 0 = 0 then S else zup S 3 0 (S 3 0 - 1)
set_option maxRecDepth 100000 in
set_option maxHeartbeats 4000000 in
theorem x_back {S M : zM} {R : zP} (h : RX S M) (hR : ∀ M', RX (mBack S) M' → XF M M' → R (some (.inl (aBack S))) M') : tX7_back [.inr (.inr 0)] M R := by
  unfold mBack aBack at hR
  obtain ⟨h30, hF⟩ := h.2.2.2.2.1
  obtain ⟨hn4, hn8, hL, hf⟩ := hF
  have hn : (nf S : Int) = S 3 0 := by unfold nf; omega
  simp only [↓eX7_back, ↓rX7_back_0, ↓rX7_back_1, ↓rX7_back_4, ↓hg_fX7_28_0, ↓reduceIte, zkeep_n, zkeep_i, zkeep_r, zkeep_l, zup_eq, zIR, zLR, List.length_cons, List.length_nil, Nat.reduceAdd, Nat.reduceLeDiff, Nat.reduceEqDiff, Nat.reduceSub, Int.reduceLE, Int.reduceLT, Int.reduceEq, Int.reduceNe, Int.reduceNeg, Int.reduceAdd, Int.reduceSub, Int.reduceMul, Int.reduceToNat, Nat.le_refl, Nat.zero_le, Nat.zero_add, Int.zero_add, Int.add_zero, and_true, true_and, and_false, false_and, not_true_eq_false, not_false_eq_true, eq_self, ne_eq, true_implies, false_implies, implies_true, or_true, true_or, or_false, false_or, reduceCtorEq, Option.some.injEq, Sum.inl.injEq, exists_eq_left', exists_eq_left, zite]
  refine zcvv rfl (s_dropLast (n := nf S) (ft := gt S 1) hn4 hn8 hL (fun f hf2 => (hf f hf2).1.2) (fun h0 => ⟨_, rfl, ?_⟩) (fun h0 M' f1 f2 f3 => ⟨_, rfl, ?_⟩))
  · have := hR M (by rw [if_pos (by omega)]; exact h) XF.rfl
    rw [if_pos (by omega)] at this
    simp only [↓rX7_back_7, ↓reduceIte, zkeep_n, zkeep_i, zkeep_r, zkeep_l, zup_eq, zIR, zLR, List.length_cons, List.length_nil, Nat.reduceAdd, Nat.reduceLeDiff, Nat.reduceEqDiff, Nat.reduceSub, Int.reduceLE, Int.reduceLT, Int.reduceEq, Int.reduceNe, Int.reduceNeg, Int.reduceAdd, Int.reduceSub, Int.reduceMul, Int.reduceToNat, Nat.le_refl, Nat.zero_le, Nat.zero_add, Int.zero_add, Int.add_zero, and_true, true_and, and_false, false_and, not_true_eq_false, not_false_eq_true, eq_self, ne_eq, true_implies, false_implies, implies_true, or_true, true_or, or_false, false_or, reduceCtorEq, Option.some.injEq, Sum.inl.injEq, exists_eq_left', exists_eq_left, zite]
    exact this
  · have e30 : zup S 3 0 (S 3 0 - 1) 3 0 = S 3 0 - 1 := by rw [zup_in, if_pos rfl]
    have en : nf (zup S 3 0 (S 3 0 - 1)) = nf S - 1 := by unfold nf; rw [e30]; unfold nf at hn; omega
    have gg : ∀ k, 1 ≤ k → gt (zup S 3 0 (S 3 0 - 1)) k = gt S k := fun k hk => funext (fun i => zup_ne (by omega))
    have := hR M' (by
      rw [if_neg (by omega)]
      refine RX_feeds h (fun k i hk => zup_ne (by omega)) (fun k i hk => f1 k i (by omega) (by omega)) ⟨by omega, ?_, by omega, ?_, fun f hf2 => ?_⟩
      · rw [en, f2]; omega
      · rw [en, gg 1 (by decide)]
        exact f3
      · rw [en] at hf2
        rw [gg 1 (by decide), gg 2 (by decide), gg 3 (by decide), f1 _ _ (by decide) (by decide), f1 _ _ (by decide) (by decide), f1 _ _ (by decide) (by decide)]
        exact hf f (by omega)) (fun k i hk => f1 k i (by omega) (by omega))
    rw [if_neg (by omega)] at this
    simp only [↓rX7_back_7, ↓reduceIte, zkeep_n, zkeep_i, zkeep_r, zkeep_l, zup_eq, zIR, zLR, List.length_cons, List.length_nil, Nat.reduceAdd, Nat.reduceLeDiff, Nat.reduceEqDiff, Nat.reduceSub, Int.reduceLE, Int.reduceLT, Int.reduceEq, Int.reduceNe, Int.reduceNeg, Int.reduceAdd, Int.reduceSub, Int.reduceMul, Int.reduceToNat, Nat.le_refl, Nat.zero_le, Nat.zero_add, Int.zero_add, Int.add_zero, and_true, true_and, and_false, false_and, not_true_eq_false, not_false_eq_true, eq_self, ne_eq, true_implies, false_implies, implies_true, or_true, true_or, or_false, false_or, reduceCtorEq, Option.some.injEq, Sum.inl.injEq, exists_eq_left', exists_eq_left, zite]
    rw [hn]
    exact this
def nSeen (S : zM) (te me qu mu : Int) : zM := zup (zup (zup (zup (zup S 8 (S 7 0) te) 9 (S 7 0) me) 10 (S 7 0) qu) 11 (S 7 0) mu) 7 0 (S 7 0 + 1)
abbrev gSeen (te me qu mu : Int) : Prop := (0 ≤ te ∧ te < 20) ∧ (0 ≤ me ∧ me < 8) ∧ (0 ≤ qu ∧ qu < 4) ∧ (0 ≤ mu ∧ mu < 10)
def aSeen (S : zM) (te me qu mu : Int) : Int := if gSeen te me qu mu then (if S 7 0 = 8 then -4 else S 7 0 + 1) else -2
def mSeen (S : zM) (te me qu mu : Int) : zM := if gSeen te me qu mu ∧ S 7 0 ≠ 8 then nSeen S te me qu mu else S
set_option maxRecDepth 100000 in
set_option maxHeartbeats 4000000 in
theorem x_seen {S M : zM} {R : zP} {te me qu mu : Int} (h : RX S M) (z1 : zIR te) (z2 : zIR me) (z3 : zIR qu) (z4 : zIR mu) (hR : ∀ M', RX (mSeen S te me qu mu) M' → XF M M' → R (some (.inl (aSeen S te me qu mu))) M') : tX7_seen [.inr (.inr 0), .inl te, .inl me, .inl qu, .inl mu] M R := by
  unfold zIR at z1 z2 z3 z4
  unfold mSeen aSeen at hR
  obtain ⟨e4, hs8, hs⟩ := h.2.2.2.2.2.1
  have bad : ¬ gSeen te me qu mu → R (some (.inl (-2))) M := fun hb => by
    have := hR M (by rw [if_neg (fun q => hb q.1)]; exact h) XF.rfl
    rw [if_neg hb] at this
    exact this
  have full : gSeen te me qu mu → S 7 0 = 8 → R (some (.inl (-4))) M := fun hb q => by
    have := hR M (by rw [if_neg (fun z => z.2 q)]; exact h) XF.rfl
    rw [if_pos hb, if_pos q] at this
    exact this
  have ok : gSeen te me qu mu → S 7 0 ≠ 8 → R (some (.inl (S 7 0 + 1))) (zup (zup (zup (zup (zup M 18 (S 7 0) te) 19 (S 7 0) me) 20 (S 7 0) qu) 21 (S 7 0) mu) 17 4 (S 7 0 + 1)) := fun hb q => by
    have := hR (zup (zup (zup (zup (zup M 18 (S 7 0) te) 19 (S 7 0) me) 20 (S 7 0) qu) 21 (S 7 0) mu) 17 4 (S 7 0 + 1)) (by
      rw [if_pos ⟨hb, q⟩]
      refine RX_seens h (fun k i hk => ?_) (fun k i hk => ?_) ⟨?_, ?_, fun i i0 i1 => ?_⟩
      · unfold nSeen
        rw [zup_ne (by omega), zup_ne (by omega), zup_ne (by omega), zup_ne (by omega), zup_ne (by omega)]
      · rw [zup_ne (by omega), zup_ne (by omega), zup_ne (by omega), zup_ne (by omega), zup_ne (by omega)]
      · unfold nSeen
        rw [zup_in, zup_in, if_pos rfl, if_pos rfl]
      · unfold nSeen
        rw [zup_in, if_pos rfl]
        omega
      · unfold nSeen at i1 ⊢
        rw [zup_in, if_pos rfl] at i1
        simp only [zup_eq, Nat.reduceEqDiff, false_and, true_and, if_false]
        by_cases e : i = S 7 0
        · simp only [e, if_true]
          exact ⟨⟨trivial, hb.1⟩, ⟨trivial, hb.2.1⟩, ⟨trivial, hb.2.2.1⟩, ⟨trivial, hb.2.2.2.1, by omega⟩⟩
        · simp only [e, if_false]
          exact hs i i0 (by omega)) (fun k i hk => by rw [zup_ne (by omega), zup_ne (by omega), zup_ne (by omega), zup_ne (by omega), zup_ne (by omega)])
    rw [if_pos hb, if_neg q] at this
    exact this
  have go : gSeen te me qu mu → zcv (zv 6 tX6_add) [.inr (.inr 17), .inl te, .inl me, .inl qu, .inl mu] M (fun v M' => uX7_seen R 51 [some (.inr (.inr 0)), some (.inl te), some (.inl me), some (.inl qu), some (.inl mu)] [v] M') := fun hb => by
    refine zcvv rfl ?_
    have full := full hb
    have ok := ok hb
    simp only [↓eX6_add, ↓rX6_add_0, ↓rX6_add_1, ↓rX6_add_4, ↓rX6_add_6, ↓rX6_add_9, ↓rX6_add_11, ↓rX6_add_12, ↓rX6_add_13, ↓rX6_add_16, ↓rX6_add_17, ↓rX6_add_20, ↓rX6_add_21, ↓rX6_add_22, ↓rX6_add_23, ↓rX6_add_26, ↓rX6_add_27, ↓rX6_add_30, ↓rX6_add_31, ↓rX6_add_32, ↓rX6_add_33, ↓rX6_add_36, ↓rX6_add_37, ↓rX6_add_40, ↓rX6_add_41, ↓rX6_add_42, ↓rX6_add_43, ↓rX6_add_46, ↓rX6_add_47, ↓rX6_add_50, ↓rX6_add_52, ↓rX6_add_53, ↓rX6_add_54, ↓rX6_add_55, ↓rX6_add_58, ↓rX6_add_59, ↓rX6_add_60, ↓rX6_add_63, ↓rX6_add_64, ↓rX6_add_67, ↓hg_fX6_15_17, ↓hg_fX6_18_17, ↓hg_fX6_21_17, ↓hg_fX6_24_17, ↓hg_fX6_9_17, ↓hp_fX6_24_17, ↓hr_10, ↓hr_11, ↓hr_13, ↓hr_14, ↓hr_15, ↓hr_16, ↓hr_18, ↓hr_19, ↓hr_2, ↓hr_20, ↓hr_21, ↓hr_24, ↓hr_25, ↓hr_26, ↓hr_28, ↓hr_29, ↓hr_3, ↓hr_30, ↓hr_33, ↓hr_34, ↓hr_35, ↓hr_36, ↓hr_37, ↓hr_39, ↓hr_41, ↓hr_43, ↓hr_45, ↓hr_5, ↓hr_6, ↓hr_8, ↓hr_9, ↓hw_10, ↓hw_11, ↓hw_13, ↓hw_14, ↓hw_15, ↓hw_16, ↓hw_18, ↓hw_19, ↓hw_2, ↓hw_20, ↓hw_21, ↓hw_24, ↓hw_25, ↓hw_26, ↓hw_28, ↓hw_29, ↓hw_3, ↓hw_30, ↓hw_33, ↓hw_34, ↓hw_35, ↓hw_36, ↓hw_37, ↓hw_39, ↓hw_41, ↓hw_43, ↓hw_45, ↓hw_5, ↓hw_6, ↓hw_8, ↓hw_9, ↓reduceIte, zkeep_n, zkeep_i, zkeep_r, zkeep_l, zIR, zLR, List.length_cons, List.length_nil, Nat.reduceAdd, Nat.reduceLeDiff, Nat.reduceEqDiff, Nat.reduceSub, Int.reduceLE, Int.reduceLT, Int.reduceEq, Int.reduceNe, Int.reduceNeg, Int.reduceAdd, Int.reduceSub, Int.reduceMul, Int.reduceToNat, Nat.le_refl, Nat.zero_le, Nat.zero_add, Int.zero_add, Int.add_zero, and_true, true_and, and_false, false_and, not_true_eq_false, not_false_eq_true, eq_self, ne_eq, true_implies, false_implies, implies_true, or_true, true_or, or_false, false_or, reduceCtorEq, Option.some.injEq, Sum.inl.injEq, exists_eq_left', exists_eq_left, e4, zite]
    simp only [zup_ne (show 17 ≠ 18 by decide), zup_ne (show 17 ≠ 19 by decide), zup_ne (show 17 ≠ 20 by decide), zup_ne (show 17 ≠ 21 by decide), e4, zup_in, if_true]
    simp only [↓rX7_seen_51, ↓reduceIte, zkeep_n, zkeep_i, zkeep_r, zkeep_l, zup_eq, zIR, zLR, List.length_cons, List.length_nil, Nat.reduceAdd, Nat.reduceLeDiff, Nat.reduceEqDiff, Nat.reduceSub, Int.reduceLE, Int.reduceLT, Int.reduceEq, Int.reduceNe, Int.reduceNeg, Int.reduceAdd, Int.reduceSub, Int.reduceMul, Int.reduceToNat, Nat.le_refl, Nat.zero_le, Nat.zero_add, Int.zero_add, Int.add_zero, and_true, true_and, and_false, false_and, not_true_eq_false, not_false_eq_true, eq_self, ne_eq, true_implies, false_implies, implies_true, or_true, true_or, or_false, false_or, reduceCtorEq, Option.some.injEq, Sum.inl.injEq, exists_eq_left', exists_eq_left, zite]
    repeat' (first | with_reducible apply And.intro | with_reducible intro _)
    all_goals first | omega | (exact full (by omega)) | (exact ok (by omega))
  simp only [↓eX7_seen, ↓rX7_seen_0, ↓rX7_seen_1, ↓rX7_seen_3, ↓rX7_seen_6, ↓rX7_seen_9, ↓rX7_seen_10, ↓rX7_seen_12, ↓rX7_seen_15, ↓rX7_seen_18, ↓rX7_seen_19, ↓rX7_seen_20, ↓rX7_seen_23, ↓rX7_seen_26, ↓rX7_seen_28, ↓rX7_seen_30, ↓rX7_seen_33, ↓rX7_seen_36, ↓rX7_seen_38, ↓rX7_seen_39, ↓rX7_seen_40, ↓rX7_seen_43, ↓rX7_seen_44, ↓rX7_seen_45, ↓rX7_seen_46, ↓rX7_seen_48, ↓hg_fX7_38_0, ↓i_outside, ↓reduceIte, zkeep_n, zkeep_i, zkeep_r, zkeep_l, zup_eq, zIR, zLR, List.length_cons, List.length_nil, Nat.reduceAdd, Nat.reduceLeDiff, Nat.reduceEqDiff, Nat.reduceSub, Int.reduceLE, Int.reduceLT, Int.reduceEq, Int.reduceNe, Int.reduceNeg, Int.reduceAdd, Int.reduceSub, Int.reduceMul, Int.reduceToNat, Nat.le_refl, Nat.zero_le, Nat.zero_add, Int.zero_add, Int.add_zero, and_true, true_and, and_false, false_and, not_true_eq_false, not_false_eq_true, eq_self, ne_eq, true_implies, false_implies, implies_true, or_true, true_or, or_false, false_or, reduceCtorEq, Option.some.injEq, Sum.inl.injEq, exists_eq_left', exists_eq_left, zite]
  repeat' (first | with_reducible apply And.intro | with_reducible intro _)
  all_goals first | omega | (exact bad (by omega)) | (exact go (by omega))
set_option maxRecDepth 100000 in
set_option maxHeartbeats 4000000 in
theorem x_forget {S M : zM} {R : zP} (h : RX S M) (hR : ∀ M', RX (zup S 7 0 0) M' → XF M M' → R (some (.inl (S 7 0))) M') : tX7_forget [.inr (.inr 0)] M R := by
  obtain ⟨e4, hs8, hs⟩ := h.2.2.2.2.2.1
  have fin := hR (zup M 17 4 0) (RX_seens h (fun k i hk => zup_ne (by omega)) (fun k i hk => zup_ne (by omega)) ⟨by rw [zup_in, zup_in, if_pos rfl, if_pos rfl], by rw [zup_in, if_pos rfl]; decide, fun i a b => by rw [zup_in, if_pos rfl] at b; omega⟩) (fun k i hk => zup_ne (by omega))
  simp only [↓eX7_forget, ↓rX7_forget_0, ↓rX7_forget_1, ↓rX7_forget_4, ↓rX7_forget_7, ↓hg_fX7_38_0, ↓i_sclear, ↓reduceIte, zkeep_n, zkeep_i, zkeep_r, zkeep_l, zIR, zLR, List.length_cons, List.length_nil, Nat.reduceAdd, Nat.reduceLeDiff, Nat.reduceEqDiff, Nat.reduceSub, Int.reduceLE, Int.reduceLT, Int.reduceEq, Int.reduceNe, Int.reduceNeg, Int.reduceAdd, Int.reduceSub, Int.reduceMul, Int.reduceToNat, Nat.le_refl, Nat.zero_le, Nat.zero_add, Int.zero_add, Int.add_zero, and_true, true_and, and_false, false_and, not_true_eq_false, not_false_eq_true, eq_self, ne_eq, true_implies, false_implies, implies_true, or_true, true_or, or_false, false_or, reduceCtorEq, Option.some.injEq, Sum.inl.injEq, exists_eq_left', exists_eq_left, e4, zite]
  exact fin
