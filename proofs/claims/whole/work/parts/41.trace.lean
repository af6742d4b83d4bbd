theorem vokb_seg {S g : zM} {n : Nat} {kp : Int → Bool} {m by_ b : Int} {v : Int → Int} (hq : QR S) (hb : 0 ≤ by_) (hv : vokb b v) (hg : ∀ f : Nat, f < n → (0 ≤ g 1 f ∧ g 1 f < 20) ∧ 0 ≤ g 3 f) (hn : n ≤ 8) {T : Nat} (hT : T ≤ 20) : vokb (b + 32) (wseg S g n kp by_ m 0 T v) := by
  rw [show ((0 : Int)) = ((0 : Nat) : Int) by rfl, wseg_fold]
  have h := vokb_fold (g := g) (kp := kp) (m := m) hq hb (qseg n (g 1) 0 T) b _ (fun f hf => (hg f (qseg_mem.mp hf).1).2) hv
  have hlen := qseg_len (n := n) (ft := g 1) n (fun f hf => (hg f hf).1)
  have : (qseg n (g 1) 0 T).length ≤ n := by
    unfold qord at hlen
    rw [show (20 : Nat) = T + (20 - T) by omega, qseg_add, List.length_append] at hlen
    omega
  exact ⟨h.1, h.2.1, h.2.2.1, h.2.2.2.1, by have := h.2.2.2.2; omega⟩
theorem FR_g {c n : Nat} {g M : zM} (hF : FR c n g M) : ∀ f : Nat, f < n → (0 ≤ g 1 f ∧ g 1 f < 20) ∧ 0 ≤ g 3 f := fun f hf => ⟨(hF.2.2.2 f hf).1.2, (hF.2.2.2 f hf).2.2.2.1⟩
set_option maxRecDepth 100000 in
set_option maxHeartbeats 4000000 in
theorem s_trace {S M g : zM} {R : zP} {n : Nat} {m kept by_ b : Int} {v : Int → Int} (hC : CW S M) (hF : FR 7 n g M) (hP : PV 23 M v) (hv : vokb b v) (hb : b ≤ 800) (hst : M 23 4 = by_) (hby : 0 ≤ by_ ∧ by_ ≤ 2) (hm : 0 ≤ m ∧ m < 8)
    (hR : ∀ M', (∀ k i, ¬ (23 ≤ k ∧ k ≤ 26) → k ≠ 33 → M' k i = M k i) → (∀ t : Nat, t < 20 → ∀ q, 0 ≤ q → q < 4 → M' 33 ((t : Int) * 4 + q) = wseg S g n (kpm kept) by_ m 0 (t + 1) v q) → R none M') : tX7_trace [.inr (.inr 0), .inl m, .inl kept] M R := by
  simp only [↓eX7_trace, ↓rX7_trace_0, ↓rX7_trace_1, ↓rX7_trace_2, ↓rX7_trace_3, ↓reduceIte, zkeep_n, zkeep_i, zkeep_r, zkeep_l, zup_eq, zIR, zLR, List.length_cons, List.length_nil, Nat.reduceAdd, Nat.reduceLeDiff, Nat.reduceEqDiff, Nat.reduceSub, Int.reduceLE, Int.reduceLT, Int.reduceEq, Int.reduceNe, Int.reduceNeg, Int.reduceAdd, Int.reduceSub, Int.reduceMul, Int.reduceToNat, Nat.le_refl, Nat.zero_le, Nat.zero_add, Int.zero_add, Int.add_zero, and_true, true_and, and_false, false_and, not_true_eq_false, not_false_eq_true, eq_self, ne_eq, true_implies, false_implies, implies_true, or_true, true_or, or_false, false_or, reduceCtorEq, Option.some.injEq, Sum.inl.injEq, exists_eq_left', exists_eq_left, zite]
  have L : ∀ s : Nat × zM, (s.1 ≤ 20 ∧ (∀ k i, ¬ (23 ≤ k ∧ k ≤ 26) → k ≠ 33 → s.2 k i = M k i) ∧ s.2 23 4 = by_ ∧ PV 23 s.2 (wseg S g n (kpm kept) by_ m 0 s.1 v) ∧ (∀ t : Nat, t < s.1 → ∀ q, 0 ≤ q → q < 4 → s.2 33 ((t : Int) * 4 + q) = wseg S g n (kpm kept) by_ m 0 (t + 1) v q)) → ∀ x5, uX7_trace R 5 [some (.inr (.inr 0)), some (.inl m), some (.inl kept), some (.inl ((qseg n (g 1) 0 s.1).length : Nat)), some (.inl (s.1 : Int)), x5] [] s.2 := by
    refine zind (fun s => 20 - s.1) ?_
    rintro ⟨t, N⟩ ⟨ht, hfr, hs4, hPV, hbe⟩ ih x5
    simp only at ht hfr hs4 hPV hbe ih
    refine rX7_trace_5.mpr ?_
    by_cases he : t = 20
    · subst he
      simp only [↓rX7_trace_7, ↓rX7_trace_9, ↓rX7_trace_69, ↓reduceIte, zkeep_n, zkeep_i, zkeep_r, zkeep_l, zup_eq, zIR, zLR, List.length_cons, List.length_nil, Nat.reduceAdd, Nat.reduceLeDiff, Nat.reduceEqDiff, Nat.reduceSub, Int.reduceLE, Int.reduceLT, Int.reduceEq, Int.reduceNe, Int.reduceNeg, Int.reduceAdd, Int.reduceSub, Int.reduceMul, Int.reduceToNat, Nat.le_refl, Nat.zero_le, Nat.zero_add, Int.zero_add, Int.add_zero, and_true, true_and, and_false, false_and, not_true_eq_false, not_false_eq_true, eq_self, ne_eq, true_implies, false_implies, implies_true, or_true, true_or, or_false, false_or, reduceCtorEq, Option.some.injEq, Sum.inl.injEq, exists_eq_left', exists_eq_left, zite]
      repeat' (first | with_reducible apply And.intro | with_reducible intro _)
      all_goals first | omega | (exact hR N hfr hbe)
    · have call : zcv (zv 7 tX7_bringUp) [.inr (.inr 0), .inr (.inr 7), .inl m, .inl ((qseg n (g 1) 0 t).length : Nat), .inl (t : Int), .inl kept] N (fun w N' => uX7_trace R 25 [some (.inr (.inr 0)), some (.inl m), some (.inl kept), some (.inl ((qseg n (g 1) 0 t).length : Nat)), some (.inl (t : Int)), x5] [w] N') := by
        have hvs := vokb_seg (S := S) (g := g) (n := n) (kp := kpm kept) (m := m) hC.1 hby.1 hv (FR_g hF) hF.2.1 (T := t) (by omega)
        refine zcvv rfl (s_bringUp7 (S := S) (g := g) (n := n) (a := t) (T := t) (CW_fr hC (fun k i hk => hfr k i (by omega) (by omega))) (FR_fr hF (fun k i a b => hfr k i (by omega) (by omega))) hPV hvs (by omega) hs4 hby (by omega) (by omega) hm (fun N' f1 f2 f3 => ⟨_, rfl, ?_⟩))
        rw [show t + 1 - t = 1 by omega, ← Int.natCast_zero] at f3
        have e9 := wseg_add S g n (kpm kept) by_ m 0 t 1 v
        rw [Nat.zero_add] at e9
        have e10 : wseg S g n (kpm kept) by_ m ((0 : Nat) : Int) (t + 1) v = wseg S g n (kpm kept) by_ m 0 (t + 1) v := rfl
        rw [← e9, e10] at f3
        have a0 := f3.1 0 (by decide) (by decide)
        have a1 := f3.1 1 (by decide) (by decide)
        have a2 := f3.1 2 (by decide) (by decide)
        have a3 := f3.1 3 (by decide) (by decide)
        have next := ih (t + 1, zup (zup (zup (zup N' 33 ((t : Int) * 4) (N' 24 0)) 33 ((t : Int) * 4 + 1) (N' 24 1)) 33 ((t : Int) * 4 + 2) (N' 24 2)) 33 ((t : Int) * 4 + 3) (N' 24 3)) ⟨by simp only; omega, fun k i h1 h2 => ?_, ?_, ?_, fun j hj q q0 q1 => ?_⟩ (by simp only; omega) (some (.inl 4))
        · simp only [↓rX7_trace_25, ↓rX7_trace_26, ↓rX7_trace_27, ↓rX7_trace_29, ↓rX7_trace_31, ↓rX7_trace_32, ↓rX7_trace_35, ↓rX7_trace_36, ↓rX7_trace_39, ↓rX7_trace_41, ↓rX7_trace_42, ↓rX7_trace_43, ↓rX7_trace_45, ↓rX7_trace_46, ↓rX7_trace_47, ↓rX7_trace_50, ↓rX7_trace_53, ↓rX7_trace_55, ↓rX7_trace_56, ↓rX7_trace_57, ↓rX7_trace_60, ↓rX7_trace_63, ↓rX7_trace_66, ↓hg_fX7_146_23, ↓hg_fX7_146_27, ↓hg_fX7_55_0, ↓hg_fX7_76_0, ↓hr_10, ↓hr_11, ↓hr_13, ↓hr_14, ↓hr_15, ↓hr_16, ↓hr_18, ↓hr_19, ↓hr_2, ↓hr_20, ↓hr_21, ↓hr_24, ↓hr_25, ↓hr_26, ↓hr_28, ↓hr_29, ↓hr_3, ↓hr_30, ↓hr_33, ↓hr_34, ↓hr_35, ↓hr_36, ↓hr_37, ↓hr_39, ↓hr_41, ↓hr_43, ↓hr_45, ↓hr_5, ↓hr_6, ↓hr_8, ↓hr_9, ↓hr_fX7_104, ↓hw_10, ↓hw_11, ↓hw_13, ↓hw_14, ↓hw_15, ↓hw_16, ↓hw_18, ↓hw_19, ↓hw_2, ↓hw_20, ↓hw_21, ↓hw_24, ↓hw_25, ↓hw_26, ↓hw_28, ↓hw_29, ↓hw_3, ↓hw_30, ↓hw_33, ↓hw_34, ↓hw_35, ↓hw_36, ↓hw_37, ↓hw_39, ↓hw_41, ↓hw_43, ↓hw_45, ↓hw_5, ↓hw_6, ↓hw_8, ↓hw_9, ↓reduceIte, zkeep_n, zkeep_i, zkeep_r, zkeep_l, zup_eq, zIR, zLR, List.length_cons, List.length_nil, Nat.reduceAdd, Nat.reduceLeDiff, Nat.reduceEqDiff, Nat.reduceSub, Int.reduceLE, Int.reduceLT, Int.reduceEq, Int.reduceNe, Int.reduceNeg, Int.reduceAdd, Int.reduceSub, Int.reduceMul, Int.reduceToNat, Nat.le_refl, Nat.zero_le, Nat.zero_add, Int.zero_add, Int.add_zero, and_true, true_and, and_false, false_and, not_true_eq_false, not_false_eq_true, eq_self, ne_eq, true_implies, false_implies, implies_true, or_true, true_or, or_false, false_or, reduceCtorEq, Option.some.injEq, Sum.inl.injEq, exists_eq_left', exists_eq_left, zite]
          repeat' (first | with_reducible apply And.intro | with_reducible intro _)
          all_goals first | omega | (exact next)
        · simp only [zup_ne h2]
          exact (f1 k i h1).trans (hfr k i h1 h2)
        · simp only [zup_ne (show 23 ≠ 33 by decide)]
          exact f2
        · exact ⟨fun q q0 q1 => by simp only [zup_ne (show 23 + 1 ≠ 33 by decide), zup_ne (show 23 + 2 ≠ 33 by decide), zup_ne (show 23 + 3 ≠ 33 by decide)]; exact f3.1 q q0 q1, by simp only [zup_ne (show 23 ≠ 33 by decide)]; exact f3.2.1, by simp only [zup_ne (show 23 ≠ 33 by decide)]; exact f3.2.2⟩
        · simp only [zup_in]
          by_cases hjt : j = t
          · subst hjt
            have e : q = 0 ∨ q = 1 ∨ q = 2 ∨ q = 3 := by omega
            rcases e with rfl | rfl | rfl | rfl
            · rw [if_neg (by omega), if_neg (by omega), if_neg (by omega), if_pos (by omega)]
              exact a0.1
            · rw [if_neg (by omega), if_neg (by omega), if_pos (by omega)]
              exact a1.1
            · rw [if_neg (by omega), if_pos (by omega)]
              exact a2.1
            · rw [if_pos (by omega)]
              exact a3.1
          · simp only at hj
            rw [if_neg (by omega), if_neg (by omega), if_neg (by omega), if_neg (by omega), f1 _ _ (by decide)]
            exact hbe j (by omega) q q0 q1
      simp only [↓rX7_trace_7, ↓rX7_trace_9, ↓rX7_trace_12, ↓rX7_trace_13, ↓rX7_trace_14, ↓rX7_trace_17, ↓rX7_trace_18, ↓rX7_trace_19, ↓rX7_trace_21, ↓rX7_trace_22, ↓hg_fX7_28_0, ↓reduceIte, zkeep_n, zkeep_i, zkeep_r, zkeep_l, zup_eq, zIR, zLR, List.length_cons, List.length_nil, Nat.reduceAdd, Nat.reduceLeDiff, Nat.reduceEqDiff, Nat.reduceSub, Int.reduceLE, Int.reduceLT, Int.reduceEq, Int.reduceNe, Int.reduceNeg, Int.reduceAdd, Int.reduceSub, Int.reduceMul, Int.reduceToNat, Nat.le_refl, Nat.zero_le, Nat.zero_add, Int.zero_add, Int.add_zero, and_true, true_and, and_false, false_and, not_true_eq_false, not_false_eq_true, eq_self, ne_eq, true_implies, false_implies, implies_true, or_true, true_or, or_false, false_or, reduceCtorEq, Option.some.injEq, Sum.inl.injEq, exists_eq_left', exists_eq_left, zite]
      repeat' (first | with_reducible apply And.intro | with_reducible intro _)
      all_goals first | omega | (exact call)
  have := L (0, M) ⟨Nat.zero_le _, fun _ _ _ _ => rfl, hst, hP, fun t h => by simp at h⟩ none
  simp only [qseg_zero, List.length_nil] at this
  exact this
set_option maxRecDepth 100000 in
set_option maxHeartbeats 4000000 in
theorem s_termOf {S M g : zM} {R : zP} {n e : Nat} {m : Int} (hC : CW S M) (hF : FR 7 n g M) (he : e ≤ 20) (h0 : 0 ≤ m) (h1 : m < qn S 0)
    (hR : ∀ (t : Nat) M', (∀ k i, ¬ (23 ≤ k ∧ k ≤ 26) → M' k i = M k i) → t ≤ e → (∀ j : Nat, j < t → ¬ wall (wvec S g n (kpm 255) m j)) → (t < e → wall (wvec S g n (kpm 255) m t)) → R (some (.inl (t : Int))) M') : tX7_termOfAllSides [.inr (.inr 0), .inl m, .inl e] M R := by
  have hqn := (hC.1 0 (by decide)).1
  have hby := wbyS_R S m
  simp only [↓eX7_termOfAllSides, ↓rX7_termOfAllSides_0, ↓rX7_termOfAllSides_1, ↓rX7_termOfAllSides_4, ↓rX7_termOfAllSides_5, ↓rX7_termOfAllSides_8, ↓rX7_termOfAllSides_9, ↓hg_fX7_14_0, ↓hg_fX7_55_0, ↓reduceIte, zkeep_n, zkeep_i, zkeep_r, zkeep_l, zup_eq, zIR, zLR, List.length_cons, List.length_nil, Nat.reduceAdd, Nat.reduceLeDiff, Nat.reduceEqDiff, Nat.reduceSub, Int.reduceLE, Int.reduceLT, Int.reduceEq, Int.reduceNe, Int.reduceNeg, Int.reduceAdd, Int.reduceSub, Int.reduceMul, Int.reduceToNat, Nat.le_refl, Nat.zero_le, Nat.zero_add, Int.zero_add, Int.add_zero, and_true, true_and, and_false, false_and, not_true_eq_false, not_false_eq_true, eq_self, ne_eq, true_implies, false_implies, implies_true, or_true, true_or, or_false, false_or, reduceCtorEq, Option.some.injEq, Sum.inl.injEq, exists_eq_left', exists_eq_left, zite]
  refine zcnv rfl (s_enterS hC h0 h1 (fun M1 f1 f2 f3 => ⟨rfl, ?_⟩))
  simp only [↓rX7_termOfAllSides_12, ↓rX7_termOfAllSides_13, ↓rX7_termOfAllSides_14, ↓rX7_termOfAllSides_15, ↓reduceIte, zkeep_n, zkeep_i, zkeep_r, zkeep_l, zup_eq, zIR, zLR, List.length_cons, List.length_nil, Nat.reduceAdd, Nat.reduceLeDiff, Nat.reduceEqDiff, Nat.reduceSub, Int.reduceLE, Int.reduceLT, Int.reduceEq, Int.reduceNe, Int.reduceNeg, Int.reduceAdd, Int.reduceSub, Int.reduceMul, Int.reduceToNat, Nat.le_refl, Nat.zero_le, Nat.zero_add, Int.zero_add, Int.add_zero, and_true, true_and, and_false, false_and, not_true_eq_false, not_false_eq_true, eq_self, ne_eq, true_implies, false_implies, implies_true, or_true, true_or, or_false, false_or, reduceCtorEq, Option.some.injEq, Sum.inl.injEq, exists_eq_left', exists_eq_left, zite]
  have L : ∀ s : Nat × zM, (s.1 ≤ e ∧ (∀ k i, ¬ (23 ≤ k ∧ k ≤ 26) → s.2 k i = M k i) ∧ s.2 23 4 = wbyS S m ∧ PV 23 s.2 (wseg S g n (kpm 255) (wbyS S m) m 0 s.1 (wst S m)) ∧ (∀ j : Nat, j < s.1 → ¬ wall (wvec S g n (kpm 255) m j))) → uX7_termOfAllSides R 17 [some (.inr (.inr 0)), some (.inl m), some (.inl e), some (.inl ((qseg n (g 1) 0 s.1).length : Nat)), some (.inl (s.1 : Int))] [] s.2 := by
    refine zind (fun s => e - s.1) ?_
    rintro ⟨t, N⟩ ⟨ht, hfr, hs4, hPV, hno⟩ ih
    simp only at ht hfr hs4 hPV hno ih
    refine rX7_termOfAllSides_17.mpr ?_
    by_cases hte : t = e
    · subst hte
      have fin := hR t N hfr (Nat.le_refl _) hno (fun h => absurd h (by omega))
      simp only [↓rX7_termOfAllSides_19, ↓rX7_termOfAllSides_20, ↓rX7_termOfAllSides_59, ↓rX7_termOfAllSides_60, ↓reduceIte, zkeep_n, zkeep_i, zkeep_r, zkeep_l, zup_eq, zIR, zLR, List.length_cons, List.length_nil, Nat.reduceAdd, Nat.reduceLeDiff, Nat.reduceEqDiff, Nat.reduceSub, Int.reduceLE, Int.reduceLT, Int.reduceEq, Int.reduceNe, Int.reduceNeg, Int.reduceAdd, Int.reduceSub, Int.reduceMul, Int.reduceToNat, Nat.le_refl, Nat.zero_le, Nat.zero_add, Int.zero_add, Int.add_zero, and_true, true_and, and_false, false_and, not_true_eq_false, not_false_eq_true, eq_self, ne_eq, true_implies, false_implies, implies_true, or_true, true_or, or_false, false_or, reduceCtorEq, Option.some.injEq, Sum.inl.injEq, exists_eq_left', exists_eq_left, zite]
      repeat' (first | with_reducible apply And.intro | with_reducible intro _)
      all_goals first | omega | (exact fin)
    · have call : zcv (zv 7 tX7_bringUp) [.inr (.inr 0), .inr (.inr 7), .inl m, .inl ((qseg n (g 1) 0 t).length : Nat), .inl (t : Int), .inl 255] N (fun w N' => uX7_termOfAllSides R 38 [some (.inr (.inr 0)), some (.inl m), some (.inl e), some (.inl ((qseg n (g 1) 0 t).length : Nat)), some (.inl (t : Int))] [w] N') := by
        have hvs := vokb_seg (S := S) (g := g) (n := n) (kp := kpm 255) (m := m) hC.1 hby.1 (vokb_wst hC.1 h0 h1) (FR_g hF) hF.2.1 (T := t) (by omega)
        have hvs2 := vokb_seg (S := S) (g := g) (n := n) (kp := kpm 255) (m := m) hC.1 hby.1 (vokb_wst hC.1 h0 h1) (FR_g hF) hF.2.1 (T := t + 1) (by omega)
        refine zcvv rfl (s_bringUp7 (S := S) (g := g) (n := n) (a := t) (T := t) (CW_fr hC (fun k i hk => hfr k i (by omega))) (FR_fr hF (fun k i a b => hfr k i (by omega))) hPV hvs (by omega) hs4 hby (by omega) (by omega) (by omega) (fun N' f1 f2 f3 => ⟨_, rfl, ?_⟩))
        rw [show t + 1 - t = 1 by omega, ← Int.natCast_zero] at f3
        have e9 := wseg_add S g n (kpm 255) (wbyS S m) m 0 t 1 (wst S m)
        rw [Nat.zero_add] at e9
        have e10 : wseg S g n (kpm 255) (wbyS S m) m ((0 : Nat) : Int) (t + 1) (wst S m) = wvec S g n (kpm 255) m t := rfl
        rw [← e9, e10] at f3
        have hvs2 : vokb (0 + 32) (wvec S g n (kpm 255) m t) := hvs2
        have c25 : ∀ q, 0 ≤ q → q < 4 → N' 25 q = wvec S g n (kpm 255) m t (4 + q) := fun q a b => (f3.1 q a b).2.1
        have c26 : ∀ q, 0 ≤ q → q < 4 → N' 26 q = wvec S g n (kpm 255) m t (8 + q) := fun q a b => (f3.1 q a b).2.2
        simp only [↓rX7_termOfAllSides_38, ↓rX7_termOfAllSides_39, ↓rX7_termOfAllSides_40, ↓rX7_termOfAllSides_43, ↓hg_fX7_55_0, ↓reduceIte, zkeep_n, zkeep_i, zkeep_r, zkeep_l, zup_eq, zIR, zLR, List.length_cons, List.length_nil, Nat.reduceAdd, Nat.reduceLeDiff, Nat.reduceEqDiff, Nat.reduceSub, Int.reduceLE, Int.reduceLT, Int.reduceEq, Int.reduceNe, Int.reduceNeg, Int.reduceAdd, Int.reduceSub, Int.reduceMul, Int.reduceToNat, Nat.le_refl, Nat.zero_le, Nat.zero_add, Int.zero_add, Int.add_zero, and_true, true_and, and_false, false_and, not_true_eq_false, not_false_eq_true, eq_self, ne_eq, true_implies, false_implies, implies_true, or_true, true_or, or_false, false_or, reduceCtorEq, Option.some.injEq, Sum.inl.injEq, exists_eq_left', exists_eq_left, zite]
        refine zcvv rfl (s_all (fun q q0 q1 => by rw [c25 q q0 q1, c26 q q0 q1]; exact ⟨hvs2.1 _ (by omega) (by omega), hvs2.1 _ (by omega) (by omega)⟩) (fun r hr => ⟨_, rfl, ?_⟩))
        rw [c25 0 (by decide) (by decide), c25 1 (by decide) (by decide), c25 2 (by decide) (by decide), c25 3 (by decide) (by decide), c26 0 (by decide) (by decide), c26 1 (by decide) (by decide), c26 2 (by decide) (by decide), c26 3 (by decide) (by decide)] at hr
        simp only [Int.reduceAdd] at hr
        have fin : r ≠ -1 → R (some (.inl (t : Int))) N' := fun h => hR t N' (fun k i hk => (f1 k i hk).trans (hfr k i hk)) (by omega) hno (fun _ => by unfold wall; omega)
        have next : r = -1 → uX7_termOfAllSides R 17 [some (.inr (.inr 0)), some (.inl m), some (.inl e), some (.inl ((qseg n (g 1) 0 (t + 1)).length : Nat)), some (.inl ((t : Int) + 1))] [] N' := by
          intro hr1
          refine ih (t + 1, N') ⟨by simp only; omega, fun k i hk => (f1 k i hk).trans (hfr k i hk), f2, f3, fun j hj => ?_⟩ (by simp only; omega)
          by_cases hjt : j = t
          · subst hjt
            unfold wall
            omega
          · simp only at hj
            exact hno j (by omega)
        simp only [↓rX7_termOfAllSides_46, ↓rX7_termOfAllSides_47, ↓rX7_termOfAllSides_50, ↓rX7_termOfAllSides_52, ↓rX7_termOfAllSides_53, ↓rX7_termOfAllSides_56, ↓reduceIte, zkeep_n, zkeep_i, zkeep_r, zkeep_l, zup_eq, zIR, zLR, List.length_cons, List.length_nil, Nat.reduceAdd, Nat.reduceLeDiff, Nat.reduceEqDiff, Nat.reduceSub, Int.reduceLE, Int.reduceLT, Int.reduceEq, Int.reduceNe, Int.reduceNeg, Int.reduceAdd, Int.reduceSub, Int.reduceMul, Int.reduceToNat, Nat.le_refl, Nat.zero_le, Nat.zero_add, Int.zero_add, Int.add_zero, and_true, true_and, and_false, false_and, not_true_eq_false, not_false_eq_true, eq_self, ne_eq, true_implies, false_implies, implies_true, or_true, true_or, or_false, false_or, reduceCtorEq, Option.some.injEq, Sum.inl.injEq, exists_eq_left', exists_eq_left, zite]
        repeat' (first | with_reducible apply And.intro | with_reducible intro _)
        all_goals first | omega | (exact next (by omega)) | (exact fin (by omega))
      simp only [↓rX7_termOfAllSides_19, ↓rX7_termOfAllSides_20, ↓rX7_termOfAllSides_23, ↓rX7_termOfAllSides_24, ↓rX7_termOfAllSides_25, ↓rX7_termOfAllSides_28, ↓rX7_termOfAllSides_29, ↓rX7_termOfAllSides_30, ↓rX7_termOfAllSides_32, ↓rX7_termOfAllSides_35, ↓hg_fX7_28_0, ↓reduceIte, zkeep_n, zkeep_i, zkeep_r, zkeep_l, zup_eq, zIR, zLR, List.length_cons, List.length_nil, Nat.reduceAdd, Nat.reduceLeDiff, Nat.reduceEqDiff, Nat.reduceSub, Int.reduceLE, Int.reduceLT, Int.reduceEq, Int.reduceNe, Int.reduceNeg, Int.reduceAdd, Int.reduceSub, Int.reduceMul, Int.reduceToNat, Nat.le_refl, Nat.zero_le, Nat.zero_add, Int.zero_add, Int.add_zero, and_true, true_and, and_false, false_and, not_true_eq_false, not_false_eq_true, eq_self, ne_eq, true_implies, false_implies, implies_true, or_true, true_or, or_false, false_or, reduceCtorEq, Option.some.injEq, Sum.inl.injEq, exists_eq_left', exists_eq_left, zite]
      repeat' (first | with_reducible apply And.intro | with_reducible intro _)
      all_goals first | omega | (exact call)
  have := L (0, M1) ⟨Nat.zero_le _, f1, f2, f3, fun t h => by simp at h⟩
  simp only [qseg_zero, List.length_nil] at this
  exact this
