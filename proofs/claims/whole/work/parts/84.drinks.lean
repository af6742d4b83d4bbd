def PM (k : Int) (M : zM) (v : Int → Int) : Prop := (∀ q, 0 ≤ q → q < 4 → M 59 (4 * k + q) = v q ∧ M 60 (4 * k + q) = v (4 + q) ∧ M 61 (4 * k + q) = v (8 + q)) ∧ M 62 k = v 12 ∧ M 63 k = v 13
theorem PM_fr {k : Int} {M M' : zM} {v : Int → Int} (h : PM k M v) (h1 : ∀ q, 0 ≤ q → q < 4 → M' 59 (4 * k + q) = M 59 (4 * k + q) ∧ M' 60 (4 * k + q) = M 60 (4 * k + q) ∧ M' 61 (4 * k + q) = M 61 (4 * k + q)) (h2 : M' 62 k = M 62 k) (h3 : M' 63 k = M 63 k) : PM k M' v := by
  refine ⟨fun q a b => ?_, h2.trans h.2.1, h3.trans h.2.2⟩
  have := h.1 q a b
  have e := h1 q a b
  exact ⟨e.1.trans this.1, e.2.1.trans this.2.1, e.2.2.trans this.2.2⟩
set_option maxRecDepth 100000 in
set_option maxHeartbeats 8000000 in
theorem s_drinks {M : zM} {R : zP} {k c so wa : Int} {mi v : Int → Int} (hk : 0 ≤ k ∧ k < 8) (hc : 0 ≤ c ∧ c < 8) (e49 : M 49 k = so) (hso : 0 ≤ so ∧ so ≤ 2) (e51 : M 51 c = wa) (hwa : 0 ≤ wa ∧ wa ≤ 9) (e52 : ∀ q, 0 ≤ q → q < 4 → M 52 (4 * c + q) = mi q ∧ 0 ≤ mi q ∧ mi q ≤ 9) (hP : PM k M v) (hv : vok v)
    (hR : ∀ M', (∀ j i, ¬ (59 ≤ j ∧ j ≤ 63) → M' j i = M j i) → (∀ i, ¬ (4 * k ≤ i ∧ i < 4 * k + 4) → M' 59 i = M 59 i ∧ M' 60 i = M 60 i ∧ M' 61 i = M 61 i) → (∀ i, i ≠ k → M' 62 i = M 62 i ∧ M' 63 i = M 63 i) → PM k M' (wdrink (wby so) wa mi v) → R none M') : tX8_drinks [.inr (.inr 46), .inl k, .inl c] M R := by
  obtain ⟨hPc, hP12, hP13⟩ := hP
  obtain ⟨hv1, hv2, hv3, hv4, hv5⟩ := hv
  have hw := wbad_le wa mi v
  have hbyR : 0 ≤ wby so ∧ wby so ≤ 2 := by unfold wby; (repeat' split) <;> omega
  generalize hby : wby so = by_ at *
  have L : ∀ s : Int × zM, ((0 ≤ s.1 ∧ s.1 ≤ 4) ∧ (∀ j, 0 ≤ j → j < 4 → s.2 59 (4 * k + j) = (if j < s.1 then wdrink by_ wa mi v j else v j) ∧ s.2 60 (4 * k + j) = (if j < s.1 then wdrink by_ wa mi v (4 + j) else v (4 + j)) ∧ s.2 61 (4 * k + j) = (if j < s.1 then wdrink by_ wa mi v (8 + j) else v (8 + j))) ∧ (∀ j i, ¬ (59 ≤ j ∧ j ≤ 61) → s.2 j i = M j i) ∧ (∀ i, ¬ (4 * k ≤ i ∧ i < 4 * k + 4) → s.2 59 i = M 59 i ∧ s.2 60 i = M 60 i ∧ s.2 61 i = M 61 i)) → ∀ bd, bd = wbad wa mi v s.1.toNat → ∀ x7 x8 x9 x10, uX8_drinks R 52 [some (.inr (.inr 46)), some (.inl k), some (.inl c), some (.inl (v 12 + 2 * wa)), some (.inl by_), some (.inl bd), some (.inl s.1), x7, x8, x9, x10] [] s.2 := by
    refine zind (fun s => (4 - s.1).toNat) ?_
    rintro ⟨q, N⟩ ⟨hq, hcell, hfr, hfo⟩ ih bd hbd x7 x8 x9 x10
    simp only at hq hcell hfr hfo ih hbd
    have n62 : N 62 k = v 12 := (hfr _ _ (by decide)).trans hP12
    have n63 : N 63 k = v 13 := (hfr _ _ (by decide)).trans hP13
    refine rX8_drinks_52.mpr ?_
    by_cases h4 : q = 4
    · subst h4
      have hw4 := hw 4
      have fin : ∀ a, (a = if wbad wa mi v 4 = 0 ∧ v 12 < 9 then v 12 + 1 else v 12) → R none (zup (zup N 63 k (v 13 + wbad wa mi v 4)) 62 k a) := by
        intro a ha
        refine hR _ (fun j i hj => by rw [zup_ne (by omega), zup_ne (by omega)]; exact hfr j i (by omega)) (fun i hi => ?_) (fun i hi => ?_) ⟨fun j h1 h2 => ?_, ?_, ?_⟩
        · simp only [zup_eq, Nat.reduceEqDiff, false_and, if_false]
          exact hfo i hi
        · simp only [zup_eq, Nat.reduceEqDiff, false_and, true_and, if_false, hi]
          exact ⟨hfr _ _ (by decide), hfr _ _ (by decide)⟩
        · have := hcell j h1 h2
          simp only [h2, if_true] at this
          simp only [zup_eq, Nat.reduceEqDiff, false_and, if_false]
          exact this
        · rw [zup_in, if_pos rfl, ha]
          rfl
        · rw [zup_ne (by decide), zup_in, if_pos rfl]
          rfl
      have hbd : bd = wbad wa mi v 4 := hbd
      rw [← hbd] at fin hw4
      simp only [↓rX8_drinks_54, ↓rX8_drinks_55, ↓rX8_drinks_219, ↓rX8_drinks_220, ↓rX8_drinks_223, ↓rX8_drinks_224, ↓rX8_drinks_225, ↓rX8_drinks_226, ↓rX8_drinks_228, ↓rX8_drinks_229, ↓rX8_drinks_230, ↓rX8_drinks_231, ↓rX8_drinks_234, ↓rX8_drinks_235, ↓rX8_drinks_236, ↓rX8_drinks_237, ↓rX8_drinks_239, ↓rX8_drinks_242, ↓rX8_drinks_243, ↓rX8_drinks_246, ↓rX8_drinks_247, ↓rX8_drinks_248, ↓rX8_drinks_250, ↓rX8_drinks_253, ↓rX8_drinks_254, ↓rX8_drinks_258, ↓rX8_drinks_259, ↓rX8_drinks_260, ↓rX8_drinks_257, ↓hg_fX8_55_46, ↓hg_fX8_58_46, ↓hr_47, ↓hr_48, ↓hr_49, ↓hr_50, ↓hr_51, ↓hr_52, ↓hr_53, ↓hr_54, ↓hr_55, ↓hr_56, ↓hr_57, ↓hr_58, ↓hr_59, ↓hr_60, ↓hr_61, ↓hr_62, ↓hr_63, ↓hr_64, ↓hr_65, ↓hr_66, ↓hr_67, ↓hr_68, ↓hr_69, ↓hr_70, ↓hr_71, ↓hr_72, ↓hr_73, ↓hr_74, ↓hr_75, ↓hr_76, ↓hr_77, ↓hr_78, ↓hr_79, ↓hw_47, ↓hw_48, ↓hw_49, ↓hw_50, ↓hw_51, ↓hw_52, ↓hw_53, ↓hw_54, ↓hw_55, ↓hw_56, ↓hw_57, ↓hw_58, ↓hw_59, ↓hw_60, ↓hw_61, ↓hw_62, ↓hw_63, ↓hw_64, ↓hw_65, ↓hw_66, ↓hw_67, ↓hw_68, ↓hw_69, ↓hw_70, ↓hw_71, ↓hw_72, ↓hw_73, ↓hw_74, ↓hw_75, ↓hw_76, ↓hw_77, ↓hw_78, ↓hw_79, ↓reduceIte, zkeep_n, zkeep_i, zkeep_r, zkeep_l, zIR, zLR, List.length_cons, List.length_nil, Nat.reduceAdd, Nat.reduceLeDiff, Nat.reduceEqDiff, Nat.reduceSub, Int.reduceLE, Int.reduceLT, Int.reduceEq, Int.reduceNe, Int.reduceNeg, Int.reduceAdd, Int.reduceSub, Int.reduceMul, Int.reduceToNat, Nat.le_refl, Nat.zero_le, Nat.zero_add, Int.zero_add, Int.add_zero, and_true, true_and, and_false, false_and, not_true_eq_false, not_false_eq_true, eq_self, ne_eq, true_implies, false_implies, implies_true, or_true, true_or, or_false, false_or, reduceCtorEq, Option.some.injEq, Sum.inl.injEq, exists_eq_left', exists_eq_left, n62, n63, zup_ne, zite]
      repeat' (first | with_reducible apply And.intro | with_reducible intro _)
      all_goals first | omega | (exact fin _ (by rw [if_neg (by omega)])) | (exact fin _ (by rw [if_pos (by omega)]))
    · subst hbd
      have hq4 : q < 4 := by omega
      have c0 := hcell q hq.1 hq4
      simp only [Int.lt_irrefl, if_false] at c0
      obtain ⟨e1, e2, e3⟩ := c0
      have r1 := hv1 q (by omega) (by omega)
      have r2 := hv1 (4 + q) (by omega) (by omega)
      have r3 := hv1 (8 + q) (by omega) (by omega)
      have r4 := (e52 q hq.1 hq4).2
      have n52 : N 52 (4 * c + q) = mi q := (hfr _ _ (by decide)).trans (e52 q hq.1 hq4).1
      have hwq := hw q.toNat
      have hbad : wbad wa mi v (q + 1).toNat = wbad wa mi v q.toNat + if wsick wa mi v q then 1 else 0 := by
        rw [show (q + 1).toNat = q.toNat + 1 by omega]
        conv => lhs; unfold wbad
        rw [Int.toNat_of_nonneg hq.1]
      have d1 : wdrink by_ wa mi v q = if wsick wa mi v q then v q else v q + wgo by_ (mi q - v q) := by
        unfold wdrink
        rw [if_pos ⟨hq.1, hq4⟩]
      have d2 : wdrink by_ wa mi v (4 + q) = if wsick wa mi v q then v (4 + q) else if mi q < v (4 + q) then mi q else v (4 + q) := by
        unfold wdrink
        rw [if_neg (by omega), if_pos (by omega), show 4 + q - 4 = q by omega]
      have d3 : wdrink by_ wa mi v (8 + q) = if wsick wa mi v q then v (8 + q) else if v (8 + q) < mi q then mi q else v (8 + q) := by
        unfold wdrink
        rw [if_neg (by omega), if_neg (by omega), if_pos (by omega), show 8 + q - 8 = q by omega]
      have next : ∀ (N' : zM) (bd : Int) x7 x8 x9 x10, (∀ j i, ¬ (59 ≤ j ∧ j ≤ 61) → N' j i = N j i) → (∀ i, i ≠ 4 * k + q → N' 59 i = N 59 i ∧ N' 60 i = N 60 i ∧ N' 61 i = N 61 i) → N' 59 (4 * k + q) = wdrink by_ wa mi v q → N' 60 (4 * k + q) = wdrink by_ wa mi v (4 + q) → N' 61 (4 * k + q) = wdrink by_ wa mi v (8 + q) → bd = wbad wa mi v (q + 1).toNat → uX8_drinks R 52 [some (.inr (.inr 46)), some (.inl k), some (.inl c), some (.inl (v 12 + 2 * wa)), some (.inl by_), some (.inl bd), some (.inl (q + 1)), x7, x8, x9, x10] [] N' := by
        intro N' bd x7 x8 x9 x10 g1 g2 g3 g4 g5 g6
        refine ih (q + 1, N') ⟨by simp only; omega, fun j h1 h2 => ?_, fun j i hj => (g1 j i hj).trans (hfr j i hj), fun i hi => ?_⟩ (by simp only; omega) bd g6 x7 x8 x9 x10
        · by_cases hj : j = q
          · subst hj
            simp only [show j < j + 1 by omega, if_true]
            exact ⟨g3, g4, g5⟩
          · have e := g2 (4 * k + j) (by omega)
            have := hcell j h1 h2
            simp only [e.1, e.2.1, e.2.2]
            by_cases hj2 : j < q
            · simp only [hj2, if_true] at this
              simp only [show j < q + 1 by omega, if_true]
              exact this
            · simp only [hj2, if_false] at this
              simp only [show ¬ j < q + 1 by omega, if_false]
              exact this
        · have e := g2 i (by omega)
          have := hfo i hi
          simp only [e.1, e.2.1, e.2.2]
          exact this
      have sick : wsick wa mi v q → ∀ x7 x8 x9 x10, uX8_drinks R 52 [some (.inr (.inr 46)), some (.inl k), some (.inl c), some (.inl (v 12 + 2 * wa)), some (.inl by_), some (.inl (wbad wa mi v q.toNat + 1)), some (.inl (q + 1)), x7, x8, x9, x10] [] N := by
        intro hsk x7 x8 x9 x10
        rw [if_pos hsk] at d1 d2 d3 hbad
        exact next N _ x7 x8 x9 x10 (fun _ _ _ => rfl) (fun _ _ => ⟨rfl, rfl, rfl⟩) (by rw [e1, d1]) (by rw [e2, d2]) (by rw [e3, d3]) hbad.symm
      have J205 : ∀ (N' : zM) (a of_ go : Int), ¬ wsick wa mi v q → N' = zup (zup N 60 (4 * k + q) (if mi q < v (4 + q) then mi q else v (4 + q))) 61 (4 * k + q) (if v (8 + q) < mi q then mi q else v (8 + q)) → a = wgo by_ (mi q - v q) → uX8_drinks R 205 [some (.inr (.inr 46)), some (.inl k), some (.inl c), some (.inl (v 12 + 2 * wa)), some (.inl by_), some (.inl (wbad wa mi v q.toNat)), some (.inl q), some (.inl (4 * k + q)), some (.inl (mi q)), some (.inl of_), some (.inl go)] [.inl a, .inl (v q), .inl (4 * k + q), .inr (.inr 59)] N' := by
        intro N' a of_ go hsk hN' ha
        rw [if_neg hsk] at d1 d2 d3 hbad
        rw [Int.add_zero] at hbad
        have nx := fun x9 => next (zup N' 59 (4 * k + q) (v q + a)) (wbad wa mi v q.toNat) (some (.inl (4 * k + q))) (some (.inl (mi q))) x9 (some (.inl go)) (fun j i hj => by rw [zup_ne (by omega), hN', zup_ne (by omega), zup_ne (by omega)]) (fun i hi => by
          subst hN'
          simp only [zup_eq, Nat.reduceEqDiff, false_and, true_and, if_false, hi, and_self]) (by rw [zup_in, if_pos rfl, d1, ha]) (by
          subst hN'
          rw [zup_ne (by decide), zup_ne (by decide), zup_in, if_pos rfl, d2]) (by
          subst hN'
          rw [zup_ne (by decide), zup_in, if_pos rfl, d3]) hbad.symm
        simp only [↓rX8_drinks_205, ↓rX8_drinks_206, ↓rX8_drinks_207, ↓rX8_drinks_213, ↓rX8_drinks_216, ↓hr_47, ↓hr_48, ↓hr_49, ↓hr_50, ↓hr_51, ↓hr_52, ↓hr_53, ↓hr_54, ↓hr_55, ↓hr_56, ↓hr_57, ↓hr_58, ↓hr_59, ↓hr_60, ↓hr_61, ↓hr_62, ↓hr_63, ↓hr_64, ↓hr_65, ↓hr_66, ↓hr_67, ↓hr_68, ↓hr_69, ↓hr_70, ↓hr_71, ↓hr_72, ↓hr_73, ↓hr_74, ↓hr_75, ↓hr_76, ↓hr_77, ↓hr_78, ↓hr_79, ↓hw_47, ↓hw_48, ↓hw_49, ↓hw_50, ↓hw_51, ↓hw_52, ↓hw_53, ↓hw_54, ↓hw_55, ↓hw_56, ↓hw_57, ↓hw_58, ↓hw_59, ↓hw_60, ↓hw_61, ↓hw_62, ↓hw_63, ↓hw_64, ↓hw_65, ↓hw_66, ↓hw_67, ↓hw_68, ↓hw_69, ↓hw_70, ↓hw_71, ↓hw_72, ↓hw_73, ↓hw_74, ↓hw_75, ↓hw_76, ↓hw_77, ↓hw_78, ↓hw_79, ↓reduceIte, zkeep_n, zkeep_i, zkeep_r, zkeep_l, zIR, zLR, List.length_cons, List.length_nil, Nat.reduceAdd, Nat.reduceLeDiff, Nat.reduceEqDiff, Nat.reduceSub, Int.reduceLE, Int.reduceLT, Int.reduceEq, Int.reduceNe, Int.reduceNeg, Int.reduceAdd, Int.reduceSub, Int.reduceMul, Int.reduceToNat, Nat.le_refl, Nat.zero_le, Nat.zero_add, Int.zero_add, Int.add_zero, and_true, true_and, and_false, false_and, not_true_eq_false, not_false_eq_true, eq_self, ne_eq, true_implies, false_implies, implies_true, or_true, true_or, or_false, false_or, reduceCtorEq, Option.some.injEq, Sum.inl.injEq, exists_eq_left', exists_eq_left, zite]
        repeat' (first | with_reducible apply And.intro | with_reducible intro _)
        all_goals first | omega | (exact nx _)
      have J176 : ∀ (N' : zM) (a of_ go : Int), ¬ wsick wa mi v q → N' = zup N 60 (4 * k + q) (if mi q < v (4 + q) then mi q else v (4 + q)) → a = (if v (8 + q) < mi q then mi q else v (8 + q)) → (of_ = if mi q ≤ v q then v q - mi q else mi q - v q) → (go = if of_ < by_ then of_ else by_) → uX8_drinks R 176 [some (.inr (.inr 46)), some (.inl k), some (.inl c), some (.inl (v 12 + 2 * wa)), some (.inl by_), some (.inl (wbad wa mi v q.toNat)), some (.inl q), some (.inl (4 * k + q)), some (.inl (mi q)), some (.inl of_), some (.inl go)] [.inl a, .inl (4 * k + q), .inr (.inr 61)] N' := by
        intro N' a of_ go hsk hN' ha hof hgo
        have f1 : N' 59 (4 * k + q) = v q := by rw [hN', zup_ne (by decide)]; exact e1
        have wg : (if v q < mi q then go else -go) = wgo by_ (mi q - v q) := by
          unfold wgo
          subst hgo
          subst hof
          (repeat' split) <;> omega
        have yes : v q < mi q → uX8_drinks R 205 [some (.inr (.inr 46)), some (.inl k), some (.inl c), some (.inl (v 12 + 2 * wa)), some (.inl by_), some (.inl (wbad wa mi v q.toNat)), some (.inl q), some (.inl (4 * k + q)), some (.inl (mi q)), some (.inl of_), some (.inl go)] [.inl go, .inl (v q), .inl (4 * k + q), .inr (.inr 59)] (zup N' 61 (4 * k + q) a) := fun h => J205 _ _ _ _ hsk (by rw [hN', ha]) (by rw [if_pos h] at wg; exact wg)
        have no : ¬ v q < mi q → uX8_drinks R 205 [some (.inr (.inr 46)), some (.inl k), some (.inl c), some (.inl (v 12 + 2 * wa)), some (.inl by_), some (.inl (wbad wa mi v q.toNat)), some (.inl q), some (.inl (4 * k + q)), some (.inl (mi q)), some (.inl of_), some (.inl go)] [.inl (-go), .inl (v q), .inl (4 * k + q), .inr (.inr 59)] (zup N' 61 (4 * k + q) a) := fun h => J205 _ _ _ _ hsk (by rw [hN', ha]) (by rw [if_neg h] at wg; exact wg)
        simp only [↓rX8_drinks_176, ↓rX8_drinks_177, ↓rX8_drinks_178, ↓rX8_drinks_181, ↓rX8_drinks_183, ↓rX8_drinks_184, ↓rX8_drinks_185, ↓rX8_drinks_187, ↓rX8_drinks_188, ↓rX8_drinks_191, ↓rX8_drinks_193, ↓rX8_drinks_194, ↓rX8_drinks_197, ↓rX8_drinks_199, ↓rX8_drinks_202, ↓rX8_drinks_204, ↓hg_fX8_46_46, ↓hr_47, ↓hr_48, ↓hr_49, ↓hr_50, ↓hr_51, ↓hr_52, ↓hr_53, ↓hr_54, ↓hr_55, ↓hr_56, ↓hr_57, ↓hr_58, ↓hr_59, ↓hr_60, ↓hr_61, ↓hr_62, ↓hr_63, ↓hr_64, ↓hr_65, ↓hr_66, ↓hr_67, ↓hr_68, ↓hr_69, ↓hr_70, ↓hr_71, ↓hr_72, ↓hr_73, ↓hr_74, ↓hr_75, ↓hr_76, ↓hr_77, ↓hr_78, ↓hr_79, ↓hw_47, ↓hw_48, ↓hw_49, ↓hw_50, ↓hw_51, ↓hw_52, ↓hw_53, ↓hw_54, ↓hw_55, ↓hw_56, ↓hw_57, ↓hw_58, ↓hw_59, ↓hw_60, ↓hw_61, ↓hw_62, ↓hw_63, ↓hw_64, ↓hw_65, ↓hw_66, ↓hw_67, ↓hw_68, ↓hw_69, ↓hw_70, ↓hw_71, ↓hw_72, ↓hw_73, ↓hw_74, ↓hw_75, ↓hw_76, ↓hw_77, ↓hw_78, ↓hw_79, ↓reduceIte, zkeep_n, zkeep_i, zkeep_r, zkeep_l, zIR, zLR, List.length_cons, List.length_nil, Nat.reduceAdd, Nat.reduceLeDiff, Nat.reduceEqDiff, Nat.reduceSub, Int.reduceLE, Int.reduceLT, Int.reduceEq, Int.reduceNe, Int.reduceNeg, Int.reduceAdd, Int.reduceSub, Int.reduceMul, Int.reduceToNat, Nat.le_refl, Nat.zero_le, Nat.zero_add, Int.zero_add, Int.add_zero, and_true, true_and, and_false, false_and, not_true_eq_false, not_false_eq_true, eq_self, ne_eq, true_implies, false_implies, implies_true, or_true, true_or, or_false, false_or, reduceCtorEq, Option.some.injEq, Sum.inl.injEq, exists_eq_left', exists_eq_left, f1, zup_ne, zite]
        repeat' (first | with_reducible apply And.intro | with_reducible intro _)
        all_goals first | omega | (exact yes (by omega)) | (exact no (by omega))
      have J145 : ∀ (a of_ go : Int), ¬ wsick wa mi v q → a = (if mi q < v (4 + q) then mi q else v (4 + q)) → (of_ = if mi q ≤ v q then v q - mi q else mi q - v q) → (go = if of_ < by_ then of_ else by_) → uX8_drinks R 145 [some (.inr (.inr 46)), some (.inl k), some (.inl c), some (.inl (v 12 + 2 * wa)), some (.inl by_), some (.inl (wbad wa mi v q.toNat)), some (.inl q), some (.inl (4 * k + q)), some (.inl (mi q)), some (.inl of_), some (.inl go)] [.inl a, .inl (4 * k + q), .inr (.inr 60)] N := by
        intro a of_ go hsk ha hof hgo
        have J := fun a2 q2 => J176 (zup N 60 (4 * k + q) a) a2 of_ go hsk (by rw [ha]) q2 hof hgo
        simp only [↓rX8_drinks_145, ↓rX8_drinks_146, ↓rX8_drinks_147, ↓rX8_drinks_150, ↓rX8_drinks_152, ↓rX8_drinks_154, ↓rX8_drinks_155, ↓rX8_drinks_158, ↓rX8_drinks_160, ↓rX8_drinks_161, ↓rX8_drinks_164, ↓rX8_drinks_166, ↓rX8_drinks_169, ↓rX8_drinks_170, ↓rX8_drinks_173, ↓rX8_drinks_175, ↓hg_fX8_52_46, ↓hr_47, ↓hr_48, ↓hr_49, ↓hr_50, ↓hr_51, ↓hr_52, ↓hr_53, ↓hr_54, ↓hr_55, ↓hr_56, ↓hr_57, ↓hr_58, ↓hr_59, ↓hr_60, ↓hr_61, ↓hr_62, ↓hr_63, ↓hr_64, ↓hr_65, ↓hr_66, ↓hr_67, ↓hr_68, ↓hr_69, ↓hr_70, ↓hr_71, ↓hr_72, ↓hr_73, ↓hr_74, ↓hr_75, ↓hr_76, ↓hr_77, ↓hr_78, ↓hr_79, ↓hw_47, ↓hw_48, ↓hw_49, ↓hw_50, ↓hw_51, ↓hw_52, ↓hw_53, ↓hw_54, ↓hw_55, ↓hw_56, ↓hw_57, ↓hw_58, ↓hw_59, ↓hw_60, ↓hw_61, ↓hw_62, ↓hw_63, ↓hw_64, ↓hw_65, ↓hw_66, ↓hw_67, ↓hw_68, ↓hw_69, ↓hw_70, ↓hw_71, ↓hw_72, ↓hw_73, ↓hw_74, ↓hw_75, ↓hw_76, ↓hw_77, ↓hw_78, ↓hw_79, ↓reduceIte, zkeep_n, zkeep_i, zkeep_r, zkeep_l, zIR, zLR, List.length_cons, List.length_nil, Nat.reduceAdd, Nat.reduceLeDiff, Nat.reduceEqDiff, Nat.reduceSub, Int.reduceLE, Int.reduceLT, Int.reduceEq, Int.reduceNe, Int.reduceNeg, Int.reduceAdd, Int.reduceSub, Int.reduceMul, Int.reduceToNat, Nat.le_refl, Nat.zero_le, Nat.zero_add, Int.zero_add, Int.add_zero, and_true, true_and, and_false, false_and, not_true_eq_false, not_false_eq_true, eq_self, ne_eq, true_implies, false_implies, implies_true, or_true, true_or, or_false, false_or, reduceCtorEq, Option.some.injEq, Sum.inl.injEq, exists_eq_left', exists_eq_left, e3, zup_ne, zite]
        repeat' (first | with_reducible apply And.intro | with_reducible intro _)
        all_goals first | omega | (exact J _ (by rw [if_neg (by omega)])) | (exact J _ (by rw [if_pos (by omega)]))
      have J113 : ∀ (go of_ : Int) x10, ¬ wsick wa mi v q → (of_ = if mi q ≤ v q then v q - mi q else mi q - v q) → (go = if of_ < by_ then of_ else by_) → uX8_drinks R 113 [some (.inr (.inr 46)), some (.inl k), some (.inl c), some (.inl (v 12 + 2 * wa)), some (.inl by_), some (.inl (wbad wa mi v q.toNat)), some (.inl q), some (.inl (4 * k + q)), some (.inl (mi q)), some (.inl of_), x10] [.inl go] N := by
        intro go of_ x10 hsk hof hgo
        have J := fun a2 q2 => J145 a2 of_ go hsk q2 hof hgo
        simp only [↓rX8_drinks_113, ↓rX8_drinks_115, ↓rX8_drinks_116, ↓rX8_drinks_119, ↓rX8_drinks_121, ↓rX8_drinks_123, ↓rX8_drinks_124, ↓rX8_drinks_127, ↓rX8_drinks_129, ↓rX8_drinks_130, ↓rX8_drinks_133, ↓rX8_drinks_135, ↓rX8_drinks_138, ↓rX8_drinks_139, ↓rX8_drinks_142, ↓rX8_drinks_144, ↓hg_fX8_49_46, ↓hr_47, ↓hr_48, ↓hr_49, ↓hr_50, ↓hr_51, ↓hr_52, ↓hr_53, ↓hr_54, ↓hr_55, ↓hr_56, ↓hr_57, ↓hr_58, ↓hr_59, ↓hr_60, ↓hr_61, ↓hr_62, ↓hr_63, ↓hr_64, ↓hr_65, ↓hr_66, ↓hr_67, ↓hr_68, ↓hr_69, ↓hr_70, ↓hr_71, ↓hr_72, ↓hr_73, ↓hr_74, ↓hr_75, ↓hr_76, ↓hr_77, ↓hr_78, ↓hr_79, ↓hw_47, ↓hw_48, ↓hw_49, ↓hw_50, ↓hw_51, ↓hw_52, ↓hw_53, ↓hw_54, ↓hw_55, ↓hw_56, ↓hw_57, ↓hw_58, ↓hw_59, ↓hw_60, ↓hw_61, ↓hw_62, ↓hw_63, ↓hw_64, ↓hw_65, ↓hw_66, ↓hw_67, ↓hw_68, ↓hw_69, ↓hw_70, ↓hw_71, ↓hw_72, ↓hw_73, ↓hw_74, ↓hw_75, ↓hw_76, ↓hw_77, ↓hw_78, ↓hw_79, ↓reduceIte, zkeep_n, zkeep_i, zkeep_r, zkeep_l, zup_eq, zIR, zLR, List.length_cons, List.length_nil, Nat.reduceAdd, Nat.reduceLeDiff, Nat.reduceEqDiff, Nat.reduceSub, Int.reduceLE, Int.reduceLT, Int.reduceEq, Int.reduceNe, Int.reduceNeg, Int.reduceAdd, Int.reduceSub, Int.reduceMul, Int.reduceToNat, Nat.le_refl, Nat.zero_le, Nat.zero_add, Int.zero_add, Int.add_zero, and_true, true_and, and_false, false_and, not_true_eq_false, not_false_eq_true, eq_self, ne_eq, true_implies, false_implies, implies_true, or_true, true_or, or_false, false_or, reduceCtorEq, Option.some.injEq, Sum.inl.injEq, exists_eq_left', exists_eq_left, e2, zite]
        repeat' (first | with_reducible apply And.intro | with_reducible intro _)
        all_goals first | omega | (exact J _ (by rw [if_neg (by omega)])) | (exact J _ (by rw [if_pos (by omega)]))
      simp only [↓rX8_drinks_54, ↓rX8_drinks_55, ↓rX8_drinks_58, ↓rX8_drinks_59, ↓rX8_drinks_60, ↓rX8_drinks_61, ↓rX8_drinks_63, ↓rX8_drinks_64, ↓rX8_drinks_66, ↓rX8_drinks_67, ↓rX8_drinks_70, ↓rX8_drinks_71, ↓rX8_drinks_72, ↓rX8_drinks_73, ↓rX8_drinks_75, ↓rX8_drinks_76, ↓rX8_drinks_77, ↓rX8_drinks_79, ↓rX8_drinks_81, ↓rX8_drinks_82, ↓rX8_drinks_85, ↓rX8_drinks_87, ↓rX8_drinks_88, ↓rX8_drinks_91, ↓rX8_drinks_93, ↓rX8_drinks_95, ↓rX8_drinks_96, ↓rX8_drinks_99, ↓rX8_drinks_101, ↓rX8_drinks_103, ↓rX8_drinks_106, ↓rX8_drinks_108, ↓rX8_drinks_111, ↓rX8_drinks_210, ↓rX8_drinks_213, ↓rX8_drinks_216, ↓hg_fX8_25_46, ↓hg_fX8_46_46, ↓hr_47, ↓hr_48, ↓hr_49, ↓hr_50, ↓hr_51, ↓hr_52, ↓hr_53, ↓hr_54, ↓hr_55, ↓hr_56, ↓hr_57, ↓hr_58, ↓hr_59, ↓hr_60, ↓hr_61, ↓hr_62, ↓hr_63, ↓hr_64, ↓hr_65, ↓hr_66, ↓hr_67, ↓hr_68, ↓hr_69, ↓hr_70, ↓hr_71, ↓hr_72, ↓hr_73, ↓hr_74, ↓hr_75, ↓hr_76, ↓hr_77, ↓hr_78, ↓hr_79, ↓hw_47, ↓hw_48, ↓hw_49, ↓hw_50, ↓hw_51, ↓hw_52, ↓hw_53, ↓hw_54, ↓hw_55, ↓hw_56, ↓hw_57, ↓hw_58, ↓hw_59, ↓hw_60, ↓hw_61, ↓hw_62, ↓hw_63, ↓hw_64, ↓hw_65, ↓hw_66, ↓hw_67, ↓hw_68, ↓hw_69, ↓hw_70, ↓hw_71, ↓hw_72, ↓hw_73, ↓hw_74, ↓hw_75, ↓hw_76, ↓hw_77, ↓hw_78, ↓hw_79, ↓i_far, ↓reduceIte, zkeep_n, zkeep_i, zkeep_r, zkeep_l, zup_eq, zIR, zLR, List.length_cons, List.length_nil, Nat.reduceAdd, Nat.reduceLeDiff, Nat.reduceEqDiff, Nat.reduceSub, Int.reduceLE, Int.reduceLT, Int.reduceEq, Int.reduceNe, Int.reduceNeg, Int.reduceAdd, Int.reduceSub, Int.reduceMul, Int.reduceToNat, Nat.le_refl, Nat.zero_le, Nat.zero_add, Int.zero_add, Int.add_zero, and_true, true_and, and_false, false_and, not_true_eq_false, not_false_eq_true, eq_self, ne_eq, true_implies, false_implies, implies_true, or_true, true_or, or_false, false_or, reduceCtorEq, Option.some.injEq, Sum.inl.injEq, exists_eq_left', exists_eq_left, n52, e1, zite]
      repeat' (first | with_reducible apply And.intro | with_reducible intro _)
      all_goals first | omega | (exact sick (by omega) _ _ _ _) | (refine J113 _ _ _ (by omega) (by rw [if_pos (by omega)]) (by rw [if_pos (by omega)])) | (refine J113 _ _ _ (by omega) (by rw [if_pos (by omega)]) (by rw [if_neg (by omega)])) | (refine J113 _ _ _ (by omega) (by rw [if_neg (by omega)]) (by rw [if_pos (by omega)])) | (refine J113 _ _ _ (by omega) (by rw [if_neg (by omega)]) (by rw [if_neg (by omega)]))
  have st := fun x7 x8 x9 x10 => L (0, M) ⟨by simp only; omega, fun j h1 h2 => by
    have := hPc j h1 h2
    simp only [show ¬ j < 0 by omega, if_false]
    exact this, fun _ _ _ => rfl, fun _ _ => ⟨rfl, rfl, rfl⟩⟩ 0 rfl x7 x8 x9 x10
  have st : ∀ b, b = by_ → ∀ x7 x8 x9 x10, uX8_drinks R 52 [some (.inr (.inr 46)), some (.inl k), some (.inl c), some (.inl (v 12 + 2 * wa)), some (.inl b), some (.inl 0), some (.inl 0), x7, x8, x9, x10] [] M := fun b hb x7 x8 x9 x10 => by
    subst hb
    exact st x7 x8 x9 x10
  have hb0 : so = 0 → (1 : Int) = by_ := fun h => by rw [← hby]; unfold wby; rw [if_pos h]
  have hb1 : so = 1 → (2 : Int) = by_ := fun h => by rw [← hby]; unfold wby; rw [if_neg (by omega), if_pos h]
  have hb2 : so ≠ 0 → so ≠ 1 → (0 : Int) = by_ := fun h h2 => by rw [← hby]; unfold wby; rw [if_neg h, if_neg h2]
  simp only [↓eX8_drinks, ↓rX8_drinks_0, ↓rX8_drinks_1, ↓rX8_drinks_4, ↓rX8_drinks_5, ↓rX8_drinks_6, ↓rX8_drinks_7, ↓rX8_drinks_8, ↓rX8_drinks_11, ↓rX8_drinks_12, ↓rX8_drinks_13, ↓rX8_drinks_14, ↓rX8_drinks_15, ↓rX8_drinks_16, ↓rX8_drinks_17, ↓rX8_drinks_20, ↓rX8_drinks_21, ↓rX8_drinks_22, ↓rX8_drinks_25, ↓rX8_drinks_26, ↓rX8_drinks_44, ↓rX8_drinks_46, ↓rX8_drinks_47, ↓rX8_drinks_49, ↓rX8_drinks_50, ↓rX8_drinks_29, ↓rX8_drinks_30, ↓rX8_drinks_33, ↓rX8_drinks_34, ↓rX8_drinks_35, ↓rX8_drinks_36, ↓rX8_drinks_39, ↓rX8_drinks_40, ↓rX8_drinks_43, ↓hg_fX8_16_46, ↓hg_fX8_22_46, ↓hg_fX8_55_46, ↓hr_47, ↓hr_48, ↓hr_49, ↓hr_50, ↓hr_51, ↓hr_52, ↓hr_53, ↓hr_54, ↓hr_55, ↓hr_56, ↓hr_57, ↓hr_58, ↓hr_59, ↓hr_60, ↓hr_61, ↓hr_62, ↓hr_63, ↓hr_64, ↓hr_65, ↓hr_66, ↓hr_67, ↓hr_68, ↓hr_69, ↓hr_70, ↓hr_71, ↓hr_72, ↓hr_73, ↓hr_74, ↓hr_75, ↓hr_76, ↓hr_77, ↓hr_78, ↓hr_79, ↓hw_47, ↓hw_48, ↓hw_49, ↓hw_50, ↓hw_51, ↓hw_52, ↓hw_53, ↓hw_54, ↓hw_55, ↓hw_56, ↓hw_57, ↓hw_58, ↓hw_59, ↓hw_60, ↓hw_61, ↓hw_62, ↓hw_63, ↓hw_64, ↓hw_65, ↓hw_66, ↓hw_67, ↓hw_68, ↓hw_69, ↓hw_70, ↓hw_71, ↓hw_72, ↓hw_73, ↓hw_74, ↓hw_75, ↓hw_76, ↓hw_77, ↓hw_78, ↓hw_79, ↓reduceIte, zkeep_n, zkeep_i, zkeep_r, zkeep_l, zup_eq, zIR, zLR, List.length_cons, List.length_nil, Nat.reduceAdd, Nat.reduceLeDiff, Nat.reduceEqDiff, Nat.reduceSub, Int.reduceLE, Int.reduceLT, Int.reduceEq, Int.reduceNe, Int.reduceNeg, Int.reduceAdd, Int.reduceSub, Int.reduceMul, Int.reduceToNat, Nat.le_refl, Nat.zero_le, Nat.zero_add, Int.zero_add, Int.add_zero, and_true, true_and, and_false, false_and, not_true_eq_false, not_false_eq_true, eq_self, ne_eq, true_implies, false_implies, implies_true, or_true, true_or, or_false, false_or, reduceCtorEq, Option.some.injEq, Sum.inl.injEq, exists_eq_left', exists_eq_left, hP12, e51, e49, zite]
  repeat' (first | with_reducible apply And.intro | with_reducible intro _)
  all_goals first | omega | (exact st _ (hb0 (by omega)) _ _ _ _) | (exact st _ (hb1 (by omega)) _ _ _ _) | (exact st _ (hb2 (by omega) (by omega)) _ _ _ _)
