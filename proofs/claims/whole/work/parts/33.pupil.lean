def PV (c : Nat) (M : zM) (v : Int → Int) : Prop := (∀ q, 0 ≤ q → q < 4 → M (c + 1) q = v q ∧ M (c + 2) q = v (4 + q) ∧ M (c + 3) q = v (8 + q)) ∧ M c 3 = v 12 ∧ M c 5 = v 13
def vok (v : Int → Int) : Prop := (∀ j, 0 ≤ j → j < 12 → 0 ≤ v j ∧ v j ≤ 9) ∧ 0 ≤ v 12 ∧ v 12 ≤ 9 ∧ 0 ≤ v 13 ∧ v 13 ≤ 1000
theorem wbad_le (wa : Int) (mi v : Int → Int) : ∀ q : Nat, 0 ≤ wbad wa mi v q ∧ wbad wa mi v q ≤ q
  | 0 => by simp [wbad]
  | q + 1 => by
    have := wbad_le wa mi v q
    unfold wbad
    split <;> omega
set_option maxHeartbeats 4000000 in
theorem s_drink23 {M : zM} {R : zP} {cow by_ : Int} {v : Int → Int} (hc : zIR cow) (hn : 0 ≤ M 4 5 ∧ M 4 5 ≤ 8) (hf : ∀ i, 0 ≤ i → i < 5 * M 4 5 → 0 ≤ M 6 i ∧ M 6 i ≤ 9) (hP : PV 23 M v) (hv : vok v) (hby : M 23 4 = by_) (hb : 0 ≤ by_ ∧ by_ ≤ 2)
    (hR : ∀ M', (∀ k i, k ≠ 23 → k ≠ 24 → k ≠ 25 → k ≠ 26 → M' k i = M k i) → M' 23 4 = by_ → PV 23 M' (if 0 ≤ cow ∧ cow < M 4 5 then wdrink by_ (M 6 (cow * 5)) (fun q => M 6 (cow * 5 + 1 + q)) v else v) → R none M') : tX3_drink [.inr (.inr 23), .inr (.inr 4), .inl cow] M R := by
  simp only [↓eX3_drink, ↓rX3_drink_0, ↓rX3_drink_1, ↓rX3_drink_4, ↓rX3_drink_5, ↓rX3_drink_6, ↓rX3_drink_9, ↓rX3_drink_12, ↓rX3_drink_13, ↓rX3_drink_14, ↓rX3_drink_15, ↓rX3_drink_16, ↓rX3_drink_17, ↓rX3_drink_18, ↓rX3_drink_21, ↓rX3_drink_22, ↓rX3_drink_23, ↓rX3_drink_26, ↓rX3_drink_27, ↓rX3_drink_28, ↓rX3_drink_29, ↓rX3_drink_30, ↓rX3_drink_32, ↓rX3_drink_33, ↓rX3_drink_36, ↓rX3_drink_38, ↓rX3_drink_39, ↓hg_fX3_21_23, ↓hg_fX3_21_27, ↓hg_fX3_28_23, ↓hg_fX3_28_27, ↓hg_fX3_31_1, ↓hg_fX3_31_4, ↓hg_fX3_50_1, ↓hg_fX3_50_4, ↓hr_10, ↓hr_11, ↓hr_13, ↓hr_14, ↓hr_15, ↓hr_16, ↓hr_18, ↓hr_19, ↓hr_2, ↓hr_20, ↓hr_21, ↓hr_24, ↓hr_25, ↓hr_26, ↓hr_28, ↓hr_29, ↓hr_3, ↓hr_30, ↓hr_33, ↓hr_34, ↓hr_35, ↓hr_36, ↓hr_37, ↓hr_39, ↓hr_41, ↓hr_43, ↓hr_45, ↓hr_5, ↓hr_6, ↓hr_8, ↓hr_9, ↓hr_fX3_102, ↓hr_fX3_103, ↓hw_10, ↓hw_11, ↓hw_13, ↓hw_14, ↓hw_15, ↓hw_16, ↓hw_18, ↓hw_19, ↓hw_2, ↓hw_20, ↓hw_21, ↓hw_24, ↓hw_25, ↓hw_26, ↓hw_28, ↓hw_29, ↓hw_3, ↓hw_30, ↓hw_33, ↓hw_34, ↓hw_35, ↓hw_36, ↓hw_37, ↓hw_39, ↓hw_41, ↓hw_43, ↓hw_45, ↓hw_5, ↓hw_6, ↓hw_8, ↓hw_9, ↓reduceIte, zkeep_n, zkeep_i, zkeep_r, zkeep_l, zup_eq, zIR, zLR, List.length_cons, List.length_nil, Nat.reduceAdd, Nat.reduceLeDiff, Nat.reduceEqDiff, Nat.reduceSub, Int.reduceLE, Int.reduceLT, Int.reduceEq, Int.reduceNe, Int.reduceNeg, Int.reduceAdd, Int.reduceSub, Int.reduceMul, Int.reduceToNat, Nat.le_refl, Nat.zero_le, Nat.zero_add, Int.zero_add, Int.add_zero, and_true, true_and, and_false, false_and, not_true_eq_false, not_false_eq_true, eq_self, ne_eq, true_implies, false_implies, implies_true, or_true, true_or, or_false, false_or, reduceCtorEq, Option.some.injEq, Sum.inl.injEq, exists_eq_left', exists_eq_left, zite]
  refine ⟨hc, fun h => hR M (fun _ _ _ _ _ _ => rfl) hby (by rw [if_neg (by omega)]; exact hP), fun h => ⟨⟨hc, by omega, by omega⟩, fun h2 => ⟨⟨by omega, by omega⟩, ?_⟩, fun h2 => hR M (fun _ _ _ _ _ _ => rfl) hby (by rw [if_neg (by omega)]; exact hP)⟩⟩
  rw [if_pos ⟨by omega, h2⟩] at hR
  generalize hwa : M 6 (cow * 5) = wa at hR ⊢
  have hwa2 := hf (cow * 5) (by omega) (by omega)
  rw [hwa] at hwa2
  have hmi : ∀ q, 0 ≤ q → q < 4 → 0 ≤ M 6 (cow * 5 + 1 + q) ∧ M 6 (cow * 5 + 1 + q) ≤ 9 := fun q h1 h2 => hf _ (by omega) (by omega)
  generalize hmie : (fun q => M 6 (cow * 5 + 1 + q)) = mi at hR
  have hmi0 : ∀ q, M 6 (cow * 5 + 1 + q) = mi q := fun q => by rw [← hmie]
  have L : ∀ s : Int × zM, ((0 ≤ s.1 ∧ s.1 ≤ 4) ∧ (∀ j, 0 ≤ j → j < 4 → s.2 24 j = (if j < s.1 then wdrink by_ wa mi v j else v j) ∧ s.2 25 j = (if j < s.1 then wdrink by_ wa mi v (4 + j) else v (4 + j)) ∧ s.2 26 j = (if j < s.1 then wdrink by_ wa mi v (8 + j) else v (8 + j))) ∧ s.2 23 5 = v 13 + wbad wa mi v s.1.toNat ∧ s.2 23 3 = v 12 ∧ s.2 23 4 = by_ ∧ (∀ k i, k ≠ 23 → k ≠ 24 → k ≠ 25 → k ≠ 26 → s.2 k i = M k i)) → ∀ x7 x8, uX3_drink R 41 [some (.inr (.inr 23)), some (.inr (.inr 4)), some (.inl cow), some (.inl (cow * 5)), some (.inl (M 23 3 + 2 * wa)), some (.inl (M 23 5)), some (.inl s.1), x7, x8] [] s.2 := by
    refine zind (fun s => (4 - s.1).toNat) ?_
    rintro ⟨q, N⟩ ⟨hq, hcell, hs, hst, hbb, hfr⟩ ih x7 x8
    simp only at hq hcell hs hst hbb hfr ih
    have hN6 : ∀ i, N 6 i = M 6 i := fun i => hfr 6 i (by decide) (by decide) (by decide) (by decide)
    have hw := wbad_le wa mi v
    obtain ⟨hPc, hP12, hP13⟩ := hP
    obtain ⟨hv1, hv2, hv3, hv4, hv5⟩ := hv
    by_cases h4 : q = 4
    · subst h4
      have hw4 := hw 4
      have hs : N 23 5 = v 13 + wbad wa mi v 4 := hs
      have fin : ∀ a, (a = if wbad wa mi v 4 = 0 ∧ v 12 < 9 then v 12 + 1 else v 12) → R none (zup N 23 3 a) := by
        intro a ha
        refine hR _ (fun k i h1 h2 h3 h4 => by rw [zup_ne h1]; exact hfr k i h1 h2 h3 h4) (by rw [zup_in, if_neg (by decide)]; exact hbb) ⟨fun j h1 h2 => ?_, ?_, ?_⟩
        · have := hcell j h1 h2
          simp only [h2, if_true] at this
          simp only [zup_ne (show 23 + 1 ≠ 23 by decide), zup_ne (show 23 + 2 ≠ 23 by decide), zup_ne (show 23 + 3 ≠ 23 by decide)]
          exact this
        · rw [zup_in, if_pos rfl, ha]
          rfl
        · rw [zup_in, if_neg (by decide), hs]
          rfl
      have same : zup N 23 3 (v 12) = N := by
        funext k i
        rw [zup_eq]
        split
        · rename_i hki
          rw [hki.1, hki.2, hst]
        · rfl
      refine rX3_drink_41.mpr ?_
      simp only [↓rX3_drink_43, ↓rX3_drink_44, ↓rX3_drink_214, ↓rX3_drink_215, ↓rX3_drink_218, ↓rX3_drink_220, ↓rX3_drink_223, ↓rX3_drink_224, ↓rX3_drink_227, ↓rX3_drink_229, ↓rX3_drink_232, ↓rX3_drink_233, ↓rX3_drink_234, ↓rX3_drink_237, ↓rX3_drink_238, ↓rX3_drink_239, ↓rX3_drink_242, ↓hg_fX3_21_23, ↓hg_fX3_21_27, ↓hg_fX3_28_23, ↓hg_fX3_28_27, ↓hp_fX3_21_23, ↓hp_fX3_21_27, ↓reduceIte, zkeep_n, zkeep_i, zkeep_r, zkeep_l, zup_eq, zIR, zLR, List.length_cons, List.length_nil, Nat.reduceAdd, Nat.reduceLeDiff, Nat.reduceEqDiff, Nat.reduceSub, Int.reduceLE, Int.reduceLT, Int.reduceEq, Int.reduceNe, Int.reduceNeg, Int.reduceAdd, Int.reduceSub, Int.reduceMul, Int.reduceToNat, Nat.le_refl, Nat.zero_le, Nat.zero_add, Int.zero_add, Int.add_zero, and_true, true_and, and_false, false_and, not_true_eq_false, not_false_eq_true, eq_self, ne_eq, true_implies, false_implies, implies_true, or_true, true_or, or_false, false_or, reduceCtorEq, Option.some.injEq, Sum.inl.injEq, exists_eq_left', exists_eq_left, hst, hs, hP13, zite]
      repeat' (first | with_reducible apply And.intro | with_reducible intro _)
      all_goals first | omega | (rw [← same]; exact fin _ (by rw [if_neg (by omega)])) | (exact fin _ (by rw [if_pos (by omega)]))
    · have hq4 : q < 4 := by omega
      have c0 := hcell q hq.1 hq4
      simp only [Int.lt_irrefl, if_false] at c0
      obtain ⟨e1, e2, e3⟩ := c0
      have r1 := hv1 q (by omega) (by omega)
      have r2 := hv1 (4 + q) (by omega) (by omega)
      have r3 := hv1 (8 + q) (by omega) (by omega)
      have r4 := hmi q (by omega) (by omega)
      rw [hmi0] at r4
      have hwq := hw q.toNat
      have hbad : wbad wa mi v (q + 1).toNat = wbad wa mi v q.toNat + if wsick wa mi v q then 1 else 0 := by
        rw [show (q + 1).toNat = q.toNat + 1 by omega]
        conv => lhs; unfold wbad
        rw [Int.toNat_of_nonneg hq.1]
      have next : ∀ (N' : zM) x7 x8, (∀ j, j ≠ q → N' 24 j = N 24 j ∧ N' 25 j = N 25 j ∧ N' 26 j = N 26 j) → N' 24 q = wdrink by_ wa mi v q → N' 25 q = wdrink by_ wa mi v (4 + q) → N' 26 q = wdrink by_ wa mi v (8 + q) → N' 23 5 = N 23 5 + (if wsick wa mi v q then 1 else 0) → N' 23 3 = N 23 3 → N' 23 4 = N 23 4 → (∀ k i, k ≠ 23 → k ≠ 24 → k ≠ 25 → k ≠ 26 → N' k i = N k i) → uX3_drink R 41 [some (.inr (.inr 23)), some (.inr (.inr 4)), some (.inl cow), some (.inl (cow * 5)), some (.inl (M 23 3 + 2 * wa)), some (.inl (M 23 5)), some (.inl (q + 1)), x7, x8] [] N' := by
        intro N' x7 x8 g1 g2 g3 g4 g5 g6 g7 g8
        refine ih (q + 1, N') ⟨⟨by simp only; omega, by simp only; omega⟩, fun j h1 h2 => ?_, ?_, ?_, ?_, ?_⟩ (by simp only; omega) x7 x8
        · by_cases hj : j = q
          · subst hj
            simp only [show j < j + 1 by omega, if_true]
            exact ⟨g2, g3, g4⟩
          · simp only [g1 j hj]
            have := hcell j h1 h2
            by_cases hj2 : j < q
            · simp only [hj2, if_true] at this
              simp only [show j < q + 1 by omega, if_true]
              exact this
            · simp only [hj2, if_false] at this
              simp only [show ¬ j < q + 1 by omega, if_false]
              exact this
        · show N' 23 5 = v 13 + wbad wa mi v (q + 1).toNat
          rw [g5, hs, hbad]
          omega
        · exact g6.trans hst
        · exact g7.trans hbb
        · exact fun k i h1 h2 h3 h4 => (g8 k i h1 h2 h3 h4).trans (hfr k i h1 h2 h3 h4)
      have d1 : wdrink by_ wa mi v q = if wsick wa mi v q then v q else v q + wgo by_ (mi q - v q) := by
        unfold wdrink
        rw [if_pos ⟨hq.1, hq4⟩]
      have d2 : wdrink by_ wa mi v (4 + q) = if wsick wa mi v q then v (4 + q) else if mi q < v (4 + q) then mi q else v (4 + q) := by
        unfold wdrink
        rw [if_neg (by omega), if_pos (by omega), show 4 + q - 4 = q by omega]
      have d3 : wdrink by_ wa mi v (8 + q) = if wsick wa mi v q then v (8 + q) else if v (8 + q) < mi q then mi q else v (8 + q) := by
        unfold wdrink
        rw [if_neg (by omega), if_neg (by omega), if_pos (by omega), show 8 + q - 8 = q by omega]
      have sick : wsick wa mi v q → ∀ x7 x8, uX3_drink R 41 [some (.inr (.inr 23)), some (.inr (.inr 4)), some (.inl cow), some (.inl (cow * 5)), some (.inl (M 23 3 + 2 * wa)), some (.inl (M 23 5)), some (.inl (q + 1)), x7, x8] [] (zup N 23 5 (N 23 5 + 1)) := by
        intro hsk x7 x8
        rw [if_pos hsk] at d1 d2 d3
        refine next _ x7 x8 (fun j _ => ⟨zup_ne (by decide), zup_ne (by decide), zup_ne (by decide)⟩) (by rw [zup_ne (by decide), e1, d1]) (by rw [zup_ne (by decide), e2, d2]) (by rw [zup_ne (by decide), e3, d3]) (by rw [zup_in, if_pos rfl, if_pos hsk]) (by rw [zup_in, if_neg (by decide)]) (by rw [zup_in, if_neg (by decide)]) (fun k i h1 _ _ _ => zup_ne h1)
      refine rX3_drink_41.mpr ?_
      have J206 : ∀ (N' : zM) (a : Int), ¬ wsick wa mi v q → N' = zup (zup N 25 q (if mi q < v (4 + q) then mi q else v (4 + q))) 26 q (if v (8 + q) < mi q then mi q else v (8 + q)) → a = wgo by_ (mi q - v q) → uX3_drink R 206 [some (.inr (.inr 23)), some (.inr (.inr 4)), some (.inl cow), some (.inl (cow * 5)), some (.inl (M 23 3 + 2 * wa)), some (.inl (M 23 5)), some (.inl q), some (.inl (mi q)), some (.inl (mi q - v q))] [.inl a, .inl (v q), .inl q, .inr (.inr 24)] N' := by
        intro N' a hsk hN' ha
        rw [if_neg hsk] at d1 d2 d3
        simp only [↓rX3_drink_206, ↓rX3_drink_207, ↓rX3_drink_208, ↓rX3_drink_211, ↓hr_10, ↓hr_11, ↓hr_13, ↓hr_14, ↓hr_15, ↓hr_16, ↓hr_18, ↓hr_19, ↓hr_2, ↓hr_20, ↓hr_21, ↓hr_24, ↓hr_25, ↓hr_26, ↓hr_28, ↓hr_29, ↓hr_3, ↓hr_30, ↓hr_33, ↓hr_34, ↓hr_35, ↓hr_36, ↓hr_37, ↓hr_39, ↓hr_41, ↓hr_43, ↓hr_45, ↓hr_5, ↓hr_6, ↓hr_8, ↓hr_9, ↓hr_fX3_102, ↓hr_fX3_103, ↓hw_10, ↓hw_11, ↓hw_13, ↓hw_14, ↓hw_15, ↓hw_16, ↓hw_18, ↓hw_19, ↓hw_2, ↓hw_20, ↓hw_21, ↓hw_24, ↓hw_25, ↓hw_26, ↓hw_28, ↓hw_29, ↓hw_3, ↓hw_30, ↓hw_33, ↓hw_34, ↓hw_35, ↓hw_36, ↓hw_37, ↓hw_39, ↓hw_41, ↓hw_43, ↓hw_45, ↓hw_5, ↓hw_6, ↓hw_8, ↓hw_9, ↓reduceIte, zkeep_n, zkeep_i, zkeep_r, zkeep_l, zup_eq, zIR, zLR, List.length_cons, List.length_nil, Nat.reduceAdd, Nat.reduceLeDiff, Nat.reduceEqDiff, Nat.reduceSub, Int.reduceLE, Int.reduceLT, Int.reduceEq, Int.reduceNe, Int.reduceNeg, Int.reduceAdd, Int.reduceSub, Int.reduceMul, Int.reduceToNat, Nat.le_refl, Nat.zero_le, Nat.zero_add, Int.zero_add, Int.add_zero, and_true, true_and, and_false, false_and, not_true_eq_false, not_false_eq_true, eq_self, ne_eq, true_implies, false_implies, implies_true, or_true, true_or, or_false, false_or, reduceCtorEq, Option.some.injEq, Sum.inl.injEq, exists_eq_left', exists_eq_left, zite]
        refine ⟨⟨hq.1, hq4⟩, next _ _ _ (fun j hj => ?_) ?_ ?_ ?_ ?_ ?_ ?_ (fun k i h1 h2 h3 h4 => ?_)⟩
        · subst hN'
          simp only [zup_eq, hj, Nat.reduceEqDiff, and_false, false_and, if_false, and_self]
        · rw [zup_in, if_pos rfl, d1, ha]
        · subst hN'
          rw [zup_ne (by decide), zup_ne (by decide), zup_in, if_pos rfl, d2]
        · subst hN'
          rw [zup_ne (by decide), zup_in, if_pos rfl, d3]
        · subst hN'
          rw [zup_ne (by decide), zup_ne (by decide), zup_ne (by decide), if_neg hsk, Int.add_zero]
        · subst hN'
          rw [zup_ne (by decide), zup_ne (by decide), zup_ne (by decide)]
        · subst hN'
          rw [zup_ne (by decide), zup_ne (by decide), zup_ne (by decide)]
        · subst hN'
          rw [zup_ne h2, zup_ne h4, zup_ne h3]
      have J161 : ∀ (N' : zM) (a : Int), ¬ wsick wa mi v q → N' = zup N 25 q (if mi q < v (4 + q) then mi q else v (4 + q)) → a = (if v (8 + q) < mi q then mi q else v (8 + q)) → uX3_drink R 161 [some (.inr (.inr 23)), some (.inr (.inr 4)), some (.inl cow), some (.inl (cow * 5)), some (.inl (M 23 3 + 2 * wa)), some (.inl (M 23 5)), some (.inl q), some (.inl (mi q)), some (.inl (mi q - v q))] [.inl a, .inl q, .inr (.inr 26)] N' := by
        intro N' a hsk hN' ha
        have f1 : N' 24 q = v q := by rw [hN', zup_ne (by decide)]; exact e1
        have f2 : N' 23 4 = by_ := by rw [hN', zup_ne (by decide)]; exact hbb
        simp only [↓rX3_drink_161, ↓rX3_drink_162, ↓rX3_drink_163, ↓rX3_drink_166, ↓rX3_drink_168, ↓rX3_drink_169, ↓rX3_drink_170, ↓rX3_drink_172, ↓rX3_drink_173, ↓rX3_drink_176, ↓rX3_drink_179, ↓rX3_drink_180, ↓rX3_drink_183, ↓rX3_drink_186, ↓rX3_drink_188, ↓rX3_drink_189, ↓rX3_drink_192, ↓rX3_drink_193, ↓rX3_drink_196, ↓rX3_drink_197, ↓rX3_drink_200, ↓rX3_drink_201, ↓rX3_drink_204, ↓hg_fX3_25_23, ↓hg_fX3_25_27, ↓hg_fX3_9_23, ↓hg_fX3_9_27, ↓hr_10, ↓hr_11, ↓hr_13, ↓hr_14, ↓hr_15, ↓hr_16, ↓hr_18, ↓hr_19, ↓hr_2, ↓hr_20, ↓hr_21, ↓hr_24, ↓hr_25, ↓hr_26, ↓hr_28, ↓hr_29, ↓hr_3, ↓hr_30, ↓hr_33, ↓hr_34, ↓hr_35, ↓hr_36, ↓hr_37, ↓hr_39, ↓hr_41, ↓hr_43, ↓hr_45, ↓hr_5, ↓hr_6, ↓hr_8, ↓hr_9, ↓hr_fX3_102, ↓hr_fX3_103, ↓hw_10, ↓hw_11, ↓hw_13, ↓hw_14, ↓hw_15, ↓hw_16, ↓hw_18, ↓hw_19, ↓hw_2, ↓hw_20, ↓hw_21, ↓hw_24, ↓hw_25, ↓hw_26, ↓hw_28, ↓hw_29, ↓hw_3, ↓hw_30, ↓hw_33, ↓hw_34, ↓hw_35, ↓hw_36, ↓hw_37, ↓hw_39, ↓hw_41, ↓hw_43, ↓hw_45, ↓hw_5, ↓hw_6, ↓hw_8, ↓hw_9, ↓reduceIte, zkeep_n, zkeep_i, zkeep_r, zkeep_l, zup_eq, zIR, zLR, List.length_cons, List.length_nil, Nat.reduceAdd, Nat.reduceLeDiff, Nat.reduceEqDiff, Nat.reduceSub, Int.reduceLE, Int.reduceLT, Int.reduceEq, Int.reduceNe, Int.reduceNeg, Int.reduceAdd, Int.reduceSub, Int.reduceMul, Int.reduceToNat, Nat.le_refl, Nat.zero_le, Nat.zero_add, Int.zero_add, Int.add_zero, and_true, true_and, and_false, false_and, not_true_eq_false, not_false_eq_true, eq_self, ne_eq, true_implies, false_implies, implies_true, or_true, true_or, or_false, false_or, reduceCtorEq, Option.some.injEq, Sum.inl.injEq, exists_eq_left', exists_eq_left, f1, f2, zite]
        repeat' (first | with_reducible apply And.intro | with_reducible intro _)
        all_goals first | omega | (exact J206 _ _ hsk (by rw [hN', ha]) (by unfold wgo; rw [if_pos (by omega)])) | (exact J206 _ _ hsk (by rw [hN', ha]) (by unfold wgo; rw [if_neg (by omega), if_pos (by omega)])) | (exact J206 _ _ hsk (by rw [hN', ha]) (by unfold wgo; rw [if_neg (by omega), if_neg (by omega)]))
      have J130 : ∀ (a : Int), ¬ wsick wa mi v q → a = (if mi q < v (4 + q) then mi q else v (4 + q)) → uX3_drink R 130 [some (.inr (.inr 23)), some (.inr (.inr 4)), some (.inl cow), some (.inl (cow * 5)), some (.inl (M 23 3 + 2 * wa)), some (.inl (M 23 5)), some (.inl q), some (.inl (mi q)), some (.inl (mi q - v q))] [.inl a, .inl q, .inr (.inr 25)] N := by
        intro a hsk ha
        simp only [↓rX3_drink_130, ↓rX3_drink_131, ↓rX3_drink_132, ↓rX3_drink_135, ↓rX3_drink_137, ↓rX3_drink_139, ↓rX3_drink_140, ↓rX3_drink_143, ↓rX3_drink_145, ↓rX3_drink_146, ↓rX3_drink_149, ↓rX3_drink_151, ↓rX3_drink_154, ↓rX3_drink_155, ↓rX3_drink_158, ↓rX3_drink_160, ↓hg_fX3_18_23, ↓hg_fX3_18_27, ↓hr_10, ↓hr_11, ↓hr_13, ↓hr_14, ↓hr_15, ↓hr_16, ↓hr_18, ↓hr_19, ↓hr_2, ↓hr_20, ↓hr_21, ↓hr_24, ↓hr_25, ↓hr_26, ↓hr_28, ↓hr_29, ↓hr_3, ↓hr_30, ↓hr_33, ↓hr_34, ↓hr_35, ↓hr_36, ↓hr_37, ↓hr_39, ↓hr_41, ↓hr_43, ↓hr_45, ↓hr_5, ↓hr_6, ↓hr_8, ↓hr_9, ↓hr_fX3_102, ↓hr_fX3_103, ↓hw_10, ↓hw_11, ↓hw_13, ↓hw_14, ↓hw_15, ↓hw_16, ↓hw_18, ↓hw_19, ↓hw_2, ↓hw_20, ↓hw_21, ↓hw_24, ↓hw_25, ↓hw_26, ↓hw_28, ↓hw_29, ↓hw_3, ↓hw_30, ↓hw_33, ↓hw_34, ↓hw_35, ↓hw_36, ↓hw_37, ↓hw_39, ↓hw_41, ↓hw_43, ↓hw_45, ↓hw_5, ↓hw_6, ↓hw_8, ↓hw_9, ↓reduceIte, zkeep_n, zkeep_i, zkeep_r, zkeep_l, zup_eq, zIR, zLR, List.length_cons, List.length_nil, Nat.reduceAdd, Nat.reduceLeDiff, Nat.reduceEqDiff, Nat.reduceSub, Int.reduceLE, Int.reduceLT, Int.reduceEq, Int.reduceNe, Int.reduceNeg, Int.reduceAdd, Int.reduceSub, Int.reduceMul, Int.reduceToNat, Nat.le_refl, Nat.zero_le, Nat.zero_add, Int.zero_add, Int.add_zero, and_true, true_and, and_false, false_and, not_true_eq_false, not_false_eq_true, eq_self, ne_eq, true_implies, false_implies, implies_true, or_true, true_or, or_false, false_or, reduceCtorEq, Option.some.injEq, Sum.inl.injEq, exists_eq_left', exists_eq_left, e3, zite]
        repeat' (first | with_reducible apply And.intro | with_reducible intro _)
        all_goals first | omega | (exact J161 _ _ hsk (by rw [ha]) (by rw [if_neg (by omega)])) | (exact J161 _ _ hsk (by rw [ha]) (by rw [if_pos (by omega)]))
      simp only [↓rX3_drink_43, ↓rX3_drink_44, ↓rX3_drink_47, ↓rX3_drink_48, ↓rX3_drink_51, ↓rX3_drink_52, ↓rX3_drink_53, ↓rX3_drink_54, ↓rX3_drink_56, ↓rX3_drink_57, ↓rX3_drink_58, ↓rX3_drink_60, ↓rX3_drink_62, ↓rX3_drink_63, ↓rX3_drink_66, ↓rX3_drink_68, ↓rX3_drink_69, ↓rX3_drink_70, ↓rX3_drink_72, ↓rX3_drink_74, ↓rX3_drink_76, ↓rX3_drink_79, ↓rX3_drink_81, ↓rX3_drink_82, ↓rX3_drink_84, ↓rX3_drink_87, ↓rX3_drink_88, ↓rX3_drink_89, ↓rX3_drink_92, ↓rX3_drink_93, ↓rX3_drink_94, ↓rX3_drink_97, ↓rX3_drink_208, ↓rX3_drink_211, ↓rX3_drink_100, ↓rX3_drink_101, ↓rX3_drink_104, ↓rX3_drink_106, ↓rX3_drink_108, ↓rX3_drink_109, ↓rX3_drink_112, ↓rX3_drink_114, ↓rX3_drink_115, ↓rX3_drink_118, ↓rX3_drink_120, ↓rX3_drink_123, ↓rX3_drink_124, ↓rX3_drink_127, ↓rX3_drink_129, ↓hg_fX3_15_23, ↓hg_fX3_15_27, ↓hg_fX3_28_23, ↓hg_fX3_28_27, ↓hg_fX3_31_1, ↓hg_fX3_31_4, ↓hg_fX3_9_23, ↓hg_fX3_9_27, ↓hp_fX3_28_23, ↓hp_fX3_28_27, ↓hr_10, ↓hr_11, ↓hr_13, ↓hr_14, ↓hr_15, ↓hr_16, ↓hr_18, ↓hr_19, ↓hr_2, ↓hr_20, ↓hr_21, ↓hr_24, ↓hr_25, ↓hr_26, ↓hr_28, ↓hr_29, ↓hr_3, ↓hr_30, ↓hr_33, ↓hr_34, ↓hr_35, ↓hr_36, ↓hr_37, ↓hr_39, ↓hr_41, ↓hr_43, ↓hr_45, ↓hr_5, ↓hr_6, ↓hr_8, ↓hr_9, ↓hr_fX3_102, ↓hr_fX3_103, ↓hw_10, ↓hw_11, ↓hw_13, ↓hw_14, ↓hw_15, ↓hw_16, ↓hw_18, ↓hw_19, ↓hw_2, ↓hw_20, ↓hw_21, ↓hw_24, ↓hw_25, ↓hw_26, ↓hw_28, ↓hw_29, ↓hw_3, ↓hw_30, ↓hw_33, ↓hw_34, ↓hw_35, ↓hw_36, ↓hw_37, ↓hw_39, ↓hw_41, ↓hw_43, ↓hw_45, ↓hw_5, ↓hw_6, ↓hw_8, ↓hw_9, ↓reduceIte, zkeep_n, zkeep_i, zkeep_r, zkeep_l, zup_eq, zIR, zLR, List.length_cons, List.length_nil, Nat.reduceAdd, Nat.reduceLeDiff, Nat.reduceEqDiff, Nat.reduceSub, Int.reduceLE, Int.reduceLT, Int.reduceEq, Int.reduceNe, Int.reduceNeg, Int.reduceAdd, Int.reduceSub, Int.reduceMul, Int.reduceToNat, Nat.le_refl, Nat.zero_le, Nat.zero_add, Int.zero_add, Int.add_zero, and_true, true_and, and_false, false_and, not_true_eq_false, not_false_eq_true, eq_self, ne_eq, true_implies, false_implies, implies_true, or_true, true_or, or_false, false_or, reduceCtorEq, Option.some.injEq, Sum.inl.injEq, exists_eq_left', exists_eq_left, hN6, hmi0, hst, hbb, e1, e2, e3, zite]
      repeat' (first | with_reducible apply And.intro | with_reducible intro _)
      all_goals first | omega | (exact sick (by omega) _ _) | (exact J130 _ (by omega) (by rw [if_neg (by omega)])) | (exact J130 _ (by omega) (by rw [if_pos (by omega)]))
  obtain ⟨hPc, hP12, hP13⟩ := hP
  refine L (0, M) ⟨show (0 : Int) ≤ 0 ∧ (0 : Int) ≤ 4 by decide, fun j h1 h2 => ?_, ?_, hP12, hby, fun _ _ _ _ _ _ => rfl⟩ none none
  · have := hPc j h1 h2
    simp only [show ¬ j < 0 by omega, if_false]
    exact this
  · show M 23 5 = v 13 + wbad wa mi v (0 : Int).toNat
    rw [hP13]
    exact (Int.add_zero _).symm
set_option maxHeartbeats 4000000 in
theorem s_drink27 {M : zM} {R : zP} {cow by_ : Int} {v : Int → Int} (hc : zIR cow) (hn : 0 ≤ M 4 5 ∧ M 4 5 ≤ 8) (hf : ∀ i, 0 ≤ i → i < 5 * M 4 5 → 0 ≤ M 6 i ∧ M 6 i ≤ 9) (hP : PV 27 M v) (hv : vok v) (hby : M 27 4 = by_) (hb : 0 ≤ by_ ∧ by_ ≤ 2)
    (hR : ∀ M', (∀ k i, k ≠ 27 → k ≠ 28 → k ≠ 29 → k ≠ 30 → M' k i = M k i) → M' 27 4 = by_ → PV 27 M' (if 0 ≤ cow ∧ cow < M 4 5 then wdrink by_ (M 6 (cow * 5)) (fun q => M 6 (cow * 5 + 1 + q)) v else v) → R none M') : tX3_drink [.inr (.inr 27), .inr (.inr 4), .inl cow] M R := by
  simp only [↓eX3_drink, ↓rX3_drink_0, ↓rX3_drink_1, ↓rX3_drink_4, ↓rX3_drink_5, ↓rX3_drink_6, ↓rX3_drink_9, ↓rX3_drink_12, ↓rX3_drink_13, ↓rX3_drink_14, ↓rX3_drink_15, ↓rX3_drink_16, ↓rX3_drink_17, ↓rX3_drink_18, ↓rX3_drink_21, ↓rX3_drink_22, ↓rX3_drink_23, ↓rX3_drink_26, ↓rX3_drink_27, ↓rX3_drink_28, ↓rX3_drink_29, ↓rX3_drink_30, ↓rX3_drink_32, ↓rX3_drink_33, ↓rX3_drink_36, ↓rX3_drink_38, ↓rX3_drink_39, ↓hg_fX3_21_23, ↓hg_fX3_21_27, ↓hg_fX3_28_23, ↓hg_fX3_28_27, ↓hg_fX3_31_1, ↓hg_fX3_31_4, ↓hg_fX3_50_1, ↓hg_fX3_50_4, ↓hr_10, ↓hr_11, ↓hr_13, ↓hr_14, ↓hr_15, ↓hr_16, ↓hr_18, ↓hr_19, ↓hr_2, ↓hr_20, ↓hr_21, ↓hr_24, ↓hr_25, ↓hr_26, ↓hr_28, ↓hr_29, ↓hr_3, ↓hr_30, ↓hr_33, ↓hr_34, ↓hr_35, ↓hr_36, ↓hr_37, ↓hr_39, ↓hr_41, ↓hr_43, ↓hr_45, ↓hr_5, ↓hr_6, ↓hr_8, ↓hr_9, ↓hr_fX3_102, ↓hr_fX3_103, ↓hw_10, ↓hw_11, ↓hw_13, ↓hw_14, ↓hw_15, ↓hw_16, ↓hw_18, ↓hw_19, ↓hw_2, ↓hw_20, ↓hw_21, ↓hw_24, ↓hw_25, ↓hw_26, ↓hw_28, ↓hw_29, ↓hw_3, ↓hw_30, ↓hw_33, ↓hw_34, ↓hw_35, ↓hw_36, ↓hw_37, ↓hw_39, ↓hw_41, ↓hw_43, ↓hw_45, ↓hw_5, ↓hw_6, ↓hw_8, ↓hw_9, ↓reduceIte, zkeep_n, zkeep_i, zkeep_r, zkeep_l, zup_eq, zIR, zLR, List.length_cons, List.length_nil, Nat.reduceAdd, Nat.reduceLeDiff, Nat.reduceEqDiff, Nat.reduceSub, Int.reduceLE, Int.reduceLT, Int.reduceEq, Int.reduceNe, Int.reduceNeg, Int.reduceAdd, Int.reduceSub, Int.reduceMul, Int.reduceToNat, Nat.le_refl, Nat.zero_le, Nat.zero_add, Int.zero_add, Int.add_zero, and_true, true_and, and_false, false_and, not_true_eq_false, not_false_eq_true, eq_self, ne_eq, true_implies, false_implies, implies_true, or_true, true_or, or_false, false_or, reduceCtorEq, Option.some.injEq, Sum.inl.injEq, exists_eq_left', exists_eq_left, zite]
  refine ⟨hc, fun h => hR M (fun _ _ _ _ _ _ => rfl) hby (by rw [if_neg (by omega)]; exact hP), fun h => ⟨⟨hc, by omega, by omega⟩, fun h2 => ⟨⟨by omega, by omega⟩, ?_⟩, fun h2 => hR M (fun _ _ _ _ _ _ => rfl) hby (by rw [if_neg (by omega)]; exact hP)⟩⟩
  rw [if_pos ⟨by omega, h2⟩] at hR
  generalize hwa : M 6 (cow * 5) = wa at hR ⊢
  have hwa2 := hf (cow * 5) (by omega) (by omega)
  rw [hwa] at hwa2
  have hmi : ∀ q, 0 ≤ q → q < 4 → 0 ≤ M 6 (cow * 5 + 1 + q) ∧ M 6 (cow * 5 + 1 + q) ≤ 9 := fun q h1 h2 => hf _ (by omega) (by omega)
  generalize hmie : (fun q => M 6 (cow * 5 + 1 + q)) = mi at hR
  have hmi0 : ∀ q, M 6 (cow * 5 + 1 + q) = mi q := fun q => by rw [← hmie]
  have L : ∀ s : Int × zM, ((0 ≤ s.1 ∧ s.1 ≤ 4) ∧ (∀ j, 0 ≤ j → j < 4 → s.2 28 j = (if j < s.1 then wdrink by_ wa mi v j else v j) ∧ s.2 29 j = (if j < s.1 then wdrink by_ wa mi v (4 + j) else v (4 + j)) ∧ s.2 30 j = (if j < s.1 then wdrink by_ wa mi v (8 + j) else v (8 + j))) ∧ s.2 27 5 = v 13 + wbad wa mi v s.1.toNat ∧ s.2 27 3 = v 12 ∧ s.2 27 4 = by_ ∧ (∀ k i, k ≠ 27 → k ≠ 28 → k ≠ 29 → k ≠ 30 → s.2 k i = M k i)) → ∀ x7 x8, uX3_drink R 41 [some (.inr (.inr 27)), some (.inr (.inr 4)), some (.inl cow), some (.inl (cow * 5)), some (.inl (M 27 3 + 2 * wa)), some (.inl (M 27 5)), some (.inl s.1), x7, x8] [] s.2 := by
    refine zind (fun s => (4 - s.1).toNat) ?_
    rintro ⟨q, N⟩ ⟨hq, hcell, hs, hst, hbb, hfr⟩ ih x7 x8
    simp only at hq hcell hs hst hbb hfr ih
    have hN6 : ∀ i, N 6 i = M 6 i := fun i => hfr 6 i (by decide) (by decide) (by decide) (by decide)
    have hw := wbad_le wa mi v
    obtain ⟨hPc, hP12, hP13⟩ := hP
    obtain ⟨hv1, hv2, hv3, hv4, hv5⟩ := hv
    by_cases h4 : q = 4
    · subst h4
      have hw4 := hw 4
      have hs : N 27 5 = v 13 + wbad wa mi v 4 := hs
      have fin : ∀ a, (a = if wbad wa mi v 4 = 0 ∧ v 12 < 9 then v 12 + 1 else v 12) → R none (zup N 27 3 a) := by
        intro a ha
        refine hR _ (fun k i h1 h2 h3 h4 => by rw [zup_ne h1]; exact hfr k i h1 h2 h3 h4) (by rw [zup_in, if_neg (by decide)]; exact hbb) ⟨fun j h1 h2 => ?_, ?_, ?_⟩
        · have := hcell j h1 h2
          simp only [h2, if_true] at this
          simp only [zup_ne (show 27 + 1 ≠ 27 by decide), zup_ne (show 27 + 2 ≠ 27 by decide), zup_ne (show 27 + 3 ≠ 27 by decide)]
          exact this
        · rw [zup_in, if_pos rfl, ha]
          rfl
        · rw [zup_in, if_neg (by decide), hs]
          rfl
      have same : zup N 27 3 (v 12) = N := by
        funext k i
        rw [zup_eq]
        split
        · rename_i hki
          rw [hki.1, hki.2, hst]
        · rfl
      refine rX3_drink_41.mpr ?_
      simp only [↓rX3_drink_43, ↓rX3_drink_44, ↓rX3_drink_214, ↓rX3_drink_215, ↓rX3_drink_218, ↓rX3_drink_220, ↓rX3_drink_223, ↓rX3_drink_224, ↓rX3_drink_227, ↓rX3_drink_229, ↓rX3_drink_232, ↓rX3_drink_233, ↓rX3_drink_234, ↓rX3_drink_237, ↓rX3_drink_238, ↓rX3_drink_239, ↓rX3_drink_242, ↓hg_fX3_21_23, ↓hg_fX3_21_27, ↓hg_fX3_28_23, ↓hg_fX3_28_27, ↓hp_fX3_21_23, ↓hp_fX3_21_27, ↓reduceIte, zkeep_n, zkeep_i, zkeep_r, zkeep_l, zup_eq, zIR, zLR, List.length_cons, List.length_nil, Nat.reduceAdd, Nat.reduceLeDiff, Nat.reduceEqDiff, Nat.reduceSub, Int.reduceLE, Int.reduceLT, Int.reduceEq, Int.reduceNe, Int.reduceNeg, Int.reduceAdd, Int.reduceSub, Int.reduceMul, Int.reduceToNat, Nat.le_refl, Nat.zero_le, Nat.zero_add, Int.zero_add, Int.add_zero, and_true, true_and, and_false, false_and, not_true_eq_false, not_false_eq_true, eq_self, ne_eq, true_implies, false_implies, implies_true, or_true, true_or, or_false, false_or, reduceCtorEq, Option.some.injEq, Sum.inl.injEq, exists_eq_left', exists_eq_left, hst, hs, hP13, zite]
      repeat' (first | with_reducible apply And.intro | with_reducible intro _)
      all_goals first | omega | (rw [← same]; exact fin _ (by rw [if_neg (by omega)])) | (exact fin _ (by rw [if_pos (by omega)]))
    · have hq4 : q < 4 := by omega
      have c0 := hcell q hq.1 hq4
      simp only [Int.lt_irrefl, if_false] at c0
      obtain ⟨e1, e2, e3⟩ := c0
      have r1 := hv1 q (by omega) (by omega)
      have r2 := hv1 (4 + q) (by omega) (by omega)
      have r3 := hv1 (8 + q) (by omega) (by omega)
      have r4 := hmi q (by omega) (by omega)
      rw [hmi0] at r4
      have hwq := hw q.toNat
      have hbad : wbad wa mi v (q + 1).toNat = wbad wa mi v q.toNat + if wsick wa mi v q then 1 else 0 := by
        rw [show (q + 1).toNat = q.toNat + 1 by omega]
        conv => lhs; unfold wbad
        rw [Int.toNat_of_nonneg hq.1]
      have next : ∀ (N' : zM) x7 x8, (∀ j, j ≠ q → N' 28 j = N 28 j ∧ N' 29 j = N 29 j ∧ N' 30 j = N 30 j) → N' 28 q = wdrink by_ wa mi v q → N' 29 q = wdrink by_ wa mi v (4 + q) → N' 30 q = wdrink by_ wa mi v (8 + q) → N' 27 5 = N 27 5 + (if wsick wa mi v q then 1 else 0) → N' 27 3 = N 27 3 → N' 27 4 = N 27 4 → (∀ k i, k ≠ 27 → k ≠ 28 → k ≠ 29 → k ≠ 30 → N' k i = N k i) → uX3_drink R 41 [some (.inr (.inr 27)), some (.inr (.inr 4)), some (.inl cow), some (.inl (cow * 5)), some (.inl (M 27 3 + 2 * wa)), some (.inl (M 27 5)), some (.inl (q + 1)), x7, x8] [] N' := by
        intro N' x7 x8 g1 g2 g3 g4 g5 g6 g7 g8
        refine ih (q + 1, N') ⟨⟨by simp only; omega, by simp only; omega⟩, fun j h1 h2 => ?_, ?_, ?_, ?_, ?_⟩ (by simp only; omega) x7 x8
        · by_cases hj : j = q
          · subst hj
            simp only [show j < j + 1 by omega, if_true]
            exact ⟨g2, g3, g4⟩
          · simp only [g1 j hj]
            have := hcell j h1 h2
            by_cases hj2 : j < q
            · simp only [hj2, if_true] at this
              simp only [show j < q + 1 by omega, if_true]
              exact this
            · simp only [hj2, if_false] at this
              simp only [show ¬ j < q + 1 by omega, if_false]
              exact this
        · show N' 27 5 = v 13 + wbad wa mi v (q + 1).toNat
          rw [g5, hs, hbad]
          omega
        · exact g6.trans hst
        · exact g7.trans hbb
        · exact fun k i h1 h2 h3 h4 => (g8 k i h1 h2 h3 h4).trans (hfr k i h1 h2 h3 h4)
      have d1 : wdrink by_ wa mi v q = if wsick wa mi v q then v q else v q + wgo by_ (mi q - v q) := by
        unfold wdrink
        rw [if_pos ⟨hq.1, hq4⟩]
      have d2 : wdrink by_ wa mi v (4 + q) = if wsick wa mi v q then v (4 + q) else if mi q < v (4 + q) then mi q else v (4 + q) := by
        unfold wdrink
        rw [if_neg (by omega), if_pos (by omega), show 4 + q - 4 = q by omega]
      have d3 : wdrink by_ wa mi v (8 + q) = if wsick wa mi v q then v (8 + q) else if v (8 + q) < mi q then mi q else v (8 + q) := by
        unfold wdrink
        rw [if_neg (by omega), if_neg (by omega), if_pos (by omega), show 8 + q - 8 = q by omega]
      have sick : wsick wa mi v q → ∀ x7 x8, uX3_drink R 41 [some (.inr (.inr 27)), some (.inr (.inr 4)), some (.inl cow), some (.inl (cow * 5)), some (.inl (M 27 3 + 2 * wa)), some (.inl (M 27 5)), some (.inl (q + 1)), x7, x8] [] (zup N 27 5 (N 27 5 + 1)) := by
        intro hsk x7 x8
        rw [if_pos hsk] at d1 d2 d3
        refine next _ x7 x8 (fun j _ => ⟨zup_ne (by decide), zup_ne (by decide), zup_ne (by decide)⟩) (by rw [zup_ne (by decide), e1, d1]) (by rw [zup_ne (by decide), e2, d2]) (by rw [zup_ne (by decide), e3, d3]) (by rw [zup_in, if_pos rfl, if_pos hsk]) (by rw [zup_in, if_neg (by decide)]) (by rw [zup_in, if_neg (by decide)]) (fun k i h1 _ _ _ => zup_ne h1)
      refine rX3_drink_41.mpr ?_
      have J206 : ∀ (N' : zM) (a : Int), ¬ wsick wa mi v q → N' = zup (zup N 29 q (if mi q < v (4 + q) then mi q else v (4 + q))) 30 q (if v (8 + q) < mi q then mi q else v (8 + q)) → a = wgo by_ (mi q - v q) → uX3_drink R 206 [some (.inr (.inr 27)), some (.inr (.inr 4)), some (.inl cow), some (.inl (cow * 5)), some (.inl (M 27 3 + 2 * wa)), some (.inl (M 27 5)), some (.inl q), some (.inl (mi q)), some (.inl (mi q - v q))] [.inl a, .inl (v q), .inl q, .inr (.inr 28)] N' := by
        intro N' a hsk hN' ha
        rw [if_neg hsk] at d1 d2 d3
        simp only [↓rX3_drink_206, ↓rX3_drink_207, ↓rX3_drink_208, ↓rX3_drink_211, ↓hr_10, ↓hr_11, ↓hr_13, ↓hr_14, ↓hr_15, ↓hr_16, ↓hr_18, ↓hr_19, ↓hr_2, ↓hr_20, ↓hr_21, ↓hr_24, ↓hr_25, ↓hr_26, ↓hr_28, ↓hr_29, ↓hr_3, ↓hr_30, ↓hr_33, ↓hr_34, ↓hr_35, ↓hr_36, ↓hr_37, ↓hr_39, ↓hr_41, ↓hr_43, ↓hr_45, ↓hr_5, ↓hr_6, ↓hr_8, ↓hr_9, ↓hr_fX3_102, ↓hr_fX3_103, ↓hw_10, ↓hw_11, ↓hw_13, ↓hw_14, ↓hw_15, ↓hw_16, ↓hw_18, ↓hw_19, ↓hw_2, ↓hw_20, ↓hw_21, ↓hw_24, ↓hw_25, ↓hw_26, ↓hw_28, ↓hw_29, ↓hw_3, ↓hw_30, ↓hw_33, ↓hw_34, ↓hw_35, ↓hw_36, ↓hw_37, ↓hw_39, ↓hw_41, ↓hw_43, ↓hw_45, ↓hw_5, ↓hw_6, ↓hw_8, ↓hw_9, ↓reduceIte, zkeep_n, zkeep_i, zkeep_r, zkeep_l, zup_eq, zIR, zLR, List.length_cons, List.length_nil, Nat.reduceAdd, Nat.reduceLeDiff, Nat.reduceEqDiff, Nat.reduceSub, Int.reduceLE, Int.reduceLT, Int.reduceEq, Int.reduceNe, Int.reduceNeg, Int.reduceAdd, Int.reduceSub, Int.reduceMul, Int.reduceToNat, Nat.le_refl, Nat.zero_le, Nat.zero_add, Int.zero_add, Int.add_zero, and_true, true_and, and_false, false_and, not_true_eq_false, not_false_eq_true, eq_self, ne_eq, true_implies, false_implies, implies_true, or_true, true_or, or_false, false_or, reduceCtorEq, Option.some.injEq, Sum.inl.injEq, exists_eq_left', exists_eq_left, zite]
        refine ⟨⟨hq.1, hq4⟩, next _ _ _ (fun j hj => ?_) ?_ ?_ ?_ ?_ ?_ ?_ (fun k i h1 h2 h3 h4 => ?_)⟩
        · subst hN'
          simp only [zup_eq, hj, Nat.reduceEqDiff, and_false, false_and, if_false, and_self]
        · rw [zup_in, if_pos rfl, d1, ha]
        · subst hN'
          rw [zup_ne (by decide), zup_ne (by decide), zup_in, if_pos rfl, d2]
        · subst hN'
          rw [zup_ne (by decide), zup_in, if_pos rfl, d3]
        · subst hN'
          rw [zup_ne (by decide), zup_ne (by decide), zup_ne (by decide), if_neg hsk, Int.add_zero]
        · subst hN'
          rw [zup_ne (by decide), zup_ne (by decide), zup_ne (by decide)]
        · subst hN'
          rw [zup_ne (by decide), zup_ne (by decide), zup_ne (by decide)]
        · subst hN'
          rw [zup_ne h2, zup_ne h4, zup_ne h3]
      have J161 : ∀ (N' : zM) (a : Int), ¬ wsick wa mi v q → N' = zup N 29 q (if mi q < v (4 + q) then mi q else v (4 + q)) → a = (if v (8 + q) < mi q then mi q else v (8 + q)) → uX3_drink R 161 [some (.inr (.inr 27)), some (.inr (.inr 4)), some (.inl cow), some (.inl (cow * 5)), some (.inl (M 27 3 + 2 * wa)), some (.inl (M 27 5)), some (.inl q), some (.inl (mi q)), some (.inl (mi q - v q))] [.inl a, .inl q, .inr (.inr 30)] N' := by
        intro N' a hsk hN' ha
        have f1 : N' 28 q = v q := by rw [hN', zup_ne (by decide)]; exact e1
        have f2 : N' 27 4 = by_ := by rw [hN', zup_ne (by decide)]; exact hbb
        simp only [↓rX3_drink_161, ↓rX3_drink_162, ↓rX3_drink_163, ↓rX3_drink_166, ↓rX3_drink_168, ↓rX3_drink_169, ↓rX3_drink_170, ↓rX3_drink_172, ↓rX3_drink_173, ↓rX3_drink_176, ↓rX3_drink_179, ↓rX3_drink_180, ↓rX3_drink_183, ↓rX3_drink_186, ↓rX3_drink_188, ↓rX3_drink_189, ↓rX3_drink_192, ↓rX3_drink_193, ↓rX3_drink_196, ↓rX3_drink_197, ↓rX3_drink_200, ↓rX3_drink_201, ↓rX3_drink_204, ↓hg_fX3_25_23, ↓hg_fX3_25_27, ↓hg_fX3_9_23, ↓hg_fX3_9_27, ↓hr_10, ↓hr_11, ↓hr_13, ↓hr_14, ↓hr_15, ↓hr_16, ↓hr_18, ↓hr_19, ↓hr_2, ↓hr_20, ↓hr_21, ↓hr_24, ↓hr_25, ↓hr_26, ↓hr_28, ↓hr_29, ↓hr_3, ↓hr_30, ↓hr_33, ↓hr_34, ↓hr_35, ↓hr_36, ↓hr_37, ↓hr_39, ↓hr_41, ↓hr_43, ↓hr_45, ↓hr_5, ↓hr_6, ↓hr_8, ↓hr_9, ↓hr_fX3_102, ↓hr_fX3_103, ↓hw_10, ↓hw_11, ↓hw_13, ↓hw_14, ↓hw_15, ↓hw_16, ↓hw_18, ↓hw_19, ↓hw_2, ↓hw_20, ↓hw_21, ↓hw_24, ↓hw_25, ↓hw_26, ↓hw_28, ↓hw_29, ↓hw_3, ↓hw_30, ↓hw_33, ↓hw_34, ↓hw_35, ↓hw_36, ↓hw_37, ↓hw_39, ↓hw_41, ↓hw_43, ↓hw_45, ↓hw_5, ↓hw_6, ↓hw_8, ↓hw_9, ↓reduceIte, zkeep_n, zkeep_i, zkeep_r, zkeep_l, zup_eq, zIR, zLR, List.length_cons, List.length_nil, Nat.reduceAdd, Nat.reduceLeDiff, Nat.reduceEqDiff, Nat.reduceSub, Int.reduceLE, Int.reduceLT, Int.reduceEq, Int.reduceNe, Int.reduceNeg, Int.reduceAdd, Int.reduceSub, Int.reduceMul, Int.reduceToNat, Nat.le_refl, Nat.zero_le, Nat.zero_add, Int.zero_add, Int.add_zero, and_true, true_and, and_false, false_and, not_true_eq_false, not_false_eq_true, eq_self, ne_eq, true_implies, false_implies, implies_true, or_true, true_or, or_false, false_or, reduceCtorEq, Option.some.injEq, Sum.inl.injEq, exists_eq_left', exists_eq_left, f1, f2, zite]
        repeat' (first | with_reducible apply And.intro | with_reducible intro _)
        all_goals first | omega | (exact J206 _ _ hsk (by rw [hN', ha]) (by unfold wgo; rw [if_pos (by omega)])) | (exact J206 _ _ hsk (by rw [hN', ha]) (by unfold wgo; rw [if_neg (by omega), if_pos (by omega)])) | (exact J206 _ _ hsk (by rw [hN', ha]) (by unfold wgo; rw [if_neg (by omega), if_neg (by omega)]))
      have J130 : ∀ (a : Int), ¬ wsick wa mi v q → a = (if mi q < v (4 + q) then mi q else v (4 + q)) → uX3_drink R 130 [some (.inr (.inr 27)), some (.inr (.inr 4)), some (.inl cow), some (.inl (cow * 5)), some (.inl (M 27 3 + 2 * wa)), some (.inl (M 27 5)), some (.inl q), some (.inl (mi q)), some (.inl (mi q - v q))] [.inl a, .inl q, .inr (.inr 29)] N := by
        intro a hsk ha
        simp only [↓rX3_drink_130, ↓rX3_drink_131, ↓rX3_drink_132, ↓rX3_drink_135, ↓rX3_drink_137, ↓rX3_drink_139, ↓rX3_drink_140, ↓rX3_drink_143, ↓rX3_drink_145, ↓rX3_drink_146, ↓rX3_drink_149, ↓rX3_drink_151, ↓rX3_drink_154, ↓rX3_drink_155, ↓rX3_drink_158, ↓rX3_drink_160, ↓hg_fX3_18_23, ↓hg_fX3_18_27, ↓hr_10, ↓hr_11, ↓hr_13, ↓hr_14, ↓hr_15, ↓hr_16, ↓hr_18, ↓hr_19, ↓hr_2, ↓hr_20, ↓hr_21, ↓hr_24, ↓hr_25, ↓hr_26, ↓hr_28, ↓hr_29, ↓hr_3, ↓hr_30, ↓hr_33, ↓hr_34, ↓hr_35, ↓hr_36, ↓hr_37, ↓hr_39, ↓hr_41, ↓hr_43, ↓hr_45, ↓hr_5, ↓hr_6, ↓hr_8, ↓hr_9, ↓hr_fX3_102, ↓hr_fX3_103, ↓hw_10, ↓hw_11, ↓hw_13, ↓hw_14, ↓hw_15, ↓hw_16, ↓hw_18, ↓hw_19, ↓hw_2, ↓hw_20, ↓hw_21, ↓hw_24, ↓hw_25, ↓hw_26, ↓hw_28, ↓hw_29, ↓hw_3, ↓hw_30, ↓hw_33, ↓hw_34, ↓hw_35, ↓hw_36, ↓hw_37, ↓hw_39, ↓hw_41, ↓hw_43, ↓hw_45, ↓hw_5, ↓hw_6, ↓hw_8, ↓hw_9, ↓reduceIte, zkeep_n, zkeep_i, zkeep_r, zkeep_l, zup_eq, zIR, zLR, List.length_cons, List.length_nil, Nat.reduceAdd, Nat.reduceLeDiff, Nat.reduceEqDiff, Nat.reduceSub, Int.reduceLE, Int.reduceLT, Int.reduceEq, Int.reduceNe, Int.reduceNeg, Int.reduceAdd, Int.reduceSub, Int.reduceMul, Int.reduceToNat, Nat.le_refl, Nat.zero_le, Nat.zero_add, Int.zero_add, Int.add_zero, and_true, true_and, and_false, false_and, not_true_eq_false, not_false_eq_true, eq_self, ne_eq, true_implies, false_implies, implies_true, or_true, true_or, or_false, false_or, reduceCtorEq, Option.some.injEq, Sum.inl.injEq, exists_eq_left', exists_eq_left, e3, zite]
        repeat' (first | with_reducible apply And.intro | with_reducible intro _)
        all_goals first | omega | (exact J161 _ _ hsk (by rw [ha]) (by rw [if_neg (by omega)])) | (exact J161 _ _ hsk (by rw [ha]) (by rw [if_pos (by omega)]))
      simp only [↓rX3_drink_43, ↓rX3_drink_44, ↓rX3_drink_47, ↓rX3_drink_48, ↓rX3_drink_51, ↓rX3_drink_52, ↓rX3_drink_53, ↓rX3_drink_54, ↓rX3_drink_56, ↓rX3_drink_57, ↓rX3_drink_58, ↓rX3_drink_60, ↓rX3_drink_62, ↓rX3_drink_63, ↓rX3_drink_66, ↓rX3_drink_68, ↓rX3_drink_69, ↓rX3_drink_70, ↓rX3_drink_72, ↓rX3_drink_74, ↓rX3_drink_76, ↓rX3_drink_79, ↓rX3_drink_81, ↓rX3_drink_82, ↓rX3_drink_84, ↓rX3_drink_87, ↓rX3_drink_88, ↓rX3_drink_89, ↓rX3_drink_92, ↓rX3_drink_93, ↓rX3_drink_94, ↓rX3_drink_97, ↓rX3_drink_208, ↓rX3_drink_211, ↓rX3_drink_100, ↓rX3_drink_101, ↓rX3_drink_104, ↓rX3_drink_106, ↓rX3_drink_108, ↓rX3_drink_109, ↓rX3_drink_112, ↓rX3_drink_114, ↓rX3_drink_115, ↓rX3_drink_118, ↓rX3_drink_120, ↓rX3_drink_123, ↓rX3_drink_124, ↓rX3_drink_127, ↓rX3_drink_129, ↓hg_fX3_15_23, ↓hg_fX3_15_27, ↓hg_fX3_28_23, ↓hg_fX3_28_27, ↓hg_fX3_31_1, ↓hg_fX3_31_4, ↓hg_fX3_9_23, ↓hg_fX3_9_27, ↓hp_fX3_28_23, ↓hp_fX3_28_27, ↓hr_10, ↓hr_11, ↓hr_13, ↓hr_14, ↓hr_15, ↓hr_16, ↓hr_18, ↓hr_19, ↓hr_2, ↓hr_20, ↓hr_21, ↓hr_24, ↓hr_25, ↓hr_26, ↓hr_28, ↓hr_29, ↓hr_3, ↓hr_30, ↓hr_33, ↓hr_34, ↓hr_35, ↓hr_36, ↓hr_37, ↓hr_39, ↓hr_41, ↓hr_43, ↓hr_45, ↓hr_5, ↓hr_6, ↓hr_8, ↓hr_9, ↓hr_fX3_102, ↓hr_fX3_103, ↓hw_10, ↓hw_11, ↓hw_13, ↓hw_14, ↓hw_15, ↓hw_16, ↓hw_18, ↓hw_19, ↓hw_2, ↓hw_20, ↓hw_21, ↓hw_24, ↓hw_25, ↓hw_26, ↓hw_28, ↓hw_29, ↓hw_3, ↓hw_30, ↓hw_33, ↓hw_34, ↓hw_35, ↓hw_36, ↓hw_37, ↓hw_39, ↓hw_41, ↓hw_43, ↓hw_45, ↓hw_5, ↓hw_6, ↓hw_8, ↓hw_9, ↓reduceIte, zkeep_n, zkeep_i, zkeep_r, zkeep_l, zup_eq, zIR, zLR, List.length_cons, List.length_nil, Nat.reduceAdd, Nat.reduceLeDiff, Nat.reduceEqDiff, Nat.reduceSub, Int.reduceLE, Int.reduceLT, Int.reduceEq, Int.reduceNe, Int.reduceNeg, Int.reduceAdd, Int.reduceSub, Int.reduceMul, Int.reduceToNat, Nat.le_refl, Nat.zero_le, Nat.zero_add, Int.zero_add, Int.add_zero, and_true, true_and, and_false, false_and, not_true_eq_false, not_false_eq_true, eq_self, ne_eq, true_implies, false_implies, implies_true, or_true, true_or, or_false, false_or, reduceCtorEq, Option.some.injEq, Sum.inl.injEq, exists_eq_left', exists_eq_left, hN6, hmi0, hst, hbb, e1, e2, e3, zite]
      repeat' (first | with_reducible apply And.intro | with_reducible intro _)
      all_goals first | omega | (exact sick (by omega) _ _) | (exact J130 _ (by omega) (by rw [if_neg (by omega)])) | (exact J130 _ (by omega) (by rw [if_pos (by omega)]))
  obtain ⟨hPc, hP12, hP13⟩ := hP
  refine L (0, M) ⟨show (0 : Int) ≤ 0 ∧ (0 : Int) ≤ 4 by decide, fun j h1 h2 => ?_, ?_, hP12, hby, fun _ _ _ _ _ _ => rfl⟩ none none
  · have := hPc j h1 h2
    simp only [show ¬ j < 0 by omega, if_false]
    exact this
  · show M 27 5 = v 13 + wbad wa mi v (0 : Int).toNat
    rw [hP13]
    exact (Int.add_zero _).symm
