abbrev qok (S : zM) (k : Nat) (at_ j : Int) : Prop := at_ + j < S 0 k ∧ qfits k j (S (1 + k) (at_ + j))
set_option maxRecDepth 100000 in
set_option maxHeartbeats 8000000 in
theorem s_readsOne0 {S M : zM} {R : zP} {n : Int} (hl : 0 ≤ S 0 0 ∧ S 0 0 ≤ 47) (hb : ∀ i, 0 ≤ i → i < S 0 0 → 0 ≤ S 1 i ∧ S 1 i ≤ 255) (h47 : M 47 0 = S 0 0) (h48 : ∀ i, 0 ≤ i → i < S 0 0 → M 48 (0 + i) = S 1 i) (hn : 0 ≤ n ∧ n < 8) (hat : 6 * n ≤ S 0 0)
    (hR : ∀ (g : Int) M', 0 ≤ g → g ≤ 5 → (∀ j, 0 ≤ j → j < g → 6 * n + j < S 0 0 ∧ qfits 0 j (S 1 (6 * n + j))) → (g < 5 → ¬ (6 * n + g < S 0 0 ∧ qfits 0 g (S 1 (6 * n + g)))) → (∀ k i, k ≠ 49 → k ≠ 50 → M' k i = M k i) → (∀ i, i ≠ n → M' 49 i = M 49 i) → (∀ i, ¬ (4 * n ≤ i ∧ i < 4 * n + 4) → M' 50 i = M 50 i) → (g = 5 → M' 49 n = qlet 0 (S 1 (6 * n)) ∧ ∀ q, 0 ≤ q → q < 4 → M' 50 (4 * n + q) = S 1 (6 * n + 1 + q) - 48) → R (some (.inl g)) M') : tX8_readsOne [.inr (.inr 46), .inl 0, .inl n, .inl (6 * n)] M R := by
  have hB : ∀ i, 0 ≤ i → i < S 0 0 → M 48 (0 + i) = S 1 i ∧ 0 ≤ S 1 i ∧ S 1 i ≤ 255 := fun i a b => ⟨h48 i a b, hb i a b⟩
  have f0 : ∀ b, qfits 0 0 b ↔ 0 ≤ qlet 0 b := fun b => by unfold qfits; rw [if_pos rfl]
  have fj : ∀ j b, 1 ≤ j → j < 5 → (qfits 0 j b ↔ (48 ≤ b ∧ b ≤ 57)) := fun j b h1 h2 => by unfold qfits; rw [if_neg (by omega), if_pos h2]
  have hql : ∀ b, -1 ≤ qlet 0 b ∧ qlet 0 b ≤ 2 := fun b => by unfold qlet; (repeat' split) <;> omega
  have bad : ∀ (g kd x6 : Int), 0 ≤ g → g < 5 → (∀ j, 0 ≤ j → j < g → 6 * n + j < S 0 0 ∧ qfits 0 j (S 1 (6 * n + j))) → ¬ (6 * n + g < S 0 0 ∧ qfits 0 g (S 1 (6 * n + g))) → uX8_readsOne R 68 [some (.inr (.inr 46)), some (.inl 0), some (.inl n), some (.inl (6 * n)), some (.inl kd), some (.inl g), none, none] [] M := fun g kd x6 g0 g1 g2 g3 => by
    have fin := hR g M g0 (by omega) g2 (fun _ => g3) (fun _ _ _ _ => rfl) (fun _ _ => rfl) (fun _ _ => rfl) (fun q => by omega)
    simp only [↓rX8_readsOne_68, ↓rX8_readsOne_69, ↓rX8_readsOne_71, ↓rX8_readsOne_73, ↓rX8_readsOne_74, ↓rX8_readsOne_77, ↓rX8_readsOne_79, ↓rX8_readsOne_80, ↓rX8_readsOne_154, ↓rX8_readsOne_156, ↓reduceIte, zkeep_n, zkeep_i, zkeep_r, zkeep_l, zup_eq, zIR, zLR, List.length_cons, List.length_nil, Nat.reduceAdd, Nat.reduceLeDiff, Nat.reduceEqDiff, Nat.reduceSub, Int.reduceLE, Int.reduceLT, Int.reduceEq, Int.reduceNe, Int.reduceNeg, Int.reduceAdd, Int.reduceSub, Int.reduceMul, Int.reduceToNat, Nat.le_refl, Nat.zero_le, Nat.zero_add, Int.zero_add, Int.add_zero, and_true, true_and, and_false, false_and, not_true_eq_false, not_false_eq_true, eq_self, ne_eq, true_implies, false_implies, implies_true, or_true, true_or, or_false, false_or, reduceCtorEq, Option.some.injEq, Sum.inl.injEq, exists_eq_left', exists_eq_left, zite]
    repeat' (first | with_reducible apply And.intro | with_reducible intro _)
    all_goals first | omega | (exact fin)
  have good : (∀ j, 0 ≤ j → j < 5 → 6 * n + j < S 0 0 ∧ qfits 0 j (S 1 (6 * n + j))) → uX8_readsOne R 68 [some (.inr (.inr 46)), some (.inl 0), some (.inl n), some (.inl (6 * n)), some (.inl (qlet 0 (S 1 (6 * n)))), some (.inl 5), none, none] [] M := fun g2 => by
    have q1 := g2 1 (by decide) (by decide)
    have q2 := g2 2 (by decide) (by decide)
    have q3 := g2 3 (by decide) (by decide)
    have q4 := g2 4 (by decide) (by decide)
    have c1 : ¬ S 0 0 ≤ 6 * n + 1 := by omega
    have c2 : ¬ S 0 0 ≤ 6 * n + 1 + 1 := by omega
    have c3 : ¬ S 0 0 ≤ 6 * n + 1 + 2 := by omega
    have c4 : ¬ S 0 0 ≤ 6 * n + 1 + 3 := by omega
    have b1 := (hB (6 * n + 1) (by omega) (by omega)).1
    have b2 := (hB (6 * n + 1 + 1) (by omega) (by omega)).1
    have b3 := (hB (6 * n + 1 + 2) (by omega) (by omega)).1
    have b4 := (hB (6 * n + 1 + 3) (by omega) (by omega)).1
    try simp only [Int.zero_add] at b1 b2 b3 b4
    have fin := hR 5 (zup (zup (zup (zup (zup (zup (zup (zup M 50 (4 * n) (S 1 (6 * n + 1) - 48)) 49 n (qlet 0 (S 1 (6 * n)))) 50 (4 * n + 1) (S 1 (6 * n + 1 + 1) - 48)) 49 n (qlet 0 (S 1 (6 * n)))) 50 (4 * n + 2) (S 1 (6 * n + 1 + 2) - 48)) 49 n (qlet 0 (S 1 (6 * n)))) 50 (4 * n + 3) (S 1 (6 * n + 1 + 3) - 48)) 49 n (qlet 0 (S 1 (6 * n)))) (by decide) (by decide) g2 (fun q => by omega) (fun k i h1 h2 => by simp only [zup_ne h1, zup_ne h2]) (fun i hi => by simp only [zup_eq, Nat.reduceEqDiff, false_and, true_and, if_false, hi]) (fun i hi => by
      simp only [zup_eq, Nat.reduceEqDiff, false_and, true_and, if_false]
      rw [if_neg (by omega), if_neg (by omega), if_neg (by omega), if_neg (by omega)]) (fun _ => ⟨by simp [zup_eq], fun q a b => by
      have e : q = 0 ∨ q = 1 ∨ q = 2 ∨ q = 3 := by omega
      simp only [zup_eq, Nat.reduceEqDiff, false_and, true_and, if_false]
      rcases e with rfl | rfl | rfl | rfl
      · rw [if_neg (by omega), if_neg (by omega), if_neg (by omega), if_pos (by omega), Int.add_zero]
      · rw [if_neg (by omega), if_neg (by omega), if_pos (by omega)]
      · rw [if_neg (by omega), if_pos (by omega)]
      · rw [if_pos (by omega)]⟩)
    simp only [↓rX8_readsOne_68, ↓rX8_readsOne_69, ↓rX8_readsOne_71, ↓rX8_readsOne_73, ↓rX8_readsOne_74, ↓rX8_readsOne_77, ↓rX8_readsOne_79, ↓rX8_readsOne_80, ↓rX8_readsOne_83, ↓rX8_readsOne_84, ↓rX8_readsOne_85, ↓rX8_readsOne_86, ↓rX8_readsOne_87, ↓rX8_readsOne_88, ↓rX8_readsOne_90, ↓rX8_readsOne_91, ↓rX8_readsOne_94, ↓rX8_readsOne_96, ↓rX8_readsOne_97, ↓rX8_readsOne_99, ↓rX8_readsOne_100, ↓rX8_readsOne_103, ↓rX8_readsOne_104, ↓rX8_readsOne_107, ↓rX8_readsOne_108, ↓rX8_readsOne_109, ↓rX8_readsOne_110, ↓rX8_readsOne_112, ↓rX8_readsOne_113, ↓rX8_readsOne_115, ↓rX8_readsOne_116, ↓rX8_readsOne_117, ↓rX8_readsOne_120, ↓rX8_readsOne_121, ↓rX8_readsOne_123, ↓rX8_readsOne_124, ↓rX8_readsOne_148, ↓rX8_readsOne_151, ↓rX8_readsOne_127, ↓rX8_readsOne_128, ↓rX8_readsOne_131, ↓rX8_readsOne_132, ↓rX8_readsOne_133, ↓rX8_readsOne_134, ↓rX8_readsOne_136, ↓rX8_readsOne_137, ↓rX8_readsOne_139, ↓rX8_readsOne_140, ↓rX8_readsOne_141, ↓rX8_readsOne_144, ↓rX8_readsOne_145, ↓rX8_readsOne_147, ↓rX8_readsOne_154, ↓rX8_readsOne_156, ↓hg_fX8_16_46, ↓hg_fX8_19_46, ↓hg_fX8_22_46, ↓hg_fX8_25_46, ↓hr_47, ↓hr_48, ↓hr_49, ↓hr_50, ↓hr_51, ↓hr_52, ↓hr_53, ↓hr_54, ↓hr_55, ↓hr_56, ↓hr_57, ↓hr_58, ↓hr_59, ↓hr_60, ↓hr_61, ↓hr_62, ↓hr_63, ↓hr_64, ↓hr_65, ↓hr_66, ↓hr_67, ↓hr_68, ↓hr_69, ↓hr_70, ↓hr_71, ↓hr_72, ↓hr_73, ↓hr_74, ↓hr_75, ↓hr_76, ↓hr_77, ↓hr_78, ↓hr_79, ↓hw_47, ↓hw_48, ↓hw_49, ↓hw_50, ↓hw_51, ↓hw_52, ↓hw_53, ↓hw_54, ↓hw_55, ↓hw_56, ↓hw_57, ↓hw_58, ↓hw_59, ↓hw_60, ↓hw_61, ↓hw_62, ↓hw_63, ↓hw_64, ↓hw_65, ↓hw_66, ↓hw_67, ↓hw_68, ↓hw_69, ↓hw_70, ↓hw_71, ↓hw_72, ↓hw_73, ↓hw_74, ↓hw_75, ↓hw_76, ↓hw_77, ↓hw_78, ↓hw_79, ↓reduceIte, ↓i_byteAt0, zkeep_n, zkeep_i, zkeep_r, zkeep_l, zIR, zLR, List.length_cons, List.length_nil, Nat.reduceAdd, Nat.reduceLeDiff, Nat.reduceEqDiff, Nat.reduceSub, Int.reduceLE, Int.reduceLT, Int.reduceEq, Int.reduceNe, Int.reduceNeg, Int.reduceAdd, Int.reduceSub, Int.reduceMul, Int.reduceToNat, Nat.le_refl, Nat.zero_le, Nat.zero_add, Int.zero_add, Int.add_zero, and_true, true_and, and_false, false_and, not_true_eq_false, not_false_eq_true, eq_self, ne_eq, true_implies, false_implies, implies_true, or_true, true_or, or_false, false_or, reduceCtorEq, Option.some.injEq, Sum.inl.injEq, exists_eq_left', exists_eq_left, h47, c1, c2, c3, c4, b1, b2, b3, b4, zup_ne, zite]
    repeat' (first | with_reducible apply And.intro | with_reducible intro _)
    all_goals first | omega | (exact fin)
  have W : ∀ g : Int, (1 ≤ g ∧ g ≤ 5 ∧ (∀ j, 0 ≤ j → j < g → 6 * n + j < S 0 0 ∧ qfits 0 j (S 1 (6 * n + j)))) → uX8_readsOne R 32 [some (.inr (.inr 46)), some (.inl 0), some (.inl n), some (.inl (6 * n)), some (.inl (qlet 0 (S 1 (6 * n)))), some (.inl g), none, none] [] M := by
    refine zind (fun g => (5 - g).toNat) ?_
    rintro g ⟨g0, g1, g2⟩ ih
    refine rX8_readsOne_32.mpr ?_
    by_cases he : g = 5
    · subst he
      have fin := good g2
      simp only [↓rX8_readsOne_34, ↓rX8_readsOne_37, ↓rX8_readsOne_39, ↓rX8_readsOne_40, ↓reduceIte, zkeep_n, zkeep_i, zkeep_r, zkeep_l, zup_eq, zIR, zLR, List.length_cons, List.length_nil, Nat.reduceAdd, Nat.reduceLeDiff, Nat.reduceEqDiff, Nat.reduceSub, Int.reduceLE, Int.reduceLT, Int.reduceEq, Int.reduceNe, Int.reduceNeg, Int.reduceAdd, Int.reduceSub, Int.reduceMul, Int.reduceToNat, Nat.le_refl, Nat.zero_le, Nat.zero_add, Int.zero_add, Int.add_zero, and_true, true_and, and_false, false_and, not_true_eq_false, not_false_eq_true, eq_self, ne_eq, true_implies, false_implies, implies_true, or_true, true_or, or_false, false_or, reduceCtorEq, Option.some.injEq, Sum.inl.injEq, exists_eq_left', exists_eq_left, zite]
      repeat' (first | with_reducible apply And.intro | with_reducible intro _)
      all_goals first | omega | (exact fin)
    · have bad := fun q => bad g (qlet 0 (S 1 (6 * n))) 0 (by omega) (by omega) g2 q
      by_cases c : 6 * n + g < S 0 0
      · have c' : ¬ S 0 0 ≤ 6 * n + g := by omega
        have bb := hB (6 * n + g) (by omega) c
        have b1 := bb.1
        try simp only [Int.zero_add] at b1
        have fg := fj g (S 1 (6 * n + g)) (by omega) (by omega)
        have nx : (48 ≤ S 1 (6 * n + g) ∧ S 1 (6 * n + g) ≤ 57) → uX8_readsOne R 32 [some (.inr (.inr 46)), some (.inl 0), some (.inl n), some (.inl (6 * n)), some (.inl (qlet 0 (S 1 (6 * n)))), some (.inl (g + 1)), none, none] [] M := fun q => by
          refine ih (g + 1) ⟨by omega, by omega, fun j j0 j1 => ?_⟩ (by omega)
          by_cases ej : j = g
          · rw [ej]; exact ⟨c, fg.mpr q⟩
          · exact g2 j j0 (by omega)
        have no : ¬ (48 ≤ S 1 (6 * n + g) ∧ S 1 (6 * n + g) ≤ 57) → uX8_readsOne R 68 [some (.inr (.inr 46)), some (.inl 0), some (.inl n), some (.inl (6 * n)), some (.inl (qlet 0 (S 1 (6 * n)))), some (.inl g), none, none] [] M := fun q => bad (fun z => q (fg.mp z.2))
        simp only [↓rX8_readsOne_34, ↓rX8_readsOne_37, ↓rX8_readsOne_39, ↓rX8_readsOne_40, ↓rX8_readsOne_43, ↓rX8_readsOne_44, ↓rX8_readsOne_45, ↓rX8_readsOne_46, ↓rX8_readsOne_48, ↓rX8_readsOne_49, ↓rX8_readsOne_52, ↓rX8_readsOne_54, ↓rX8_readsOne_56, ↓rX8_readsOne_59, ↓rX8_readsOne_62, ↓rX8_readsOne_65, ↓i_in, ↓reduceIte, ↓i_byteAt0, zkeep_n, zkeep_i, zkeep_r, zkeep_l, zup_eq, zIR, zLR, List.length_cons, List.length_nil, Nat.reduceAdd, Nat.reduceLeDiff, Nat.reduceEqDiff, Nat.reduceSub, Int.reduceLE, Int.reduceLT, Int.reduceEq, Int.reduceNe, Int.reduceNeg, Int.reduceAdd, Int.reduceSub, Int.reduceMul, Int.reduceToNat, Nat.le_refl, Nat.zero_le, Nat.zero_add, Int.zero_add, Int.add_zero, and_true, true_and, and_false, false_and, not_true_eq_false, not_false_eq_true, eq_self, ne_eq, true_implies, false_implies, implies_true, or_true, true_or, or_false, false_or, reduceCtorEq, Option.some.injEq, Sum.inl.injEq, exists_eq_left', exists_eq_left, h47, c', b1, zite]
        repeat' (first | with_reducible apply And.intro | with_reducible intro _)
        all_goals first | omega | (exact nx (by omega)) | (exact no (by omega))
      · have c' : S 0 0 ≤ 6 * n + g := by omega
        have no := bad (fun z => c z.1)
        simp only [↓rX8_readsOne_34, ↓rX8_readsOne_37, ↓rX8_readsOne_39, ↓rX8_readsOne_40, ↓rX8_readsOne_43, ↓rX8_readsOne_44, ↓rX8_readsOne_45, ↓rX8_readsOne_46, ↓rX8_readsOne_48, ↓rX8_readsOne_49, ↓rX8_readsOne_52, ↓rX8_readsOne_54, ↓rX8_readsOne_56, ↓rX8_readsOne_59, ↓rX8_readsOne_62, ↓rX8_readsOne_65, ↓i_in, ↓reduceIte, ↓i_byteAt0, zkeep_n, zkeep_i, zkeep_r, zkeep_l, zup_eq, zIR, zLR, List.length_cons, List.length_nil, Nat.reduceAdd, Nat.reduceLeDiff, Nat.reduceEqDiff, Nat.reduceSub, Int.reduceLE, Int.reduceLT, Int.reduceEq, Int.reduceNe, Int.reduceNeg, Int.reduceAdd, Int.reduceSub, Int.reduceMul, Int.reduceToNat, Nat.le_refl, Nat.zero_le, Nat.zero_add, Int.zero_add, Int.add_zero, and_true, true_and, and_false, false_and, not_true_eq_false, not_false_eq_true, eq_self, ne_eq, true_implies, false_implies, implies_true, or_true, true_or, or_false, false_or, reduceCtorEq, Option.some.injEq, Sum.inl.injEq, exists_eq_left', exists_eq_left, h47, c', zite]
        repeat' (first | with_reducible apply And.intro | with_reducible intro _)
        all_goals first | omega | (exact no)
  by_cases c : 6 * n < S 0 0
  · have c' : ¬ S 0 0 ≤ 6 * n := by omega
    have bb := hB (6 * n) (by omega) c
    have b1 := bb.1
    try simp only [Int.zero_add] at b1
    have ik := fun f => i_kindOf0 (b := S 1 (6 * n)) (M := M) (f := f) (zsm (by omega))
    have hq := hql (S 1 (6 * n))
    have f00 := f0 (S 1 (6 * n))
    have st : ¬ qlet 0 (S 1 (6 * n)) = -1 → uX8_readsOne R 32 [some (.inr (.inr 46)), some (.inl 0), some (.inl n), some (.inl (6 * n)), some (.inl (qlet 0 (S 1 (6 * n)))), some (.inl 1), none, none] [] M := fun q => W 1 ⟨by decide, by decide, fun j j0 j1 => by
      have : j = 0 := by omega
      subst this
      rw [Int.add_zero]
      exact ⟨c, f00.mpr (by omega)⟩⟩
    have no : qlet 0 (S 1 (6 * n)) = -1 → ∀ kd, uX8_readsOne R 68 [some (.inr (.inr 46)), some (.inl 0), some (.inl n), some (.inl (6 * n)), some (.inl kd), some (.inl 0), none, none] [] M := fun q kd => bad 0 kd 0 (by decide) (by decide) (fun j a b => by omega) (fun z => by
      rw [Int.add_zero] at z
      have := f00.mp z.2
      omega)
    have zero : qlet 0 (S 1 (6 * n)) = -1 → uX8_readsOne R 32 [some (.inr (.inr 46)), some (.inl 0), some (.inl n), some (.inl (6 * n)), some (.inl (qlet 0 (S 1 (6 * n)))), some (.inl 0), none, none] [] M := fun q => by
      have no := no q (qlet 0 (S 1 (6 * n)))
      refine rX8_readsOne_32.mpr ?_
      simp only [↓rX8_readsOne_34, ↓reduceIte, zkeep_n, zkeep_i, zkeep_r, zkeep_l, zup_eq, zIR, zLR, List.length_cons, List.length_nil, Nat.reduceAdd, Nat.reduceLeDiff, Nat.reduceEqDiff, Nat.reduceSub, Int.reduceLE, Int.reduceLT, Int.reduceEq, Int.reduceNe, Int.reduceNeg, Int.reduceAdd, Int.reduceSub, Int.reduceMul, Int.reduceToNat, Nat.le_refl, Nat.zero_le, Nat.zero_add, Int.zero_add, Int.add_zero, and_true, true_and, and_false, false_and, not_true_eq_false, not_false_eq_true, eq_self, ne_eq, true_implies, false_implies, implies_true, or_true, true_or, or_false, false_or, reduceCtorEq, Option.some.injEq, Sum.inl.injEq, exists_eq_left', exists_eq_left, zite]
      repeat' (first | with_reducible apply And.intro | with_reducible intro _)
      all_goals first | omega | (exact no)
    simp only [↓eX8_readsOne, ↓rX8_readsOne_0, ↓rX8_readsOne_1, ↓rX8_readsOne_2, ↓rX8_readsOne_3, ↓rX8_readsOne_4, ↓rX8_readsOne_5, ↓rX8_readsOne_8, ↓rX8_readsOne_11, ↓rX8_readsOne_13, ↓rX8_readsOne_14, ↓rX8_readsOne_16, ↓rX8_readsOne_19, ↓rX8_readsOne_21, ↓rX8_readsOne_22, ↓rX8_readsOne_25, ↓rX8_readsOne_26, ↓rX8_readsOne_30, ↓rX8_readsOne_29, ↓reduceIte, ↓i_byteAt0, ↓ik, zkeep_n, zkeep_i, zkeep_r, zkeep_l, zup_eq, zIR, zLR, List.length_cons, List.length_nil, Nat.reduceAdd, Nat.reduceLeDiff, Nat.reduceEqDiff, Nat.reduceSub, Int.reduceLE, Int.reduceLT, Int.reduceEq, Int.reduceNe, Int.reduceNeg, Int.reduceAdd, Int.reduceSub, Int.reduceMul, Int.reduceToNat, Nat.le_refl, Nat.zero_le, Nat.zero_add, Int.zero_add, Int.add_zero, and_true, true_and, and_false, false_and, not_true_eq_false, not_false_eq_true, eq_self, ne_eq, true_implies, false_implies, implies_true, or_true, true_or, or_false, false_or, reduceCtorEq, Option.some.injEq, Sum.inl.injEq, exists_eq_left', exists_eq_left, h47, c', b1, zite]
    repeat' (first | with_reducible apply And.intro | with_reducible intro _)
    all_goals first | omega | (exact st (by omega)) | (exact zero (by omega))
  · have c' : S 0 0 ≤ 6 * n := by omega
    have ik := fun f => i_kindOf0 (b := -1) (M := M) (f := f) (zsm (by decide))
    have eq1 : qlet 0 (-1) = -1 := by decide
    rw [eq1] at ik
    have no := bad 0 (-1) 0 (by decide) (by decide) (fun j a b => by omega) (fun z => by omega)
    simp only [↓eX8_readsOne, ↓rX8_readsOne_0, ↓rX8_readsOne_1, ↓rX8_readsOne_2, ↓rX8_readsOne_3, ↓rX8_readsOne_4, ↓rX8_readsOne_5, ↓rX8_readsOne_8, ↓rX8_readsOne_11, ↓rX8_readsOne_13, ↓rX8_readsOne_14, ↓rX8_readsOne_16, ↓rX8_readsOne_19, ↓rX8_readsOne_21, ↓rX8_readsOne_22, ↓rX8_readsOne_25, ↓rX8_readsOne_26, ↓rX8_readsOne_30, ↓rX8_readsOne_32, ↓rX8_readsOne_34, ↓rX8_readsOne_29, ↓reduceIte, ↓i_byteAt0, ↓ik, zkeep_n, zkeep_i, zkeep_r, zkeep_l, zup_eq, zIR, zLR, List.length_cons, List.length_nil, Nat.reduceAdd, Nat.reduceLeDiff, Nat.reduceEqDiff, Nat.reduceSub, Int.reduceLE, Int.reduceLT, Int.reduceEq, Int.reduceNe, Int.reduceNeg, Int.reduceAdd, Int.reduceSub, Int.reduceMul, Int.reduceToNat, Nat.le_refl, Nat.zero_le, Nat.zero_add, Int.zero_add, Int.add_zero, and_true, true_and, and_false, false_and, not_true_eq_false, not_false_eq_true, eq_self, ne_eq, true_implies, false_implies, implies_true, or_true, true_or, or_false, false_or, reduceCtorEq, Option.some.injEq, Sum.inl.injEq, exists_eq_left', exists_eq_left, h47, c', zite]
    repeat' (first | with_reducible apply And.intro | with_reducible intro _)
    all_goals first | omega | (exact no)
set_option maxRecDepth 100000 in
set_option maxHeartbeats 8000000 in
theorem s_readsOne1 {S M : zM} {R : zP} {n : Int} (hl : 0 ≤ S 0 1 ∧ S 0 1 ≤ 47) (hb : ∀ i, 0 ≤ i → i < S 0 1 → 0 ≤ S 2 i ∧ S 2 i ≤ 255) (h47 : M 47 1 = S 0 1) (h48 : ∀ i, 0 ≤ i → i < S 0 1 → M 48 (47 + i) = S 2 i) (hn : 0 ≤ n ∧ n < 8) (hat : 6 * n ≤ S 0 1)
    (hR : ∀ (g : Int) M', 0 ≤ g → g ≤ 5 → (∀ j, 0 ≤ j → j < g → 6 * n + j < S 0 1 ∧ qfits 1 j (S 2 (6 * n + j))) → (g < 5 → ¬ (6 * n + g < S 0 1 ∧ qfits 1 g (S 2 (6 * n + g)))) → (∀ k i, k ≠ 51 → k ≠ 52 → M' k i = M k i) → (∀ i, i ≠ n → M' 51 i = M 51 i) → (∀ i, ¬ (4 * n ≤ i ∧ i < 4 * n + 4) → M' 52 i = M 52 i) → (g = 5 → M' 51 n = qlet 1 (S 2 (6 * n)) ∧ ∀ q, 0 ≤ q → q < 4 → M' 52 (4 * n + q) = S 2 (6 * n + 1 + q) - 48) → R (some (.inl g)) M') : tX8_readsOne [.inr (.inr 46), .inl 1, .inl n, .inl (6 * n)] M R := by
  have hB : ∀ i, 0 ≤ i → i < S 0 1 → M 48 (47 + i) = S 2 i ∧ 0 ≤ S 2 i ∧ S 2 i ≤ 255 := fun i a b => ⟨h48 i a b, hb i a b⟩
  have f0 : ∀ b, qfits 1 0 b ↔ 0 ≤ qlet 1 b := fun b => by unfold qfits; rw [if_pos rfl]
  have fj : ∀ j b, 1 ≤ j → j < 5 → (qfits 1 j b ↔ (48 ≤ b ∧ b ≤ 57)) := fun j b h1 h2 => by unfold qfits; rw [if_neg (by omega), if_pos h2]
  have hql : ∀ b, -1 ≤ qlet 1 b ∧ qlet 1 b ≤ 2 := fun b => by unfold qlet; (repeat' split) <;> omega
  have bad : ∀ (g kd x6 : Int), 0 ≤ g → g < 5 → (∀ j, 0 ≤ j → j < g → 6 * n + j < S 0 1 ∧ qfits 1 j (S 2 (6 * n + j))) → ¬ (6 * n + g < S 0 1 ∧ qfits 1 g (S 2 (6 * n + g))) → uX8_readsOne R 68 [some (.inr (.inr 46)), some (.inl 1), some (.inl n), some (.inl (6 * n)), some (.inl kd), some (.inl g), none, none] [] M := fun g kd x6 g0 g1 g2 g3 => by
    have fin := hR g M g0 (by omega) g2 (fun _ => g3) (fun _ _ _ _ => rfl) (fun _ _ => rfl) (fun _ _ => rfl) (fun q => by omega)
    simp only [↓rX8_readsOne_68, ↓rX8_readsOne_69, ↓rX8_readsOne_71, ↓rX8_readsOne_73, ↓rX8_readsOne_74, ↓rX8_readsOne_77, ↓rX8_readsOne_79, ↓rX8_readsOne_80, ↓rX8_readsOne_154, ↓rX8_readsOne_156, ↓reduceIte, zkeep_n, zkeep_i, zkeep_r, zkeep_l, zup_eq, zIR, zLR, List.length_cons, List.length_nil, Nat.reduceAdd, Nat.reduceLeDiff, Nat.reduceEqDiff, Nat.reduceSub, Int.reduceLE, Int.reduceLT, Int.reduceEq, Int.reduceNe, Int.reduceNeg, Int.reduceAdd, Int.reduceSub, Int.reduceMul, Int.reduceToNat, Nat.le_refl, Nat.zero_le, Nat.zero_add, Int.zero_add, Int.add_zero, and_true, true_and, and_false, false_and, not_true_eq_false, not_false_eq_true, eq_self, ne_eq, true_implies, false_implies, implies_true, or_true, true_or, or_false, false_or, reduceCtorEq, Option.some.injEq, Sum.inl.injEq, exists_eq_left', exists_eq_left, zite]
    repeat' (first | with_reducible apply And.intro | with_reducible intro _)
    all_goals first | omega | (exact fin)
  have good : (∀ j, 0 ≤ j → j < 5 → 6 * n + j < S 0 1 ∧ qfits 1 j (S 2 (6 * n + j))) → uX8_readsOne R 68 [some (.inr (.inr 46)), some (.inl 1), some (.inl n), some (.inl (6 * n)), some (.inl (qlet 1 (S 2 (6 * n)))), some (.inl 5), none, none] [] M := fun g2 => by
    have q1 := g2 1 (by decide) (by decide)
    have q2 := g2 2 (by decide) (by decide)
    have q3 := g2 3 (by decide) (by decide)
    have q4 := g2 4 (by decide) (by decide)
    have c1 : ¬ S 0 1 ≤ 6 * n + 1 := by omega
    have c2 : ¬ S 0 1 ≤ 6 * n + 1 + 1 := by omega
    have c3 : ¬ S 0 1 ≤ 6 * n + 1 + 2 := by omega
    have c4 : ¬ S 0 1 ≤ 6 * n + 1 + 3 := by omega
    have b1 := (hB (6 * n + 1) (by omega) (by omega)).1
    have b2 := (hB (6 * n + 1 + 1) (by omega) (by omega)).1
    have b3 := (hB (6 * n + 1 + 2) (by omega) (by omega)).1
    have b4 := (hB (6 * n + 1 + 3) (by omega) (by omega)).1
    try simp only [Int.zero_add] at b1 b2 b3 b4
    have fin := hR 5 (zup (zup (zup (zup (zup (zup (zup (zup M 52 (4 * n) (S 2 (6 * n + 1) - 48)) 51 n (qlet 1 (S 2 (6 * n)))) 52 (4 * n + 1) (S 2 (6 * n + 1 + 1) - 48)) 51 n (qlet 1 (S 2 (6 * n)))) 52 (4 * n + 2) (S 2 (6 * n + 1 + 2) - 48)) 51 n (qlet 1 (S 2 (6 * n)))) 52 (4 * n + 3) (S 2 (6 * n + 1 + 3) - 48)) 51 n (qlet 1 (S 2 (6 * n)))) (by decide) (by decide) g2 (fun q => by omega) (fun k i h1 h2 => by simp only [zup_ne h1, zup_ne h2]) (fun i hi => by simp only [zup_eq, Nat.reduceEqDiff, false_and, true_and, if_false, hi]) (fun i hi => by
      simp only [zup_eq, Nat.reduceEqDiff, false_and, true_and, if_false]
      rw [if_neg (by omega), if_neg (by omega), if_neg (by omega), if_neg (by omega)]) (fun _ => ⟨by simp [zup_eq], fun q a b => by
      have e : q = 0 ∨ q = 1 ∨ q = 2 ∨ q = 3 := by omega
      simp only [zup_eq, Nat.reduceEqDiff, false_and, true_and, if_false]
      rcases e with rfl | rfl | rfl | rfl
      · rw [if_neg (by omega), if_neg (by omega), if_neg (by omega), if_pos (by omega), Int.add_zero]
      · rw [if_neg (by omega), if_neg (by omega), if_pos (by omega)]
      · rw [if_neg (by omega), if_pos (by omega)]
      · rw [if_pos (by omega)]⟩)
    simp only [↓rX8_readsOne_68, ↓rX8_readsOne_69, ↓rX8_readsOne_71, ↓rX8_readsOne_73, ↓rX8_readsOne_74, ↓rX8_readsOne_77, ↓rX8_readsOne_79, ↓rX8_readsOne_80, ↓rX8_readsOne_83, ↓rX8_readsOne_84, ↓rX8_readsOne_85, ↓rX8_readsOne_86, ↓rX8_readsOne_87, ↓rX8_readsOne_88, ↓rX8_readsOne_90, ↓rX8_readsOne_91, ↓rX8_readsOne_94, ↓rX8_readsOne_96, ↓rX8_readsOne_97, ↓rX8_readsOne_99, ↓rX8_readsOne_100, ↓rX8_readsOne_103, ↓rX8_readsOne_104, ↓rX8_readsOne_107, ↓rX8_readsOne_108, ↓rX8_readsOne_109, ↓rX8_readsOne_110, ↓rX8_readsOne_112, ↓rX8_readsOne_113, ↓rX8_readsOne_115, ↓rX8_readsOne_116, ↓rX8_readsOne_117, ↓rX8_readsOne_120, ↓rX8_readsOne_121, ↓rX8_readsOne_123, ↓rX8_readsOne_124, ↓rX8_readsOne_148, ↓rX8_readsOne_151, ↓rX8_readsOne_127, ↓rX8_readsOne_128, ↓rX8_readsOne_131, ↓rX8_readsOne_132, ↓rX8_readsOne_133, ↓rX8_readsOne_134, ↓rX8_readsOne_136, ↓rX8_readsOne_137, ↓rX8_readsOne_139, ↓rX8_readsOne_140, ↓rX8_readsOne_141, ↓rX8_readsOne_144, ↓rX8_readsOne_145, ↓rX8_readsOne_147, ↓rX8_readsOne_154, ↓rX8_readsOne_156, ↓hg_fX8_16_46, ↓hg_fX8_19_46, ↓hg_fX8_22_46, ↓hg_fX8_25_46, ↓hr_47, ↓hr_48, ↓hr_49, ↓hr_50, ↓hr_51, ↓hr_52, ↓hr_53, ↓hr_54, ↓hr_55, ↓hr_56, ↓hr_57, ↓hr_58, ↓hr_59, ↓hr_60, ↓hr_61, ↓hr_62, ↓hr_63, ↓hr_64, ↓hr_65, ↓hr_66, ↓hr_67, ↓hr_68, ↓hr_69, ↓hr_70, ↓hr_71, ↓hr_72, ↓hr_73, ↓hr_74, ↓hr_75, ↓hr_76, ↓hr_77, ↓hr_78, ↓hr_79, ↓hw_47, ↓hw_48, ↓hw_49, ↓hw_50, ↓hw_51, ↓hw_52, ↓hw_53, ↓hw_54, ↓hw_55, ↓hw_56, ↓hw_57, ↓hw_58, ↓hw_59, ↓hw_60, ↓hw_61, ↓hw_62, ↓hw_63, ↓hw_64, ↓hw_65, ↓hw_66, ↓hw_67, ↓hw_68, ↓hw_69, ↓hw_70, ↓hw_71, ↓hw_72, ↓hw_73, ↓hw_74, ↓hw_75, ↓hw_76, ↓hw_77, ↓hw_78, ↓hw_79, ↓reduceIte, ↓i_byteAt1, zkeep_n, zkeep_i, zkeep_r, zkeep_l, zIR, zLR, List.length_cons, List.length_nil, Nat.reduceAdd, Nat.reduceLeDiff, Nat.reduceEqDiff, Nat.reduceSub, Int.reduceLE, Int.reduceLT, Int.reduceEq, Int.reduceNe, Int.reduceNeg, Int.reduceAdd, Int.reduceSub, Int.reduceMul, Int.reduceToNat, Nat.le_refl, Nat.zero_le, Nat.zero_add, Int.zero_add, Int.add_zero, and_true, true_and, and_false, false_and, not_true_eq_false, not_false_eq_true, eq_self, ne_eq, true_implies, false_implies, implies_true, or_true, true_or, or_false, false_or, reduceCtorEq, Option.some.injEq, Sum.inl.injEq, exists_eq_left', exists_eq_left, h47, c1, c2, c3, c4, b1, b2, b3, b4, zup_ne, zite]
    repeat' (first | with_reducible apply And.intro | with_reducible intro _)
    all_goals first | omega | (exact fin)
  have W : ∀ g : Int, (1 ≤ g ∧ g ≤ 5 ∧ (∀ j, 0 ≤ j → j < g → 6 * n + j < S 0 1 ∧ qfits 1 j (S 2 (6 * n + j)))) → uX8_readsOne R 32 [some (.inr (.inr 46)), some (.inl 1), some (.inl n), some (.inl (6 * n)), some (.inl (qlet 1 (S 2 (6 * n)))), some (.inl g), none, none] [] M := by
    refine zind (fun g => (5 - g).toNat) ?_
    rintro g ⟨g0, g1, g2⟩ ih
    refine rX8_readsOne_32.mpr ?_
    by_cases he : g = 5
    · subst he
      have fin := good g2
      simp only [↓rX8_readsOne_34, ↓rX8_readsOne_37, ↓rX8_readsOne_39, ↓rX8_readsOne_40, ↓reduceIte, zkeep_n, zkeep_i, zkeep_r, zkeep_l, zup_eq, zIR, zLR, List.length_cons, List.length_nil, Nat.reduceAdd, Nat.reduceLeDiff, Nat.reduceEqDiff, Nat.reduceSub, Int.reduceLE, Int.reduceLT, Int.reduceEq, Int.reduceNe, Int.reduceNeg, Int.reduceAdd, Int.reduceSub, Int.reduceMul, Int.reduceToNat, Nat.le_refl, Nat.zero_le, Nat.zero_add, Int.zero_add, Int.add_zero, and_true, true_and, and_false, false_and, not_true_eq_false, not_false_eq_true, eq_self, ne_eq, true_implies, false_implies, implies_true, or_true, true_or, or_false, false_or, reduceCtorEq, Option.some.injEq, Sum.inl.injEq, exists_eq_left', exists_eq_left, zite]
      repeat' (first | with_reducible apply And.intro | with_reducible intro _)
      all_goals first | omega | (exact fin)
    · have bad := fun q => bad g (qlet 1 (S 2 (6 * n))) 0 (by omega) (by omega) g2 q
      by_cases c : 6 * n + g < S 0 1
      · have c' : ¬ S 0 1 ≤ 6 * n + g := by omega
        have bb := hB (6 * n + g) (by omega) c
        have b1 := bb.1
        try simp only [Int.zero_add] at b1
        have fg := fj g (S 2 (6 * n + g)) (by omega) (by omega)
        have nx : (48 ≤ S 2 (6 * n + g) ∧ S 2 (6 * n + g) ≤ 57) → uX8_readsOne R 32 [some (.inr (.inr 46)), some (.inl 1), some (.inl n), some (.inl (6 * n)), some (.inl (qlet 1 (S 2 (6 * n)))), some (.inl (g + 1)), none, none] [] M := fun q => by
          refine ih (g + 1) ⟨by omega, by omega, fun j j0 j1 => ?_⟩ (by omega)
          by_cases ej : j = g
          · rw [ej]; exact ⟨c, fg.mpr q⟩
          · exact g2 j j0 (by omega)
        have no : ¬ (48 ≤ S 2 (6 * n + g) ∧ S 2 (6 * n + g) ≤ 57) → uX8_readsOne R 68 [some (.inr (.inr 46)), some (.inl 1), some (.inl n), some (.inl (6 * n)), some (.inl (qlet 1 (S 2 (6 * n)))), some (.inl g), none, none] [] M := fun q => bad (fun z => q (fg.mp z.2))
        simp only [↓rX8_readsOne_34, ↓rX8_readsOne_37, ↓rX8_readsOne_39, ↓rX8_readsOne_40, ↓rX8_readsOne_43, ↓rX8_readsOne_44, ↓rX8_readsOne_45, ↓rX8_readsOne_46, ↓rX8_readsOne_48, ↓rX8_readsOne_49, ↓rX8_readsOne_52, ↓rX8_readsOne_54, ↓rX8_readsOne_56, ↓rX8_readsOne_59, ↓rX8_readsOne_62, ↓rX8_readsOne_65, ↓i_in, ↓reduceIte, ↓i_byteAt1, zkeep_n, zkeep_i, zkeep_r, zkeep_l, zup_eq, zIR, zLR, List.length_cons, List.length_nil, Nat.reduceAdd, Nat.reduceLeDiff, Nat.reduceEqDiff, Nat.reduceSub, Int.reduceLE, Int.reduceLT, Int.reduceEq, Int.reduceNe, Int.reduceNeg, Int.reduceAdd, Int.reduceSub, Int.reduceMul, Int.reduceToNat, Nat.le_refl, Nat.zero_le, Nat.zero_add, Int.zero_add, Int.add_zero, and_true, true_and, and_false, false_and, not_true_eq_false, not_false_eq_true, eq_self, ne_eq, true_implies, false_implies, implies_true, or_true, true_or, or_false, false_or, reduceCtorEq, Option.some.injEq, Sum.inl.injEq, exists_eq_left', exists_eq_left, h47, c', b1, zite]
        repeat' (first | with_reducible apply And.intro | with_reducible intro _)
        all_goals first | omega | (exact nx (by omega)) | (exact no (by omega))
      · have c' : S 0 1 ≤ 6 * n + g := by omega
        have no := bad (fun z => c z.1)
        simp only [↓rX8_readsOne_34, ↓rX8_readsOne_37, ↓rX8_readsOne_39, ↓rX8_readsOne_40, ↓rX8_readsOne_43, ↓rX8_readsOne_44, ↓rX8_readsOne_45, ↓rX8_readsOne_46, ↓rX8_readsOne_48, ↓rX8_readsOne_49, ↓rX8_readsOne_52, ↓rX8_readsOne_54, ↓rX8_readsOne_56, ↓rX8_readsOne_59, ↓rX8_readsOne_62, ↓rX8_readsOne_65, ↓i_in, ↓reduceIte, ↓i_byteAt1, zkeep_n, zkeep_i, zkeep_r, zkeep_l, zup_eq, zIR, zLR, List.length_cons, List.length_nil, Nat.reduceAdd, Nat.reduceLeDiff, Nat.reduceEqDiff, Nat.reduceSub, Int.reduceLE, Int.reduceLT, Int.reduceEq, Int.reduceNe, Int.reduceNeg, Int.reduceAdd, Int.reduceSub, Int.reduceMul, Int.reduceToNat, Nat.le_refl, Nat.zero_le, Nat.zero_add, Int.zero_add, Int.add_zero, and_true, true_and, and_false, false_and, not_true_eq_false, not_false_eq_true, eq_self, ne_eq, true_implies, false_implies, implies_true, or_true, true_or, or_false, false_or, reduceCtorEq, Option.some.injEq, Sum.inl.injEq, exists_eq_left', exists_eq_left, h47, c', zite]
        repeat' (first | with_reducible apply And.intro | with_reducible intro _)
        all_goals first | omega | (exact no)
  by_cases c : 6 * n < S 0 1
  · have c' : ¬ S 0 1 ≤ 6 * n := by omega
    have bb := hB (6 * n) (by omega) c
    have b1 := bb.1
    try simp only [Int.zero_add] at b1
    have ik := fun f => i_kindOf1 (b := S 2 (6 * n)) (M := M) (f := f) (zsm (by omega))
    have hq := hql (S 2 (6 * n))
    have f00 := f0 (S 2 (6 * n))
    have st : ¬ qlet 1 (S 2 (6 * n)) = -1 → uX8_readsOne R 32 [some (.inr (.inr 46)), some (.inl 1), some (.inl n), some (.inl (6 * n)), some (.inl (qlet 1 (S 2 (6 * n)))), some (.inl 1), none, none] [] M := fun q => W 1 ⟨by decide, by decide, fun j j0 j1 => by
      have : j = 0 := by omega
      subst this
      rw [Int.add_zero]
      exact ⟨c, f00.mpr (by omega)⟩⟩
    have no : qlet 1 (S 2 (6 * n)) = -1 → ∀ kd, uX8_readsOne R 68 [some (.inr (.inr 46)), some (.inl 1), some (.inl n), some (.inl (6 * n)), some (.inl kd), some (.inl 0), none, none] [] M := fun q kd => bad 0 kd 0 (by decide) (by decide) (fun j a b => by omega) (fun z => by
      rw [Int.add_zero] at z
      have := f00.mp z.2
      omega)
    have zero : qlet 1 (S 2 (6 * n)) = -1 → uX8_readsOne R 32 [some (.inr (.inr 46)), some (.inl 1), some (.inl n), some (.inl (6 * n)), some (.inl (qlet 1 (S 2 (6 * n)))), some (.inl 0), none, none] [] M := fun q => by
      have no := no q (qlet 1 (S 2 (6 * n)))
      refine rX8_readsOne_32.mpr ?_
      simp only [↓rX8_readsOne_34, ↓reduceIte, zkeep_n, zkeep_i, zkeep_r, zkeep_l, zup_eq, zIR, zLR, List.length_cons, List.length_nil, Nat.reduceAdd, Nat.reduceLeDiff, Nat.reduceEqDiff, Nat.reduceSub, Int.reduceLE, Int.reduceLT, Int.reduceEq, Int.reduceNe, Int.reduceNeg, Int.reduceAdd, Int.reduceSub, Int.reduceMul, Int.reduceToNat, Nat.le_refl, Nat.zero_le, Nat.zero_add, Int.zero_add, Int.add_zero, and_true, true_and, and_false, false_and, not_true_eq_false, not_false_eq_true, eq_self, ne_eq, true_implies, false_implies, implies_true, or_true, true_or, or_false, false_or, reduceCtorEq, Option.some.injEq, Sum.inl.injEq, exists_eq_left', exists_eq_left, zite]
      repeat' (first | with_reducible apply And.intro | with_reducible intro _)
      all_goals first | omega | (exact no)
    simp only [↓eX8_readsOne, ↓rX8_readsOne_0, ↓rX8_readsOne_1, ↓rX8_readsOne_2, ↓rX8_readsOne_3, ↓rX8_readsOne_4, ↓rX8_readsOne_5, ↓rX8_readsOne_8, ↓rX8_readsOne_11, ↓rX8_readsOne_13, ↓rX8_readsOne_14, ↓rX8_readsOne_16, ↓rX8_readsOne_19, ↓rX8_readsOne_21, ↓rX8_readsOne_22, ↓rX8_readsOne_25, ↓rX8_readsOne_26, ↓rX8_readsOne_30, ↓rX8_readsOne_29, ↓reduceIte, ↓i_byteAt1, ↓ik, zkeep_n, zkeep_i, zkeep_r, zkeep_l, zup_eq, zIR, zLR, List.length_cons, List.length_nil, Nat.reduceAdd, Nat.reduceLeDiff, Nat.reduceEqDiff, Nat.reduceSub, Int.reduceLE, Int.reduceLT, Int.reduceEq, Int.reduceNe, Int.reduceNeg, Int.reduceAdd, Int.reduceSub, Int.reduceMul, Int.reduceToNat, Nat.le_refl, Nat.zero_le, Nat.zero_add, Int.zero_add, Int.add_zero, and_true, true_and, and_false, false_and, not_true_eq_false, not_false_eq_true, eq_self, ne_eq, true_implies, false_implies, implies_true, or_true, true_or, or_false, false_or, reduceCtorEq, Option.some.injEq, Sum.inl.injEq, exists_eq_left', exists_eq_left, h47, c', b1, zite]
    repeat' (first | with_reducible apply And.intro | with_reducible intro _)
    all_goals first | omega | (exact st (by omega)) | (exact zero (by omega))
  · have c' : S 0 1 ≤ 6 * n := by omega
    have ik := fun f => i_kindOf1 (b := -1) (M := M) (f := f) (zsm (by decide))
    have eq1 : qlet 1 (-1) = -1 := by decide
    rw [eq1] at ik
    have no := bad 0 (-1) 0 (by decide) (by decide) (fun j a b => by omega) (fun z => by omega)
    simp only [↓eX8_readsOne, ↓rX8_readsOne_0, ↓rX8_readsOne_1, ↓rX8_readsOne_2, ↓rX8_readsOne_3, ↓rX8_readsOne_4, ↓rX8_readsOne_5, ↓rX8_readsOne_8, ↓rX8_readsOne_11, ↓rX8_readsOne_13, ↓rX8_readsOne_14, ↓rX8_readsOne_16, ↓rX8_readsOne_19, ↓rX8_readsOne_21, ↓rX8_readsOne_22, ↓rX8_readsOne_25, ↓rX8_readsOne_26, ↓rX8_readsOne_30, ↓rX8_readsOne_32, ↓rX8_readsOne_34, ↓rX8_readsOne_29, ↓reduceIte, ↓i_byteAt1, ↓ik, zkeep_n, zkeep_i, zkeep_r, zkeep_l, zup_eq, zIR, zLR, List.length_cons, List.length_nil, Nat.reduceAdd, Nat.reduceLeDiff, Nat.reduceEqDiff, Nat.reduceSub, Int.reduceLE, Int.reduceLT, Int.reduceEq, Int.reduceNe, Int.reduceNeg, Int.reduceAdd, Int.reduceSub, Int.reduceMul, Int.reduceToNat, Nat.le_refl, Nat.zero_le, Nat.zero_add, Int.zero_add, Int.add_zero, and_true, true_and, and_false, false_and, not_true_eq_false, not_false_eq_true, eq_self, ne_eq, true_implies, false_implies, implies_true, or_true, true_or, or_false, false_or, reduceCtorEq, Option.some.injEq, Sum.inl.injEq, exists_eq_left', exists_eq_left, h47, c', zite]
    repeat' (first | with_reducible apply And.intro | with_reducible intro _)
    all_goals first | omega | (exact no)
