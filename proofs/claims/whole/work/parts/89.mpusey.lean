set_option maxRecDepth 100000 in
set_option maxHeartbeats 4000000 in
theorem s_puseyOf {S M : zM} {F : zV → zM → Prop} {wh : Int} (hW : WX S) (h : RM S M) (hg : 0 ≤ wh ∧ wh < 3) (hR : ∀ M', YQ M M' → RC S M' → F (.inl (aPusey S wh)) M') : zcv (zv 8 tX8_puseyOf) [.inr (.inr 46), .inl wh] M F := by
  refine zcvv rfl ?_
  have hk := W_k hW
  unfold aPusey at hR
  rw [if_pos hg] at hR
  simp only [↓eX8_puseyOf, ↓rX8_puseyOf_0, ↓rX8_puseyOf_1, ↓reduceIte, zkeep_n, zkeep_i, zkeep_r, zkeep_l, zup_eq, zIR, zLR, List.length_cons, List.length_nil, Nat.reduceAdd, Nat.reduceLeDiff, Nat.reduceEqDiff, Nat.reduceSub, Int.reduceLE, Int.reduceLT, Int.reduceEq, Int.reduceNe, Int.reduceNeg, Int.reduceAdd, Int.reduceSub, Int.reduceMul, Int.reduceToNat, Nat.le_refl, Nat.zero_le, Nat.zero_add, Int.zero_add, Int.add_zero, and_true, true_and, and_false, false_and, not_true_eq_false, not_false_eq_true, eq_self, ne_eq, true_implies, false_implies, implies_true, or_true, true_or, or_false, false_or, reduceCtorEq, Option.some.injEq, Sum.inl.injEq, exists_eq_left', exists_eq_left, zite]
  refine s_runsTold hW h (fun M1 f1 f2 f3 => ?_)
  have fin := hR M1 f1 f2
  have e2 := f2.1
  have wq : ∀ v : Int → Int, wall v ↔ ∃ q, 0 ≤ q ∧ q < 4 ∧ v (4 + q) = 0 ∧ v (8 + q) = 9 := fun v => by
    constructor
    · rintro (q | q | q | q)
      · exact ⟨0, by decide, by decide, q⟩
      · exact ⟨1, by decide, by decide, q⟩
      · exact ⟨2, by decide, by decide, q⟩
      · exact ⟨3, by decide, by decide, q⟩
    · rintro ⟨q, a, b, c⟩
      have e : q = 0 ∨ q = 1 ∨ q = 2 ∨ q = 3 := by omega
      rcases e with rfl | rfl | rfl | rfl
      · exact Or.inl c
      · exact Or.inr (Or.inl c)
      · exact Or.inr (Or.inr (Or.inl c))
      · exact Or.inr (Or.inr (Or.inr c))
  have L : ∀ s : Nat × Int, (s.1 < 20 ∧ (0 ≤ s.2 ∧ s.2 ≤ 4 * qn S 0) ∧ (∀ (m j : Nat), m < qk S → j < s.1 → ¬ wall (wV S m j)) ∧ (∀ k q : Int, 0 ≤ k → 0 ≤ q → q < 4 → 4 * k + q < s.2 → ¬ (wV S k s.1 (4 + q) = 0 ∧ wV S k s.1 (8 + q) = 9))) → uX8_puseyOf (fun r M' => ∃ v, r = some v ∧ F v M') 14 [some (.inr (.inr 46)), some (.inl wh), some (.inl (s.1 : Int)), some (.inl s.2)] [] M1 := by
    refine zind (fun s => (20 - s.1) * 40 + (4 * qn S 0 - s.2).toNat) ?_
    rintro ⟨t, p⟩ ⟨ht, hp, hno, hpo⟩ ih
    simp only at ht hp hno hpo ih
    refine rX8_puseyOf_14.mpr ?_
    by_cases he : p = 4 * qn S 0
    · have now : ∀ m : Nat, m < qk S → ¬ wall (wV S m t) := fun m hm hw => by
        obtain ⟨q, a, b, c⟩ := (wq _).mp hw
        exact hpo m q (by omega) a b (by omega) c
      have all : ∀ (m j : Nat), m < qk S → j < t + 1 → ¬ wall (wV S m j) := fun m j hm hj => by
        by_cases e : j = t
        · rw [e]; exact now m hm
        · exact hno m j hm (by omega)
      by_cases ht2 : t + 1 = 20
      · rw [if_pos (pT_none (fun m j hm hj => all m j hm (by omega)))] at fin
        simp only [↓rX8_puseyOf_6, ↓rX8_puseyOf_7, ↓rX8_puseyOf_9, ↓rX8_puseyOf_89, ↓rX8_puseyOf_90, ↓rX8_puseyOf_15, ↓rX8_puseyOf_16, ↓rX8_puseyOf_17, ↓rX8_puseyOf_20, ↓rX8_puseyOf_21, ↓rX8_puseyOf_83, ↓rX8_puseyOf_86, ↓hg_fX8_127_46, ↓reduceIte, zkeep_n, zkeep_i, zkeep_r, zkeep_l, zup_eq, zIR, zLR, List.length_cons, List.length_nil, Nat.reduceAdd, Nat.reduceLeDiff, Nat.reduceEqDiff, Nat.reduceSub, Int.reduceLE, Int.reduceLT, Int.reduceEq, Int.reduceNe, Int.reduceNeg, Int.reduceAdd, Int.reduceSub, Int.reduceMul, Int.reduceToNat, Nat.le_refl, Nat.zero_le, Nat.zero_add, Int.zero_add, Int.add_zero, and_true, true_and, and_false, false_and, not_true_eq_false, not_false_eq_true, eq_self, ne_eq, true_implies, false_implies, implies_true, or_true, true_or, or_false, false_or, reduceCtorEq, Option.some.injEq, Sum.inl.injEq, exists_eq_left', exists_eq_left, e2, zite]
        repeat' (first | with_reducible apply And.intro | with_reducible intro _)
        all_goals first | omega | (exact fin)
      · have nx := ih (t + 1, 0) ⟨by simp only; omega, by simp only; omega, all, fun k q a b c d => by simp only at d; omega⟩ (by simp only; omega)
        simp only [↓rX8_puseyOf_6, ↓rX8_puseyOf_7, ↓rX8_puseyOf_9, ↓rX8_puseyOf_12, ↓rX8_puseyOf_13, ↓rX8_puseyOf_15, ↓rX8_puseyOf_16, ↓rX8_puseyOf_17, ↓rX8_puseyOf_20, ↓rX8_puseyOf_21, ↓rX8_puseyOf_83, ↓rX8_puseyOf_86, ↓hg_fX8_127_46, ↓reduceIte, zkeep_n, zkeep_i, zkeep_r, zkeep_l, zup_eq, zIR, zLR, List.length_cons, List.length_nil, Nat.reduceAdd, Nat.reduceLeDiff, Nat.reduceEqDiff, Nat.reduceSub, Int.reduceLE, Int.reduceLT, Int.reduceEq, Int.reduceNe, Int.reduceNeg, Int.reduceAdd, Int.reduceSub, Int.reduceMul, Int.reduceToNat, Nat.le_refl, Nat.zero_le, Nat.zero_add, Int.zero_add, Int.add_zero, and_true, true_and, and_false, false_and, not_true_eq_false, not_false_eq_true, eq_self, ne_eq, true_implies, false_implies, implies_true, or_true, true_or, or_false, false_or, reduceCtorEq, Option.some.injEq, Sum.inl.injEq, exists_eq_left', exists_eq_left, e2, zite]
        repeat' (first | with_reducible apply And.intro | with_reducible intro _)
        all_goals first | omega | (exact nx)
    · have hpk : p = 4 * (p / 4) + p % 4 := by omega
      have ha := HV_at f3 (k := p / 4) (q := p % 4) (t := t) (by omega) (by omega) (by omega) (by omega) (by omega) (by omega)
      rw [show 32 * (t : Int) + 4 * (p / 4) + p % 4 = 32 * t + p by omega, Int.toNat_natCast] at ha
      have a2 := ha.2.1
      have a3 := ha.2.2
      have v := wV_R hW (p / 4) (by omega) (by omega) t ht
      have v2 := v.1 (4 + p % 4) (by omega) (by omega)
      have v3 := v.1 (8 + p % 4) (by omega) (by omega)
      have nx : ¬ (wV S (p / 4) t (4 + p % 4) = 0 ∧ wV S (p / 4) t (8 + p % 4) = 9) → uX8_puseyOf (fun r M' => ∃ v, r = some v ∧ F v M') 14 [some (.inr (.inr 46)), some (.inl wh), some (.inl (t : Int)), some (.inl (p + 1))] [] M1 := fun q => by
        refine ih (t, p + 1) ⟨ht, by simp only; omega, hno, fun k q' a b c d => ?_⟩ (by simp only; omega)
        simp only at d
        by_cases e : 4 * k + q' = p
        · have e1 : k = p / 4 := by omega
          have e3 : q' = p % 4 := by omega
          rw [e1, e3]
          exact q
        · exact hpo k q' a b c (by omega)
      have yes : (wV S (p / 4) t (4 + p % 4) = 0 ∧ wV S (p / 4) t (8 + p % 4) = 9) → (wh = 0 → F (.inl (t : Int)) M1) ∧ (wh = 1 → F (.inl (p / 4)) M1) ∧ (wh = 2 → F (.inl (p % 4)) M1) := fun q => by
        have hw : wall (wV S ((p / 4).toNat : Int) t) := (wq _).mpr ⟨p % 4, by omega, by omega, by rw [Int.toNat_of_nonneg (by omega)]; exact q⟩
        have eT := pT_found (S := S) (w := (p / 4).toNat) (by omega) ht hw hno
        have eM := pM_found (S := S) (w := (p / 4).toNat) (by omega) eT hw (fun m hm hw2 => by
          obtain ⟨q', a, b, c⟩ := (wq _).mp hw2
          exact hpo m q' (by omega) a b (by omega) c)
        rw [Int.toNat_of_nonneg (by omega)] at eM
        rw [eT, eM, if_neg (by omega), Int.toNat_natCast] at fin
        refine ⟨fun e => ?_, fun e => ?_, fun e => ?_⟩
        · rw [if_pos e] at fin; exact fin
        · rw [if_neg (by omega), if_pos e] at fin; exact fin
        · rw [if_neg (by omega), if_neg (by omega)] at fin
          have hbefore : ∀ q', 0 ≤ q' → q' < p % 4 → ¬ (wV S (p / 4) t (4 + q') = 0 ∧ wV S (p / 4) t (8 + q') = 9) := fun q' a b => hpo (p / 4) q' (by omega) a (by omega) (by omega)
          have eQ : pQ (wV S (p / 4) t) = p % 4 := by
            generalize wV S (p / 4) t = v at *
            unfold pQ
            have er : p % 4 = 0 ∨ p % 4 = 1 ∨ p % 4 = 2 ∨ p % 4 = 3 := by omega
            have h0 := hbefore 0 (by decide)
            have h1 := hbefore 1 (by decide)
            have h2 := hbefore 2 (by decide)
            simp only [Int.reduceAdd] at h0 h1 h2
            rcases er with er | er | er | er
            · rw [er] at q
              simp only [Int.reduceAdd] at q
              rw [if_pos q, er]
            · rw [er] at q
              simp only [Int.reduceAdd] at q
              rw [if_neg (h0 (by omega)), if_pos q, er]
            · rw [er] at q
              simp only [Int.reduceAdd] at q
              rw [if_neg (h0 (by omega)), if_neg (h1 (by omega)), if_pos q, er]
            · rw [er] at q
              simp only [Int.reduceAdd] at q
              rw [if_neg (h0 (by omega)), if_neg (h1 (by omega)), if_neg (h2 (by omega)), if_pos q, er]
          rw [eQ] at fin
          exact fin
      have ed : p.tdiv 4 = p / 4 := Int.tdiv_eq_ediv_of_nonneg (by omega)
      have em : p.tmod 4 = p % 4 := Int.tmod_eq_emod_of_nonneg (by omega)
      simp only [↓rX8_puseyOf_15, ↓rX8_puseyOf_16, ↓rX8_puseyOf_17, ↓rX8_puseyOf_20, ↓rX8_puseyOf_21, ↓rX8_puseyOf_24, ↓rX8_puseyOf_25, ↓rX8_puseyOf_28, ↓rX8_puseyOf_30, ↓rX8_puseyOf_31, ↓rX8_puseyOf_32, ↓rX8_puseyOf_33, ↓rX8_puseyOf_34, ↓rX8_puseyOf_35, ↓rX8_puseyOf_38, ↓rX8_puseyOf_39, ↓rX8_puseyOf_42, ↓rX8_puseyOf_44, ↓rX8_puseyOf_45, ↓rX8_puseyOf_46, ↓rX8_puseyOf_47, ↓rX8_puseyOf_48, ↓rX8_puseyOf_49, ↓rX8_puseyOf_51, ↓rX8_puseyOf_54, ↓rX8_puseyOf_55, ↓rX8_puseyOf_58, ↓rX8_puseyOf_59, ↓rX8_puseyOf_76, ↓rX8_puseyOf_62, ↓rX8_puseyOf_63, ↓rX8_puseyOf_64, ↓rX8_puseyOf_67, ↓rX8_puseyOf_68, ↓rX8_puseyOf_69, ↓rX8_puseyOf_70, ↓rX8_puseyOf_73, ↓rX8_puseyOf_74, ↓rX8_puseyOf_75, ↓rX8_puseyOf_77, ↓rX8_puseyOf_80, ↓hg_fX8_127_46, ↓hg_fX8_64_46, ↓hg_fX8_67_46, ↓hr_47, ↓hr_48, ↓hr_49, ↓hr_50, ↓hr_51, ↓hr_52, ↓hr_53, ↓hr_54, ↓hr_55, ↓hr_56, ↓hr_57, ↓hr_58, ↓hr_59, ↓hr_60, ↓hr_61, ↓hr_62, ↓hr_63, ↓hr_64, ↓hr_65, ↓hr_66, ↓hr_67, ↓hr_68, ↓hr_69, ↓hr_70, ↓hr_71, ↓hr_72, ↓hr_73, ↓hr_74, ↓hr_75, ↓hr_76, ↓hr_77, ↓hr_78, ↓hr_79, ↓hw_47, ↓hw_48, ↓hw_49, ↓hw_50, ↓hw_51, ↓hw_52, ↓hw_53, ↓hw_54, ↓hw_55, ↓hw_56, ↓hw_57, ↓hw_58, ↓hw_59, ↓hw_60, ↓hw_61, ↓hw_62, ↓hw_63, ↓hw_64, ↓hw_65, ↓hw_66, ↓hw_67, ↓hw_68, ↓hw_69, ↓hw_70, ↓hw_71, ↓hw_72, ↓hw_73, ↓hw_74, ↓hw_75, ↓hw_76, ↓hw_77, ↓hw_78, ↓hw_79, ↓reduceIte, zkeep_n, zkeep_i, zkeep_r, zkeep_l, zup_eq, zIR, zLR, List.length_cons, List.length_nil, Nat.reduceAdd, Nat.reduceLeDiff, Nat.reduceEqDiff, Nat.reduceSub, Int.reduceLE, Int.reduceLT, Int.reduceEq, Int.reduceNe, Int.reduceNeg, Int.reduceAdd, Int.reduceSub, Int.reduceMul, Int.reduceToNat, Nat.le_refl, Nat.zero_le, Nat.zero_add, Int.zero_add, Int.add_zero, and_true, true_and, and_false, false_and, not_true_eq_false, not_false_eq_true, eq_self, ne_eq, true_implies, false_implies, implies_true, or_true, true_or, or_false, false_or, reduceCtorEq, Option.some.injEq, Sum.inl.injEq, exists_eq_left', exists_eq_left, e2, a2, a3, ed, em, zite]
      repeat' (first | with_reducible apply And.intro | with_reducible intro _)
      all_goals first | omega | (exact nx (by omega)) | (exact (yes (by omega)).1 (by omega)) | (exact (yes (by omega)).2.1 (by omega)) | (exact (yes (by omega)).2.2 (by omega))
  have st := L (0, 0) ⟨by decide, by simp only; omega, fun m j hm hj => by simp at hj, fun k q a b c d => by simp only at d; omega⟩
  simp only [↓rX8_puseyOf_4, ↓rX8_puseyOf_5, ↓rX8_puseyOf_6, ↓rX8_puseyOf_7, ↓rX8_puseyOf_9, ↓rX8_puseyOf_12, ↓rX8_puseyOf_13, ↓rX8_puseyOf_89, ↓rX8_puseyOf_90, ↓reduceIte, zkeep_n, zkeep_i, zkeep_r, zkeep_l, zup_eq, zIR, zLR, List.length_cons, List.length_nil, Nat.reduceAdd, Nat.reduceLeDiff, Nat.reduceEqDiff, Nat.reduceSub, Int.reduceLE, Int.reduceLT, Int.reduceEq, Int.reduceNe, Int.reduceNeg, Int.reduceAdd, Int.reduceSub, Int.reduceMul, Int.reduceToNat, Nat.le_refl, Nat.zero_le, Nat.zero_add, Int.zero_add, Int.add_zero, and_true, true_and, and_false, false_and, not_true_eq_false, not_false_eq_true, eq_self, ne_eq, true_implies, false_implies, implies_true, or_true, true_or, or_false, false_or, reduceCtorEq, Option.some.injEq, Sum.inl.injEq, exists_eq_left', exists_eq_left, zite]
  exact st
set_option maxRecDepth 100000 in
set_option maxHeartbeats 4000000 in
theorem y_pusey {S M : zM} {R : zP} {wh : Int} (hW : WX S) (h : RM S M) (z2 : zIR wh) (hR : ∀ M', YQ M M' → R (some (.inl (aPusey S wh))) M') : tX8_pusey [.inr (.inr 46), .inl wh] M R := by
  unfold zIR at z2
  have bad : ¬ (0 ≤ wh ∧ wh < 3) → R (some (.inl (-2))) M := fun hb => by
    have := hR M YQ.rfl
    unfold aPusey at this
    rw [if_neg hb] at this
    exact this
  have go : (0 ≤ wh ∧ wh < 3) → zcv (zv 8 tX8_puseyOf) [.inr (.inr 46), .inl wh] M (fun v M' => uX8_pusey R 14 [some (.inr (.inr 46)), some (.inl wh)] [v] M') := fun q => by
    refine s_puseyOf hW h q (fun M2 g1 g2 => ?_)
    have fin := hR M2 g1
    simp only [↓rX8_pusey_14, ↓rX8_pusey_19, ↓reduceIte, zkeep_n, zkeep_i, zkeep_r, zkeep_l, zup_eq, zIR, zLR, List.length_cons, List.length_nil, Nat.reduceAdd, Nat.reduceLeDiff, Nat.reduceEqDiff, Nat.reduceSub, Int.reduceLE, Int.reduceLT, Int.reduceEq, Int.reduceNe, Int.reduceNeg, Int.reduceAdd, Int.reduceSub, Int.reduceMul, Int.reduceToNat, Nat.le_refl, Nat.zero_le, Nat.zero_add, Int.zero_add, Int.add_zero, and_true, true_and, and_false, false_and, not_true_eq_false, not_false_eq_true, eq_self, ne_eq, true_implies, false_implies, implies_true, or_true, true_or, or_false, false_or, reduceCtorEq, Option.some.injEq, Sum.inl.injEq, exists_eq_left', exists_eq_left, zite]
    exact fin
  simp only [↓eX8_pusey, ↓rX8_pusey_0, ↓rX8_pusey_1, ↓rX8_pusey_2, ↓rX8_pusey_3, ↓rX8_pusey_6, ↓rX8_pusey_9, ↓rX8_pusey_10, ↓rX8_pusey_11, ↓rX8_pusey_17, ↓rX8_pusey_19, ↓i_in, ↓reduceIte, zkeep_n, zkeep_i, zkeep_r, zkeep_l, zup_eq, zIR, zLR, List.length_cons, List.length_nil, Nat.reduceAdd, Nat.reduceLeDiff, Nat.reduceEqDiff, Nat.reduceSub, Int.reduceLE, Int.reduceLT, Int.reduceEq, Int.reduceNe, Int.reduceNeg, Int.reduceAdd, Int.reduceSub, Int.reduceMul, Int.reduceToNat, Nat.le_refl, Nat.zero_le, Nat.zero_add, Int.zero_add, Int.add_zero, and_true, true_and, and_false, false_and, not_true_eq_false, not_false_eq_true, eq_self, ne_eq, true_implies, false_implies, implies_true, or_true, true_or, or_false, false_or, reduceCtorEq, Option.some.injEq, Sum.inl.injEq, exists_eq_left', exists_eq_left, zite]
  repeat' (first | with_reducible apply And.intro | with_reducible intro _)
  all_goals first | omega | (exact bad (by omega)) | (exact go (by omega))
set_option maxRecDepth 100000 in
set_option maxHeartbeats 4000000 in
theorem s_ones {M : zM} {F : zV → zM → Prop} {a : Int} (h0 : 0 ≤ a) (h1 : a < 256) (hR : F (.inl (wones a)) M) : zcv (zv 8 tX8_ones) [.inr (.inr 46), .inl a] M F := by
  refine zcvv rfl ?_
  have L : ∀ s : Nat, s ≤ 8 → uX8_ones (fun r M' => ∃ v, r = some v ∧ F v M') 4 [some (.inr (.inr 46)), some (.inl a), some (.inl (wbits a s)), some (.inl (s : Int))] [] M := by
    refine zind (fun s => 8 - s) ?_
    intro k hk ih
    refine rX8_ones_4.mpr ?_
    by_cases he : k = 8
    · subst he
      simp only [↓rX8_ones_5, ↓rX8_ones_7, ↓rX8_ones_32, ↓rX8_ones_33, ↓reduceIte, zkeep_n, zkeep_i, zkeep_r, zkeep_l, zup_eq, zIR, zLR, List.length_cons, List.length_nil, Nat.reduceAdd, Nat.reduceLeDiff, Nat.reduceEqDiff, Nat.reduceSub, Int.reduceLE, Int.reduceLT, Int.reduceEq, Int.reduceNe, Int.reduceNeg, Int.reduceAdd, Int.reduceSub, Int.reduceMul, Int.reduceToNat, Nat.le_refl, Nat.zero_le, Nat.zero_add, Int.zero_add, Int.add_zero, and_true, true_and, and_false, false_and, not_true_eq_false, not_false_eq_true, eq_self, ne_eq, true_implies, false_implies, implies_true, or_true, true_or, or_false, false_or, reduceCtorEq, Option.some.injEq, Sum.inl.injEq, exists_eq_left', exists_eq_left, zite]
      repeat' (first | with_reducible apply And.intro | with_reducible intro _)
      all_goals first | omega | (exact hR)
    · have nx := ih (k + 1) (by omega) (by omega)
      have hb := zbit_d ⟨k, by omega⟩ ⟨a.toNat, by omega⟩
      simp only [Int.toNat_of_nonneg h0] at hb
      simp only [wbits] at nx
      have hm : a / 2 ^ k % 2 = 0 ∨ a / 2 ^ k % 2 = 1 := by omega
      rcases hm with hm | hm
      · rw [hm] at hb
        rw [hm, Int.add_zero] at nx
        simp only [↓rX8_ones_5, ↓rX8_ones_7, ↓rX8_ones_10, ↓rX8_ones_11, ↓rX8_ones_12, ↓rX8_ones_13, ↓rX8_ones_16, ↓rX8_ones_19, ↓rX8_ones_20, ↓rX8_ones_24, ↓rX8_ones_25, ↓rX8_ones_26, ↓rX8_ones_29, ↓rX8_ones_23, ↓i_isIn, ↓reduceIte, zkeep_n, zkeep_i, zkeep_r, zkeep_l, zup_eq, zIR, zLR, List.length_cons, List.length_nil, Nat.reduceAdd, Nat.reduceLeDiff, Nat.reduceEqDiff, Nat.reduceSub, Int.reduceLE, Int.reduceLT, Int.reduceEq, Int.reduceNe, Int.reduceNeg, Int.reduceAdd, Int.reduceSub, Int.reduceMul, Int.reduceToNat, Nat.le_refl, Nat.zero_le, Nat.zero_add, Int.zero_add, Int.add_zero, and_true, true_and, and_false, false_and, not_true_eq_false, not_false_eq_true, eq_self, ne_eq, true_implies, false_implies, implies_true, or_true, true_or, or_false, false_or, reduceCtorEq, Option.some.injEq, Sum.inl.injEq, exists_eq_left', exists_eq_left, hb, zite]
        repeat' (first | with_reducible apply And.intro | with_reducible intro _)
        all_goals first | omega | (exact nx)
      · rw [hm] at hb nx
        simp only [↓rX8_ones_5, ↓rX8_ones_7, ↓rX8_ones_10, ↓rX8_ones_11, ↓rX8_ones_12, ↓rX8_ones_13, ↓rX8_ones_16, ↓rX8_ones_19, ↓rX8_ones_20, ↓rX8_ones_24, ↓rX8_ones_25, ↓rX8_ones_26, ↓rX8_ones_29, ↓rX8_ones_23, ↓i_isIn, ↓reduceIte, zkeep_n, zkeep_i, zkeep_r, zkeep_l, zup_eq, zIR, zLR, List.length_cons, List.length_nil, Nat.reduceAdd, Nat.reduceLeDiff, Nat.reduceEqDiff, Nat.reduceSub, Int.reduceLE, Int.reduceLT, Int.reduceEq, Int.reduceNe, Int.reduceNeg, Int.reduceAdd, Int.reduceSub, Int.reduceMul, Int.reduceToNat, Nat.le_refl, Nat.zero_le, Nat.zero_add, Int.zero_add, Int.add_zero, and_true, true_and, and_false, false_and, not_true_eq_false, not_false_eq_true, eq_self, ne_eq, true_implies, false_implies, implies_true, or_true, true_or, or_false, false_or, reduceCtorEq, Option.some.injEq, Sum.inl.injEq, exists_eq_left', exists_eq_left, hb, zite]
        repeat' (first | with_reducible apply And.intro | with_reducible intro _)
        all_goals first | omega | (exact nx)
  have st := L 0 (by decide)
  simp only [↓eX8_ones, ↓rX8_ones_0, ↓rX8_ones_1, ↓rX8_ones_2, ↓rX8_ones_3, ↓reduceIte, zkeep_n, zkeep_i, zkeep_r, zkeep_l, zup_eq, zIR, zLR, List.length_cons, List.length_nil, Nat.reduceAdd, Nat.reduceLeDiff, Nat.reduceEqDiff, Nat.reduceSub, Int.reduceLE, Int.reduceLT, Int.reduceEq, Int.reduceNe, Int.reduceNeg, Int.reduceAdd, Int.reduceSub, Int.reduceMul, Int.reduceToNat, Nat.le_refl, Nat.zero_le, Nat.zero_add, Int.zero_add, Int.add_zero, and_true, true_and, and_false, false_and, not_true_eq_false, not_false_eq_true, eq_self, ne_eq, true_implies, false_implies, implies_true, or_true, true_or, or_false, false_or, reduceCtorEq, Option.some.injEq, Sum.inl.injEq, exists_eq_left', exists_eq_left, zite]
  exact st
set_option maxRecDepth 100000 in
set_option maxHeartbeats 4000000 in
theorem s_sumOf {S M : zM} {F : zV → zM → Prop} {w : Int} (hW : WX S) (h : RM S M) (hg : w = 0 ∨ w = 1 ∨ w = 5 ∨ w = 6) (hR : ∀ M', YQ M M' → RC S M' → F (.inl (aCount S w)) M') : zcv (zv 8 tX8_sumOf) [.inr (.inr 46), .inl w] M F := by
  refine zcvv rfl ?_
  have hk := W_k hW
  simp only [↓eX8_sumOf, ↓rX8_sumOf_0, ↓rX8_sumOf_1, ↓reduceIte, zkeep_n, zkeep_i, zkeep_r, zkeep_l, zup_eq, zIR, zLR, List.length_cons, List.length_nil, Nat.reduceAdd, Nat.reduceLeDiff, Nat.reduceEqDiff, Nat.reduceSub, Int.reduceLE, Int.reduceLT, Int.reduceEq, Int.reduceNe, Int.reduceNeg, Int.reduceAdd, Int.reduceSub, Int.reduceMul, Int.reduceToNat, Nat.le_refl, Nat.zero_le, Nat.zero_add, Int.zero_add, Int.add_zero, and_true, true_and, and_false, false_and, not_true_eq_false, not_false_eq_true, eq_self, ne_eq, true_implies, false_implies, implies_true, or_true, true_or, or_false, false_or, reduceCtorEq, Option.some.injEq, Sum.inl.injEq, exists_eq_left', exists_eq_left, zite]
  refine s_runsTold hW h (fun M1 f1 f2 f3 => ?_)
  have fin := hR M1 f1 f2
  have e2 := f2.1
  have e5 := f2.2.1
  unfold aCount at fin
  rcases hg with rfl | rfl | rfl | rfl
  · simp only [↓rX8_sumOf_4, ↓rX8_sumOf_5, ↓rX8_sumOf_8, ↓rX8_sumOf_9, ↓rX8_sumOf_12, ↓rX8_sumOf_47, ↓rX8_sumOf_15, ↓rX8_sumOf_16, ↓rX8_sumOf_17, ↓rX8_sumOf_20, ↓rX8_sumOf_21, ↓rX8_sumOf_24, ↓rX8_sumOf_27, ↓rX8_sumOf_28, ↓rX8_sumOf_29, ↓rX8_sumOf_32, ↓rX8_sumOf_33, ↓rX8_sumOf_34, ↓rX8_sumOf_43, ↓rX8_sumOf_44, ↓hg_fX8_127_46, ↓hg_fX8_131_46, ↓reduceIte, zkeep_n, zkeep_i, zkeep_r, zkeep_l, zup_eq, zIR, zLR, List.length_cons, List.length_nil, Nat.reduceAdd, Nat.reduceLeDiff, Nat.reduceEqDiff, Nat.reduceSub, Int.reduceLE, Int.reduceLT, Int.reduceEq, Int.reduceNe, Int.reduceNeg, Int.reduceAdd, Int.reduceSub, Int.reduceMul, Int.reduceToNat, Nat.le_refl, Nat.zero_le, Nat.zero_add, Int.zero_add, Int.add_zero, and_true, true_and, and_false, false_and, not_true_eq_false, not_false_eq_true, eq_self, ne_eq, true_implies, false_implies, implies_true, or_true, true_or, or_false, false_or, reduceCtorEq, Option.some.injEq, Sum.inl.injEq, exists_eq_left', exists_eq_left, e2, zite]
    exact fin
  · simp only [↓rX8_sumOf_4, ↓rX8_sumOf_5, ↓rX8_sumOf_8, ↓rX8_sumOf_9, ↓rX8_sumOf_12, ↓rX8_sumOf_47, ↓rX8_sumOf_15, ↓rX8_sumOf_16, ↓rX8_sumOf_17, ↓rX8_sumOf_20, ↓rX8_sumOf_21, ↓rX8_sumOf_24, ↓rX8_sumOf_27, ↓rX8_sumOf_28, ↓rX8_sumOf_29, ↓rX8_sumOf_32, ↓rX8_sumOf_33, ↓rX8_sumOf_34, ↓rX8_sumOf_43, ↓rX8_sumOf_44, ↓hg_fX8_127_46, ↓hg_fX8_131_46, ↓reduceIte, zkeep_n, zkeep_i, zkeep_r, zkeep_l, zup_eq, zIR, zLR, List.length_cons, List.length_nil, Nat.reduceAdd, Nat.reduceLeDiff, Nat.reduceEqDiff, Nat.reduceSub, Int.reduceLE, Int.reduceLT, Int.reduceEq, Int.reduceNe, Int.reduceNeg, Int.reduceAdd, Int.reduceSub, Int.reduceMul, Int.reduceToNat, Nat.le_refl, Nat.zero_le, Nat.zero_add, Int.zero_add, Int.add_zero, and_true, true_and, and_false, false_and, not_true_eq_false, not_false_eq_true, eq_self, ne_eq, true_implies, false_implies, implies_true, or_true, true_or, or_false, false_or, reduceCtorEq, Option.some.injEq, Sum.inl.injEq, exists_eq_left', exists_eq_left, e5, zite]
    exact fin
  · simp only [↓rX8_sumOf_4, ↓rX8_sumOf_5, ↓rX8_sumOf_8, ↓rX8_sumOf_9, ↓rX8_sumOf_12, ↓rX8_sumOf_47, ↓rX8_sumOf_15, ↓rX8_sumOf_16, ↓rX8_sumOf_17, ↓rX8_sumOf_20, ↓rX8_sumOf_21, ↓rX8_sumOf_24, ↓rX8_sumOf_27, ↓rX8_sumOf_28, ↓rX8_sumOf_29, ↓rX8_sumOf_32, ↓rX8_sumOf_33, ↓rX8_sumOf_34, ↓rX8_sumOf_43, ↓rX8_sumOf_44, ↓hg_fX8_127_46, ↓hg_fX8_131_46, ↓reduceIte, zkeep_n, zkeep_i, zkeep_r, zkeep_l, zup_eq, zIR, zLR, List.length_cons, List.length_nil, Nat.reduceAdd, Nat.reduceLeDiff, Nat.reduceEqDiff, Nat.reduceSub, Int.reduceLE, Int.reduceLT, Int.reduceEq, Int.reduceNe, Int.reduceNeg, Int.reduceAdd, Int.reduceSub, Int.reduceMul, Int.reduceToNat, Nat.le_refl, Nat.zero_le, Nat.zero_add, Int.zero_add, Int.add_zero, and_true, true_and, and_false, false_and, not_true_eq_false, not_false_eq_true, eq_self, ne_eq, true_implies, false_implies, implies_true, or_true, true_or, or_false, false_or, reduceCtorEq, Option.some.injEq, Sum.inl.injEq, exists_eq_left', exists_eq_left, zite]
    refine s_weanedNow (fi := fst S) f3 (wV_R hW) e2 hk.1 (W_f hW f2) ?_
    have h8 := wbs_8 (fun m => !wknb (wV S m 19) (fst S m)) hk.2.2.2.2.2.1
    simp only [↓rX8_sumOf_37, ↓reduceIte, zkeep_n, zkeep_i, zkeep_r, zkeep_l, zup_eq, zIR, zLR, List.length_cons, List.length_nil, Nat.reduceAdd, Nat.reduceLeDiff, Nat.reduceEqDiff, Nat.reduceSub, Int.reduceLE, Int.reduceLT, Int.reduceEq, Int.reduceNe, Int.reduceNeg, Int.reduceAdd, Int.reduceSub, Int.reduceMul, Int.reduceToNat, Nat.le_refl, Nat.zero_le, Nat.zero_add, Int.zero_add, Int.add_zero, and_true, true_and, and_false, false_and, not_true_eq_false, not_false_eq_true, eq_self, ne_eq, true_implies, false_implies, implies_true, or_true, true_or, or_false, false_or, reduceCtorEq, Option.some.injEq, Sum.inl.injEq, exists_eq_left', exists_eq_left, zite]
    refine s_ones h8.1 h8.2 ?_
    rw [wones_wbs _ _ hk.2.2.2.2.2.1]
    simp only [↓rX8_sumOf_40, ↓rX8_sumOf_47, ↓reduceIte, zkeep_n, zkeep_i, zkeep_r, zkeep_l, zup_eq, zIR, zLR, List.length_cons, List.length_nil, Nat.reduceAdd, Nat.reduceLeDiff, Nat.reduceEqDiff, Nat.reduceSub, Int.reduceLE, Int.reduceLT, Int.reduceEq, Int.reduceNe, Int.reduceNeg, Int.reduceAdd, Int.reduceSub, Int.reduceMul, Int.reduceToNat, Nat.le_refl, Nat.zero_le, Nat.zero_add, Int.zero_add, Int.add_zero, and_true, true_and, and_false, false_and, not_true_eq_false, not_false_eq_true, eq_self, ne_eq, true_implies, false_implies, implies_true, or_true, true_or, or_false, false_or, reduceCtorEq, Option.some.injEq, Sum.inl.injEq, exists_eq_left', exists_eq_left, zite]
    exact fin
  · simp only [↓rX8_sumOf_4, ↓rX8_sumOf_5, ↓rX8_sumOf_8, ↓rX8_sumOf_9, ↓rX8_sumOf_12, ↓rX8_sumOf_47, ↓rX8_sumOf_15, ↓rX8_sumOf_16, ↓rX8_sumOf_17, ↓rX8_sumOf_20, ↓rX8_sumOf_21, ↓rX8_sumOf_24, ↓rX8_sumOf_27, ↓rX8_sumOf_28, ↓rX8_sumOf_29, ↓rX8_sumOf_32, ↓rX8_sumOf_33, ↓rX8_sumOf_34, ↓rX8_sumOf_43, ↓rX8_sumOf_44, ↓hg_fX8_127_46, ↓hg_fX8_131_46, ↓reduceIte, zkeep_n, zkeep_i, zkeep_r, zkeep_l, zup_eq, zIR, zLR, List.length_cons, List.length_nil, Nat.reduceAdd, Nat.reduceLeDiff, Nat.reduceEqDiff, Nat.reduceSub, Int.reduceLE, Int.reduceLT, Int.reduceEq, Int.reduceNe, Int.reduceNeg, Int.reduceAdd, Int.reduceSub, Int.reduceMul, Int.reduceToNat, Nat.le_refl, Nat.zero_le, Nat.zero_add, Int.zero_add, Int.add_zero, and_true, true_and, and_false, false_and, not_true_eq_false, not_false_eq_true, eq_self, ne_eq, true_implies, false_implies, implies_true, or_true, true_or, or_false, false_or, reduceCtorEq, Option.some.injEq, Sum.inl.injEq, exists_eq_left', exists_eq_left, zite]
    refine s_sickAll f3 e2 hk.1 ?_
    simp only [↓rX8_sumOf_47, ↓reduceIte, zkeep_n, zkeep_i, zkeep_r, zkeep_l, zup_eq, zIR, zLR, List.length_cons, List.length_nil, Nat.reduceAdd, Nat.reduceLeDiff, Nat.reduceEqDiff, Nat.reduceSub, Int.reduceLE, Int.reduceLT, Int.reduceEq, Int.reduceNe, Int.reduceNeg, Int.reduceAdd, Int.reduceSub, Int.reduceMul, Int.reduceToNat, Nat.le_refl, Nat.zero_le, Nat.zero_add, Int.zero_add, Int.add_zero, and_true, true_and, and_false, false_and, not_true_eq_false, not_false_eq_true, eq_self, ne_eq, true_implies, false_implies, implies_true, or_true, true_or, or_false, false_or, reduceCtorEq, Option.some.injEq, Sum.inl.injEq, exists_eq_left', exists_eq_left, zite]
    exact fin
set_option maxRecDepth 100000 in
set_option maxHeartbeats 4000000 in
theorem y_count {S M : zM} {R : zP} {w : Int} (hW : WX S) (h : RM S M) (z0 : zIR w) (hR : ∀ M', YQ M M' → R (some (.inl (aCount S w))) M') : tX8_count [.inr (.inr 46), .inl w] M R := by
  unfold zIR at z0
  have go : (w = 0 ∨ w = 1 ∨ w = 5 ∨ w = 6) → zcv (zv 8 tX8_sumOf) [.inr (.inr 46), .inl w] M (fun v M' => uX8_count R 57 [some (.inr (.inr 46)), some (.inl w)] [v] M') := fun q => by
    refine s_sumOf hW h q (fun M2 g1 g2 => ?_)
    have fin := hR M2 g1
    simp only [↓rX8_count_57, ↓reduceIte, zkeep_n, zkeep_i, zkeep_r, zkeep_l, zup_eq, zIR, zLR, List.length_cons, List.length_nil, Nat.reduceAdd, Nat.reduceLeDiff, Nat.reduceEqDiff, Nat.reduceSub, Int.reduceLE, Int.reduceLT, Int.reduceEq, Int.reduceNe, Int.reduceNeg, Int.reduceAdd, Int.reduceSub, Int.reduceMul, Int.reduceToNat, Nat.le_refl, Nat.zero_le, Nat.zero_add, Int.zero_add, Int.add_zero, and_true, true_and, and_false, false_and, not_true_eq_false, not_false_eq_true, eq_self, ne_eq, true_implies, false_implies, implies_true, or_true, true_or, or_false, false_or, reduceCtorEq, Option.some.injEq, Sum.inl.injEq, exists_eq_left', exists_eq_left, zite]
    exact fin
  have f := hR M YQ.rfl
  unfold aCount at f
  have e2 := h.1.1
  have e3 := h.1.2
  have e4 := h.2.2.2.1.1
  have e7 := h.2.2.2.2.1.1
  have e8 := h.2.2.2.2.2.2
  have c2 : w = 2 → R (some (.inl (M 47 (w - 2)))) M := fun q => by
    subst q
    rw [show (2 : Int) - 2 = 0 by decide, e2]
    exact f
  have c3 : w = 3 → R (some (.inl (M 47 (w - 2)))) M := fun q => by
    subst q
    rw [show (3 : Int) - 2 = 1 by decide, e3]
    exact f
  have c4 : w = 4 → R (some (.inl (S 3 0))) M := fun q => by
    subst q
    exact f
  have c7 : w = 7 → R (some (.inl (S 7 0))) M := fun q => by
    subst q
    exact f
  have c8 : w = 8 → R (some (.inl (S 19 0))) M := fun q => by
    subst q
    exact f
  have cb : (w < 0 ∨ 8 < w) → R (some (.inl (-2))) M := fun q => by
    rw [if_neg (by omega), if_neg (by omega), if_neg (by omega), if_neg (by omega), if_neg (by omega), if_neg (by omega), if_neg (by omega), if_neg (by omega), if_neg (by omega)] at f
    exact f
  simp only [↓eX8_count, ↓rX8_count_0, ↓rX8_count_1, ↓rX8_count_77, ↓rX8_count_78, ↓rX8_count_81, ↓rX8_count_72, ↓rX8_count_73, ↓rX8_count_76, ↓rX8_count_52, ↓rX8_count_53, ↓rX8_count_54, ↓rX8_count_67, ↓rX8_count_68, ↓rX8_count_71, ↓rX8_count_58, ↓rX8_count_59, ↓rX8_count_62, ↓rX8_count_63, ↓rX8_count_64, ↓rX8_count_65, ↓rX8_count_66, ↓rX8_count_82, ↓rX8_count_84, ↓hg_fX8_166_46, ↓hg_fX8_290_46, ↓hg_fX8_323_46, ↓hg_fX8_7_46, ↓hr_47, ↓hr_48, ↓hr_49, ↓hr_50, ↓hr_51, ↓hr_52, ↓hr_53, ↓hr_54, ↓hr_55, ↓hr_56, ↓hr_57, ↓hr_58, ↓hr_59, ↓hr_60, ↓hr_61, ↓hr_62, ↓hr_63, ↓hr_64, ↓hr_65, ↓hr_66, ↓hr_67, ↓hr_68, ↓hr_69, ↓hr_70, ↓hr_71, ↓hr_72, ↓hr_73, ↓hr_74, ↓hr_75, ↓hr_76, ↓hr_77, ↓hr_78, ↓hr_79, ↓hw_47, ↓hw_48, ↓hw_49, ↓hw_50, ↓hw_51, ↓hw_52, ↓hw_53, ↓hw_54, ↓hw_55, ↓hw_56, ↓hw_57, ↓hw_58, ↓hw_59, ↓hw_60, ↓hw_61, ↓hw_62, ↓hw_63, ↓hw_64, ↓hw_65, ↓hw_66, ↓hw_67, ↓hw_68, ↓hw_69, ↓hw_70, ↓hw_71, ↓hw_72, ↓hw_73, ↓hw_74, ↓hw_75, ↓hw_76, ↓hw_77, ↓hw_78, ↓hw_79, ↓reduceIte, zkeep_n, zkeep_i, zkeep_r, zkeep_l, zup_eq, zIR, zLR, List.length_cons, List.length_nil, Nat.reduceAdd, Nat.reduceLeDiff, Nat.reduceEqDiff, Nat.reduceSub, Int.reduceLE, Int.reduceLT, Int.reduceEq, Int.reduceNe, Int.reduceNeg, Int.reduceAdd, Int.reduceSub, Int.reduceMul, Int.reduceToNat, Nat.le_refl, Nat.zero_le, Nat.zero_add, Int.zero_add, Int.add_zero, and_true, true_and, and_false, false_and, not_true_eq_false, not_false_eq_true, eq_self, ne_eq, true_implies, false_implies, implies_true, or_true, true_or, or_false, false_or, reduceCtorEq, Option.some.injEq, Sum.inl.injEq, exists_eq_left', exists_eq_left, e4, e7, e8, zite]
  repeat' (first | with_reducible apply And.intro | with_reducible intro _)
  all_goals first | omega | (exact go (by omega)) | (exact c2 (by omega)) | (exact c3 (by omega)) | (exact c4 (by omega)) | (exact c7 (by omega)) | (exact c8 (by omega)) | (exact cb (by omega))
set_option maxRecDepth 100000 in
set_option maxHeartbeats 4000000 in
theorem y_fault {S M : zM} {R : zP} {t : Int} (hW : WX S) (h : RM S M) (z1 : zIR t) (hR : ∀ M', YQ M M' → R (some (.inl (aFault S t))) M') : tX8_fault [.inr (.inr 46), .inl t] M R := by
  unfold zIR at z1
  unfold aFault at hR
  have bad : ¬ (0 ≤ t ∧ t < 2) → R (some (.inl (-2))) M := fun q => by
    have := hR M YQ.rfl
    rw [if_neg q] at this
    exact this
  have go : (0 ≤ t ∧ t < 2) → zcv (zv 8 tX8_faultOf) [.inr (.inr 46), .inl t] M (fun v M' => uX8_fault R 12 [some (.inr (.inr 46)), some (.inl t)] [v] M') := fun q => by
    refine zcvv rfl (s_faultOf hW h (by omega) (fun M1 f1 f2 => ⟨_, rfl, ?_⟩))
    have fin := hR M1 f1.yq
    rw [if_pos q] at fin
    have e : qflaw S t.toNat = if t = 0 then qflaw S 0 else qflaw S 1 := by
      have e : t = 0 ∨ t = 1 := by omega
      rcases e with rfl | rfl <;> rfl
    rw [e] at fin
    simp only [↓rX8_fault_12, ↓rX8_fault_17, ↓reduceIte, zkeep_n, zkeep_i, zkeep_r, zkeep_l, zup_eq, zIR, zLR, List.length_cons, List.length_nil, Nat.reduceAdd, Nat.reduceLeDiff, Nat.reduceEqDiff, Nat.reduceSub, Int.reduceLE, Int.reduceLT, Int.reduceEq, Int.reduceNe, Int.reduceNeg, Int.reduceAdd, Int.reduceSub, Int.reduceMul, Int.reduceToNat, Nat.le_refl, Nat.zero_le, Nat.zero_add, Int.zero_add, Int.add_zero, and_true, true_and, and_false, false_and, not_true_eq_false, not_false_eq_true, eq_self, ne_eq, true_implies, false_implies, implies_true, or_true, true_or, or_false, false_or, reduceCtorEq, Option.some.injEq, Sum.inl.injEq, exists_eq_left', exists_eq_left]
    exact fin
  simp only [↓eX8_fault, ↓rX8_fault_0, ↓rX8_fault_1, ↓rX8_fault_4, ↓rX8_fault_7, ↓rX8_fault_8, ↓rX8_fault_9, ↓rX8_fault_15, ↓rX8_fault_17, ↓i_isText, ↓reduceIte, zkeep_n, zkeep_i, zkeep_r, zkeep_l, zup_eq, zIR, zLR, List.length_cons, List.length_nil, Nat.reduceAdd, Nat.reduceLeDiff, Nat.reduceEqDiff, Nat.reduceSub, Int.reduceLE, Int.reduceLT, Int.reduceEq, Int.reduceNe, Int.reduceNeg, Int.reduceAdd, Int.reduceSub, Int.reduceMul, Int.reduceToNat, Nat.le_refl, Nat.zero_le, Nat.zero_add, Int.zero_add, Int.add_zero, and_true, true_and, and_false, false_and, not_true_eq_false, not_false_eq_true, eq_self, ne_eq, true_implies, false_implies, implies_true, or_true, true_or, or_false, false_or, reduceCtorEq, Option.some.injEq, Sum.inl.injEq, exists_eq_left', exists_eq_left, zite]
  repeat' (first | with_reducible apply And.intro | with_reducible intro _)
  all_goals first | omega | (exact bad (by omega)) | (exact go (by omega))
set_option maxRecDepth 100000 in
set_option maxHeartbeats 4000000 in
theorem y_member {S M : zM} {R : zP} {m w : Int} (hW : WX S) (h : RM S M) (z1 : zIR m) (z2 : zIR w) (hR : ∀ M', YQ M M' → R (some (.inl (aMember S m w))) M') : tX8_member [.inr (.inr 46), .inl m, .inl w] M R := by
  have hk := W_k hW
  unfold aMember at hR
  simp only [↓eX8_member, ↓rX8_member_0, ↓rX8_member_1, ↓rX8_member_2, ↓reduceIte, zkeep_n, zkeep_i, zkeep_r, zkeep_l, zup_eq, zIR, zLR, List.length_cons, List.length_nil, Nat.reduceAdd, Nat.reduceLeDiff, Nat.reduceEqDiff, Nat.reduceSub, Int.reduceLE, Int.reduceLT, Int.reduceEq, Int.reduceNe, Int.reduceNeg, Int.reduceAdd, Int.reduceSub, Int.reduceMul, Int.reduceToNat, Nat.le_refl, Nat.zero_le, Nat.zero_add, Int.zero_add, Int.add_zero, and_true, true_and, and_false, false_and, not_true_eq_false, not_false_eq_true, eq_self, ne_eq, true_implies, false_implies, implies_true, or_true, true_or, or_false, false_or, reduceCtorEq, Option.some.injEq, Sum.inl.injEq, exists_eq_left', exists_eq_left, zite]
  refine s_isMember hW h z1 (fun hm M1 f1 f2 => ?_) (fun hm M1 f1 f2 => ?_)
  · unfold zIR at z1 z2
    have fin := hR M1 f1.yq
    have e := f2.2.2.1 m hm.1 hm.2
    have y0 : w = 0 → R (some (.inl (M1 49 m))) M1 := fun q => by
      rw [if_pos ⟨hm, by omega⟩, q] at fin
      rw [e.1]; exact fin
    have y1 : ¬ w = 0 → (0 ≤ w ∧ w < 5) → R (some (.inl (M1 50 (4 * m + w - 1)))) M1 := fun q q2 => by
      rw [if_pos ⟨hm, by omega⟩] at fin
      rw [show 4 * m + w - 1 = 4 * m + (w - 1) by omega, e.2 (w - 1) (by omega) (by omega), show 1 + (w - 1) = w by omega]
      exact fin
    simp only [↓rX8_member_5, ↓rX8_member_8, ↓rX8_member_9, ↓rX8_member_10, ↓rX8_member_11, ↓rX8_member_14, ↓rX8_member_17, ↓rX8_member_18, ↓rX8_member_19, ↓rX8_member_20, ↓rX8_member_23, ↓rX8_member_28, ↓rX8_member_26, ↓i_in, ↓reduceIte, ↓i_memberOf, zkeep_n, zkeep_i, zkeep_r, zkeep_l, zup_eq, zIR, zLR, List.length_cons, List.length_nil, Nat.reduceAdd, Nat.reduceLeDiff, Nat.reduceEqDiff, Nat.reduceSub, Int.reduceLE, Int.reduceLT, Int.reduceEq, Int.reduceNe, Int.reduceNeg, Int.reduceAdd, Int.reduceSub, Int.reduceMul, Int.reduceToNat, Nat.le_refl, Nat.zero_le, Nat.zero_add, Int.zero_add, Int.add_zero, and_true, true_and, and_false, false_and, not_true_eq_false, not_false_eq_true, eq_self, ne_eq, true_implies, false_implies, implies_true, or_true, true_or, or_false, false_or, reduceCtorEq, Option.some.injEq, Sum.inl.injEq, exists_eq_left', exists_eq_left, zite]
    repeat' (first | with_reducible apply And.intro | with_reducible intro _)
    all_goals first | omega | (exact y0 (by omega)) | (exact y1 (by omega) (by omega)) | (rw [if_neg (by omega)] at fin; exact fin)
  · have fin := hR M1 f1.yq
    rw [if_neg (fun z => hm z.1)] at fin
    simp only [↓rX8_member_5, ↓rX8_member_26, ↓rX8_member_28, ↓reduceIte, zkeep_n, zkeep_i, zkeep_r, zkeep_l, zup_eq, zIR, zLR, List.length_cons, List.length_nil, Nat.reduceAdd, Nat.reduceLeDiff, Nat.reduceEqDiff, Nat.reduceSub, Int.reduceLE, Int.reduceLT, Int.reduceEq, Int.reduceNe, Int.reduceNeg, Int.reduceAdd, Int.reduceSub, Int.reduceMul, Int.reduceToNat, Nat.le_refl, Nat.zero_le, Nat.zero_add, Int.zero_add, Int.add_zero, and_true, true_and, and_false, false_and, not_true_eq_false, not_false_eq_true, eq_self, ne_eq, true_implies, false_implies, implies_true, or_true, true_or, or_false, false_or, reduceCtorEq, Option.some.injEq, Sum.inl.injEq, exists_eq_left', exists_eq_left, zite]
    exact fin
set_option maxRecDepth 100000 in
set_option maxHeartbeats 4000000 in
theorem y_cow {S M : zM} {R : zP} {m w : Int} (hW : WX S) (h : RM S M) (z1 : zIR m) (z2 : zIR w) (hR : ∀ M', YQ M M' → R (some (.inl (aCow S m w))) M') : tX8_cow [.inr (.inr 46), .inl m, .inl w] M R := by
  have hk := W_k hW
  unfold aCow at hR
  simp only [↓eX8_cow, ↓rX8_cow_0, ↓rX8_cow_1, ↓rX8_cow_2, ↓reduceIte, zkeep_n, zkeep_i, zkeep_r, zkeep_l, zup_eq, zIR, zLR, List.length_cons, List.length_nil, Nat.reduceAdd, Nat.reduceLeDiff, Nat.reduceEqDiff, Nat.reduceSub, Int.reduceLE, Int.reduceLT, Int.reduceEq, Int.reduceNe, Int.reduceNeg, Int.reduceAdd, Int.reduceSub, Int.reduceMul, Int.reduceToNat, Nat.le_refl, Nat.zero_le, Nat.zero_add, Int.zero_add, Int.add_zero, and_true, true_and, and_false, false_and, not_true_eq_false, not_false_eq_true, eq_self, ne_eq, true_implies, false_implies, implies_true, or_true, true_or, or_false, false_or, reduceCtorEq, Option.some.injEq, Sum.inl.injEq, exists_eq_left', exists_eq_left, zite]
  refine s_isCow hW h z1 (fun hm M1 f1 f2 => ?_) (fun hm M1 f1 f2 => ?_)
  · unfold zIR at z1 z2
    have fin := hR M1 f1.yq
    have e := f2.2.2.2 m hm.1 hm.2
    have y0 : w = 0 → R (some (.inl (M1 51 m))) M1 := fun q => by
      rw [if_pos ⟨hm, by omega⟩, q] at fin
      rw [e.1]; exact fin
    have y1 : ¬ w = 0 → (0 ≤ w ∧ w < 5) → R (some (.inl (M1 52 (4 * m + w - 1)))) M1 := fun q q2 => by
      rw [if_pos ⟨hm, by omega⟩] at fin
      rw [show 4 * m + w - 1 = 4 * m + (w - 1) by omega, e.2 (w - 1) (by omega) (by omega), show 1 + (w - 1) = w by omega]
      exact fin
    simp only [↓rX8_cow_5, ↓rX8_cow_8, ↓rX8_cow_9, ↓rX8_cow_10, ↓rX8_cow_11, ↓rX8_cow_14, ↓rX8_cow_17, ↓rX8_cow_18, ↓rX8_cow_19, ↓rX8_cow_20, ↓rX8_cow_23, ↓rX8_cow_28, ↓rX8_cow_26, ↓i_in, ↓reduceIte, ↓i_cowOf, zkeep_n, zkeep_i, zkeep_r, zkeep_l, zup_eq, zIR, zLR, List.length_cons, List.length_nil, Nat.reduceAdd, Nat.reduceLeDiff, Nat.reduceEqDiff, Nat.reduceSub, Int.reduceLE, Int.reduceLT, Int.reduceEq, Int.reduceNe, Int.reduceNeg, Int.reduceAdd, Int.reduceSub, Int.reduceMul, Int.reduceToNat, Nat.le_refl, Nat.zero_le, Nat.zero_add, Int.zero_add, Int.add_zero, and_true, true_and, and_false, false_and, not_true_eq_false, not_false_eq_true, eq_self, ne_eq, true_implies, false_implies, implies_true, or_true, true_or, or_false, false_or, reduceCtorEq, Option.some.injEq, Sum.inl.injEq, exists_eq_left', exists_eq_left, zite]
    repeat' (first | with_reducible apply And.intro | with_reducible intro _)
    all_goals first | omega | (exact y0 (by omega)) | (exact y1 (by omega) (by omega)) | (rw [if_neg (by omega)] at fin; exact fin)
  · have fin := hR M1 f1.yq
    rw [if_neg (fun z => hm z.1)] at fin
    simp only [↓rX8_cow_5, ↓rX8_cow_26, ↓rX8_cow_28, ↓reduceIte, zkeep_n, zkeep_i, zkeep_r, zkeep_l, zup_eq, zIR, zLR, List.length_cons, List.length_nil, Nat.reduceAdd, Nat.reduceLeDiff, Nat.reduceEqDiff, Nat.reduceSub, Int.reduceLE, Int.reduceLT, Int.reduceEq, Int.reduceNe, Int.reduceNeg, Int.reduceAdd, Int.reduceSub, Int.reduceMul, Int.reduceToNat, Nat.le_refl, Nat.zero_le, Nat.zero_add, Int.zero_add, Int.add_zero, and_true, true_and, and_false, false_and, not_true_eq_false, not_false_eq_true, eq_self, ne_eq, true_implies, false_implies, implies_true, or_true, true_or, or_false, false_or, reduceCtorEq, Option.some.injEq, Sum.inl.injEq, exists_eq_left', exists_eq_left, zite]
    exact fin
