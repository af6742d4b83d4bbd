theorem ahd_R {S : zM} (hW : WX S) {me qu : Int} (hg : 0 ≤ me ∧ me < qn S 0) (hqu : 0 ≤ qu ∧ qu < 4) {t v : Nat} (ht : t < 20) (hv : v < 10) : 0 ≤ ahd S me qu t v ∧ ahd S me qu t v ≤ 9 := by
  obtain ⟨M0, hX⟩ := hW
  have hqr : QR S := hX.2.2.2.1.1
  have hF := hX.2.2.2.2.1.2.2.2.2
  have h8 := (RX_qk hX).2.2.2.2.2
  have := vokb_wG (S := S) (g := gt S) (n := nf S) (kp := kall) (so := so0 S) (fi := fup2 (fst S) me qu v) (k := me) (T := t) hqr (fun q q0 q1 => by
    unfold fup2
    split
    · omega
    · exact ((hqr 0 (by decide)).2 me hg.1 hg.2).2.2 (1 + q) (by omega) (by omega)) (fun f hf => (hF f hf).2.2.2.1) (by omega) ht
  exact this.1 qu (by omega) (by omega)
set_option maxRecDepth 100000 in
set_option maxHeartbeats 4000000 in
theorem s_askOf {S M : zM} {F : zV → zM → Prop} {me qu : Int} (hW : WX S) (h : RM S M) (hg : 0 ≤ me ∧ me < qn S 0) (hqu : 0 ≤ qu ∧ qu < 4) (hR : ∀ M', YQ M M' → RC S M' → F (.inl (aAsk S me qu)) M') : zcv (zv 8 tX8_askOf) [.inr (.inr 46), .inl me, .inl qu] M F := by
  refine zcvv rfl ?_
  unfold aAsk at hR
  rw [if_pos ⟨hg, hqu⟩] at hR
  simp only [↓eX8_askOf, ↓rX8_askOf_0, ↓rX8_askOf_1, ↓rX8_askOf_2, ↓rX8_askOf_3, ↓reduceIte, zkeep_n, zkeep_i, zkeep_r, zkeep_l, zup_eq, zIR, zLR, List.length_cons, List.length_nil, Nat.reduceAdd, Nat.reduceLeDiff, Nat.reduceEqDiff, Nat.reduceSub, Int.reduceLE, Int.reduceLT, Int.reduceEq, Int.reduceNe, Int.reduceNeg, Int.reduceAdd, Int.reduceSub, Int.reduceMul, Int.reduceToNat, Nat.le_refl, Nat.zero_le, Nat.zero_add, Int.zero_add, Int.add_zero, and_true, true_and, and_false, false_and, not_true_eq_false, not_false_eq_true, eq_self, ne_eq, true_implies, false_implies, implies_true, or_true, true_or, or_false, false_or, reduceCtorEq, Option.some.injEq, Sum.inl.injEq, exists_eq_left', exists_eq_left, zite]
  refine s_firstBy hW h hg hqu (fun M2 g1 g2 g3 => ?_)
  have fin := hR M2 g1 g2
  have hAR : ∀ t v : Nat, t < 20 → v < 10 → 0 ≤ ahd S me qu t v ∧ ahd S me qu t v ≤ 9 := fun t v ht hv => ahd_R hW hg hqu ht hv
  have hak : ∀ t, akf S me qu t = wmost (pfst S me qu) (ahd S me qu t) 10 := fun t => rfl
  generalize akf S me qu = f at *
  generalize pfst S me qu = p at *
  generalize ahd S me qu = A at *
  have hfR : ∀ t, 0 ≤ f t ∧ f t ≤ 10 := fun t => by rw [hak]; exact wmost_R p (A t) 10
  have hbit : ∀ a : Nat, a < 10 → zand (zshr (wbs p 10) a) 1 = if p a = true then 1 else 0 := fun a ha => zbit_wbsX p (by decide) ha
  have L : ∀ s : Nat × Int × Int, (s.1 ≤ 20 ∧ ((s.1 = 0 ∧ s.2.1 = -1 ∧ s.2.2 = 0) ∨ (0 < s.1 ∧ s.2.1 = wmni f s.1 ∧ s.2.2 = wmnv f s.1))) → ∀ x7 x8 x9 x10, uX8_askOf (fun r M' => ∃ v, r = some v ∧ F v M') 16 [some (.inr (.inr 46)), some (.inl me), some (.inl qu), some (.inl (wbs p 10)), some (.inl s.2.1), some (.inl s.2.2), some (.inl (s.1 : Int)), x7, x8, x9, x10] [] M2 := by
    refine zind (fun s => 20 - s.1) ?_
    rintro ⟨t, be, le⟩ ⟨ht, hbl⟩ ih x7 x8 x9 x10
    simp only at ht hbl ih
    refine rX8_askOf_16.mpr ?_
    by_cases he : t = 20
    · subst he
      have e : be = wmni f 20 := by omega
      rw [← e] at fin
      simp only [↓rX8_askOf_18, ↓rX8_askOf_20, ↓rX8_askOf_188, ↓rX8_askOf_190, ↓reduceIte, zkeep_n, zkeep_i, zkeep_r, zkeep_l, zup_eq, zIR, zLR, List.length_cons, List.length_nil, Nat.reduceAdd, Nat.reduceLeDiff, Nat.reduceEqDiff, Nat.reduceSub, Int.reduceLE, Int.reduceLT, Int.reduceEq, Int.reduceNe, Int.reduceNeg, Int.reduceAdd, Int.reduceSub, Int.reduceMul, Int.reduceToNat, Nat.le_refl, Nat.zero_le, Nat.zero_add, Int.zero_add, Int.add_zero, and_true, true_and, and_false, false_and, not_true_eq_false, not_false_eq_true, eq_self, ne_eq, true_implies, false_implies, implies_true, or_true, true_or, or_false, false_or, reduceCtorEq, Option.some.injEq, Sum.inl.injEq, exists_eq_left', exists_eq_left, zite]
      repeat' (first | with_reducible apply And.intro | with_reducible intro _)
      all_goals first | omega | (exact fin)
    · have lR : 0 ≤ le ∧ le ≤ 11 := by
        rcases hbl with q | q
        · omega
        · have := wmnv_R hfR t
          omega
      have bR : -1 ≤ be ∧ be ≤ 20 := by
        rcases hbl with q | q
        · omega
        · have := wmni_R f t
          omega
      have b0 : be = -1 ↔ t = 0 := by
        rcases hbl with q | q
        · omega
        · have : 0 ≤ wmni f t := by
            have : ∀ k, 0 ≤ wmni f k := fun k => by
              induction k with
              | zero => exact Int.le_refl _
              | succ k ih => unfold wmni; split <;> omega
            exact this t
          omega
      have ft := hfR t
      have step : wmni f (t + 1) = (if f t < wmnv f t then (t : Int) else wmni f t) ∧ wmnv f (t + 1) = (if f t < wmnv f t then f t else wmnv f t) := ⟨rfl, rfl⟩
      have w00 : wmnv f 0 = 11 := rfl
      have J134 : ∀ x8 x9 x10, uX8_askOf (fun r M' => ∃ v, r = some v ∧ F v M') 134 [some (.inr (.inr 46)), some (.inl me), some (.inl qu), some (.inl (wbs p 10)), some (.inl be), some (.inl le), some (.inl (t : Int)), some (.inl (f t)), x8, x9, x10] [] M2 := by
        intro x8 x9 x10
        have better : (be = -1 ∨ f t < le) → ∀ x8, uX8_askOf (fun r M' => ∃ v, r = some v ∧ F v M') 16 [some (.inr (.inr 46)), some (.inl me), some (.inl qu), some (.inl (wbs p 10)), some (.inl (t : Int)), some (.inl (f t)), some (.inl ((t : Int) + 1)), some (.inl (f t)), x8, x9, x10] [] M2 := fun q x8 => by
          refine ih (t + 1, (t : Int), f t) ⟨by simp only; omega, Or.inr ⟨by simp only; omega, ?_, ?_⟩⟩ (by simp only; omega) _ _ _ _
          · rw [step.1, if_pos]
            rcases hbl with z | z
            · have := hfR 0
              rw [z.1, w00]; omega
            · omega
          · rw [step.2, if_pos]
            rcases hbl with z | z
            · have := hfR 0
              rw [z.1, w00]; omega
            · omega
        have worse : ¬ (be = -1 ∨ f t < le) → ∀ x8, uX8_askOf (fun r M' => ∃ v, r = some v ∧ F v M') 16 [some (.inr (.inr 46)), some (.inl me), some (.inl qu), some (.inl (wbs p 10)), some (.inl be), some (.inl le), some (.inl ((t : Int) + 1)), some (.inl (f t)), x8, x9, x10] [] M2 := fun q x8 => by
          refine ih (t + 1, be, le) ⟨by simp only; omega, Or.inr ⟨by simp only; omega, ?_, ?_⟩⟩ (by simp only; omega) _ _ _ _
          · rw [step.1, if_neg (by omega)]
            simp only
            omega
          · rw [step.2, if_neg (by omega)]
            simp only
            omega
        simp only [↓rX8_askOf_134, ↓rX8_askOf_136, ↓rX8_askOf_137, ↓rX8_askOf_140, ↓rX8_askOf_142, ↓rX8_askOf_144, ↓rX8_askOf_147, ↓rX8_askOf_148, ↓rX8_askOf_152, ↓rX8_askOf_154, ↓rX8_askOf_156, ↓rX8_askOf_159, ↓rX8_askOf_161, ↓rX8_askOf_166, ↓rX8_askOf_168, ↓rX8_askOf_170, ↓rX8_askOf_173, ↓rX8_askOf_175, ↓rX8_askOf_180, ↓rX8_askOf_182, ↓rX8_askOf_185, ↓rX8_askOf_178, ↓rX8_askOf_164, ↓rX8_askOf_151, ↓reduceIte, zkeep_n, zkeep_i, zkeep_r, zkeep_l, zup_eq, zIR, zLR, List.length_cons, List.length_nil, Nat.reduceAdd, Nat.reduceLeDiff, Nat.reduceEqDiff, Nat.reduceSub, Int.reduceLE, Int.reduceLT, Int.reduceEq, Int.reduceNe, Int.reduceNeg, Int.reduceAdd, Int.reduceSub, Int.reduceMul, Int.reduceToNat, Nat.le_refl, Nat.zero_le, Nat.zero_add, Int.zero_add, Int.add_zero, and_true, true_and, and_false, false_and, not_true_eq_false, not_false_eq_true, eq_self, ne_eq, true_implies, false_implies, implies_true, or_true, true_or, or_false, false_or, reduceCtorEq, Option.some.injEq, Sum.inl.injEq, exists_eq_left', exists_eq_left, zite]
        repeat' (first | with_reducible apply And.intro | with_reducible intro _)
        all_goals first | omega | (exact better (by omega) _) | (exact worse (by omega) _)
      have LA : ∀ a : Nat, a ≤ 10 → ∀ x9 x10, uX8_askOf (fun r M' => ∃ v, r = some v ∧ F v M') 29 [some (.inr (.inr 46)), some (.inl me), some (.inl qu), some (.inl (wbs p 10)), some (.inl be), some (.inl le), some (.inl (t : Int)), some (.inl (wmo p (A t) a)), some (.inl (a : Int)), x9, x10] [] M2 := by
        refine zind (fun a => 10 - a) ?_
        intro a ha ih2 x9 x10
        refine rX8_askOf_29.mpr ?_
        by_cases hae : a = 10
        · subst hae
          have J := J134 (some (.inl ((10 : Nat) : Int))) x9 x10
          rw [wmo_is, ← hak]
          simp only [↓rX8_askOf_31, ↓rX8_askOf_33, ↓reduceIte, zkeep_n, zkeep_i, zkeep_r, zkeep_l, zup_eq, zIR, zLR, List.length_cons, List.length_nil, Nat.reduceAdd, Nat.reduceLeDiff, Nat.reduceEqDiff, Nat.reduceSub, Int.reduceLE, Int.reduceLT, Int.reduceEq, Int.reduceNe, Int.reduceNeg, Int.reduceAdd, Int.reduceSub, Int.reduceMul, Int.reduceToNat, Nat.le_refl, Nat.zero_le, Nat.zero_add, Int.zero_add, Int.add_zero, and_true, true_and, and_false, false_and, not_true_eq_false, not_false_eq_true, eq_self, ne_eq, true_implies, false_implies, implies_true, or_true, true_or, or_false, false_or, reduceCtorEq, Option.some.injEq, Sum.inl.injEq, exists_eq_left', exists_eq_left, zite]
          repeat' (first | with_reducible apply And.intro | with_reducible intro _)
          all_goals first | omega | (exact J)
        · have nx := fun x9 x10 => ih2 (a + 1) (by omega) (by omega) x9 x10
          simp only [wmo] at nx
          have cR := fun k => wct_R (fun b => p a && p b && decide (A t a = A t b)) k
          have cR : ∀ k, 0 ≤ wcb p (A t) a k ∧ wcb p (A t) a k ≤ k := cR
          have moR : 0 ≤ wmo p (A t) a ∧ wmo p (A t) a ≤ 10 := by
            have : ∀ k, 0 ≤ wmo p (A t) k ∧ wmo p (A t) k ≤ 10 := fun k => by
              induction k with
              | zero => exact ⟨Int.le_refl _, (by decide : (0 : Int) ≤ 10)⟩
              | succ k ih =>
                have := wct_R (fun b => p k && p b && decide (A t k = A t b)) 10
                have : 0 ≤ wcb p (A t) k 10 ∧ wcb p (A t) k 10 ≤ (10 : Nat) := this
                unfold wmo
                split <;> omega
            exact this a
          have ea := g3 a (by omega) t (by omega)
          have ra := hAR t a (by omega) (by omega)
          have ba := hbit a (by omega)
          have J112 : ∀ x10, uX8_askOf (fun r M' => ∃ v, r = some v ∧ F v M') 112 [some (.inr (.inr 46)), some (.inl me), some (.inl qu), some (.inl (wbs p 10)), some (.inl be), some (.inl le), some (.inl (t : Int)), some (.inl (wmo p (A t) a)), some (.inl (a : Int)), some (.inl (wcb p (A t) a 10)), x10] [] M2 := by
            intro x10
            have c10 := cR 10
            have yes : wmo p (A t) a < wcb p (A t) a 10 → uX8_askOf (fun r M' => ∃ v, r = some v ∧ F v M') 29 [some (.inr (.inr 46)), some (.inl me), some (.inl qu), some (.inl (wbs p 10)), some (.inl be), some (.inl le), some (.inl (t : Int)), some (.inl (wcb p (A t) a 10)), some (.inl ((a : Int) + 1)), some (.inl (wcb p (A t) a 10)), x10] [] M2 := fun q => by
              have := nx (some (.inl (wcb p (A t) a 10))) x10
              rw [if_pos q] at this
              exact this
            have no : ¬ wmo p (A t) a < wcb p (A t) a 10 → uX8_askOf (fun r M' => ∃ v, r = some v ∧ F v M') 29 [some (.inr (.inr 46)), some (.inl me), some (.inl qu), some (.inl (wbs p 10)), some (.inl be), some (.inl le), some (.inl (t : Int)), some (.inl (wmo p (A t) a)), some (.inl ((a : Int) + 1)), some (.inl (wcb p (A t) a 10)), x10] [] M2 := fun q => by
              have := nx (some (.inl (wcb p (A t) a 10))) x10
              rw [if_neg q] at this
              exact this
            simp only [↓rX8_askOf_112, ↓rX8_askOf_114, ↓rX8_askOf_116, ↓rX8_askOf_119, ↓rX8_askOf_121, ↓rX8_askOf_126, ↓rX8_askOf_128, ↓rX8_askOf_131, ↓rX8_askOf_124, ↓reduceIte, zkeep_n, zkeep_i, zkeep_r, zkeep_l, zup_eq, zIR, zLR, List.length_cons, List.length_nil, Nat.reduceAdd, Nat.reduceLeDiff, Nat.reduceEqDiff, Nat.reduceSub, Int.reduceLE, Int.reduceLT, Int.reduceEq, Int.reduceNe, Int.reduceNeg, Int.reduceAdd, Int.reduceSub, Int.reduceMul, Int.reduceToNat, Nat.le_refl, Nat.zero_le, Nat.zero_add, Int.zero_add, Int.add_zero, and_true, true_and, and_false, false_and, not_true_eq_false, not_false_eq_true, eq_self, ne_eq, true_implies, false_implies, implies_true, or_true, true_or, or_false, false_or, reduceCtorEq, Option.some.injEq, Sum.inl.injEq, exists_eq_left', exists_eq_left, zite]
            repeat' (first | with_reducible apply And.intro | with_reducible intro _)
            all_goals first | omega | (exact yes (by omega)) | (exact no (by omega))
          have LB : ∀ b : Nat, b ≤ 10 → uX8_askOf (fun r M' => ∃ v, r = some v ∧ F v M') 42 [some (.inr (.inr 46)), some (.inl me), some (.inl qu), some (.inl (wbs p 10)), some (.inl be), some (.inl le), some (.inl (t : Int)), some (.inl (wmo p (A t) a)), some (.inl (a : Int)), some (.inl (wcb p (A t) a b)), some (.inl (b : Int))] [] M2 := by
            refine zind (fun b => 10 - b) ?_
            intro b hb ih3
            refine rX8_askOf_42.mpr ?_
            by_cases hbe : b = 10
            · subst hbe
              have J := J112 (some (.inl ((10 : Nat) : Int)))
              simp only [↓rX8_askOf_44, ↓rX8_askOf_46, ↓reduceIte, zkeep_n, zkeep_i, zkeep_r, zkeep_l, zup_eq, zIR, zLR, List.length_cons, List.length_nil, Nat.reduceAdd, Nat.reduceLeDiff, Nat.reduceEqDiff, Nat.reduceSub, Int.reduceLE, Int.reduceLT, Int.reduceEq, Int.reduceNe, Int.reduceNeg, Int.reduceAdd, Int.reduceSub, Int.reduceMul, Int.reduceToNat, Nat.le_refl, Nat.zero_le, Nat.zero_add, Int.zero_add, Int.add_zero, and_true, true_and, and_false, false_and, not_true_eq_false, not_false_eq_true, eq_self, ne_eq, true_implies, false_implies, implies_true, or_true, true_or, or_false, false_or, reduceCtorEq, Option.some.injEq, Sum.inl.injEq, exists_eq_left', exists_eq_left, zite]
              repeat' (first | with_reducible apply And.intro | with_reducible intro _)
              all_goals first | omega | (exact J)
            · have nx3 := ih3 (b + 1) (by omega) (by omega)
              have es : wcb p (A t) a (b + 1) = wcb p (A t) a b + if (p a && p b && decide (A t a = A t b)) = true then 1 else 0 := rfl
              rw [es] at nx3
              have eb := g3 b (by omega) t (by omega)
              have rb := hAR t b (by omega) (by omega)
              have bb := hbit b (by omega)
              cases hpa : p a with
              | false =>
                rw [hpa, if_neg (by simp)] at ba
                rw [hpa, if_neg (by simp), Int.add_zero] at nx3
                simp only [↓rX8_askOf_44, ↓rX8_askOf_46, ↓rX8_askOf_49, ↓rX8_askOf_51, ↓rX8_askOf_52, ↓rX8_askOf_54, ↓rX8_askOf_57, ↓rX8_askOf_102, ↓rX8_askOf_103, ↓rX8_askOf_104, ↓rX8_askOf_106, ↓rX8_askOf_109, ↓i_isIn, ↓reduceIte, zkeep_n, zkeep_i, zkeep_r, zkeep_l, zup_eq, zIR, zLR, List.length_cons, List.length_nil, Nat.reduceAdd, Nat.reduceLeDiff, Nat.reduceEqDiff, Nat.reduceSub, Int.reduceLE, Int.reduceLT, Int.reduceEq, Int.reduceNe, Int.reduceNeg, Int.reduceAdd, Int.reduceSub, Int.reduceMul, Int.reduceToNat, Nat.le_refl, Nat.zero_le, Nat.zero_add, Int.zero_add, Int.add_zero, and_true, true_and, and_false, false_and, not_true_eq_false, not_false_eq_true, eq_self, ne_eq, true_implies, false_implies, implies_true, or_true, true_or, or_false, false_or, reduceCtorEq, Option.some.injEq, Sum.inl.injEq, exists_eq_left', exists_eq_left, ba, zite]
                repeat' (first | with_reducible apply And.intro | with_reducible intro _)
                all_goals first | omega | (exact nx3)
              | true =>
                rw [hpa, if_pos rfl] at ba
                cases hpb : p b with
                | false =>
                  rw [hpb, if_neg (by simp)] at bb
                  rw [hpa, hpb, if_neg (by simp), Int.add_zero] at nx3
                  simp only [↓rX8_askOf_44, ↓rX8_askOf_46, ↓rX8_askOf_49, ↓rX8_askOf_51, ↓rX8_askOf_52, ↓rX8_askOf_54, ↓rX8_askOf_57, ↓rX8_askOf_60, ↓rX8_askOf_61, ↓rX8_askOf_63, ↓rX8_askOf_66, ↓rX8_askOf_102, ↓rX8_askOf_103, ↓rX8_askOf_104, ↓rX8_askOf_106, ↓rX8_askOf_109, ↓i_isIn, ↓reduceIte, zkeep_n, zkeep_i, zkeep_r, zkeep_l, zup_eq, zIR, zLR, List.length_cons, List.length_nil, Nat.reduceAdd, Nat.reduceLeDiff, Nat.reduceEqDiff, Nat.reduceSub, Int.reduceLE, Int.reduceLT, Int.reduceEq, Int.reduceNe, Int.reduceNeg, Int.reduceAdd, Int.reduceSub, Int.reduceMul, Int.reduceToNat, Nat.le_refl, Nat.zero_le, Nat.zero_add, Int.zero_add, Int.add_zero, and_true, true_and, and_false, false_and, not_true_eq_false, not_false_eq_true, eq_self, ne_eq, true_implies, false_implies, implies_true, or_true, true_or, or_false, false_or, reduceCtorEq, Option.some.injEq, Sum.inl.injEq, exists_eq_left', exists_eq_left, ba, bb, zite]
                  repeat' (first | with_reducible apply And.intro | with_reducible intro _)
                  all_goals first | omega | (exact nx3)
                | true =>
                  rw [hpb, if_pos rfl] at bb
                  rw [hpa, hpb] at nx3
                  simp only [Bool.and_self, Bool.true_and, decide_eq_true_eq] at nx3
                  simp only [↓rX8_askOf_44, ↓rX8_askOf_46, ↓rX8_askOf_49, ↓rX8_askOf_51, ↓rX8_askOf_52, ↓rX8_askOf_54, ↓rX8_askOf_57, ↓rX8_askOf_60, ↓rX8_askOf_61, ↓rX8_askOf_63, ↓rX8_askOf_66, ↓rX8_askOf_69, ↓rX8_askOf_70, ↓rX8_askOf_73, ↓rX8_askOf_75, ↓rX8_askOf_77, ↓rX8_askOf_78, ↓rX8_askOf_80, ↓rX8_askOf_81, ↓rX8_askOf_82, ↓rX8_askOf_83, ↓rX8_askOf_86, ↓rX8_askOf_88, ↓rX8_askOf_90, ↓rX8_askOf_91, ↓rX8_askOf_93, ↓rX8_askOf_94, ↓rX8_askOf_95, ↓rX8_askOf_98, ↓rX8_askOf_99, ↓rX8_askOf_103, ↓rX8_askOf_104, ↓rX8_askOf_106, ↓rX8_askOf_109, ↓rX8_askOf_102, ↓hg_fX8_91_46, ↓hr_47, ↓hr_48, ↓hr_49, ↓hr_50, ↓hr_51, ↓hr_52, ↓hr_53, ↓hr_54, ↓hr_55, ↓hr_56, ↓hr_57, ↓hr_58, ↓hr_59, ↓hr_60, ↓hr_61, ↓hr_62, ↓hr_63, ↓hr_64, ↓hr_65, ↓hr_66, ↓hr_67, ↓hr_68, ↓hr_69, ↓hr_70, ↓hr_71, ↓hr_72, ↓hr_73, ↓hr_74, ↓hr_75, ↓hr_76, ↓hr_77, ↓hr_78, ↓hr_79, ↓hw_47, ↓hw_48, ↓hw_49, ↓hw_50, ↓hw_51, ↓hw_52, ↓hw_53, ↓hw_54, ↓hw_55, ↓hw_56, ↓hw_57, ↓hw_58, ↓hw_59, ↓hw_60, ↓hw_61, ↓hw_62, ↓hw_63, ↓hw_64, ↓hw_65, ↓hw_66, ↓hw_67, ↓hw_68, ↓hw_69, ↓hw_70, ↓hw_71, ↓hw_72, ↓hw_73, ↓hw_74, ↓hw_75, ↓hw_76, ↓hw_77, ↓hw_78, ↓hw_79, ↓i_isIn, ↓reduceIte, zkeep_n, zkeep_i, zkeep_r, zkeep_l, zup_eq, zIR, zLR, List.length_cons, List.length_nil, Nat.reduceAdd, Nat.reduceLeDiff, Nat.reduceEqDiff, Nat.reduceSub, Int.reduceLE, Int.reduceLT, Int.reduceEq, Int.reduceNe, Int.reduceNeg, Int.reduceAdd, Int.reduceSub, Int.reduceMul, Int.reduceToNat, Nat.le_refl, Nat.zero_le, Nat.zero_add, Int.zero_add, Int.add_zero, and_true, true_and, and_false, false_and, not_true_eq_false, not_false_eq_true, eq_self, ne_eq, true_implies, false_implies, implies_true, or_true, true_or, or_false, false_or, reduceCtorEq, Option.some.injEq, Sum.inl.injEq, exists_eq_left', exists_eq_left, ba, bb, ea, eb, zite]
                  repeat' (first | with_reducible apply And.intro | with_reducible intro _)
                  all_goals first | omega | (rw [if_pos (by omega)] at nx3; exact nx3) | (rw [if_neg (by omega), Int.add_zero] at nx3; exact nx3)
          have st := LB 0 (Nat.zero_le _)
          simp only [↓rX8_askOf_31, ↓rX8_askOf_33, ↓rX8_askOf_36, ↓rX8_askOf_37, ↓rX8_askOf_39, ↓rX8_askOf_40, ↓reduceIte, zkeep_n, zkeep_i, zkeep_r, zkeep_l, zup_eq, zIR, zLR, List.length_cons, List.length_nil, Nat.reduceAdd, Nat.reduceLeDiff, Nat.reduceEqDiff, Nat.reduceSub, Int.reduceLE, Int.reduceLT, Int.reduceEq, Int.reduceNe, Int.reduceNeg, Int.reduceAdd, Int.reduceSub, Int.reduceMul, Int.reduceToNat, Nat.le_refl, Nat.zero_le, Nat.zero_add, Int.zero_add, Int.add_zero, and_true, true_and, and_false, false_and, not_true_eq_false, not_false_eq_true, eq_self, ne_eq, true_implies, false_implies, implies_true, or_true, true_or, or_false, false_or, reduceCtorEq, Option.some.injEq, Sum.inl.injEq, exists_eq_left', exists_eq_left, zite]
          repeat' (first | with_reducible apply And.intro | with_reducible intro _)
          all_goals first | omega | (exact st)
      have st := LA 0 (Nat.zero_le _) x9 x10
      simp only [↓rX8_askOf_18, ↓rX8_askOf_20, ↓rX8_askOf_23, ↓rX8_askOf_24, ↓rX8_askOf_26, ↓rX8_askOf_27, ↓reduceIte, zkeep_n, zkeep_i, zkeep_r, zkeep_l, zup_eq, zIR, zLR, List.length_cons, List.length_nil, Nat.reduceAdd, Nat.reduceLeDiff, Nat.reduceEqDiff, Nat.reduceSub, Int.reduceLE, Int.reduceLT, Int.reduceEq, Int.reduceNe, Int.reduceNeg, Int.reduceAdd, Int.reduceSub, Int.reduceMul, Int.reduceToNat, Nat.le_refl, Nat.zero_le, Nat.zero_add, Int.zero_add, Int.add_zero, and_true, true_and, and_false, false_and, not_true_eq_false, not_false_eq_true, eq_self, ne_eq, true_implies, false_implies, implies_true, or_true, true_or, or_false, false_or, reduceCtorEq, Option.some.injEq, Sum.inl.injEq, exists_eq_left', exists_eq_left, zite]
      repeat' (first | with_reducible apply And.intro | with_reducible intro _)
      all_goals first | omega | (exact st)
  have st := fun x7 x8 x9 x10 => L (0, -1, 0) ⟨Nat.zero_le _, Or.inl ⟨rfl, rfl, rfl⟩⟩ x7 x8 x9 x10
  simp only [↓rX8_askOf_6, ↓rX8_askOf_7, ↓rX8_askOf_8, ↓rX8_askOf_10, ↓rX8_askOf_11, ↓rX8_askOf_13, ↓rX8_askOf_14, ↓reduceIte, zkeep_n, zkeep_i, zkeep_r, zkeep_l, zup_eq, zIR, zLR, List.length_cons, List.length_nil, Nat.reduceAdd, Nat.reduceLeDiff, Nat.reduceEqDiff, Nat.reduceSub, Int.reduceLE, Int.reduceLT, Int.reduceEq, Int.reduceNe, Int.reduceNeg, Int.reduceAdd, Int.reduceSub, Int.reduceMul, Int.reduceToNat, Nat.le_refl, Nat.zero_le, Nat.zero_add, Int.zero_add, Int.add_zero, and_true, true_and, and_false, false_and, not_true_eq_false, not_false_eq_true, eq_self, ne_eq, true_implies, false_implies, implies_true, or_true, true_or, or_false, false_or, reduceCtorEq, Option.some.injEq, Sum.inl.injEq, exists_eq_left', exists_eq_left, zite]
  exact st _ _ _ _
set_option maxRecDepth 100000 in
set_option maxHeartbeats 4000000 in
theorem y_ask {S M : zM} {R : zP} {me qu : Int} (hW : WX S) (h : RM S M) (z1 : zIR me) (z2 : zIR qu) (hR : ∀ M', YQ M M' → R (some (.inl (aAsk S me qu))) M') : tX8_ask [.inr (.inr 46), .inl me, .inl qu] M R := by
  simp only [↓eX8_ask, ↓rX8_ask_0, ↓rX8_ask_1, ↓rX8_ask_2, ↓reduceIte, zkeep_n, zkeep_i, zkeep_r, zkeep_l, zup_eq, zIR, zLR, List.length_cons, List.length_nil, Nat.reduceAdd, Nat.reduceLeDiff, Nat.reduceEqDiff, Nat.reduceSub, Int.reduceLE, Int.reduceLT, Int.reduceEq, Int.reduceNe, Int.reduceNeg, Int.reduceAdd, Int.reduceSub, Int.reduceMul, Int.reduceToNat, Nat.le_refl, Nat.zero_le, Nat.zero_add, Int.zero_add, Int.add_zero, and_true, true_and, and_false, false_and, not_true_eq_false, not_false_eq_true, eq_self, ne_eq, true_implies, false_implies, implies_true, or_true, true_or, or_false, false_or, reduceCtorEq, Option.some.injEq, Sum.inl.injEq, exists_eq_left', exists_eq_left, zite]
  refine s_isMember hW h z1 (fun hm M1 f1 f2 => ?_) (fun hm M1 f1 f2 => ?_)
  · unfold zIR at z1 z2
    have bad : ¬ (0 ≤ qu ∧ qu < 4) → R (some (.inl (-2))) M1 := fun q => by
      have := hR M1 f1.yq
      unfold aAsk at this
      rw [if_neg (fun z => q z.2)] at this
      exact this
    have go : (0 ≤ qu ∧ qu < 4) → zcv (zv 8 tX8_askOf) [.inr (.inr 46), .inl me, .inl qu] M1 (fun v M' => uX8_ask R 21 [some (.inr (.inr 46)), some (.inl me), some (.inl qu)] [v] M') := fun q => by
      refine s_askOf hW (RM_yq h f1.yq) hm q (fun M2 g1 g2 => ?_)
      have fin := hR M2 (f1.yq.trans g1)
      simp only [↓rX8_ask_21, ↓rX8_ask_26, ↓reduceIte, zkeep_n, zkeep_i, zkeep_r, zkeep_l, zup_eq, zIR, zLR, List.length_cons, List.length_nil, Nat.reduceAdd, Nat.reduceLeDiff, Nat.reduceEqDiff, Nat.reduceSub, Int.reduceLE, Int.reduceLT, Int.reduceEq, Int.reduceNe, Int.reduceNeg, Int.reduceAdd, Int.reduceSub, Int.reduceMul, Int.reduceToNat, Nat.le_refl, Nat.zero_le, Nat.zero_add, Int.zero_add, Int.add_zero, and_true, true_and, and_false, false_and, not_true_eq_false, not_false_eq_true, eq_self, ne_eq, true_implies, false_implies, implies_true, or_true, true_or, or_false, false_or, reduceCtorEq, Option.some.injEq, Sum.inl.injEq, exists_eq_left', exists_eq_left, zite]
      exact fin
    simp only [↓rX8_ask_5, ↓rX8_ask_8, ↓rX8_ask_9, ↓rX8_ask_12, ↓rX8_ask_15, ↓rX8_ask_16, ↓rX8_ask_17, ↓rX8_ask_18, ↓rX8_ask_24, ↓rX8_ask_26, ↓i_isQuestion, ↓reduceIte, zkeep_n, zkeep_i, zkeep_r, zkeep_l, zup_eq, zIR, zLR, List.length_cons, List.length_nil, Nat.reduceAdd, Nat.reduceLeDiff, Nat.reduceEqDiff, Nat.reduceSub, Int.reduceLE, Int.reduceLT, Int.reduceEq, Int.reduceNe, Int.reduceNeg, Int.reduceAdd, Int.reduceSub, Int.reduceMul, Int.reduceToNat, Nat.le_refl, Nat.zero_le, Nat.zero_add, Int.zero_add, Int.add_zero, and_true, true_and, and_false, false_and, not_true_eq_false, not_false_eq_true, eq_self, ne_eq, true_implies, false_implies, implies_true, or_true, true_or, or_false, false_or, reduceCtorEq, Option.some.injEq, Sum.inl.injEq, exists_eq_left', exists_eq_left, zite]
    repeat' (first | with_reducible apply And.intro | with_reducible intro _)
    all_goals first | omega | (exact bad (by omega)) | (exact go (by omega))
  · have fin := hR M1 f1.yq
    unfold aAsk at fin
    rw [if_neg (fun z => hm z.1)] at fin
    simp only [↓rX8_ask_5, ↓rX8_ask_24, ↓rX8_ask_26, ↓reduceIte, zkeep_n, zkeep_i, zkeep_r, zkeep_l, zup_eq, zIR, zLR, List.length_cons, List.length_nil, Nat.reduceAdd, Nat.reduceLeDiff, Nat.reduceEqDiff, Nat.reduceSub, Int.reduceLE, Int.reduceLT, Int.reduceEq, Int.reduceNe, Int.reduceNeg, Int.reduceAdd, Int.reduceSub, Int.reduceMul, Int.reduceToNat, Nat.le_refl, Nat.zero_le, Nat.zero_add, Int.zero_add, Int.add_zero, and_true, true_and, and_false, false_and, not_true_eq_false, not_false_eq_true, eq_self, ne_eq, true_implies, false_implies, implies_true, or_true, true_or, or_false, false_or, reduceCtorEq, Option.some.injEq, Sum.inl.injEq, exists_eq_left', exists_eq_left, zite]
    exact fin
