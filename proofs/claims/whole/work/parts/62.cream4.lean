set_option maxRecDepth 100000 in
set_option maxHeartbeats 8000000 in
theorem x_cream {S M : zM} {R : zP} {c te qu wh : Int} (h : RX S M) (z0 : zIR c) (z1 : zIR te) (z2 : zIR qu) (z4 : zIR wh) (hR : ∀ M', QF M M' → R (some (.inr (.inl (aCream S c te qu wh)))) M') : tX7_cream [.inr (.inr 0), .inl c, .inl te, .inl qu, .inl wh] M R := by
  have hqn := (h.2.2.2.1.1 0 (by decide)).1
  have hqk : (qk S : Int) = qn S 0 := by unfold qk; omega
  have hn8 := h.2.2.2.2.1.2.2.1
  unfold zIR at z0 z1 z2 z4
  have bad : ¬ ((0 ≤ c ∧ c < 17) ∧ (0 ≤ te ∧ te < 20) ∧ (0 ≤ qu ∧ qu < 4) ∧ (0 ≤ wh ∧ wh < 2)) → R (some (.inr (.inl (-9223372036854775806)))) M := fun hb => by
    have := hR M QF.rfl
    unfold aCream at this
    rw [if_neg hb] at this
    exact this
  have call : ((0 ≤ c ∧ c < 17) ∧ (0 ≤ te ∧ te < 20) ∧ (0 ≤ qu ∧ qu < 4) ∧ (0 ≤ wh ∧ wh < 2)) → zcn tJ7_fill_d0a16 [.inr (.inr 37), .inr (.inl 0)] M (fun M' => uX7_cream R 47 [some (.inr (.inr 0)), some (.inl c), some (.inl te), some (.inl qu), some (.inl wh), none, none, none, none, none, none, none, none] [] M') := by
    intro hg
    have hc : 0 ≤ c ∧ c ≤ 16 := by omega
    obtain ⟨T, rfl⟩ : ∃ T : Nat, te = T := ⟨te.toNat, by omega⟩
    unfold aCream at hR
    rw [if_pos hg] at hR
    simp only [Int.toNat_natCast] at hR
    have last : ∀ (N : zM) (x10 x11 x12 : Option zV), QF M N → (∀ j : Nat, j ≤ 8 → aW S c T qu (qk S) j = N 37 j * 16 ^ (8 - cO (olt S T (qk S)) 8)) → ∀ n : Nat, n ≤ qk S + 1 → uX7_cream R 139 [some (.inr (.inr 0)), some (.inl c), some (.inl (T : Int)), some (.inl qu), some (.inl wh), some (.inr (.inl (16 ^ (cO (olt S T (qk S)) 8)))), none, some (.inr (.inl (ccs (qn S 0) (fun j => N 37 j) n))), none, some (.inl (n : Int)), x10, x11, x12] [] N := by
      intro N x10 x11 x12 hN hw
      have hRN := RX_qf h hN
      have n1 : N 1 5 = qn S 0 := hRN.2.2.2.1.2.1
      have hle := cO_le (olt S T (qk S)) 8
      refine zind (fun n => qk S + 1 - n) ?_
      intro n hn ih
      refine rX7_cream_139.mpr ?_
      by_cases he : n = qk S + 1
      · subst he
        have hE := ccs_eE hw (qk S + 1) (by omega)
        have hX : eE c 8 (fun s => if qn S 0 < 2 * wct (pcr S T qu s) (qk S) ∧ wct (pcr S T qu s) (qk S) < (qk S + 1 : Nat) then 1 else 0) = crX S c T qu := by
          refine eE_congr 8 (fun s => ?_)
          have := wct_R (pcr S T qu s) (qk S)
          unfold fcry
          by_cases e : qn S 0 < 2 * wct (pcr S T qu s) (qk S)
          · rw [if_pos e, if_pos (by omega)]
          · rw [if_neg e, if_neg (by omega)]
        rw [hX] at hE
        have hXR := crX_R (S := S) (te := T) (qu := qu) hc
        generalize hcc : ccs (qn S 0) (fun j => N 37 j) (qk S + 1) = cc at *
        generalize hso : cO (olt S T (qk S)) 8 = so at *
        have p8 : (16 : Nat) ^ 8 = 16 ^ so * 16 ^ (8 - so) := by rw [← Nat.pow_add]; congr 1; omega
        have pp : 0 < (16 : Nat) ^ (8 - so) := Nat.pow_pos (by decide)
        have ps : 0 < (16 : Nat) ^ so := Nat.pow_pos (by decide)
        have c0 : 0 ≤ cc := by
          rcases Int.lt_or_le cc 0 with q | q
          · have : cc * 16 ^ (8 - so) < 0 := Int.mul_neg_of_neg_of_pos q (Int.pow_pos (by decide))
            omega
          · exact q
        obtain ⟨x, rfl⟩ : ∃ x : Nat, cc = x := ⟨cc.toNat, by omega⟩
        have hEn : x * 16 ^ (8 - so) = (crX S c T qu).toNat := by
          have : ((x * 16 ^ (8 - so) : Nat) : Int) = crX S c T qu := by
            rw [← hE, Int.natCast_mul, Int.natCast_pow]
            rfl
          omega
        have hsc := low_scale (a := x) (b := 16 ^ so) pp
        rw [hEn, ← p8] at hsc
        have p88 : (16 : Nat) ^ 8 = 4294967296 := by decide
        rw [p88] at hsc p8
        have hx2 : x ≤ 4294967296 := by
          have : x * 1 ≤ x * 16 ^ (8 - so) := Nat.mul_le_mul_left _ pp
          omega
        have hy2 : (16 : Nat) ^ so ≤ 4294967296 := by
          have : 16 ^ so * 1 ≤ 16 ^ so * 16 ^ (8 - so) := Nat.mul_le_mul_left _ pp
          omega
        have ey : (16 : Int) ^ so = ((16 ^ so : Nat) : Int) := by rw [Int.natCast_pow]; rfl
        rw [ey]
        rw [hsc.1, hsc.2] at hR
        have se : zcn (zv 0 tX0_settle) [.inr (.inr 32), .inr (.inl (x : Int)), .inr (.inl ((16 ^ so : Nat) : Int))] N (fun M' => uX7_cream R 194 [some (.inr (.inr 0)), some (.inl c), some (.inl (T : Int)), some (.inl qu), some (.inl wh), some (.inr (.inl ((16 ^ so : Nat) : Int))), none, some (.inr (.inl (x : Int))), none, some (.inl ((qk S + 1 : Nat) : Int)), x10, x11, x12] [] M') := by
          refine zcnv rfl (s_settle (by omega) ps (by omega) ⟨rfl, ?_⟩)
          have fin := hR (zup (zup N 32 0 ((x / Nat.gcd x (16 ^ so) : Nat) : Int)) 32 1 ((16 ^ so / Nat.gcd x (16 ^ so) : Nat) : Int)) (hN.trans (fun k i a b => by rw [zup_ne (by omega), zup_ne (by omega)]))
          simp only [↓rX7_cream_194, ↓rX7_cream_195, ↓rX7_cream_198, ↓rX7_cream_200, ↓rX7_cream_203, ↓hg_fX7_72_0, ↓i_fracTell, ↓reduceIte, zkeep_n, zkeep_i, zkeep_r, zkeep_l, zup_eq, zIR, zLR, List.length_cons, List.length_nil, Nat.reduceAdd, Nat.reduceLeDiff, Nat.reduceEqDiff, Nat.reduceSub, Int.reduceLE, Int.reduceLT, Int.reduceEq, Int.reduceNe, Int.reduceNeg, Int.reduceAdd, Int.reduceSub, Int.reduceMul, Int.reduceToNat, Nat.le_refl, Nat.zero_le, Nat.zero_add, Int.zero_add, Int.add_zero, and_true, true_and, and_false, false_and, not_true_eq_false, not_false_eq_true, eq_self, ne_eq, true_implies, false_implies, implies_true, or_true, true_or, or_false, false_or, reduceCtorEq, Option.some.injEq, Sum.inl.injEq, exists_eq_left', exists_eq_left, zite]
          repeat' (first | with_reducible apply And.intro | with_reducible intro _)
          all_goals first | omega | (rw [if_pos (by omega)] at fin; exact fin) | (rw [if_neg (by omega)] at fin; exact fin)
        simp only [↓rX7_cream_141, ↓rX7_cream_142, ↓rX7_cream_145, ↓rX7_cream_148, ↓rX7_cream_183, ↓rX7_cream_184, ↓rX7_cream_187, ↓rX7_cream_189, ↓rX7_cream_191, ↓hg_fX7_116_1, ↓hg_fX7_116_4, ↓hg_fX7_14_0, ↓hg_fX7_72_0, ↓reduceIte, zkeep_n, zkeep_i, zkeep_r, zkeep_l, zup_eq, zIR, zLR, List.length_cons, List.length_nil, Nat.reduceAdd, Nat.reduceLeDiff, Nat.reduceEqDiff, Nat.reduceSub, Int.reduceLE, Int.reduceLT, Int.reduceEq, Int.reduceNe, Int.reduceNeg, Int.reduceAdd, Int.reduceSub, Int.reduceMul, Int.reduceToNat, Nat.le_refl, Nat.zero_le, Nat.zero_add, Int.zero_add, Int.add_zero, and_true, true_and, and_false, false_and, not_true_eq_false, not_false_eq_true, eq_self, ne_eq, true_implies, false_implies, implies_true, or_true, true_or, or_false, false_or, reduceCtorEq, Option.some.injEq, Sum.inl.injEq, exists_eq_left', exists_eq_left, n1, zite]
        repeat' (first | with_reducible apply And.intro | with_reducible intro _)
        all_goals first | omega | (exact se)
      · have nx := ih (n + 1) (by omega) (by omega)
        simp only [ccs] at nx
        have yes : qn S 0 < 2 * (n : Int) → uX7_cream R 139 [some (.inr (.inr 0)), some (.inl c), some (.inl (T : Int)), some (.inl qu), some (.inl wh), some (.inr (.inl (16 ^ (cO (olt S T (qk S)) 8)))), none, some (.inr (.inl (ccs (qn S 0) (fun j => N 37 j) n + N 37 n))), none, some (.inl ((n : Int) + 1)), x10, x11, x12] [] N := fun q => by
          rw [if_pos q] at nx
          exact nx
        have no : ¬ qn S 0 < 2 * (n : Int) → uX7_cream R 139 [some (.inr (.inr 0)), some (.inl c), some (.inl (T : Int)), some (.inl qu), some (.inl wh), some (.inr (.inl (16 ^ (cO (olt S T (qk S)) 8)))), none, some (.inr (.inl (ccs (qn S 0) (fun j => N 37 j) n))), none, some (.inl ((n : Int) + 1)), x10, x11, x12] [] N := fun q => by
          rw [if_neg q, Int.add_zero] at nx
          exact nx
        simp only [↓rX7_cream_141, ↓rX7_cream_142, ↓rX7_cream_145, ↓rX7_cream_148, ↓rX7_cream_151, ↓rX7_cream_152, ↓rX7_cream_154, ↓rX7_cream_155, ↓rX7_cream_156, ↓rX7_cream_159, ↓rX7_cream_162, ↓rX7_cream_165, ↓rX7_cream_167, ↓rX7_cream_168, ↓rX7_cream_171, ↓rX7_cream_173, ↓rX7_cream_174, ↓rX7_cream_175, ↓rX7_cream_177, ↓rX7_cream_180, ↓hg_fX7_116_1, ↓hg_fX7_116_4, ↓hg_fX7_14_0, ↓hg_fX7_89_0, ↓hr_10, ↓hr_11, ↓hr_13, ↓hr_14, ↓hr_15, ↓hr_16, ↓hr_18, ↓hr_19, ↓hr_2, ↓hr_20, ↓hr_21, ↓hr_24, ↓hr_25, ↓hr_26, ↓hr_28, ↓hr_29, ↓hr_3, ↓hr_30, ↓hr_33, ↓hr_34, ↓hr_35, ↓hr_36, ↓hr_37, ↓hr_39, ↓hr_41, ↓hr_43, ↓hr_45, ↓hr_5, ↓hr_6, ↓hr_8, ↓hr_9, ↓hr_fX7_104, ↓hw_10, ↓hw_11, ↓hw_13, ↓hw_14, ↓hw_15, ↓hw_16, ↓hw_18, ↓hw_19, ↓hw_2, ↓hw_20, ↓hw_21, ↓hw_24, ↓hw_25, ↓hw_26, ↓hw_28, ↓hw_29, ↓hw_3, ↓hw_30, ↓hw_33, ↓hw_34, ↓hw_35, ↓hw_36, ↓hw_37, ↓hw_39, ↓hw_41, ↓hw_43, ↓hw_45, ↓hw_5, ↓hw_6, ↓hw_8, ↓hw_9, ↓reduceIte, zkeep_n, zkeep_i, zkeep_r, zkeep_l, zup_eq, zIR, zLR, List.length_cons, List.length_nil, Nat.reduceAdd, Nat.reduceLeDiff, Nat.reduceEqDiff, Nat.reduceSub, Int.reduceLE, Int.reduceLT, Int.reduceEq, Int.reduceNe, Int.reduceNeg, Int.reduceAdd, Int.reduceSub, Int.reduceMul, Int.reduceToNat, Nat.le_refl, Nat.zero_le, Nat.zero_add, Int.zero_add, Int.add_zero, and_true, true_and, and_false, false_and, not_true_eq_false, not_false_eq_true, eq_self, ne_eq, true_implies, false_implies, implies_true, or_true, true_or, or_false, false_or, reduceCtorEq, Option.some.injEq, Sum.inl.injEq, exists_eq_left', exists_eq_left, n1, zite]
        repeat' (first | with_reducible apply And.intro | with_reducible intro _)
        all_goals first | omega | (exact yes (by omega)) | (exact no (by omega))
    have L : ∀ s : Nat × zM, (s.1 ≤ qk S ∧ QF M s.2 ∧ (∀ j : Nat, j ≤ 8 → aW S c T qu s.1 j = s.2 37 j * 16 ^ (8 - cO (olt S T s.1) 8)) ∧ (∀ j : Nat, s.1 < j → j ≤ 8 → s.2 37 j = 0)) → ∀ x8 x9 x10 x11 x12, uX7_cream R 60 [some (.inr (.inr 0)), some (.inl c), some (.inl (T : Int)), some (.inl qu), some (.inl wh), some (.inr (.inl (16 ^ (cO (olt S T s.1) 8)))), none, some (.inl (s.1 : Int)), x8, x9, x10, x11, x12] [] s.2 := by
      refine zind (fun s => qk S - s.1) ?_
      rintro ⟨m, N⟩ ⟨hm, hN, hw, hhi⟩ ih x8 x9 x10 x11 x12
      simp only at hm hN hw hhi ih
      have hRN := RX_qf h hN
      have n1 : N 1 5 = qn S 0 := hRN.2.2.2.1.2.1
      refine rX7_cream_60.mpr ?_
      by_cases he : m = qk S
      · subst he
        have st := fun x10 => last N x10 x11 x12 hN hw 0 (Nat.zero_le _)
        simp only [↓rX7_cream_62, ↓rX7_cream_63, ↓rX7_cream_66, ↓rX7_cream_69, ↓rX7_cream_133, ↓rX7_cream_134, ↓rX7_cream_136, ↓rX7_cream_137, ↓hg_fX7_116_1, ↓hg_fX7_116_4, ↓hg_fX7_14_0, ↓reduceIte, zkeep_n, zkeep_i, zkeep_r, zkeep_l, zup_eq, zIR, zLR, List.length_cons, List.length_nil, Nat.reduceAdd, Nat.reduceLeDiff, Nat.reduceEqDiff, Nat.reduceSub, Int.reduceLE, Int.reduceLT, Int.reduceEq, Int.reduceNe, Int.reduceNeg, Int.reduceAdd, Int.reduceSub, Int.reduceMul, Int.reduceToNat, Nat.le_refl, Nat.zero_le, Nat.zero_add, Int.zero_add, Int.add_zero, and_true, true_and, and_false, false_and, not_true_eq_false, not_false_eq_true, eq_self, ne_eq, true_implies, false_implies, implies_true, or_true, true_or, or_false, false_or, reduceCtorEq, Option.some.injEq, Sum.inl.injEq, exists_eq_left', exists_eq_left, n1, zite]
        repeat' (first | with_reducible apply And.intro | with_reducible intro _)
        all_goals first | omega | (exact st _)
      · have hof : zcv (zv 4 tX4_feedsOf) [.inr (.inr 7), .inl (m : Int), .inl (T : Int)] N (fun v N' => uX7_cream R 82 [some (.inr (.inr 0)), some (.inl c), some (.inl (T : Int)), some (.inl qu), some (.inl wh), some (.inr (.inl (16 ^ (cO (olt S T m) 8)))), none, some (.inl (m : Int)), x8, x9, x10, x11, x12] [v] N') := by
          refine zcvv rfl (s_feedsOf (g := gt S) hRN.2.2.2.2.1.2 (by omega) (by omega) ⟨_, rfl, ?_⟩)
          have ho8 := wbs_8 (fun f => decide (gt S 2 f = m ∧ gt S 1 f ≤ T)) hn8
          obtain ⟨o, hoe⟩ : ∃ o : Nat, wbs (fun f => decide (gt S 2 f = m ∧ gt S 1 f ≤ T)) (nf S) = o := ⟨_, (Int.toNat_of_nonneg ho8.1).symm⟩
          have hnb : nb o = ow S T m := by
            funext f
            have := nb_wbs (fun f => decide (gt S 2 f = m ∧ gt S 1 f ≤ T)) (nf S) f
            rw [hoe, Int.toNat_natCast] at this
            rw [this, ← Bool.decide_and]
            rfl
          rw [hoe] at ho8 ⊢
          have ho : o < 256 := by omega
          have ebc := cO_d ⟨o, ho⟩
          simp only [hnb] at ebc
          have hcle := cO_le (ow S T m) 8
          have ep := p16_d ⟨cO (ow S T m) 8, by omega⟩
          simp only at ep
          have aw : zcv (zv 7 tX7_ayeWays) [.inr (.inr 0), .inl (m : Int), .inl c, .inl (T : Int), .inl qu, .inl (o : Int)] N (fun v N' => uX7_cream R 95 [some (.inr (.inr 0)), some (.inl c), some (.inl (T : Int)), some (.inl qu), some (.inl wh), some (.inr (.inl (16 ^ (cO (olt S T m) 8)))), none, some (.inl (m : Int)), some (.inl (o : Int)), x9, x10, x11, x12] [v] N') := by
            refine zcvv rfl (s_ayeWays hRN (by omega) hc (by omega) hg.2.2.1 ho (by rw [Int.toNat_natCast]; exact hnb) (fun N1 f1 => ⟨_, rfl, ?_⟩))
            rw [Int.toNat_natCast]
            generalize hay : eO c (ow S T m) 8 (fcr S T qu m) = ay
            have jn : zcn (zv 7 tX7_joinWays) [.inr (.inr 0), .inl (m : Int), .inr (.inl ay), .inr (.inl (16 ^ cO (ow S T m) 8 - ay))] N1 (fun N' => uX7_cream R 120 [some (.inr (.inr 0)), some (.inl c), some (.inl (T : Int)), some (.inl qu), some (.inl wh), some (.inr (.inl (16 ^ (cO (olt S T m) 8)))), none, some (.inl (m : Int)), some (.inl (o : Int)), some (.inr (.inl ay)), none, some (.inr (.inl (16 ^ cO (ow S T m) 8))), none] [] N') := by
              refine zcnv rfl (s_joinWays (by omega) (fun N2 g1 g2 g3 => ⟨rfl, ?_⟩))
              have hst := aW_step (w := fun j => N 37 j) hay.symm hw
              have nx := ih (m + 1, N2) ⟨by simp only; omega, hN.trans (fun k i a b => (g1 k i (by omega)).trans (f1 k i (by omega))), fun j hj => ?_, fun j hj hj8 => ?_⟩ (by simp only; omega) (some (.inl (o : Int))) (some (.inr (.inl ay))) none (some (.inr (.inl (16 ^ cO (ow S T m) 8)))) none
              · rw [cO_olt, Int.pow_add] at nx
                simp only [↓rX7_cream_120, ↓rX7_cream_122, ↓rX7_cream_124, ↓rX7_cream_125, ↓rX7_cream_127, ↓rX7_cream_130, ↓reduceIte, zkeep_n, zkeep_i, zkeep_r, zkeep_l, zup_eq, zIR, zLR, List.length_cons, List.length_nil, Nat.reduceAdd, Nat.reduceLeDiff, Nat.reduceEqDiff, Nat.reduceSub, Int.reduceLE, Int.reduceLT, Int.reduceEq, Int.reduceNe, Int.reduceNeg, Int.reduceAdd, Int.reduceSub, Int.reduceMul, Int.reduceToNat, Nat.le_refl, Nat.zero_le, Nat.zero_add, Int.zero_add, Int.add_zero, and_true, true_and, and_false, false_and, not_true_eq_false, not_false_eq_true, eq_self, ne_eq, true_implies, false_implies, implies_true, or_true, true_or, or_false, false_or, reduceCtorEq, Option.some.injEq, Sum.inl.injEq, exists_eq_left', exists_eq_left, zite]
                exact nx
              · rw [hst j hj]
                congr 1
                show _ = N2 37 j
                by_cases c1 : j ≤ m + 1
                · rw [g2 j c1, f1 37 _ (by decide)]
                  congr 1
                  by_cases c2 : j = 0
                  · rw [if_pos c2, if_pos c2]
                  · rw [if_neg c2, if_neg c2, f1 37 _ (by decide), show ((j - 1 : Nat) : Int) = (j : Int) - 1 by omega]
                · rw [g3 j (by omega), f1 37 _ (by decide), hhi j (by omega) hj, if_neg (by omega), hhi (j - 1) (by omega) (by omega)]
                  simp
              · simp only at hj ⊢
                rw [g3 j hj, f1 37 _ (by decide)]
                exact hhi j (by omega) hj8
            simp only [↓rX7_cream_95, ↓rX7_cream_97, ↓rX7_cream_99, ↓rX7_cream_102, ↓rX7_cream_105, ↓rX7_cream_107, ↓rX7_cream_108, ↓rX7_cream_110, ↓rX7_cream_112, ↓rX7_cream_114, ↓rX7_cream_116, ↓rX7_cream_117, ↓i_bitCount, ↓i_power16, ↓reduceIte, zkeep_n, zkeep_i, zkeep_r, zkeep_l, zup_eq, zIR, zLR, List.length_cons, List.length_nil, Nat.reduceAdd, Nat.reduceLeDiff, Nat.reduceEqDiff, Nat.reduceSub, Int.reduceLE, Int.reduceLT, Int.reduceEq, Int.reduceNe, Int.reduceNeg, Int.reduceAdd, Int.reduceSub, Int.reduceMul, Int.reduceToNat, Nat.le_refl, Nat.zero_le, Nat.zero_add, Int.zero_add, Int.add_zero, and_true, true_and, and_false, false_and, not_true_eq_false, not_false_eq_true, eq_self, ne_eq, true_implies, false_implies, implies_true, or_true, true_or, or_false, false_or, reduceCtorEq, Option.some.injEq, Sum.inl.injEq, exists_eq_left', exists_eq_left, ebc, ep, zite]
            repeat' (first | with_reducible apply And.intro | with_reducible intro _)
            all_goals first | omega | (exact jn)
          simp only [↓rX7_cream_82, ↓rX7_cream_84, ↓rX7_cream_85, ↓rX7_cream_87, ↓rX7_cream_88, ↓rX7_cream_89, ↓rX7_cream_90, ↓rX7_cream_92, ↓reduceIte, zkeep_n, zkeep_i, zkeep_r, zkeep_l, zup_eq, zIR, zLR, List.length_cons, List.length_nil, Nat.reduceAdd, Nat.reduceLeDiff, Nat.reduceEqDiff, Nat.reduceSub, Int.reduceLE, Int.reduceLT, Int.reduceEq, Int.reduceNe, Int.reduceNeg, Int.reduceAdd, Int.reduceSub, Int.reduceMul, Int.reduceToNat, Nat.le_refl, Nat.zero_le, Nat.zero_add, Int.zero_add, Int.add_zero, and_true, true_and, and_false, false_and, not_true_eq_false, not_false_eq_true, eq_self, ne_eq, true_implies, false_implies, implies_true, or_true, true_or, or_false, false_or, reduceCtorEq, Option.some.injEq, Sum.inl.injEq, exists_eq_left', exists_eq_left, zite]
          repeat' (first | with_reducible apply And.intro | with_reducible intro _)
          all_goals first | omega | (exact aw)
        simp only [↓rX7_cream_62, ↓rX7_cream_63, ↓rX7_cream_66, ↓rX7_cream_69, ↓rX7_cream_72, ↓rX7_cream_73, ↓rX7_cream_76, ↓rX7_cream_78, ↓rX7_cream_79, ↓hg_fX7_116_1, ↓hg_fX7_116_4, ↓hg_fX7_14_0, ↓hg_fX7_28_0, ↓reduceIte, zkeep_n, zkeep_i, zkeep_r, zkeep_l, zup_eq, zIR, zLR, List.length_cons, List.length_nil, Nat.reduceAdd, Nat.reduceLeDiff, Nat.reduceEqDiff, Nat.reduceSub, Int.reduceLE, Int.reduceLT, Int.reduceEq, Int.reduceNe, Int.reduceNeg, Int.reduceAdd, Int.reduceSub, Int.reduceMul, Int.reduceToNat, Nat.le_refl, Nat.zero_le, Nat.zero_add, Int.zero_add, Int.add_zero, and_true, true_and, and_false, false_and, not_true_eq_false, not_false_eq_true, eq_self, ne_eq, true_implies, false_implies, implies_true, or_true, true_or, or_false, false_or, reduceCtorEq, Option.some.injEq, Sum.inl.injEq, exists_eq_left', exists_eq_left, n1, zite]
        repeat' (first | with_reducible apply And.intro | with_reducible intro _)
        all_goals first | omega | (exact hof)
    refine ⟨_, s_lfill (R := fun r M' => r = none ∧ uX7_cream R 47 [some (.inr (.inr 0)), some (.inl c), some (.inl (T : Int)), some (.inl qu), some (.inl wh), none, none, none, none, none, none, none, none] [] M') (fun M1 f1 f2 => ⟨rfl, ?_⟩), fun _ _ q => q⟩
    have st := L (0, zup M1 37 0 1) ⟨Nat.zero_le _, fun k i a b => (zup_ne (by omega)).trans (f1 k i (by omega)), fun j hj => ?_, fun j hj hj8 => ?_⟩ none none none none none
    · rw [cO_olt0] at st
      simp only [↓rX7_cream_47, ↓rX7_cream_48, ↓rX7_cream_51, ↓rX7_cream_52, ↓rX7_cream_53, ↓rX7_cream_54, ↓rX7_cream_55, ↓rX7_cream_57, ↓rX7_cream_58, ↓hg_fX7_89_0, ↓hr_10, ↓hr_11, ↓hr_13, ↓hr_14, ↓hr_15, ↓hr_16, ↓hr_18, ↓hr_19, ↓hr_2, ↓hr_20, ↓hr_21, ↓hr_24, ↓hr_25, ↓hr_26, ↓hr_28, ↓hr_29, ↓hr_3, ↓hr_30, ↓hr_33, ↓hr_34, ↓hr_35, ↓hr_36, ↓hr_37, ↓hr_39, ↓hr_41, ↓hr_43, ↓hr_45, ↓hr_5, ↓hr_6, ↓hr_8, ↓hr_9, ↓hr_fX7_104, ↓hw_10, ↓hw_11, ↓hw_13, ↓hw_14, ↓hw_15, ↓hw_16, ↓hw_18, ↓hw_19, ↓hw_2, ↓hw_20, ↓hw_21, ↓hw_24, ↓hw_25, ↓hw_26, ↓hw_28, ↓hw_29, ↓hw_3, ↓hw_30, ↓hw_33, ↓hw_34, ↓hw_35, ↓hw_36, ↓hw_37, ↓hw_39, ↓hw_41, ↓hw_43, ↓hw_45, ↓hw_5, ↓hw_6, ↓hw_8, ↓hw_9, ↓reduceIte, zkeep_n, zkeep_i, zkeep_r, zkeep_l, zIR, zLR, List.length_cons, List.length_nil, Nat.reduceAdd, Nat.reduceLeDiff, Nat.reduceEqDiff, Nat.reduceSub, Int.reduceLE, Int.reduceLT, Int.reduceEq, Int.reduceNe, Int.reduceNeg, Int.reduceAdd, Int.reduceSub, Int.reduceMul, Int.reduceToNat, Nat.le_refl, Nat.zero_le, Nat.zero_add, Int.zero_add, Int.add_zero, and_true, true_and, and_false, false_and, not_true_eq_false, not_false_eq_true, eq_self, ne_eq, true_implies, false_implies, implies_true, or_true, true_or, or_false, false_or, reduceCtorEq, Option.some.injEq, Sum.inl.injEq, exists_eq_left', exists_eq_left, zite]
      repeat' (first | with_reducible apply And.intro | with_reducible intro _)
      all_goals first | omega | (exact st)
    · rw [cO_olt0, aW_0]
      simp only [zup_in]
      by_cases e : j = 0
      · subst e
        simp
      · rw [if_neg (by omega), if_neg (by omega), f2 j (by omega) (by omega), Int.zero_mul]
    · simp only [zup_in] at hj ⊢
      rw [if_neg (by omega)]
      exact f2 j (by omega) (by omega)
  simp only [↓eX7_cream, ↓rX7_cream_0, ↓rX7_cream_1, ↓rX7_cream_3, ↓rX7_cream_6, ↓rX7_cream_9, ↓rX7_cream_10, ↓rX7_cream_12, ↓rX7_cream_15, ↓rX7_cream_18, ↓rX7_cream_19, ↓rX7_cream_20, ↓rX7_cream_23, ↓rX7_cream_26, ↓rX7_cream_28, ↓rX7_cream_29, ↓rX7_cream_32, ↓rX7_cream_35, ↓rX7_cream_38, ↓rX7_cream_39, ↓rX7_cream_40, ↓rX7_cream_43, ↓rX7_cream_44, ↓hg_fX7_89_0, ↓i_outside, ↓reduceIte, zkeep_n, zkeep_i, zkeep_r, zkeep_l, zup_eq, zIR, zLR, List.length_cons, List.length_nil, Nat.reduceAdd, Nat.reduceLeDiff, Nat.reduceEqDiff, Nat.reduceSub, Int.reduceLE, Int.reduceLT, Int.reduceEq, Int.reduceNe, Int.reduceNeg, Int.reduceAdd, Int.reduceSub, Int.reduceMul, Int.reduceToNat, Nat.le_refl, Nat.zero_le, Nat.zero_add, Int.zero_add, Int.add_zero, and_true, true_and, and_false, false_and, not_true_eq_false, not_false_eq_true, eq_self, ne_eq, true_implies, false_implies, implies_true, or_true, true_or, or_false, false_or, reduceCtorEq, Option.some.injEq, Sum.inl.injEq, exists_eq_left', exists_eq_left, zite]
  repeat' (first | with_reducible apply And.intro | with_reducible intro _)
  all_goals first | omega | (exact bad (by omega)) | (exact call (by omega))
