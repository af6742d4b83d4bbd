theorem zushr16_R (a : Int) : 0 ≤ zushr a 16 ∧ zushr a 16 ≤ 65535 := by
  have h := pk_ushr (Int32.ofInt a) (Int32.ofInt 16) 16 (by decide)
  have hlt : (Int32.ofInt a).toBitVec.toNat < 2 ^ 32 := (Int32.ofInt a).toBitVec.isLt
  unfold zushr
  generalize ((Int32.ofInt a).toUInt32 >>> ((Int32.ofInt 16).toUInt32 &&& Int32.toUInt32 31)).toInt32 = y at *
  have e : y.toInt = y.toBitVec.toInt := rfl
  rw [e, BitVec.toInt_eq_toNat_of_lt (by omega)]
  omega
def lcg (s : Int) : Nat → Int
  | 0 => s
  | k + 1 => 1103515245 * lcg s k + 12345
def lot (s : Int) (k : Nat) (m : Int) : Int := (zushr (lcg s k) 16).tmod m
theorem lot_R {s m : Int} {k : Nat} (h : 0 < m) : 0 ≤ lot s k m ∧ lot s k m < m := by
  have := zushr16_R (lcg s k)
  unfold lot
  rw [Int.tmod_eq_emod_of_nonneg this.1]
  exact ⟨Int.emod_nonneg _ (by omega), Int.emod_lt_of_pos _ h⟩
def gD (S : zM) (s : Int) : zM := fun k i => if k = 1 then lot s (3 * i.toNat + 1) 20 else if k = 2 then lot s (3 * i.toNat + 2) (qn S 0) else lot s (3 * i.toNat + 3) (qn S 1)
def yk (S : zM) (n : Int) : Nat := if qn S 0 = 0 ∨ qn S 1 = 0 then 0 else n.toNat
def aYears (S : zM) (s n wh : Int) : Int := if (0 ≤ n ∧ n < 9) ∧ (0 ≤ wh ∧ wh < 2) then (if wh = 0 then wct (fun m => !wknb (wvec S (gD S s) (yk S n) kall m 19) (fst S m)) (qk S) else wsum (fun m => wvec S (gD S s) (yk S n) kall m 19 13) (qk S)) else -2
set_option maxRecDepth 100000 in
set_option maxHeartbeats 4000000 in
theorem s_draw {S M : zM} {R : zP} {s n : Int} (h : RX S M) (hn : 0 ≤ n ∧ n < 9)
    (hR : ∀ M', (∀ k i, ¬ (12 ≤ k ∧ k ≤ 16) → M' k i = M k i) → FR 12 (yk S n) (gD S s) M' → R none M') : tX7_drawFeeds [.inr (.inr 0), .inl s, .inl n] M R := by
  have hqn := (h.2.2.2.1.1 0 (by decide)).1
  have hq1 := (h.2.2.2.1.1 1 (by decide)).1
  have n1 : M 1 5 = qn S 0 := h.2.2.2.1.2.1
  have n2 : M 4 5 = qn S 1 := h.2.2.2.1.2.2.1
  have empty : ∀ N : zM, N 12 4 = 0 → FR 12 0 (gD S s) N := fun N e => by
    refine ⟨e, by decide, fun p x hx => ?_, fun f hf => by omega⟩
    have hl := qseg_len (n := 0) (ft := gD S s 1) 0 (fun f hf => by omega)
    rw [List.length_eq_zero_iff] at hl
    rw [hl] at hx
    simp at hx
  by_cases hz : qn S 0 = 0 ∨ qn S 1 = 0
  · have fin := hR (zup M 12 4 0) (fun k i hk => zup_ne (by omega)) (by unfold yk; rw [if_pos hz]; exact empty _ (by simp [zup_eq]))
    simp only [↓eX7_drawFeeds, ↓rX7_drawFeeds_0, ↓rX7_drawFeeds_1, ↓rX7_drawFeeds_4, ↓rX7_drawFeeds_5, ↓rX7_drawFeeds_8, ↓rX7_drawFeeds_9, ↓rX7_drawFeeds_12, ↓rX7_drawFeeds_15, ↓rX7_drawFeeds_18, ↓rX7_drawFeeds_19, ↓rX7_drawFeeds_22, ↓rX7_drawFeeds_25, ↓rX7_drawFeeds_28, ↓hg_fX7_116_1, ↓hg_fX7_116_4, ↓hg_fX7_14_0, ↓hg_fX7_22_0, ↓hg_fX7_32_0, ↓hp_fX7_234_12, ↓hp_fX7_234_7, ↓reduceIte, zkeep_n, zkeep_i, zkeep_r, zkeep_l, zIR, zLR, List.length_cons, List.length_nil, Nat.reduceAdd, Nat.reduceLeDiff, Nat.reduceEqDiff, Nat.reduceSub, Int.reduceLE, Int.reduceLT, Int.reduceEq, Int.reduceNe, Int.reduceNeg, Int.reduceAdd, Int.reduceSub, Int.reduceMul, Int.reduceToNat, Nat.le_refl, Nat.zero_le, Nat.zero_add, Int.zero_add, Int.add_zero, and_true, true_and, and_false, false_and, not_true_eq_false, not_false_eq_true, eq_self, ne_eq, true_implies, false_implies, implies_true, or_true, true_or, or_false, false_or, reduceCtorEq, Option.some.injEq, Sum.inl.injEq, exists_eq_left', exists_eq_left, n1, n2, zite]
    simp only [zup_ne (show 1 ≠ 12 by decide), zup_ne (show 4 ≠ 12 by decide), n1, n2]
    repeat' (first | with_reducible apply And.intro | with_reducible intro _)
    all_goals first | omega | (exact fin)
  · have ek : yk S n = n.toNat := by unfold yk; rw [if_neg hz]
    rw [ek] at hR
    have L : ∀ t : Nat × zM, (t.1 ≤ n.toNat ∧ (∀ k i, ¬ (12 ≤ k ∧ k ≤ 16) → t.2 k i = M k i) ∧ FR 12 t.1 (gD S s) t.2) → ∀ x5 x6, uX7_drawFeeds R 34 [some (.inr (.inr 0)), some (.inl s), some (.inl n), some (.inl (lcg s (3 * t.1))), some (.inl (t.1 : Int)), x5, x6] [] t.2 := by
      refine zind (fun t => n.toNat - t.1) ?_
      rintro ⟨i, N⟩ ⟨hi, hfr, hF⟩ ih x5 x6
      simp only at hi hfr hF ih
      have m1 : N 1 5 = qn S 0 := (hfr _ _ (by decide)).trans n1
      have m2 : N 4 5 = qn S 1 := (hfr _ _ (by decide)).trans n2
      refine rX7_drawFeeds_34.mpr ?_
      by_cases he : i = n.toNat
      · subst he
        have fin := hR N hfr hF
        simp only [↓rX7_drawFeeds_36, ↓rX7_drawFeeds_37, ↓rX7_drawFeeds_105, ↓reduceIte, zkeep_n, zkeep_i, zkeep_r, zkeep_l, zup_eq, zIR, zLR, List.length_cons, List.length_nil, Nat.reduceAdd, Nat.reduceLeDiff, Nat.reduceEqDiff, Nat.reduceSub, Int.reduceLE, Int.reduceLT, Int.reduceEq, Int.reduceNe, Int.reduceNeg, Int.reduceAdd, Int.reduceSub, Int.reduceMul, Int.reduceToNat, Nat.le_refl, Nat.zero_le, Nat.zero_add, Int.zero_add, Int.add_zero, and_true, true_and, and_false, false_and, not_true_eq_false, not_false_eq_true, eq_self, ne_eq, true_implies, false_implies, implies_true, or_true, true_or, or_false, false_or, reduceCtorEq, Option.some.injEq, Sum.inl.injEq, exists_eq_left', exists_eq_left, zite]
        repeat' (first | with_reducible apply And.intro | with_reducible intro _)
        all_goals first | omega | (exact fin)
      · have r1 := zushr16_R (1103515245 * lcg s (3 * i) + 12345)
        have r2 := zushr16_R (1103515245 * (1103515245 * lcg s (3 * i) + 12345) + 12345)
        have r3 := zushr16_R (1103515245 * (1103515245 * (1103515245 * lcg s (3 * i) + 12345) + 12345) + 12345)
        have l1 : (zushr (1103515245 * lcg s (3 * i) + 12345) 16).tmod 20 = lot s (3 * i + 1) 20 := rfl
        have l2 : (zushr (1103515245 * (1103515245 * lcg s (3 * i) + 12345) + 12345) 16).tmod (qn S 0) = lot s (3 * i + 2) (qn S 0) := rfl
        have l3 : (zushr (1103515245 * (1103515245 * (1103515245 * lcg s (3 * i) + 12345) + 12345) + 12345) 16).tmod (qn S 1) = lot s (3 * i + 3) (qn S 1) := rfl
        have e3 : 1103515245 * (1103515245 * (1103515245 * lcg s (3 * i) + 12345) + 12345) + 12345 = lcg s (3 * (i + 1)) := rfl
        have b1 := lot_R (s := s) (k := 3 * i + 1) (m := 20) (by decide)
        have b2 := lot_R (s := s) (k := 3 * i + 2) (m := qn S 0) (by omega)
        have b3 := lot_R (s := s) (k := 3 * i + 3) (m := qn S 1) (by omega)
        have hF2 := hF
        obtain ⟨hn4, hn8, hL, hf⟩ := hF2
        have call : ∀ x3, x3 = lcg s (3 * (i + 1)) → zcv (zv 4 tX4_add) [.inr (.inr 12), .inl (lot s (3 * i + 1) 20), .inl (lot s (3 * i + 2) (qn S 0)), .inl (lot s (3 * i + 3) (qn S 1))] N (fun v N' => uX7_drawFeeds R 98 [some (.inr (.inr 0)), some (.inl s), some (.inl n), some (.inl x3), some (.inl (i : Int)), some (.inl (lot s (3 * i + 1) 20)), some (.inl (lot s (3 * i + 2) (qn S 0)))] [v] N') := by
          intro x3 hx3
          subst hx3
          refine zcvv rfl (s_add12 (n := i) (ft := gD S s 1) hn4 hn8 hL (fun f hf2 => (hf f hf2).1) b1 (fun h8 => by omega) (fun h8 N' f1 f2 f3 f4 f5 f6 f7 => ⟨_, rfl, ?_⟩))
          have eg : (fun f : Int => if f = i then lot s (3 * i + 1) 20 else gD S s 1 f) = gD S s 1 := by
            funext f
            by_cases e : f = i
            · rw [if_pos e, e]
              unfold gD
              rw [if_pos rfl, Int.toNat_natCast]
            · rw [if_neg e]
          rw [eg] at f7
          have hF' : FR 12 (i + 1) (gD S s) N' := by
            refine ⟨by rw [f2]; rfl, by omega, f7, fun f hf2 => ?_⟩
            by_cases e : f = i
            · subst e
              have g1 : gD S s 1 f = lot s (3 * f + 1) 20 := by unfold gD; rw [if_pos rfl, Int.toNat_natCast]
              have g2 : gD S s 2 f = lot s (3 * f + 2) (qn S 0) := by unfold gD; rw [if_neg (by decide), if_pos rfl, Int.toNat_natCast]
              have g3 : gD S s 3 f = lot s (3 * f + 3) (qn S 1) := by unfold gD; rw [if_neg (by decide), if_neg (by decide), Int.toNat_natCast]
              rw [g1, g2, g3]
              exact ⟨⟨f4, b1⟩, ⟨f5, b2.1, by omega⟩, ⟨f6, b3.1, by omega⟩⟩
            · have := hf f (by omega)
              have q := f3 f (by omega)
              exact ⟨⟨q.1.trans this.1.1, this.1.2⟩, ⟨q.2.1.trans this.2.1.1, this.2.1.2⟩, ⟨q.2.2.trans this.2.2.1, this.2.2.2⟩⟩
          have nx := ih (i + 1, N') ⟨by simp only; omega, fun k j hk => (f1 k j (by omega) (by omega) (by omega) (by omega) (by omega)).trans (hfr k j hk), hF'⟩ (by simp only; omega) (some (.inl (lot s (3 * i + 1) 20))) (some (.inl (lot s (3 * i + 2) (qn S 0))))
          simp only [↓rX7_drawFeeds_98, ↓rX7_drawFeeds_99, ↓rX7_drawFeeds_102, ↓reduceIte, zkeep_n, zkeep_i, zkeep_r, zkeep_l, zup_eq, zIR, zLR, List.length_cons, List.length_nil, Nat.reduceAdd, Nat.reduceLeDiff, Nat.reduceEqDiff, Nat.reduceSub, Int.reduceLE, Int.reduceLT, Int.reduceEq, Int.reduceNe, Int.reduceNeg, Int.reduceAdd, Int.reduceSub, Int.reduceMul, Int.reduceToNat, Nat.le_refl, Nat.zero_le, Nat.zero_add, Int.zero_add, Int.add_zero, and_true, true_and, and_false, false_and, not_true_eq_false, not_false_eq_true, eq_self, ne_eq, true_implies, false_implies, implies_true, or_true, true_or, or_false, false_or, reduceCtorEq, Option.some.injEq, Sum.inl.injEq, exists_eq_left', exists_eq_left, zite]
          exact nx
        simp only [↓rX7_drawFeeds_36, ↓rX7_drawFeeds_37, ↓rX7_drawFeeds_40, ↓rX7_drawFeeds_41, ↓rX7_drawFeeds_44, ↓rX7_drawFeeds_45, ↓rX7_drawFeeds_46, ↓rX7_drawFeeds_48, ↓rX7_drawFeeds_51, ↓rX7_drawFeeds_53, ↓rX7_drawFeeds_54, ↓rX7_drawFeeds_57, ↓rX7_drawFeeds_58, ↓rX7_drawFeeds_59, ↓rX7_drawFeeds_60, ↓rX7_drawFeeds_63, ↓rX7_drawFeeds_66, ↓rX7_drawFeeds_69, ↓rX7_drawFeeds_71, ↓rX7_drawFeeds_72, ↓rX7_drawFeeds_75, ↓rX7_drawFeeds_76, ↓rX7_drawFeeds_77, ↓rX7_drawFeeds_80, ↓rX7_drawFeeds_82, ↓rX7_drawFeeds_84, ↓rX7_drawFeeds_85, ↓rX7_drawFeeds_86, ↓rX7_drawFeeds_89, ↓rX7_drawFeeds_92, ↓rX7_drawFeeds_95, ↓hg_fX7_116_1, ↓hg_fX7_116_4, ↓hg_fX7_14_0, ↓hg_fX7_22_0, ↓hg_fX7_32_0, ↓i_lot, ↓i_turn, ↓reduceIte, zkeep_n, zkeep_i, zkeep_r, zkeep_l, zup_eq, zIR, zLR, List.length_cons, List.length_nil, Nat.reduceAdd, Nat.reduceLeDiff, Nat.reduceEqDiff, Nat.reduceSub, Int.reduceLE, Int.reduceLT, Int.reduceEq, Int.reduceNe, Int.reduceNeg, Int.reduceAdd, Int.reduceSub, Int.reduceMul, Int.reduceToNat, Nat.le_refl, Nat.zero_le, Nat.zero_add, Int.zero_add, Int.add_zero, and_true, true_and, and_false, false_and, not_true_eq_false, not_false_eq_true, eq_self, ne_eq, true_implies, false_implies, implies_true, or_true, true_or, or_false, false_or, reduceCtorEq, Option.some.injEq, Sum.inl.injEq, exists_eq_left', exists_eq_left, m1, m2, l1, l2, l3, zite]
        repeat' (first | with_reducible apply And.intro | with_reducible intro _)
        all_goals first | omega | (exact call _ e3)
    have st := fun x5 x6 => L (0, zup M 12 4 0) ⟨Nat.zero_le _, fun k i hk => zup_ne (by omega), empty _ (by simp [zup_eq])⟩ x5 x6
    simp only [↓eX7_drawFeeds, ↓rX7_drawFeeds_0, ↓rX7_drawFeeds_1, ↓rX7_drawFeeds_4, ↓rX7_drawFeeds_5, ↓rX7_drawFeeds_8, ↓rX7_drawFeeds_9, ↓rX7_drawFeeds_12, ↓rX7_drawFeeds_15, ↓rX7_drawFeeds_18, ↓rX7_drawFeeds_19, ↓rX7_drawFeeds_22, ↓rX7_drawFeeds_25, ↓rX7_drawFeeds_28, ↓rX7_drawFeeds_29, ↓rX7_drawFeeds_30, ↓rX7_drawFeeds_31, ↓rX7_drawFeeds_32, ↓hg_fX7_116_1, ↓hg_fX7_116_4, ↓hg_fX7_14_0, ↓hg_fX7_22_0, ↓hg_fX7_32_0, ↓hp_fX7_234_12, ↓hp_fX7_234_7, ↓reduceIte, zkeep_n, zkeep_i, zkeep_r, zkeep_l, zIR, zLR, List.length_cons, List.length_nil, Nat.reduceAdd, Nat.reduceLeDiff, Nat.reduceEqDiff, Nat.reduceSub, Int.reduceLE, Int.reduceLT, Int.reduceEq, Int.reduceNe, Int.reduceNeg, Int.reduceAdd, Int.reduceSub, Int.reduceMul, Int.reduceToNat, Nat.le_refl, Nat.zero_le, Nat.zero_add, Int.zero_add, Int.add_zero, and_true, true_and, and_false, false_and, not_true_eq_false, not_false_eq_true, eq_self, ne_eq, true_implies, false_implies, implies_true, or_true, true_or, or_false, false_or, reduceCtorEq, Option.some.injEq, Sum.inl.injEq, exists_eq_left', exists_eq_left, n1, n2, zite]
    simp only [zup_ne (show 1 ≠ 12 by decide), zup_ne (show 4 ≠ 12 by decide), n1, n2]
    repeat' (first | with_reducible apply And.intro | with_reducible intro _)
    all_goals first | omega | (exact st _ _)
set_option maxRecDepth 100000 in
set_option maxHeartbeats 4000000 in
theorem x_years {S M : zM} {R : zP} {s n wh : Int} (h : RX S M) (z1 : zIR s) (z2 : zIR n) (z4 : zIR wh) (hR : ∀ M', QF M M' → R (some (.inl (aYears S s n wh))) M') : tX7_years [.inr (.inr 0), .inl s, .inl n, .inl wh] M R := by
  have hqn := (h.2.2.2.1.1 0 (by decide)).1
  unfold zIR at z1 z2 z4
  have bad : ¬ ((0 ≤ n ∧ n < 9) ∧ (0 ≤ wh ∧ wh < 2)) → R (some (.inl (-2))) M := fun hb => by
    have := hR M QF.rfl
    unfold aYears at this
    rw [if_neg hb] at this
    exact this
  have call : ((0 ≤ n ∧ n < 9) ∧ (0 ≤ wh ∧ wh < 2)) → zcn (zv 7 tX7_drawFeeds) [.inr (.inr 0), .inl s, .inl n] M (fun M' => uX7_years R 26 [some (.inr (.inr 0)), some (.inl s), some (.inl n), some (.inl wh)] [] M') := by
    intro hg
    unfold aYears at hR
    rw [if_pos hg] at hR
    refine zcnv rfl (s_draw h hg.1 (fun M1 f1 hF => ⟨rfl, ?_⟩))
    have h1 : CW S M1 := by
      obtain ⟨h1, h2, h3, h4, h5⟩ := h.2.2.2.1
      exact CW_fr ⟨h1, h2, h3, h4, h5⟩ (fun k i hk => f1 k i (by omega))
    have hn8 := hF.2.1
    have e255 := fun m => wvec_255 (S := S) (g := gD S s) (m := m) (T := 19) hn8
    have hk8 : qk S ≤ 8 := by unfold qk; omega
    have c0 : wh = 0 → zcv (zv 7 tX7_unknowing) [.inr (.inr 0), .inr (.inr 12), .inl 255] M1 (fun v M' => uX7_years R 41 [some (.inr (.inr 0)), some (.inl s), some (.inl n), some (.inl wh)] [v] M') := fun hw => by
      refine zcvv rfl (s_unknowing12 (S := S) (g := gD S s) (n := yk S n) h1 hF (fun M2 g1 => ⟨_, rfl, ?_⟩))
      simp only [e255]
      have fin := hR M2 (fun k i a b => (g1 k i (by omega)).trans (f1 k i a))
      rw [if_pos hw] at fin
      have h8 := wbs_8 (fun m => !wknb (wvec S (gD S s) (yk S n) kall m 19) (fst S m)) hk8
      have e1 := zbc_at h8.1 h8.2
      rw [wones_wbs _ _ hk8] at e1
      simp only [↓rX7_years_41, ↓rX7_years_44, ↓rX7_years_55, ↓i_bitCount, ↓reduceIte, zkeep_n, zkeep_i, zkeep_r, zkeep_l, zup_eq, zIR, zLR, List.length_cons, List.length_nil, Nat.reduceAdd, Nat.reduceLeDiff, Nat.reduceEqDiff, Nat.reduceSub, Int.reduceLE, Int.reduceLT, Int.reduceEq, Int.reduceNe, Int.reduceNeg, Int.reduceAdd, Int.reduceSub, Int.reduceMul, Int.reduceToNat, Nat.le_refl, Nat.zero_le, Nat.zero_add, Int.zero_add, Int.add_zero, and_true, true_and, and_false, false_and, not_true_eq_false, not_false_eq_true, eq_self, ne_eq, true_implies, false_implies, implies_true, or_true, true_or, or_false, false_or, reduceCtorEq, Option.some.injEq, Sum.inl.injEq, exists_eq_left', exists_eq_left, zite]
      show R (some (.inl (zbc (wbs (fun m => !wknb (wvec S (gD S s) (yk S n) kall m 19) (fst S m)) (qk S))))) M2
      rw [e1]
      exact fin
    have c1 : ¬ wh = 0 → zcv (zv 7 tX7_sickness) [.inr (.inr 0), .inr (.inr 12)] M1 (fun v M' => uX7_years R 55 [some (.inr (.inr 0)), some (.inl s), some (.inl n), some (.inl wh)] [v] M') := fun hw => by
      refine zcvv rfl (s_sickness12 (S := S) (g := gD S s) (n := yk S n) h1 hF (fun M2 g1 => ⟨_, rfl, ?_⟩))
      simp only [e255]
      have fin := hR M2 (fun k i a b => (g1 k i (by omega)).trans (f1 k i a))
      rw [if_neg hw] at fin
      simp only [↓rX7_years_55, ↓reduceIte, zkeep_n, zkeep_i, zkeep_r, zkeep_l, zup_eq, zIR, zLR, List.length_cons, List.length_nil, Nat.reduceAdd, Nat.reduceLeDiff, Nat.reduceEqDiff, Nat.reduceSub, Int.reduceLE, Int.reduceLT, Int.reduceEq, Int.reduceNe, Int.reduceNeg, Int.reduceAdd, Int.reduceSub, Int.reduceMul, Int.reduceToNat, Nat.le_refl, Nat.zero_le, Nat.zero_add, Int.zero_add, Int.add_zero, and_true, true_and, and_false, false_and, not_true_eq_false, not_false_eq_true, eq_self, ne_eq, true_implies, false_implies, implies_true, or_true, true_or, or_false, false_or, reduceCtorEq, Option.some.injEq, Sum.inl.injEq, exists_eq_left', exists_eq_left, zite]
      exact fin
    simp only [↓rX7_years_26, ↓rX7_years_27, ↓rX7_years_30, ↓rX7_years_31, ↓rX7_years_32, ↓rX7_years_35, ↓rX7_years_38, ↓rX7_years_47, ↓rX7_years_48, ↓rX7_years_49, ↓rX7_years_52, ↓hg_fX7_32_0, ↓reduceIte, zkeep_n, zkeep_i, zkeep_r, zkeep_l, zup_eq, zIR, zLR, List.length_cons, List.length_nil, Nat.reduceAdd, Nat.reduceLeDiff, Nat.reduceEqDiff, Nat.reduceSub, Int.reduceLE, Int.reduceLT, Int.reduceEq, Int.reduceNe, Int.reduceNeg, Int.reduceAdd, Int.reduceSub, Int.reduceMul, Int.reduceToNat, Nat.le_refl, Nat.zero_le, Nat.zero_add, Int.zero_add, Int.add_zero, and_true, true_and, and_false, false_and, not_true_eq_false, not_false_eq_true, eq_self, ne_eq, true_implies, false_implies, implies_true, or_true, true_or, or_false, false_or, reduceCtorEq, Option.some.injEq, Sum.inl.injEq, exists_eq_left', exists_eq_left, zite]
    repeat' (first | with_reducible apply And.intro | with_reducible intro _)
    all_goals first | omega | (exact c0 (by omega)) | (exact c1 (by omega))
  simp only [↓eX7_years, ↓rX7_years_0, ↓rX7_years_1, ↓rX7_years_3, ↓rX7_years_6, ↓rX7_years_9, ↓rX7_years_10, ↓rX7_years_11, ↓rX7_years_14, ↓rX7_years_17, ↓rX7_years_19, ↓rX7_years_20, ↓rX7_years_21, ↓rX7_years_22, ↓rX7_years_23, ↓i_outside, ↓reduceIte, zkeep_n, zkeep_i, zkeep_r, zkeep_l, zup_eq, zIR, zLR, List.length_cons, List.length_nil, Nat.reduceAdd, Nat.reduceLeDiff, Nat.reduceEqDiff, Nat.reduceSub, Int.reduceLE, Int.reduceLT, Int.reduceEq, Int.reduceNe, Int.reduceNeg, Int.reduceAdd, Int.reduceSub, Int.reduceMul, Int.reduceToNat, Nat.le_refl, Nat.zero_le, Nat.zero_add, Int.zero_add, Int.add_zero, and_true, true_and, and_false, false_and, not_true_eq_false, not_false_eq_true, eq_self, ne_eq, true_implies, false_implies, implies_true, or_true, true_or, or_false, false_or, reduceCtorEq, Option.some.injEq, Sum.inl.injEq, exists_eq_left', exists_eq_left, zite]
  repeat' (first | with_reducible apply And.intro | with_reducible intro _)
  all_goals first | omega | (exact bad (by omega)) | (exact call (by omega))
