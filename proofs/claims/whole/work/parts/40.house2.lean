def wsum (f : Nat → Int) : Nat → Int
  | 0 => 0
  | k + 1 => wsum f k + f k
abbrev wall (v : Int → Int) : Prop := (v 4 = 0 ∧ v 8 = 9) ∨ (v 5 = 0 ∧ v 9 = 9) ∨ (v 6 = 0 ∧ v 10 = 9) ∨ (v 7 = 0 ∧ v 11 = 9)
def wknb (v fi : Int → Int) : Bool := decide ((v 0 - fi 0 ≤ 2 ∧ fi 0 - v 0 ≤ 2) ∧ (v 1 - fi 1 ≤ 2 ∧ fi 1 - v 1 ≤ 2) ∧ (v 2 - fi 2 ≤ 2 ∧ fi 2 - v 2 ≤ 2) ∧ (v 3 - fi 3 ≤ 2 ∧ fi 3 - v 3 ≤ 2))
theorem wknb_iff {v fi v' fi' : Int → Int} (h : ∀ q, 0 ≤ q → q < 4 → v q = v' q) (h2 : ∀ q, 0 ≤ q → q < 4 → fi q = fi' q) : wknows v fi ↔ wknb v' fi' = true := by
  rw [wknows_iff, wknb, decide_eq_true_eq, h 0 (by decide) (by decide), h 1 (by decide) (by decide), h 2 (by decide) (by decide), h 3 (by decide) (by decide), h2 0 (by decide) (by decide), h2 1 (by decide) (by decide), h2 2 (by decide) (by decide), h2 3 (by decide) (by decide)]
def whin (p : Nat → Bool) (nm : Int) (k m : Nat) : Bool := decide (¬ ((2 * wct p k ≤ nm) ↔ (2 * (wct p k + if p m = true then -1 else 1) ≤ nm)))
theorem zxor_d : ∀ m : Fin 8, ∀ b : Fin 256, (0 ≤ zxor b.val (zshl 1 m.val) ∧ zxor b.val (zshl 1 m.val) < 256) ∧ wones (zxor b.val (zshl 1 m.val)) = wones b.val + if (b.val : Int) / 2 ^ m.val % 2 = 1 then -1 else 1 := by decide +kernel
theorem zxor_wbs (p : Nat → Bool) {k m : Nat} (hk : k ≤ 8) (hm : m < k) : (0 ≤ zxor (wbs p k) (zshl 1 m) ∧ zxor (wbs p k) (zshl 1 m) < 256) ∧ wones (zxor (wbs p k) (zshl 1 m)) = wct p k + if p m = true then -1 else 1 := by
  have h1 := wbs_8 p hk
  have := zxor_d ⟨m, by omega⟩ ⟨(wbs p k).toNat, by omega⟩
  simp only [Int.toNat_of_nonneg h1.1] at this
  rw [wbs_bit p k m hk hm, wones_wbs p k hk] at this
  refine ⟨this.1, this.2.trans ?_⟩
  cases p m <;> simp
set_option maxRecDepth 100000 in
set_option maxHeartbeats 4000000 in
theorem s_hinges {S M : zM} {R : zP} {p : Nat → Bool} (hC : CW S M) (hR : R (some (.inl (wbs (whin p (qn S 0) (qn S 0).toNat) (qn S 0).toNat))) M) : tX7_hinges [.inr (.inr 0), .inl (wbs p (qn S 0).toNat)] M R := by
  have hqn := (hC.1 0 (by decide)).1
  have n1 := hC.2.1
  generalize hk : (qn S 0).toNat = k at *
  have hk8 : k ≤ 8 := by omega
  have hp8 := wbs_8 p hk8
  simp only [↓eX7_hinges, ↓rX7_hinges_0, ↓rX7_hinges_1, ↓rX7_hinges_2, ↓rX7_hinges_3, ↓reduceIte, zkeep_n, zkeep_i, zkeep_r, zkeep_l, zup_eq, zIR, zLR, List.length_cons, List.length_nil, Nat.reduceAdd, Nat.reduceLeDiff, Nat.reduceEqDiff, Nat.reduceSub, Int.reduceLE, Int.reduceLT, Int.reduceEq, Int.reduceNe, Int.reduceNeg, Int.reduceAdd, Int.reduceSub, Int.reduceMul, Int.reduceToNat, Nat.le_refl, Nat.zero_le, Nat.zero_add, Int.zero_add, Int.add_zero, and_true, true_and, and_false, false_and, not_true_eq_false, not_false_eq_true, eq_self, ne_eq, true_implies, false_implies, implies_true, or_true, true_or, or_false, false_or, reduceCtorEq, Option.some.injEq, Sum.inl.injEq, exists_eq_left', exists_eq_left, zite]
  have L : ∀ s : Nat, s ≤ k → uX7_hinges R 4 [some (.inr (.inr 0)), some (.inl (wbs p k)), some (.inl (wbs (whin p (qn S 0) k) s)), some (.inl (s : Int))] [] M := by
    refine zind (fun s => k - s) ?_
    intro m hm ih
    refine rX7_hinges_4.mpr ?_
    by_cases he : m = k
    · simp only [↓rX7_hinges_5, ↓rX7_hinges_6, ↓rX7_hinges_9, ↓rX7_hinges_12, ↓rX7_hinges_44, ↓rX7_hinges_45, ↓hg_fX7_116_1, ↓hg_fX7_116_4, ↓hg_fX7_14_0, ↓reduceIte, zkeep_n, zkeep_i, zkeep_r, zkeep_l, zup_eq, zIR, zLR, List.length_cons, List.length_nil, Nat.reduceAdd, Nat.reduceLeDiff, Nat.reduceEqDiff, Nat.reduceSub, Int.reduceLE, Int.reduceLT, Int.reduceEq, Int.reduceNe, Int.reduceNeg, Int.reduceAdd, Int.reduceSub, Int.reduceMul, Int.reduceToNat, Nat.le_refl, Nat.zero_le, Nat.zero_add, Int.zero_add, Int.add_zero, and_true, true_and, and_false, false_and, not_true_eq_false, not_false_eq_true, eq_self, ne_eq, true_implies, false_implies, implies_true, or_true, true_or, or_false, false_or, reduceCtorEq, Option.some.injEq, Sum.inl.injEq, exists_eq_left', exists_eq_left, n1, zite]
      subst he
      repeat' (first | with_reducible apply And.intro | with_reducible intro _)
      all_goals first | omega | (exact hR)
    · have hx := zxor_wbs p hk8 (show m < k by omega)
      have i1 := fun f => s_haveIt_gen (S := S) (M := M) (f := f) hC hp8
      have i2 := fun f => s_haveIt_gen (S := S) (M := M) (f := f) hC hx.1
      rw [hx.2] at i2
      rw [wones_wbs p k hk8] at i1
      have hw := wbs_R (whin p (qn S 0) k) m
      have hw2 := two_le m (by omega)
      have next := ih (m + 1) (by omega) (by omega)
      have z1 := zor_1 (m := m) (by omega) hw.1 hw.2
      simp only [wbs] at next
      have c1 : whin p (qn S 0) k m = true ↔ ¬ ((2 * wct p k ≤ qn S 0) ↔ (2 * (wct p k + if p m = true then -1 else 1) ≤ qn S 0)) := by simp [whin]
      generalize hB : (wct p k + if p m = true then -1 else 1) = B at *
      simp only [↓rX7_hinges_5, ↓rX7_hinges_6, ↓rX7_hinges_9, ↓rX7_hinges_12, ↓rX7_hinges_15, ↓rX7_hinges_16, ↓rX7_hinges_17, ↓rX7_hinges_20, ↓rX7_hinges_21, ↓rX7_hinges_22, ↓rX7_hinges_23, ↓rX7_hinges_24, ↓rX7_hinges_25, ↓rX7_hinges_26, ↓rX7_hinges_29, ↓rX7_hinges_32, ↓rX7_hinges_33, ↓rX7_hinges_34, ↓rX7_hinges_35, ↓rX7_hinges_36, ↓rX7_hinges_37, ↓rX7_hinges_38, ↓rX7_hinges_41, ↓hg_fX7_116_1, ↓hg_fX7_116_4, ↓hg_fX7_14_0, ↓reduceIte, ↓i1, ↓i2, zkeep_n, zkeep_i, zkeep_r, zkeep_l, zup_eq, zIR, zLR, List.length_cons, List.length_nil, Nat.reduceAdd, Nat.reduceLeDiff, Nat.reduceEqDiff, Nat.reduceSub, Int.reduceLE, Int.reduceLT, Int.reduceEq, Int.reduceNe, Int.reduceNeg, Int.reduceAdd, Int.reduceSub, Int.reduceMul, Int.reduceToNat, Nat.le_refl, Nat.zero_le, Nat.zero_add, Int.zero_add, Int.add_zero, and_true, true_and, and_false, false_and, not_true_eq_false, not_false_eq_true, eq_self, ne_eq, true_implies, false_implies, implies_true, or_true, true_or, or_false, false_or, reduceCtorEq, Option.some.injEq, Sum.inl.injEq, exists_eq_left', exists_eq_left, n1, zite]
      repeat' (first | with_reducible apply And.intro | with_reducible intro _)
      all_goals first | omega | (rw [z1]; rw [if_pos (c1.mpr (by omega))] at next; exact next) | (rw [if_neg (fun h => absurd (c1.mp h) (by omega)), Int.add_zero] at next; exact next)
  exact L 0 (Nat.zero_le _)
set_option maxRecDepth 100000 in
set_option maxHeartbeats 4000000 in
theorem s_unknowing7 {S M g : zM} {R : zP} {n : Nat} {kept : Int} (hC : CW S M) (hF : FR 7 n g M)
    (hR : ∀ M', (∀ k i, ¬ (23 ≤ k ∧ k ≤ 26) → M' k i = M k i) → R (some (.inl (wbs (fun m => !wknb (wvec S g n (kpm kept) m 19) (fun q => qfact S 0 m (1 + q))) (qn S 0).toNat))) M') : tX7_unknowing [.inr (.inr 0), .inr (.inr 7), .inl kept] M R := by
  have hqn := (hC.1 0 (by decide)).1
  simp only [↓eX7_unknowing, ↓rX7_unknowing_0, ↓rX7_unknowing_1, ↓rX7_unknowing_2, ↓rX7_unknowing_3, ↓reduceIte, zkeep_n, zkeep_i, zkeep_r, zkeep_l, zup_eq, zIR, zLR, List.length_cons, List.length_nil, Nat.reduceAdd, Nat.reduceLeDiff, Nat.reduceEqDiff, Nat.reduceSub, Int.reduceLE, Int.reduceLT, Int.reduceEq, Int.reduceNe, Int.reduceNeg, Int.reduceAdd, Int.reduceSub, Int.reduceMul, Int.reduceToNat, Nat.le_refl, Nat.zero_le, Nat.zero_add, Int.zero_add, Int.add_zero, and_true, true_and, and_false, false_and, not_true_eq_false, not_false_eq_true, eq_self, ne_eq, true_implies, false_implies, implies_true, or_true, true_or, or_false, false_or, reduceCtorEq, Option.some.injEq, Sum.inl.injEq, exists_eq_left', exists_eq_left, zite]
  generalize hp : (fun m : Nat => !wknb (wvec S g n (kpm kept) m 19) (fun q => qfact S 0 m (1 + q))) = p at hR
  have L : ∀ s : Nat × zM, (s.1 ≤ (qn S 0).toNat ∧ (∀ k i, ¬ (23 ≤ k ∧ k ≤ 26) → s.2 k i = M k i)) → uX7_unknowing R 5 [some (.inr (.inr 0)), some (.inr (.inr 7)), some (.inl kept), some (.inl (wbs p s.1)), some (.inl (s.1 : Int))] [] s.2 := by
    refine zind (fun s => (qn S 0).toNat - s.1) ?_
    rintro ⟨m, N⟩ ⟨hm, hfr⟩ ih
    simp only at hm hfr ih
    have n1 : N 1 5 = qn S 0 := (hfr _ _ (by decide)).trans hC.2.1
    refine rX7_unknowing_5.mpr ?_
    by_cases he : m = (qn S 0).toNat
    · simp only [↓rX7_unknowing_7, ↓rX7_unknowing_8, ↓rX7_unknowing_11, ↓rX7_unknowing_14, ↓rX7_unknowing_63, ↓rX7_unknowing_64, ↓hg_fX7_116_1, ↓hg_fX7_116_4, ↓hg_fX7_14_0, ↓reduceIte, zkeep_n, zkeep_i, zkeep_r, zkeep_l, zup_eq, zIR, zLR, List.length_cons, List.length_nil, Nat.reduceAdd, Nat.reduceLeDiff, Nat.reduceEqDiff, Nat.reduceSub, Int.reduceLE, Int.reduceLT, Int.reduceEq, Int.reduceNe, Int.reduceNeg, Int.reduceAdd, Int.reduceSub, Int.reduceMul, Int.reduceToNat, Nat.le_refl, Nat.zero_le, Nat.zero_add, Int.zero_add, Int.add_zero, and_true, true_and, and_false, false_and, not_true_eq_false, not_false_eq_true, eq_self, ne_eq, true_implies, false_implies, implies_true, or_true, true_or, or_false, false_or, reduceCtorEq, Option.some.injEq, Sum.inl.injEq, exists_eq_left', exists_eq_left, n1, zite]
      subst he
      repeat' (first | with_reducible apply And.intro | with_reducible intro _)
      all_goals first | omega | (exact hR N hfr)
    · have call : zcn (zv 7 tX7_raise) [.inr (.inr 0), .inr (.inr 7), .inl (m : Int), .inl 19, .inl kept] N (fun N' => uX7_unknowing R 27 [some (.inr (.inr 0)), some (.inr (.inr 7)), some (.inl kept), some (.inl (wbs p m)), some (.inl (m : Int))] [] N') := by
        refine zcnv rfl (s_raise7 (S := S) (g := g) (n := n) (T := 19) (CW_fr hC (fun k i hk => hfr k i (by omega))) (FR_fr hF (fun k i a b => hfr k i (by omega))) (by decide) (by omega) (by omega) (fun N' f1 f2 => ⟨rfl, ?_⟩))
        have hv := vokb_vec (g := g) (n := n) (kp := kpm kept) (m := m) (T := 19) hC.1 (by omega) (by omega) (fun f hf => ⟨(hF.2.2.2 f hf).1.2, (hF.2.2.2 f hf).2.2.2.1⟩) hF.2.1 (by decide)
        have e24 : ∀ q, 0 ≤ q → q < 4 → N' 24 q = wvec S g n (kpm kept) m 19 q := fun q a b => (f2.1 q a b).1
        have hCN : CW S N' := CW_fr hC (fun k i hk => (f1 k i (by omega)).trans (hfr k i (by omega)))
        have hfac : ∀ q, 0 ≤ q → q < 4 → N' 3 ((m : Int) * 5 + 1 + q) = qfact S 0 m (1 + q) := fun q a b => by
          rw [Int.add_assoc]
          exact hCN.2.2.2.1 m (1 + q) (by omega) (by omega) (by omega) (by omega)
        have hfr2 : ∀ q, 0 ≤ q → q < 4 → 0 ≤ qfact S 0 m (1 + q) ∧ qfact S 0 m (1 + q) ≤ 9 := fun q a b => ((hC.1 0 (by decide)).2 m (by omega) (by omega)).2.2 (1 + q) (by omega) (by omega)
        have hkn := wknb_iff (v := N' 24) (v' := wvec S g n (kpm kept) m 19) (fi := fun q => N' 3 ((m : Int) * 5 + 1 + q)) (fi' := fun q => qfact S 0 m (1 + q)) e24 hfac
        have hw := wbs_R p m
        have hw2 := two_le m (by omega)
        have next := ih (m + 1, N') ⟨by simp only; omega, fun k i hk => (f1 k i hk).trans (hfr k i hk)⟩ (by simp only; omega)
        have hpm : p m = !wknb (wvec S g n (kpm kept) m 19) (fun q => qfact S 0 m (1 + q)) := by rw [← hp]
        simp only [wbs, hpm] at next
        have z1 := zor_1 (m := m) (by omega) hw.1 hw.2
        have z0 := zor_0 (m := m) (by omega) hw.1 (by omega)
        simp only [↓rX7_unknowing_27, ↓rX7_unknowing_28, ↓rX7_unknowing_29, ↓rX7_unknowing_32, ↓rX7_unknowing_33, ↓rX7_unknowing_36, ↓rX7_unknowing_38, ↓hg_fX7_14_0, ↓hg_fX7_55_0, ↓reduceIte, zkeep_n, zkeep_i, zkeep_r, zkeep_l, zup_eq, zIR, zLR, List.length_cons, List.length_nil, Nat.reduceAdd, Nat.reduceLeDiff, Nat.reduceEqDiff, Nat.reduceSub, Int.reduceLE, Int.reduceLT, Int.reduceEq, Int.reduceNe, Int.reduceNeg, Int.reduceAdd, Int.reduceSub, Int.reduceMul, Int.reduceToNat, Nat.le_refl, Nat.zero_le, Nat.zero_add, Int.zero_add, Int.add_zero, and_true, true_and, and_false, false_and, not_true_eq_false, not_false_eq_true, eq_self, ne_eq, true_implies, false_implies, implies_true, or_true, true_or, or_false, false_or, reduceCtorEq, Option.some.injEq, Sum.inl.injEq, exists_eq_left', exists_eq_left, zite]
        refine zcvv rfl (s_knows (by omega) (fun q a b => by rw [e24 q a b]; exact hv.1 q (by omega) (by omega)) (fun q a b => by rw [hfac q a b]; exact hfr2 q a b) (fun hk => ⟨_, rfl, ?_⟩) (fun hk => ⟨_, rfl, ?_⟩))
        · simp only [↓rX7_unknowing_41, ↓rX7_unknowing_44, ↓rX7_unknowing_45, ↓rX7_unknowing_49, ↓rX7_unknowing_52, ↓rX7_unknowing_54, ↓rX7_unknowing_55, ↓rX7_unknowing_56, ↓rX7_unknowing_57, ↓rX7_unknowing_60, ↓rX7_unknowing_48, ↓i_bit, ↓reduceIte, zkeep_n, zkeep_i, zkeep_r, zkeep_l, zup_eq, zIR, zLR, List.length_cons, List.length_nil, Nat.reduceAdd, Nat.reduceLeDiff, Nat.reduceEqDiff, Nat.reduceSub, Int.reduceLE, Int.reduceLT, Int.reduceEq, Int.reduceNe, Int.reduceNeg, Int.reduceAdd, Int.reduceSub, Int.reduceMul, Int.reduceToNat, Nat.le_refl, Nat.zero_le, Nat.zero_add, Int.zero_add, Int.add_zero, and_true, true_and, and_false, false_and, not_true_eq_false, not_false_eq_true, eq_self, ne_eq, true_implies, false_implies, implies_true, or_true, true_or, or_false, false_or, reduceCtorEq, Option.some.injEq, Sum.inl.injEq, exists_eq_left', exists_eq_left, zite]
          rw [hkn] at hk
          rw [hk] at next
          rw [z0]
          rw [if_neg (by simp), Int.add_zero] at next
          exact next
        · simp only [↓rX7_unknowing_41, ↓rX7_unknowing_44, ↓rX7_unknowing_45, ↓rX7_unknowing_49, ↓rX7_unknowing_52, ↓rX7_unknowing_54, ↓rX7_unknowing_55, ↓rX7_unknowing_56, ↓rX7_unknowing_57, ↓rX7_unknowing_60, ↓rX7_unknowing_48, ↓i_bit, ↓reduceIte, zkeep_n, zkeep_i, zkeep_r, zkeep_l, zup_eq, zIR, zLR, List.length_cons, List.length_nil, Nat.reduceAdd, Nat.reduceLeDiff, Nat.reduceEqDiff, Nat.reduceSub, Int.reduceLE, Int.reduceLT, Int.reduceEq, Int.reduceNe, Int.reduceNeg, Int.reduceAdd, Int.reduceSub, Int.reduceMul, Int.reduceToNat, Nat.le_refl, Nat.zero_le, Nat.zero_add, Int.zero_add, Int.add_zero, and_true, true_and, and_false, false_and, not_true_eq_false, not_false_eq_true, eq_self, ne_eq, true_implies, false_implies, implies_true, or_true, true_or, or_false, false_or, reduceCtorEq, Option.some.injEq, Sum.inl.injEq, exists_eq_left', exists_eq_left, zite]
          rw [hkn] at hk
          rw [Bool.not_eq_true] at hk
          rw [hk] at next
          rw [z1]
          rw [if_pos (by simp)] at next
          exact next
      simp only [↓rX7_unknowing_7, ↓rX7_unknowing_8, ↓rX7_unknowing_11, ↓rX7_unknowing_14, ↓rX7_unknowing_17, ↓rX7_unknowing_18, ↓rX7_unknowing_19, ↓rX7_unknowing_21, ↓rX7_unknowing_23, ↓rX7_unknowing_24, ↓hg_fX7_116_1, ↓hg_fX7_116_4, ↓hg_fX7_14_0, ↓reduceIte, zkeep_n, zkeep_i, zkeep_r, zkeep_l, zup_eq, zIR, zLR, List.length_cons, List.length_nil, Nat.reduceAdd, Nat.reduceLeDiff, Nat.reduceEqDiff, Nat.reduceSub, Int.reduceLE, Int.reduceLT, Int.reduceEq, Int.reduceNe, Int.reduceNeg, Int.reduceAdd, Int.reduceSub, Int.reduceMul, Int.reduceToNat, Nat.le_refl, Nat.zero_le, Nat.zero_add, Int.zero_add, Int.add_zero, and_true, true_and, and_false, false_and, not_true_eq_false, not_false_eq_true, eq_self, ne_eq, true_implies, false_implies, implies_true, or_true, true_or, or_false, false_or, reduceCtorEq, Option.some.injEq, Sum.inl.injEq, exists_eq_left', exists_eq_left, n1, zite]
      repeat' (first | with_reducible apply And.intro | with_reducible intro _)
      all_goals first | omega | (exact call)
  exact L (0, M) ⟨Nat.zero_le _, fun _ _ _ => rfl⟩
set_option maxRecDepth 100000 in
set_option maxHeartbeats 4000000 in
theorem s_sickness7 {S M g : zM} {R : zP} {n : Nat} (hC : CW S M) (hF : FR 7 n g M)
    (hR : ∀ M', (∀ k i, ¬ (23 ≤ k ∧ k ≤ 26) → M' k i = M k i) → R (some (.inl (wsum (fun m => wvec S g n (kpm 255) m 19 13) (qn S 0).toNat))) M') : tX7_sickness [.inr (.inr 0), .inr (.inr 7)] M R := by
  have hqn := (hC.1 0 (by decide)).1
  simp only [↓eX7_sickness, ↓rX7_sickness_0, ↓rX7_sickness_1, ↓rX7_sickness_2, ↓rX7_sickness_3, ↓reduceIte, zkeep_n, zkeep_i, zkeep_r, zkeep_l, zup_eq, zIR, zLR, List.length_cons, List.length_nil, Nat.reduceAdd, Nat.reduceLeDiff, Nat.reduceEqDiff, Nat.reduceSub, Int.reduceLE, Int.reduceLT, Int.reduceEq, Int.reduceNe, Int.reduceNeg, Int.reduceAdd, Int.reduceSub, Int.reduceMul, Int.reduceToNat, Nat.le_refl, Nat.zero_le, Nat.zero_add, Int.zero_add, Int.add_zero, and_true, true_and, and_false, false_and, not_true_eq_false, not_false_eq_true, eq_self, ne_eq, true_implies, false_implies, implies_true, or_true, true_or, or_false, false_or, reduceCtorEq, Option.some.injEq, Sum.inl.injEq, exists_eq_left', exists_eq_left, zite]
  have L : ∀ s : Nat × zM, (s.1 ≤ (qn S 0).toNat ∧ (∀ k i, ¬ (23 ≤ k ∧ k ≤ 26) → s.2 k i = M k i)) → uX7_sickness R 4 [some (.inr (.inr 0)), some (.inr (.inr 7)), some (.inl (wsum (fun m => wvec S g n (kpm 255) m 19 13) s.1)), some (.inl (s.1 : Int))] [] s.2 := by
    refine zind (fun s => (qn S 0).toNat - s.1) ?_
    rintro ⟨m, N⟩ ⟨hm, hfr⟩ ih
    simp only at hm hfr ih
    have n1 : N 1 5 = qn S 0 := (hfr _ _ (by decide)).trans hC.2.1
    refine rX7_sickness_4.mpr ?_
    by_cases he : m = (qn S 0).toNat
    · simp only [↓rX7_sickness_5, ↓rX7_sickness_6, ↓rX7_sickness_9, ↓rX7_sickness_12, ↓rX7_sickness_42, ↓rX7_sickness_43, ↓hg_fX7_116_1, ↓hg_fX7_116_4, ↓hg_fX7_14_0, ↓reduceIte, zkeep_n, zkeep_i, zkeep_r, zkeep_l, zup_eq, zIR, zLR, List.length_cons, List.length_nil, Nat.reduceAdd, Nat.reduceLeDiff, Nat.reduceEqDiff, Nat.reduceSub, Int.reduceLE, Int.reduceLT, Int.reduceEq, Int.reduceNe, Int.reduceNeg, Int.reduceAdd, Int.reduceSub, Int.reduceMul, Int.reduceToNat, Nat.le_refl, Nat.zero_le, Nat.zero_add, Int.zero_add, Int.add_zero, and_true, true_and, and_false, false_and, not_true_eq_false, not_false_eq_true, eq_self, ne_eq, true_implies, false_implies, implies_true, or_true, true_or, or_false, false_or, reduceCtorEq, Option.some.injEq, Sum.inl.injEq, exists_eq_left', exists_eq_left, n1, zite]
      subst he
      repeat' (first | with_reducible apply And.intro | with_reducible intro _)
      all_goals first | omega | (exact hR N hfr)
    · have call : zcn (zv 7 tX7_raise) [.inr (.inr 0), .inr (.inr 7), .inl (m : Int), .inl 19, .inl 255] N (fun N' => uX7_sickness R 26 [some (.inr (.inr 0)), some (.inr (.inr 7)), some (.inl (wsum (fun m => wvec S g n (kpm 255) m 19 13) m)), some (.inl (m : Int))] [] N') := by
        refine zcnv rfl (s_raise7 (S := S) (g := g) (n := n) (T := 19) (CW_fr hC (fun k i hk => hfr k i (by omega))) (FR_fr hF (fun k i a b => hfr k i (by omega))) (by decide) (by omega) (by omega) (fun N' f1 f2 => ⟨rfl, ?_⟩))
        have e13 : N' 23 5 = wvec S g n (kpm 255) m 19 13 := f2.2.2
        have next := ih (m + 1, N') ⟨by simp only; omega, fun k i hk => (f1 k i hk).trans (hfr k i hk)⟩ (by simp only; omega)
        simp only [wsum] at next
        simp only [↓rX7_sickness_26, ↓rX7_sickness_27, ↓rX7_sickness_28, ↓rX7_sickness_31, ↓rX7_sickness_34, ↓rX7_sickness_35, ↓rX7_sickness_36, ↓rX7_sickness_39, ↓hg_fX7_162_23, ↓hg_fX7_162_27, ↓hg_fX7_55_0, ↓reduceIte, zkeep_n, zkeep_i, zkeep_r, zkeep_l, zup_eq, zIR, zLR, List.length_cons, List.length_nil, Nat.reduceAdd, Nat.reduceLeDiff, Nat.reduceEqDiff, Nat.reduceSub, Int.reduceLE, Int.reduceLT, Int.reduceEq, Int.reduceNe, Int.reduceNeg, Int.reduceAdd, Int.reduceSub, Int.reduceMul, Int.reduceToNat, Nat.le_refl, Nat.zero_le, Nat.zero_add, Int.zero_add, Int.add_zero, and_true, true_and, and_false, false_and, not_true_eq_false, not_false_eq_true, eq_self, ne_eq, true_implies, false_implies, implies_true, or_true, true_or, or_false, false_or, reduceCtorEq, Option.some.injEq, Sum.inl.injEq, exists_eq_left', exists_eq_left, e13, zite]
        exact next
      simp only [↓rX7_sickness_5, ↓rX7_sickness_6, ↓rX7_sickness_9, ↓rX7_sickness_12, ↓rX7_sickness_15, ↓rX7_sickness_16, ↓rX7_sickness_17, ↓rX7_sickness_18, ↓rX7_sickness_20, ↓rX7_sickness_23, ↓hg_fX7_116_1, ↓hg_fX7_116_4, ↓hg_fX7_14_0, ↓reduceIte, zkeep_n, zkeep_i, zkeep_r, zkeep_l, zup_eq, zIR, zLR, List.length_cons, List.length_nil, Nat.reduceAdd, Nat.reduceLeDiff, Nat.reduceEqDiff, Nat.reduceSub, Int.reduceLE, Int.reduceLT, Int.reduceEq, Int.reduceNe, Int.reduceNeg, Int.reduceAdd, Int.reduceSub, Int.reduceMul, Int.reduceToNat, Nat.le_refl, Nat.zero_le, Nat.zero_add, Int.zero_add, Int.add_zero, and_true, true_and, and_false, false_and, not_true_eq_false, not_false_eq_true, eq_self, ne_eq, true_implies, false_implies, implies_true, or_true, true_or, or_false, false_or, reduceCtorEq, Option.some.injEq, Sum.inl.injEq, exists_eq_left', exists_eq_left, n1, zite]
      repeat' (first | with_reducible apply And.intro | with_reducible intro _)
      all_goals first | omega | (exact call)
  exact L (0, M) ⟨Nat.zero_le _, fun _ _ _ => rfl⟩
set_option maxRecDepth 100000 in
set_option maxHeartbeats 4000000 in
theorem s_unknowing12 {S M g : zM} {R : zP} {n : Nat} {kept : Int} (hC : CW S M) (hF : FR 12 n g M)
    (hR : ∀ M', (∀ k i, ¬ (23 ≤ k ∧ k ≤ 26) → M' k i = M k i) → R (some (.inl (wbs (fun m => !wknb (wvec S g n (kpm kept) m 19) (fun q => qfact S 0 m (1 + q))) (qn S 0).toNat))) M') : tX7_unknowing [.inr (.inr 0), .inr (.inr 12), .inl kept] M R := by
  have hqn := (hC.1 0 (by decide)).1
  simp only [↓eX7_unknowing, ↓rX7_unknowing_0, ↓rX7_unknowing_1, ↓rX7_unknowing_2, ↓rX7_unknowing_3, ↓reduceIte, zkeep_n, zkeep_i, zkeep_r, zkeep_l, zup_eq, zIR, zLR, List.length_cons, List.length_nil, Nat.reduceAdd, Nat.reduceLeDiff, Nat.reduceEqDiff, Nat.reduceSub, Int.reduceLE, Int.reduceLT, Int.reduceEq, Int.reduceNe, Int.reduceNeg, Int.reduceAdd, Int.reduceSub, Int.reduceMul, Int.reduceToNat, Nat.le_refl, Nat.zero_le, Nat.zero_add, Int.zero_add, Int.add_zero, and_true, true_and, and_false, false_and, not_true_eq_false, not_false_eq_true, eq_self, ne_eq, true_implies, false_implies, implies_true, or_true, true_or, or_false, false_or, reduceCtorEq, Option.some.injEq, Sum.inl.injEq, exists_eq_left', exists_eq_left, zite]
  generalize hp : (fun m : Nat => !wknb (wvec S g n (kpm kept) m 19) (fun q => qfact S 0 m (1 + q))) = p at hR
  have L : ∀ s : Nat × zM, (s.1 ≤ (qn S 0).toNat ∧ (∀ k i, ¬ (23 ≤ k ∧ k ≤ 26) → s.2 k i = M k i)) → uX7_unknowing R 5 [some (.inr (.inr 0)), some (.inr (.inr 12)), some (.inl kept), some (.inl (wbs p s.1)), some (.inl (s.1 : Int))] [] s.2 := by
    refine zind (fun s => (qn S 0).toNat - s.1) ?_
    rintro ⟨m, N⟩ ⟨hm, hfr⟩ ih
    simp only at hm hfr ih
    have n1 : N 1 5 = qn S 0 := (hfr _ _ (by decide)).trans hC.2.1
    refine rX7_unknowing_5.mpr ?_
    by_cases he : m = (qn S 0).toNat
    · simp only [↓rX7_unknowing_7, ↓rX7_unknowing_8, ↓rX7_unknowing_11, ↓rX7_unknowing_14, ↓rX7_unknowing_63, ↓rX7_unknowing_64, ↓hg_fX7_116_1, ↓hg_fX7_116_4, ↓hg_fX7_14_0, ↓reduceIte, zkeep_n, zkeep_i, zkeep_r, zkeep_l, zup_eq, zIR, zLR, List.length_cons, List.length_nil, Nat.reduceAdd, Nat.reduceLeDiff, Nat.reduceEqDiff, Nat.reduceSub, Int.reduceLE, Int.reduceLT, Int.reduceEq, Int.reduceNe, Int.reduceNeg, Int.reduceAdd, Int.reduceSub, Int.reduceMul, Int.reduceToNat, Nat.le_refl, Nat.zero_le, Nat.zero_add, Int.zero_add, Int.add_zero, and_true, true_and, and_false, false_and, not_true_eq_false, not_false_eq_true, eq_self, ne_eq, true_implies, false_implies, implies_true, or_true, true_or, or_false, false_or, reduceCtorEq, Option.some.injEq, Sum.inl.injEq, exists_eq_left', exists_eq_left, n1, zite]
      subst he
      repeat' (first | with_reducible apply And.intro | with_reducible intro _)
      all_goals first | omega | (exact hR N hfr)
    · have call : zcn (zv 7 tX7_raise) [.inr (.inr 0), .inr (.inr 12), .inl (m : Int), .inl 19, .inl kept] N (fun N' => uX7_unknowing R 27 [some (.inr (.inr 0)), some (.inr (.inr 12)), some (.inl kept), some (.inl (wbs p m)), some (.inl (m : Int))] [] N') := by
        refine zcnv rfl (s_raise12 (S := S) (g := g) (n := n) (T := 19) (CW_fr hC (fun k i hk => hfr k i (by omega))) (FR_fr hF (fun k i a b => hfr k i (by omega))) (by decide) (by omega) (by omega) (fun N' f1 f2 => ⟨rfl, ?_⟩))
        have hv := vokb_vec (g := g) (n := n) (kp := kpm kept) (m := m) (T := 19) hC.1 (by omega) (by omega) (fun f hf => ⟨(hF.2.2.2 f hf).1.2, (hF.2.2.2 f hf).2.2.2.1⟩) hF.2.1 (by decide)
        have e24 : ∀ q, 0 ≤ q → q < 4 → N' 24 q = wvec S g n (kpm kept) m 19 q := fun q a b => (f2.1 q a b).1
        have hCN : CW S N' := CW_fr hC (fun k i hk => (f1 k i (by omega)).trans (hfr k i (by omega)))
        have hfac : ∀ q, 0 ≤ q → q < 4 → N' 3 ((m : Int) * 5 + 1 + q) = qfact S 0 m (1 + q) := fun q a b => by
          rw [Int.add_assoc]
          exact hCN.2.2.2.1 m (1 + q) (by omega) (by omega) (by omega) (by omega)
        have hfr2 : ∀ q, 0 ≤ q → q < 4 → 0 ≤ qfact S 0 m (1 + q) ∧ qfact S 0 m (1 + q) ≤ 9 := fun q a b => ((hC.1 0 (by decide)).2 m (by omega) (by omega)).2.2 (1 + q) (by omega) (by omega)
        have hkn := wknb_iff (v := N' 24) (v' := wvec S g n (kpm kept) m 19) (fi := fun q => N' 3 ((m : Int) * 5 + 1 + q)) (fi' := fun q => qfact S 0 m (1 + q)) e24 hfac
        have hw := wbs_R p m
        have hw2 := two_le m (by omega)
        have next := ih (m + 1, N') ⟨by simp only; omega, fun k i hk => (f1 k i hk).trans (hfr k i hk)⟩ (by simp only; omega)
        have hpm : p m = !wknb (wvec S g n (kpm kept) m 19) (fun q => qfact S 0 m (1 + q)) := by rw [← hp]
        simp only [wbs, hpm] at next
        have z1 := zor_1 (m := m) (by omega) hw.1 hw.2
        have z0 := zor_0 (m := m) (by omega) hw.1 (by omega)
        simp only [↓rX7_unknowing_27, ↓rX7_unknowing_28, ↓rX7_unknowing_29, ↓rX7_unknowing_32, ↓rX7_unknowing_33, ↓rX7_unknowing_36, ↓rX7_unknowing_38, ↓hg_fX7_14_0, ↓hg_fX7_55_0, ↓reduceIte, zkeep_n, zkeep_i, zkeep_r, zkeep_l, zup_eq, zIR, zLR, List.length_cons, List.length_nil, Nat.reduceAdd, Nat.reduceLeDiff, Nat.reduceEqDiff, Nat.reduceSub, Int.reduceLE, Int.reduceLT, Int.reduceEq, Int.reduceNe, Int.reduceNeg, Int.reduceAdd, Int.reduceSub, Int.reduceMul, Int.reduceToNat, Nat.le_refl, Nat.zero_le, Nat.zero_add, Int.zero_add, Int.add_zero, and_true, true_and, and_false, false_and, not_true_eq_false, not_false_eq_true, eq_self, ne_eq, true_implies, false_implies, implies_true, or_true, true_or, or_false, false_or, reduceCtorEq, Option.some.injEq, Sum.inl.injEq, exists_eq_left', exists_eq_left, zite]
        refine zcvv rfl (s_knows (by omega) (fun q a b => by rw [e24 q a b]; exact hv.1 q (by omega) (by omega)) (fun q a b => by rw [hfac q a b]; exact hfr2 q a b) (fun hk => ⟨_, rfl, ?_⟩) (fun hk => ⟨_, rfl, ?_⟩))
        · simp only [↓rX7_unknowing_41, ↓rX7_unknowing_44, ↓rX7_unknowing_45, ↓rX7_unknowing_49, ↓rX7_unknowing_52, ↓rX7_unknowing_54, ↓rX7_unknowing_55, ↓rX7_unknowing_56, ↓rX7_unknowing_57, ↓rX7_unknowing_60, ↓rX7_unknowing_48, ↓i_bit, ↓reduceIte, zkeep_n, zkeep_i, zkeep_r, zkeep_l, zup_eq, zIR, zLR, List.length_cons, List.length_nil, Nat.reduceAdd, Nat.reduceLeDiff, Nat.reduceEqDiff, Nat.reduceSub, Int.reduceLE, Int.reduceLT, Int.reduceEq, Int.reduceNe, Int.reduceNeg, Int.reduceAdd, Int.reduceSub, Int.reduceMul, Int.reduceToNat, Nat.le_refl, Nat.zero_le, Nat.zero_add, Int.zero_add, Int.add_zero, and_true, true_and, and_false, false_and, not_true_eq_false, not_false_eq_true, eq_self, ne_eq, true_implies, false_implies, implies_true, or_true, true_or, or_false, false_or, reduceCtorEq, Option.some.injEq, Sum.inl.injEq, exists_eq_left', exists_eq_left, zite]
          rw [hkn] at hk
          rw [hk] at next
          rw [z0]
          rw [if_neg (by simp), Int.add_zero] at next
          exact next
        · simp only [↓rX7_unknowing_41, ↓rX7_unknowing_44, ↓rX7_unknowing_45, ↓rX7_unknowing_49, ↓rX7_unknowing_52, ↓rX7_unknowing_54, ↓rX7_unknowing_55, ↓rX7_unknowing_56, ↓rX7_unknowing_57, ↓rX7_unknowing_60, ↓rX7_unknowing_48, ↓i_bit, ↓reduceIte, zkeep_n, zkeep_i, zkeep_r, zkeep_l, zup_eq, zIR, zLR, List.length_cons, List.length_nil, Nat.reduceAdd, Nat.reduceLeDiff, Nat.reduceEqDiff, Nat.reduceSub, Int.reduceLE, Int.reduceLT, Int.reduceEq, Int.reduceNe, Int.reduceNeg, Int.reduceAdd, Int.reduceSub, Int.reduceMul, Int.reduceToNat, Nat.le_refl, Nat.zero_le, Nat.zero_add, Int.zero_add, Int.add_zero, and_true, true_and, and_false, false_and, not_true_eq_false, not_false_eq_true, eq_self, ne_eq, true_implies, false_implies, implies_true, or_true, true_or, or_false, false_or, reduceCtorEq, Option.some.injEq, Sum.inl.injEq, exists_eq_left', exists_eq_left, zite]
          rw [hkn] at hk
          rw [Bool.not_eq_true] at hk
          rw [hk] at next
          rw [z1]
          rw [if_pos (by simp)] at next
          exact next
      simp only [↓rX7_unknowing_7, ↓rX7_unknowing_8, ↓rX7_unknowing_11, ↓rX7_unknowing_14, ↓rX7_unknowing_17, ↓rX7_unknowing_18, ↓rX7_unknowing_19, ↓rX7_unknowing_21, ↓rX7_unknowing_23, ↓rX7_unknowing_24, ↓hg_fX7_116_1, ↓hg_fX7_116_4, ↓hg_fX7_14_0, ↓reduceIte, zkeep_n, zkeep_i, zkeep_r, zkeep_l, zup_eq, zIR, zLR, List.length_cons, List.length_nil, Nat.reduceAdd, Nat.reduceLeDiff, Nat.reduceEqDiff, Nat.reduceSub, Int.reduceLE, Int.reduceLT, Int.reduceEq, Int.reduceNe, Int.reduceNeg, Int.reduceAdd, Int.reduceSub, Int.reduceMul, Int.reduceToNat, Nat.le_refl, Nat.zero_le, Nat.zero_add, Int.zero_add, Int.add_zero, and_true, true_and, and_false, false_and, not_true_eq_false, not_false_eq_true, eq_self, ne_eq, true_implies, false_implies, implies_true, or_true, true_or, or_false, false_or, reduceCtorEq, Option.some.injEq, Sum.inl.injEq, exists_eq_left', exists_eq_left, n1, zite]
      repeat' (first | with_reducible apply And.intro | with_reducible intro _)
      all_goals first | omega | (exact call)
  exact L (0, M) ⟨Nat.zero_le _, fun _ _ _ => rfl⟩
set_option maxRecDepth 100000 in
set_option maxHeartbeats 4000000 in
theorem s_sickness12 {S M g : zM} {R : zP} {n : Nat} (hC : CW S M) (hF : FR 12 n g M)
    (hR : ∀ M', (∀ k i, ¬ (23 ≤ k ∧ k ≤ 26) → M' k i = M k i) → R (some (.inl (wsum (fun m => wvec S g n (kpm 255) m 19 13) (qn S 0).toNat))) M') : tX7_sickness [.inr (.inr 0), .inr (.inr 12)] M R := by
  have hqn := (hC.1 0 (by decide)).1
  simp only [↓eX7_sickness, ↓rX7_sickness_0, ↓rX7_sickness_1, ↓rX7_sickness_2, ↓rX7_sickness_3, ↓reduceIte, zkeep_n, zkeep_i, zkeep_r, zkeep_l, zup_eq, zIR, zLR, List.length_cons, List.length_nil, Nat.reduceAdd, Nat.reduceLeDiff, Nat.reduceEqDiff, Nat.reduceSub, Int.reduceLE, Int.reduceLT, Int.reduceEq, Int.reduceNe, Int.reduceNeg, Int.reduceAdd, Int.reduceSub, Int.reduceMul, Int.reduceToNat, Nat.le_refl, Nat.zero_le, Nat.zero_add, Int.zero_add, Int.add_zero, and_true, true_and, and_false, false_and, not_true_eq_false, not_false_eq_true, eq_self, ne_eq, true_implies, false_implies, implies_true, or_true, true_or, or_false, false_or, reduceCtorEq, Option.some.injEq, Sum.inl.injEq, exists_eq_left', exists_eq_left, zite]
  have L : ∀ s : Nat × zM, (s.1 ≤ (qn S 0).toNat ∧ (∀ k i, ¬ (23 ≤ k ∧ k ≤ 26) → s.2 k i = M k i)) → uX7_sickness R 4 [some (.inr (.inr 0)), some (.inr (.inr 12)), some (.inl (wsum (fun m => wvec S g n (kpm 255) m 19 13) s.1)), some (.inl (s.1 : Int))] [] s.2 := by
    refine zind (fun s => (qn S 0).toNat - s.1) ?_
    rintro ⟨m, N⟩ ⟨hm, hfr⟩ ih
    simp only at hm hfr ih
    have n1 : N 1 5 = qn S 0 := (hfr _ _ (by decide)).trans hC.2.1
    refine rX7_sickness_4.mpr ?_
    by_cases he : m = (qn S 0).toNat
    · simp only [↓rX7_sickness_5, ↓rX7_sickness_6, ↓rX7_sickness_9, ↓rX7_sickness_12, ↓rX7_sickness_42, ↓rX7_sickness_43, ↓hg_fX7_116_1, ↓hg_fX7_116_4, ↓hg_fX7_14_0, ↓reduceIte, zkeep_n, zkeep_i, zkeep_r, zkeep_l, zup_eq, zIR, zLR, List.length_cons, List.length_nil, Nat.reduceAdd, Nat.reduceLeDiff, Nat.reduceEqDiff, Nat.reduceSub, Int.reduceLE, Int.reduceLT, Int.reduceEq, Int.reduceNe, Int.reduceNeg, Int.reduceAdd, Int.reduceSub, Int.reduceMul, Int.reduceToNat, Nat.le_refl, Nat.zero_le, Nat.zero_add, Int.zero_add, Int.add_zero, and_true, true_and, and_false, false_and, not_true_eq_false, not_false_eq_true, eq_self, ne_eq, true_implies, false_implies, implies_true, or_true, true_or, or_false, false_or, reduceCtorEq, Option.some.injEq, Sum.inl.injEq, exists_eq_left', exists_eq_left, n1, zite]
      subst he
      repeat' (first | with_reducible apply And.intro | with_reducible intro _)
      all_goals first | omega | (exact hR N hfr)
    · have call : zcn (zv 7 tX7_raise) [.inr (.inr 0), .inr (.inr 12), .inl (m : Int), .inl 19, .inl 255] N (fun N' => uX7_sickness R 26 [some (.inr (.inr 0)), some (.inr (.inr 12)), some (.inl (wsum (fun m => wvec S g n (kpm 255) m 19 13) m)), some (.inl (m : Int))] [] N') := by
        refine zcnv rfl (s_raise12 (S := S) (g := g) (n := n) (T := 19) (CW_fr hC (fun k i hk => hfr k i (by omega))) (FR_fr hF (fun k i a b => hfr k i (by omega))) (by decide) (by omega) (by omega) (fun N' f1 f2 => ⟨rfl, ?_⟩))
        have e13 : N' 23 5 = wvec S g n (kpm 255) m 19 13 := f2.2.2
        have next := ih (m + 1, N') ⟨by simp only; omega, fun k i hk => (f1 k i hk).trans (hfr k i hk)⟩ (by simp only; omega)
        simp only [wsum] at next
        simp only [↓rX7_sickness_26, ↓rX7_sickness_27, ↓rX7_sickness_28, ↓rX7_sickness_31, ↓rX7_sickness_34, ↓rX7_sickness_35, ↓rX7_sickness_36, ↓rX7_sickness_39, ↓hg_fX7_162_23, ↓hg_fX7_162_27, ↓hg_fX7_55_0, ↓reduceIte, zkeep_n, zkeep_i, zkeep_r, zkeep_l, zup_eq, zIR, zLR, List.length_cons, List.length_nil, Nat.reduceAdd, Nat.reduceLeDiff, Nat.reduceEqDiff, Nat.reduceSub, Int.reduceLE, Int.reduceLT, Int.reduceEq, Int.reduceNe, Int.reduceNeg, Int.reduceAdd, Int.reduceSub, Int.reduceMul, Int.reduceToNat, Nat.le_refl, Nat.zero_le, Nat.zero_add, Int.zero_add, Int.add_zero, and_true, true_and, and_false, false_and, not_true_eq_false, not_false_eq_true, eq_self, ne_eq, true_implies, false_implies, implies_true, or_true, true_or, or_false, false_or, reduceCtorEq, Option.some.injEq, Sum.inl.injEq, exists_eq_left', exists_eq_left, e13, zite]
        exact next
      simp only [↓rX7_sickness_5, ↓rX7_sickness_6, ↓rX7_sickness_9, ↓rX7_sickness_12, ↓rX7_sickness_15, ↓rX7_sickness_16, ↓rX7_sickness_17, ↓rX7_sickness_18, ↓rX7_sickness_20, ↓rX7_sickness_23, ↓hg_fX7_116_1, ↓hg_fX7_116_4, ↓hg_fX7_14_0, ↓reduceIte, zkeep_n, zkeep_i, zkeep_r, zkeep_l, zup_eq, zIR, zLR, List.length_cons, List.length_nil, Nat.reduceAdd, Nat.reduceLeDiff, Nat.reduceEqDiff, Nat.reduceSub, Int.reduceLE, Int.reduceLT, Int.reduceEq, Int.reduceNe, Int.reduceNeg, Int.reduceAdd, Int.reduceSub, Int.reduceMul, Int.reduceToNat, Nat.le_refl, Nat.zero_le, Nat.zero_add, Int.zero_add, Int.add_zero, and_true, true_and, and_false, false_and, not_true_eq_false, not_false_eq_true, eq_self, ne_eq, true_implies, false_implies, implies_true, or_true, true_or, or_false, false_or, reduceCtorEq, Option.some.injEq, Sum.inl.injEq, exists_eq_left', exists_eq_left, n1, zite]
      repeat' (first | with_reducible apply And.intro | with_reducible intro _)
      all_goals first | omega | (exact call)
  exact L (0, M) ⟨Nat.zero_le _, fun _ _ _ => rfl⟩
