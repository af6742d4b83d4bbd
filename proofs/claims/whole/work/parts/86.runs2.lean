def wG (S g : zM) (n : Nat) (kp : Int → Bool) (so : Int → Int) (fi : Int → Int → Int) (k : Int) (T : Nat) : Int → Int := wseg S g n kp (wby (so k)) k 0 (T + 1) (wstart (so k) (fi k))
def HA (S M g : zM) (n : Nat) (kp : Int → Bool) (so : Int → Int) (fi : Int → Int → Int) : Prop := ∀ k, 0 ≤ k → k < qn S 0 → (∀ t : Nat, t < 20 → (∀ q, 0 ≤ q → q < 4 → M 64 (32 * t + 4 * k + q) = wG S g n kp so fi k t q ∧ M 65 (32 * t + 4 * k + q) = wG S g n kp so fi k t (4 + q) ∧ M 66 (32 * t + 4 * k + q) = wG S g n kp so fi k t (8 + q)) ∧ M 67 (8 * t + k) = wG S g n kp so fi k t 12 ∧ M 68 (8 * t + k) = wG S g n kp so fi k t 13) ∧ M 63 k = wG S g n kp so fi k 19 13
theorem wseg_s (S g : zM) (n : Nat) (kp : Int → Bool) (by_ m : Int) (k : Nat) (v : Int → Int) : wseg S g n kp by_ m 0 (k + 1) v = wterm S g kp by_ m k n (wseg S g n kp by_ m 0 k v) := by
  show wterm S g kp by_ m (0 + k) n _ = _
  rw [Int.zero_add]
set_option maxRecDepth 100000 in
set_option maxHeartbeats 8000000 in
theorem s_runs {S M g : zM} {R : zP} {n : Nat} {nt : Int} {so : Int → Int} {fi : Int → Int → Int} (hq : QR S) (hC : CF S M g n so fi) (hnt : M 46 16 = nt)
    (hR : ∀ M', (∀ k i, ¬ (59 ≤ k ∧ k ≤ 68) → M' k i = M k i) → HA S M' g n (knt nt) so fi → R none M') : tX8_runs [.inr (.inr 46)] M R := by
  have hq0 := (hq 0 (by decide)).1
  have c1 := hC.1
  have c3 := hC.2.2.1
  have c6 := hC.2.2.2.2.2.1
  have c7 := hC.2.2.2.2.2.2
  have LC : ∀ s : Nat × zM, (s.1 ≤ 20 ∧ (∀ k i, ¬ (59 ≤ k ∧ k ≤ 68) → s.2 k i = M k i) ∧ (∀ k, 0 ≤ k → k < qn S 0 → PM k s.2 (wseg S g n (knt nt) (wby (so k)) k 0 s.1 (wstart (so k) (fi k))) ∧ vokb (40 * s.1) (wseg S g n (knt nt) (wby (so k)) k 0 s.1 (wstart (so k) (fi k))) ∧ (∀ t : Nat, t < s.1 → (∀ q, 0 ≤ q → q < 4 → s.2 64 (32 * t + 4 * k + q) = wG S g n (knt nt) so fi k t q ∧ s.2 65 (32 * t + 4 * k + q) = wG S g n (knt nt) so fi k t (4 + q) ∧ s.2 66 (32 * t + 4 * k + q) = wG S g n (knt nt) so fi k t (8 + q)) ∧ s.2 67 (8 * t + k) = wG S g n (knt nt) so fi k t 12 ∧ s.2 68 (8 * t + k) = wG S g n (knt nt) so fi k t 13))) → uX8_runs R 113 [some (.inr (.inr 46)), some (.inl (s.1 : Int))] [] s.2 := by
    refine zind (fun s => 20 - s.1) ?_
    rintro ⟨t, N⟩ ⟨ht, hfr, hx⟩ ih
    simp only at ht hfr hx ih
    refine rX8_runs_113.mpr ?_
    by_cases he : t = 20
    · subst he
      have fin := hR N hfr (fun k a b => ⟨(hx k a b).2.2, (hx k a b).1.2.2⟩)
      simp only [↓rX8_runs_114, ↓rX8_runs_116, ↓rX8_runs_130, ↓reduceIte, zkeep_n, zkeep_i, zkeep_r, zkeep_l, zup_eq, zIR, zLR, List.length_cons, List.length_nil, Nat.reduceAdd, Nat.reduceLeDiff, Nat.reduceEqDiff, Nat.reduceSub, Int.reduceLE, Int.reduceLT, Int.reduceEq, Int.reduceNe, Int.reduceNeg, Int.reduceAdd, Int.reduceSub, Int.reduceMul, Int.reduceToNat, Nat.le_refl, Nat.zero_le, Nat.zero_add, Int.zero_add, Int.add_zero, and_true, true_and, and_false, false_and, not_true_eq_false, not_false_eq_true, eq_self, ne_eq, true_implies, false_implies, implies_true, or_true, true_or, or_false, false_or, reduceCtorEq, Option.some.injEq, Sum.inl.injEq, exists_eq_left', exists_eq_left, zite]
      repeat' (first | with_reducible apply And.intro | with_reducible intro _)
      all_goals first | omega | (exact fin)
    · have call : zcn (zv 8 tX8_goesBy) [.inr (.inr 46), .inl (t : Int)] N (fun N' => uX8_runs R 124 [some (.inr (.inr 46)), some (.inl (t : Int))] [] N') := by
        refine zcnv rfl (s_goesBy (S := S) (g := g) (n := n) (t := t) (nt := nt) (b := 40 * t) (so := so) (fi := fi) (V := fun k => wseg S g n (knt nt) (wby (so k)) k 0 t (wstart (so k) (fi k))) hq (CF_fr hC (fun k i q => hfr k i (by omega))) ((hfr _ _ (by decide)).trans hnt) (fun k a b => ⟨(hx k a b).1, (hx k a b).2.1⟩) (by omega) (by omega) (fun N' f1 f2 f3 f4 => ⟨rfl, ?_⟩))
        have nx := ih (t + 1, N') ⟨by simp only; omega, fun k i a => (f1 k i a).trans (hfr k i a), fun k a b => ?_⟩ (by simp only; omega)
        · simp only [↓rX8_runs_124, ↓rX8_runs_127, ↓reduceIte, zkeep_n, zkeep_i, zkeep_r, zkeep_l, zup_eq, zIR, zLR, List.length_cons, List.length_nil, Nat.reduceAdd, Nat.reduceLeDiff, Nat.reduceEqDiff, Nat.reduceSub, Int.reduceLE, Int.reduceLT, Int.reduceEq, Int.reduceNe, Int.reduceNeg, Int.reduceAdd, Int.reduceSub, Int.reduceMul, Int.reduceToNat, Nat.le_refl, Nat.zero_le, Nat.zero_add, Int.zero_add, Int.add_zero, and_true, true_and, and_false, false_and, not_true_eq_false, not_false_eq_true, eq_self, ne_eq, true_implies, false_implies, implies_true, or_true, true_or, or_false, false_or, reduceCtorEq, Option.some.injEq, Sum.inl.injEq, exists_eq_left', exists_eq_left, zite]
          exact nx
        · obtain ⟨x1, x2, x3⟩ := hx k a b
          obtain ⟨y1, y2, y3, y4⟩ := f2 k a b
          have e := wseg_s S g n (knt nt) (wby (so k)) k t (wstart (so k) (fi k))
          refine ⟨?_, ?_, fun t' ht' => ?_⟩
          · show PM k N' (wseg S g n (knt nt) (wby (so k)) k 0 (t + 1) (wstart (so k) (fi k)))
            rw [e]
            exact y1
          · show vokb (40 * ((t + 1 : Nat) : Int)) (wseg S g n (knt nt) (wby (so k)) k 0 (t + 1) (wstart (so k) (fi k)))
            rw [e]
            exact vokb_mono (vokb_term hq (wby_R _).1 x2 n (fun f hf => (c7 f hf).2.2.2.1)) (by omega)
          · simp only at ht' ⊢
            by_cases et : t' = t
            · subst et
              unfold wG
              rw [e]
              exact ⟨y2, y3, y4⟩
            · have := x3 t' (by omega)
              refine ⟨fun q q0 q1 => ?_, ?_, ?_⟩
              · have o := f3 (32 * t' + 4 * k + q) (by omega)
                rw [o.1, o.2.1, o.2.2]
                exact this.1 q q0 q1
              · rw [(f4 (8 * t' + k) (by omega)).1]
                exact this.2.1
              · rw [(f4 (8 * t' + k) (by omega)).2]
                exact this.2.2
      simp only [↓rX8_runs_114, ↓rX8_runs_116, ↓rX8_runs_119, ↓rX8_runs_120, ↓rX8_runs_121, ↓reduceIte, zkeep_n, zkeep_i, zkeep_r, zkeep_l, zup_eq, zIR, zLR, List.length_cons, List.length_nil, Nat.reduceAdd, Nat.reduceLeDiff, Nat.reduceEqDiff, Nat.reduceSub, Int.reduceLE, Int.reduceLT, Int.reduceEq, Int.reduceNe, Int.reduceNeg, Int.reduceAdd, Int.reduceSub, Int.reduceMul, Int.reduceToNat, Nat.le_refl, Nat.zero_le, Nat.zero_add, Int.zero_add, Int.add_zero, and_true, true_and, and_false, false_and, not_true_eq_false, not_false_eq_true, eq_self, ne_eq, true_implies, false_implies, implies_true, or_true, true_or, or_false, false_or, reduceCtorEq, Option.some.injEq, Sum.inl.injEq, exists_eq_left', exists_eq_left, zite]
      repeat' (first | with_reducible apply And.intro | with_reducible intro _)
      all_goals first | omega | (exact call)
  have LB : ∀ s : Int × zM, ((0 ≤ s.1 ∧ s.1 ≤ qn S 0) ∧ (∀ k i, ¬ (59 ≤ k ∧ k ≤ 63) → s.2 k i = M k i) ∧ (∀ k, 0 ≤ k → k < qn S 0 → ∀ q, 0 ≤ q → q < 4 → s.2 59 (4 * k + q) = fi k q ∧ s.2 60 (4 * k + q) = fi k q ∧ s.2 61 (4 * k + q) = fi k q) ∧ (∀ k, 0 ≤ k → k < s.1 → s.2 62 k = wstom (so k) ∧ s.2 63 k = 0)) → uX8_runs R 56 [some (.inr (.inr 46)), some (.inl s.1)] [] s.2 := by
    refine zind (fun s => (qn S 0 - s.1).toNat) ?_
    rintro ⟨k, N⟩ ⟨hk, hfr, hx, hy⟩ ih
    simp only at hk hfr hx hy ih
    have n2 : N 46 2 = qn S 0 := (hfr _ _ (by decide)).trans c1
    refine rX8_runs_56.mpr ?_
    by_cases he : k = qn S 0
    · have fin := LC (0, N) ⟨by simp only; omega, fun k i a => hfr k i (by omega), fun j a b => ?_⟩
      · simp only [↓rX8_runs_57, ↓rX8_runs_58, ↓rX8_runs_61, ↓rX8_runs_111, ↓rX8_runs_112, ↓hg_fX8_127_46, ↓reduceIte, zkeep_n, zkeep_i, zkeep_r, zkeep_l, zup_eq, zIR, zLR, List.length_cons, List.length_nil, Nat.reduceAdd, Nat.reduceLeDiff, Nat.reduceEqDiff, Nat.reduceSub, Int.reduceLE, Int.reduceLT, Int.reduceEq, Int.reduceNe, Int.reduceNeg, Int.reduceAdd, Int.reduceSub, Int.reduceMul, Int.reduceToNat, Nat.le_refl, Nat.zero_le, Nat.zero_add, Int.zero_add, Int.add_zero, and_true, true_and, and_false, false_and, not_true_eq_false, not_false_eq_true, eq_self, ne_eq, true_implies, false_implies, implies_true, or_true, true_or, or_false, false_or, reduceCtorEq, Option.some.injEq, Sum.inl.injEq, exists_eq_left', exists_eq_left, n2, zite]
        repeat' (first | with_reducible apply And.intro | with_reducible intro _)
        all_goals first | omega | (exact fin)
      · refine ⟨⟨fun q q0 q1 => ?_, ?_, ?_⟩, ?_, fun t ht => by simp at ht⟩
        · have := hx j a b q q0 q1
          show N 59 (4 * j + q) = wstart (so j) (fi j) q ∧ N 60 (4 * j + q) = wstart (so j) (fi j) (4 + q) ∧ N 61 (4 * j + q) = wstart (so j) (fi j) (8 + q)
          have u1 : wstart (so j) (fi j) q = fi j q := by unfold wstart; rw [if_pos (by omega)]
          have u2 : wstart (so j) (fi j) (4 + q) = fi j q := by unfold wstart; rw [if_neg (by omega), if_pos (by omega), show 4 + q - 4 = q by omega]
          have u3 : wstart (so j) (fi j) (8 + q) = fi j q := by unfold wstart; rw [if_neg (by omega), if_neg (by omega), if_pos (by omega), show 8 + q - 8 = q by omega]
          rw [u1, u2, u3]
          exact this
        · exact (hy j a (by omega)).1
        · exact (hy j a (by omega)).2
        · show vokb (40 * ((0 : Nat) : Int)) (wstart (so j) (fi j))
          exact vokb_start (fun q q0 q1 => ((c3 j a b).2 q q0 q1).2)
    · have s1 := (c3 k hk.1 (by omega)).1
      have n49 : N 49 k = so k := (hfr _ _ (by decide)).trans s1.1
      have nx : ∀ w, w = wstom (so k) → uX8_runs R 56 [some (.inr (.inr 46)), some (.inl (k + 1))] [] (zup (zup N 62 k w) 63 k 0) := fun w hw => by
        refine ih (k + 1, zup (zup N 62 k w) 63 k 0) ⟨by simp only; omega, fun j i hj => by simp only [zup_ne (show j ≠ 62 by omega), zup_ne (show j ≠ 63 by omega)]; exact hfr j i hj, fun j a b q q0 q1 => by simp only [zup_eq, Nat.reduceEqDiff, false_and, if_false]; exact hx j a b q q0 q1, fun j a b => ?_⟩ (by simp only; omega)
        simp only [zup_eq, Nat.reduceEqDiff, false_and, true_and, if_false] at b ⊢
        by_cases e : j = k
        · rw [if_pos e, if_pos e, hw, e]
          exact ⟨rfl, rfl⟩
        · rw [if_neg e, if_neg e]
          exact hy j a (by omega)
      simp only [↓rX8_runs_57, ↓rX8_runs_58, ↓rX8_runs_61, ↓rX8_runs_64, ↓rX8_runs_65, ↓rX8_runs_68, ↓rX8_runs_69, ↓rX8_runs_70, ↓rX8_runs_73, ↓rX8_runs_74, ↓rX8_runs_75, ↓rX8_runs_78, ↓rX8_runs_79, ↓rX8_runs_97, ↓rX8_runs_98, ↓rX8_runs_99, ↓rX8_runs_102, ↓rX8_runs_103, ↓rX8_runs_104, ↓rX8_runs_105, ↓rX8_runs_108, ↓rX8_runs_82, ↓rX8_runs_83, ↓rX8_runs_86, ↓rX8_runs_87, ↓rX8_runs_88, ↓rX8_runs_89, ↓rX8_runs_92, ↓rX8_runs_93, ↓rX8_runs_96, ↓hg_fX8_127_46, ↓hg_fX8_16_46, ↓hg_fX8_55_46, ↓hg_fX8_58_46, ↓hr_47, ↓hr_48, ↓hr_49, ↓hr_50, ↓hr_51, ↓hr_52, ↓hr_53, ↓hr_54, ↓hr_55, ↓hr_56, ↓hr_57, ↓hr_58, ↓hr_59, ↓hr_60, ↓hr_61, ↓hr_62, ↓hr_63, ↓hr_64, ↓hr_65, ↓hr_66, ↓hr_67, ↓hr_68, ↓hr_69, ↓hr_70, ↓hr_71, ↓hr_72, ↓hr_73, ↓hr_74, ↓hr_75, ↓hr_76, ↓hr_77, ↓hr_78, ↓hr_79, ↓hw_47, ↓hw_48, ↓hw_49, ↓hw_50, ↓hw_51, ↓hw_52, ↓hw_53, ↓hw_54, ↓hw_55, ↓hw_56, ↓hw_57, ↓hw_58, ↓hw_59, ↓hw_60, ↓hw_61, ↓hw_62, ↓hw_63, ↓hw_64, ↓hw_65, ↓hw_66, ↓hw_67, ↓hw_68, ↓hw_69, ↓hw_70, ↓hw_71, ↓hw_72, ↓hw_73, ↓hw_74, ↓hw_75, ↓hw_76, ↓hw_77, ↓hw_78, ↓hw_79, ↓reduceIte, zkeep_n, zkeep_i, zkeep_r, zkeep_l, zIR, zLR, List.length_cons, List.length_nil, Nat.reduceAdd, Nat.reduceLeDiff, Nat.reduceEqDiff, Nat.reduceSub, Int.reduceLE, Int.reduceLT, Int.reduceEq, Int.reduceNe, Int.reduceNeg, Int.reduceAdd, Int.reduceSub, Int.reduceMul, Int.reduceToNat, Nat.le_refl, Nat.zero_le, Nat.zero_add, Int.zero_add, Int.add_zero, and_true, true_and, and_false, false_and, not_true_eq_false, not_false_eq_true, eq_self, ne_eq, true_implies, false_implies, implies_true, or_true, true_or, or_false, false_or, reduceCtorEq, Option.some.injEq, Sum.inl.injEq, exists_eq_left', exists_eq_left, n2, n49, zup_ne, zite]
      repeat' (first | with_reducible apply And.intro | with_reducible intro _)
      all_goals first | omega | (refine nx _ ?_; unfold wstom; rw [if_pos (by omega)]) | (refine nx _ ?_; unfold wstom; rw [if_neg (by omega), if_pos (by omega)]) | (refine nx _ ?_; unfold wstom; rw [if_neg (by omega), if_neg (by omega)])
  have LA : ∀ s : Int × zM, ((0 ≤ s.1 ∧ s.1 ≤ 4 * qn S 0) ∧ (∀ k i, ¬ (59 ≤ k ∧ k ≤ 63) → s.2 k i = M k i) ∧ (∀ p, 0 ≤ p → p < s.1 → s.2 59 p = M 50 p ∧ s.2 60 p = M 50 p ∧ s.2 61 p = M 50 p)) → uX8_runs R 2 [some (.inr (.inr 46)), some (.inl s.1)] [] s.2 := by
    refine zind (fun s => (4 * qn S 0 - s.1).toNat) ?_
    rintro ⟨p, N⟩ ⟨hp, hfr, hx⟩ ih
    simp only at hp hfr hx ih
    have n2 : N 46 2 = qn S 0 := (hfr _ _ (by decide)).trans c1
    refine rX8_runs_2.mpr ?_
    by_cases he : p = 4 * qn S 0
    · have fin := LB (0, N) ⟨by simp only; omega, hfr, fun k a b q q0 q1 => ?_, fun j a b => by simp only at b; omega⟩
      · simp only [↓rX8_runs_3, ↓rX8_runs_4, ↓rX8_runs_5, ↓rX8_runs_8, ↓rX8_runs_9, ↓rX8_runs_54, ↓rX8_runs_55, ↓hg_fX8_127_46, ↓reduceIte, zkeep_n, zkeep_i, zkeep_r, zkeep_l, zup_eq, zIR, zLR, List.length_cons, List.length_nil, Nat.reduceAdd, Nat.reduceLeDiff, Nat.reduceEqDiff, Nat.reduceSub, Int.reduceLE, Int.reduceLT, Int.reduceEq, Int.reduceNe, Int.reduceNeg, Int.reduceAdd, Int.reduceSub, Int.reduceMul, Int.reduceToNat, Nat.le_refl, Nat.zero_le, Nat.zero_add, Int.zero_add, Int.add_zero, and_true, true_and, and_false, false_and, not_true_eq_false, not_false_eq_true, eq_self, ne_eq, true_implies, false_implies, implies_true, or_true, true_or, or_false, false_or, reduceCtorEq, Option.some.injEq, Sum.inl.injEq, exists_eq_left', exists_eq_left, n2, zite]
        repeat' (first | with_reducible apply And.intro | with_reducible intro _)
        all_goals first | omega | (exact fin)
      · have := hx (4 * k + q) (by omega) (by omega)
        have e := ((c3 k a b).2 q q0 q1).1
        exact ⟨this.1.trans e, this.2.1.trans e, this.2.2.trans e⟩
    · have n50 : N 50 p = M 50 p := hfr _ _ (by decide)
      have nx := ih (p + 1, zup (zup (zup N 59 p (M 50 p)) 60 p (M 50 p)) 61 p (M 50 p)) ⟨by simp only; omega, fun j i hj => by simp only [zup_ne (show j ≠ 59 by omega), zup_ne (show j ≠ 60 by omega), zup_ne (show j ≠ 61 by omega)]; exact hfr j i hj, fun j a b => by
        simp only [zup_eq, Nat.reduceEqDiff, false_and, true_and, if_false] at b ⊢
        by_cases e : j = p
        · rw [if_pos e, if_pos e, if_pos e, e]
          exact ⟨rfl, rfl, rfl⟩
        · rw [if_neg e, if_neg e, if_neg e]
          exact hx j a (by omega)⟩ (by simp only; omega)
      simp only [↓rX8_runs_3, ↓rX8_runs_4, ↓rX8_runs_5, ↓rX8_runs_8, ↓rX8_runs_9, ↓rX8_runs_12, ↓rX8_runs_13, ↓rX8_runs_16, ↓rX8_runs_17, ↓rX8_runs_18, ↓rX8_runs_21, ↓rX8_runs_22, ↓rX8_runs_23, ↓rX8_runs_24, ↓rX8_runs_25, ↓rX8_runs_28, ↓rX8_runs_29, ↓rX8_runs_30, ↓rX8_runs_33, ↓rX8_runs_34, ↓rX8_runs_35, ↓rX8_runs_36, ↓rX8_runs_37, ↓rX8_runs_40, ↓rX8_runs_41, ↓rX8_runs_42, ↓rX8_runs_45, ↓rX8_runs_46, ↓rX8_runs_47, ↓rX8_runs_48, ↓rX8_runs_51, ↓hg_fX8_127_46, ↓hg_fX8_19_46, ↓hg_fX8_46_46, ↓hg_fX8_49_46, ↓hg_fX8_52_46, ↓hr_47, ↓hr_48, ↓hr_49, ↓hr_50, ↓hr_51, ↓hr_52, ↓hr_53, ↓hr_54, ↓hr_55, ↓hr_56, ↓hr_57, ↓hr_58, ↓hr_59, ↓hr_60, ↓hr_61, ↓hr_62, ↓hr_63, ↓hr_64, ↓hr_65, ↓hr_66, ↓hr_67, ↓hr_68, ↓hr_69, ↓hr_70, ↓hr_71, ↓hr_72, ↓hr_73, ↓hr_74, ↓hr_75, ↓hr_76, ↓hr_77, ↓hr_78, ↓hr_79, ↓hw_47, ↓hw_48, ↓hw_49, ↓hw_50, ↓hw_51, ↓hw_52, ↓hw_53, ↓hw_54, ↓hw_55, ↓hw_56, ↓hw_57, ↓hw_58, ↓hw_59, ↓hw_60, ↓hw_61, ↓hw_62, ↓hw_63, ↓hw_64, ↓hw_65, ↓hw_66, ↓hw_67, ↓hw_68, ↓hw_69, ↓hw_70, ↓hw_71, ↓hw_72, ↓hw_73, ↓hw_74, ↓hw_75, ↓hw_76, ↓hw_77, ↓hw_78, ↓hw_79, ↓reduceIte, zkeep_n, zkeep_i, zkeep_r, zkeep_l, zIR, zLR, List.length_cons, List.length_nil, Nat.reduceAdd, Nat.reduceLeDiff, Nat.reduceEqDiff, Nat.reduceSub, Int.reduceLE, Int.reduceLT, Int.reduceEq, Int.reduceNe, Int.reduceNeg, Int.reduceAdd, Int.reduceSub, Int.reduceMul, Int.reduceToNat, Nat.le_refl, Nat.zero_le, Nat.zero_add, Int.zero_add, Int.add_zero, and_true, true_and, and_false, false_and, not_true_eq_false, not_false_eq_true, eq_self, ne_eq, true_implies, false_implies, implies_true, or_true, true_or, or_false, false_or, reduceCtorEq, Option.some.injEq, Sum.inl.injEq, exists_eq_left', exists_eq_left, n2, n50, zup_ne, zite]
      repeat' (first | with_reducible apply And.intro | with_reducible intro _)
      all_goals first | omega | (exact nx)
  have st := LA (0, M) ⟨by simp only; omega, fun _ _ _ => rfl, fun j a b => by simp only at b; omega⟩
  simp only [↓eX8_runs, ↓rX8_runs_0, ↓rX8_runs_1, ↓reduceIte, zkeep_n, zkeep_i, zkeep_r, zkeep_l, zup_eq, zIR, zLR, List.length_cons, List.length_nil, Nat.reduceAdd, Nat.reduceLeDiff, Nat.reduceEqDiff, Nat.reduceSub, Int.reduceLE, Int.reduceLT, Int.reduceEq, Int.reduceNe, Int.reduceNeg, Int.reduceAdd, Int.reduceSub, Int.reduceMul, Int.reduceToNat, Nat.le_refl, Nat.zero_le, Nat.zero_add, Int.zero_add, Int.add_zero, and_true, true_and, and_false, false_and, not_true_eq_false, not_false_eq_true, eq_self, ne_eq, true_implies, false_implies, implies_true, or_true, true_or, or_false, false_or, reduceCtorEq, Option.some.injEq, Sum.inl.injEq, exists_eq_left', exists_eq_left, zite]
  exact st
