theorem qflaw_at {S : zM} {k : Nat} {p : Int} (h0 : 0 ≤ p) (hp : p ≤ S 0 k) (h : ∀ i, 0 ≤ i → i < p → qfits k (i % 6) (S (1 + k) i)) : (p < S 0 k → ¬ qfits k (p % 6) (S (1 + k) p) → qflaw S k = p) ∧ (p = S 0 k → qflaw S k = if S 0 k = 0 ∨ S 0 k % 6 = 5 then -1 else S 0 k) := by
  have hf := qfirst_at (p := fun i => decide (qfits k (i % 6) (S (1 + k) i))) (S 0 k).toNat p.toNat 0 (by omega) (fun j q1 q2 => decide_eq_true (h j q1 (by omega)))
  rw [Int.zero_add, Int.toNat_of_nonneg h0] at hf
  constructor
  · intro h1 h2
    have e : qend S k = p := hf (fun _ => decide_eq_false h2)
    unfold qflaw
    rw [e, if_pos h1]
  · intro h1
    have e : qend S k = p := hf (fun q => by omega)
    unfold qflaw
    rw [e, if_neg (by omega)]
set_option maxRecDepth 100000 in
set_option maxHeartbeats 8000000 in
theorem s_readsAll0 {S M : zM} {R : zP} (hl : 0 ≤ S 0 0 ∧ S 0 0 ≤ 47) (hb : ∀ i, 0 ≤ i → i < S 0 0 → 0 ≤ S 1 i ∧ S 1 i ≤ 255) (h47 : M 47 0 = S 0 0) (h48 : ∀ i, 0 ≤ i → i < S 0 0 → M 48 (0 + i) = S 1 i)
    (hR : ∀ M', (∀ k i, k ≠ 49 → k ≠ 50 → (k = 46 → i ≠ 2) → M' k i = M k i) → M' 46 2 = qn S 0 → (∀ i, 0 ≤ i → i < qn S 0 → M' 49 i = qfact S 0 i 0 ∧ ∀ q, 0 ≤ q → q < 4 → M' 50 (4 * i + q) = qfact S 0 i (1 + q)) → R (some (.inl (qflaw S 0))) M') : tX8_readsAll [.inr (.inr 46), .inl 0] M R := by
  have qf : ∀ p, 0 ≤ p → p ≤ S 0 0 → (∀ i, 0 ≤ i → i < p → qfits 0 (i % 6) (S 1 i)) → (p < S 0 0 → ¬ qfits 0 (p % 6) (S 1 p) → qflaw S 0 = p) ∧ (p = S 0 0 → qflaw S 0 = if S 0 0 = 0 ∨ S 0 0 % 6 = 5 then -1 else S 0 0) := fun p h0 hp h => qflaw_at (S := S) (k := 0) h0 hp h
  have qnn : qflaw S 0 ≠ -1 → qn S 0 = 0 := fun q => by rw [qn_0, if_neg q]
  have L : ∀ t : Nat × zM, (6 * (t.1 : Int) ≤ S 0 0 ∧ (∀ i, 0 ≤ i → i < 6 * (t.1 : Int) → qfits 0 (i % 6) (S 1 i)) ∧ (∀ k i, k ≠ 49 → k ≠ 50 → (k = 46 → i ≠ 2) → t.2 k i = M k i) ∧ t.2 46 2 = 0 ∧ (∀ i, 0 ≤ i → i < (t.1 : Int) → t.2 49 i = qfact S 0 i 0 ∧ ∀ q, 0 ≤ q → q < 4 → t.2 50 (4 * i + q) = qfact S 0 i (1 + q))) → ∀ x4, uX8_readsAll R 37 [some (.inr (.inr 46)), some (.inl 0), some (.inl (t.1 : Int)), some (.inl (6 * (t.1 : Int))), x4] [] t.2 := by
    refine zind (fun t => 8 - t.1) ?_
    rintro ⟨n, N⟩ ⟨hn, hal, hfr, hf0, hx⟩ ih x4
    simp only at hn hal hfr hf0 hx ih
    have n47 : N 47 0 = S 0 0 := (hfr _ _ (by decide) (by decide) (by decide)).trans h47
    have n48 : ∀ i, 0 ≤ i → i < S 0 0 → N 48 (0 + i) = S 1 i := fun i a b => (hfr _ _ (by decide) (by decide) (fun q => absurd q (by decide))).trans (h48 i a b)
    have out : qflaw S 0 ≠ -1 → ∀ N', (∀ k i, k ≠ 49 → k ≠ 50 → N' k i = N k i) → R (some (.inl (qflaw S 0))) N' := fun q N' g1 => by
      have e0 := qnn q
      refine hR N' (fun k i a b c => (g1 k i a b).trans (hfr k i a b c)) ?_ (fun i a b => by omega)
      rw [g1 _ _ (by decide) (by decide), hf0, e0]
    refine rX8_readsAll_37.mpr ?_
    by_cases h00 : S 0 0 = 0
    · have hn0 : n = 0 := by omega
      subst hn0
      have e := (qf 0 (by decide) (by omega) (fun i a b => by omega)).2 (by omega)
      rw [if_pos (Or.inl h00)] at e
      have e2 : qn S 0 = 0 := by rw [qn_0, if_pos e, h00]; decide
      have fin := hR N hfr (by rw [hf0, e2]) (fun i a b => by omega)
      rw [e] at fin
      simp only [↓rX8_readsAll_38, ↓rX8_readsAll_39, ↓rX8_readsAll_42, ↓rX8_readsAll_43, ↓rX8_readsAll_44, ↓rX8_readsAll_47, ↓rX8_readsAll_48, ↓rX8_readsAll_141, ↓rX8_readsAll_142, ↓hg_fX8_7_46, ↓hr_47, ↓hr_48, ↓hr_49, ↓hr_50, ↓hr_51, ↓hr_52, ↓hr_53, ↓hr_54, ↓hr_55, ↓hr_56, ↓hr_57, ↓hr_58, ↓hr_59, ↓hr_60, ↓hr_61, ↓hr_62, ↓hr_63, ↓hr_64, ↓hr_65, ↓hr_66, ↓hr_67, ↓hr_68, ↓hr_69, ↓hr_70, ↓hr_71, ↓hr_72, ↓hr_73, ↓hr_74, ↓hr_75, ↓hr_76, ↓hr_77, ↓hr_78, ↓hr_79, ↓hw_47, ↓hw_48, ↓hw_49, ↓hw_50, ↓hw_51, ↓hw_52, ↓hw_53, ↓hw_54, ↓hw_55, ↓hw_56, ↓hw_57, ↓hw_58, ↓hw_59, ↓hw_60, ↓hw_61, ↓hw_62, ↓hw_63, ↓hw_64, ↓hw_65, ↓hw_66, ↓hw_67, ↓hw_68, ↓hw_69, ↓hw_70, ↓hw_71, ↓hw_72, ↓hw_73, ↓hw_74, ↓hw_75, ↓hw_76, ↓hw_77, ↓hw_78, ↓hw_79, ↓reduceIte, zkeep_n, zkeep_i, zkeep_r, zkeep_l, zup_eq, zIR, zLR, List.length_cons, List.length_nil, Nat.reduceAdd, Nat.reduceLeDiff, Nat.reduceEqDiff, Nat.reduceSub, Int.reduceLE, Int.reduceLT, Int.reduceEq, Int.reduceNe, Int.reduceNeg, Int.reduceAdd, Int.reduceSub, Int.reduceMul, Int.reduceToNat, Nat.le_refl, Nat.zero_le, Nat.zero_add, Int.zero_add, Int.add_zero, and_true, true_and, and_false, false_and, not_true_eq_false, not_false_eq_true, eq_self, ne_eq, true_implies, false_implies, implies_true, or_true, true_or, or_false, false_or, reduceCtorEq, Option.some.injEq, Sum.inl.injEq, exists_eq_left', exists_eq_left, n47, zite]
      repeat' (first | with_reducible apply And.intro | with_reducible intro _)
      all_goals first | omega | (exact fin)
    · have call : zcv (zv 8 tX8_readsOne) [.inr (.inr 46), .inl 0, .inl (n : Int), .inl (6 * (n : Int))] N (fun v N' => uX8_readsAll R 58 [some (.inr (.inr 46)), some (.inl 0), some (.inl (n : Int)), some (.inl (6 * (n : Int))), x4] [v] N') := by
        refine zcvv rfl (s_readsOne0 (S := S) hl hb n47 n48 (by omega) hn (fun g N' g0 g1 g2 g3 g4 g5 g6 g7 => ⟨_, rfl, ?_⟩))
        have m47 : N' 47 0 = S 0 0 := (g4 _ _ (by decide) (by decide)).trans n47
        have m48 : ∀ i, 0 ≤ i → i < S 0 0 → N' 48 (0 + i) = S 1 i := fun i a b => (g4 _ _ (by decide) (by decide)).trans (n48 i a b)
        have alg : ∀ i, 0 ≤ i → i < 6 * (n : Int) + g → qfits 0 (i % 6) (S 1 i) := fun i i0 i1 => by
          by_cases c : i < 6 * (n : Int)
          · exact hal i i0 c
          · have := (g2 (i - 6 * n) (by omega) (by omega)).2
            rw [show 6 * (n : Int) + (i - 6 * n) = i by omega] at this
            rw [show i % 6 = i - 6 * n by omega]
            exact this
        have gle : 6 * (n : Int) + g ≤ S 0 0 := by
          by_cases c : g = 0
          · omega
          · have := (g2 (g - 1) (by omega) (by omega)).1
            omega
        have q := qf (6 * n + g) (by omega) gle alg
        have less : g < 5 → R (some (.inl (6 * (n : Int) + g))) N' := fun c => by
          have e : qflaw S 0 = 6 * n + g := by
            by_cases c2 : 6 * (n : Int) + g < S 0 0
            · refine q.1 c2 (fun z => g3 c ⟨c2, ?_⟩)
              rw [show (6 * (n : Int) + g) % 6 = g by omega] at z
              exact z
            · rw [q.2 (by omega), if_neg (by omega)]
              omega
          rw [← e]
          exact out (by omega) N' g4
        have hfg : g = 5 → ∀ i, 0 ≤ i → i < (n : Int) + 1 → N' 49 i = qfact S 0 i 0 ∧ ∀ q, 0 ≤ q → q < 4 → N' 50 (4 * i + q) = qfact S 0 i (1 + q) := fun c i i0 i1 => by
          by_cases ei : i = n
          · obtain ⟨k1, k2⟩ := g7 c
            rw [ei]
            refine ⟨?_, fun q q0 q1 => ?_⟩
            · rw [k1]
              unfold qfact
              rw [if_pos rfl]
            · rw [k2 q q0 q1]
              unfold qfact
              rw [if_neg (by omega), show 6 * (n : Int) + (1 + q) = 6 * n + 1 + q by omega]
          · have := hx i i0 (by omega)
            refine ⟨(g5 i ei).trans this.1, fun q q0 q1 => (g6 _ (by omega)).trans (this.2 q q0 q1)⟩
        have done : g = 5 → 6 * (n : Int) + 5 = S 0 0 → ∀ N'', (∀ k i, (k = 46 → i ≠ 2) → N'' k i = N' k i) → N'' 46 2 = (n : Int) + 1 → R (some (.inl (-1))) N'' := fun c c2 N'' k1 k2 => by
          have e : qflaw S 0 = -1 := by
            rw [q.2 (by omega), if_pos (by omega)]
          have e2 : qn S 0 = (n : Int) + 1 := by
            rw [qn_0, if_pos e]
            omega
          have := hR N'' (fun k i a b d => (k1 k i d).trans ((g4 k i a b).trans (hfr k i a b d))) (by rw [k2, e2]) (fun i i0 i1 => by
            rw [k1 _ _ (fun q => absurd q (by decide))]
            refine ⟨(hfg c i i0 (by omega)).1, fun q q0 q1 => ?_⟩
            rw [k1 _ _ (fun q => absurd q (by decide))]
            exact (hfg c i i0 (by omega)).2 q q0 q1)
          rw [e] at this
          exact this
        have bb : g = 5 → 6 * (n : Int) + 5 ≠ S 0 0 → (6 * (n : Int) + 5 < S 0 0) ∧ (N' 48 (0 + (6 * (n : Int) + 5)) = S 1 (6 * n + 5)) ∧ (0 ≤ S 1 (6 * n + 5) ∧ S 1 (6 * n + 5) ≤ 255) := fun c c2 => by
          have : 6 * (n : Int) + 5 < S 0 0 := by omega
          exact ⟨this, m48 _ (by omega) this, hb _ (by omega) this⟩
        by_cases c5 : g = 5
        · subst c5
          have hs2 : ∀ b, qfits 0 5 b ↔ b = 59 := fun b => by unfold qfits; rw [if_neg (by decide), if_neg (by decide)]
          by_cases c2 : 6 * (n : Int) + 5 = S 0 0
          · have done := done rfl c2
            simp only [↓rX8_readsAll_58, ↓rX8_readsAll_60, ↓rX8_readsAll_62, ↓rX8_readsAll_63, ↓rX8_readsAll_66, ↓rX8_readsAll_67, ↓rX8_readsAll_69, ↓rX8_readsAll_70, ↓rX8_readsAll_71, ↓rX8_readsAll_74, ↓rX8_readsAll_77, ↓rX8_readsAll_78, ↓rX8_readsAll_79, ↓rX8_readsAll_82, ↓rX8_readsAll_83, ↓rX8_readsAll_84, ↓rX8_readsAll_87, ↓rX8_readsAll_88, ↓rX8_readsAll_89, ↓rX8_readsAll_92, ↓rX8_readsAll_93, ↓rX8_readsAll_100, ↓rX8_readsAll_103, ↓rX8_readsAll_104, ↓rX8_readsAll_105, ↓rX8_readsAll_106, ↓rX8_readsAll_109, ↓rX8_readsAll_110, ↓rX8_readsAll_117, ↓rX8_readsAll_120, ↓rX8_readsAll_121, ↓rX8_readsAll_113, ↓rX8_readsAll_114, ↓rX8_readsAll_96, ↓rX8_readsAll_97, ↓hg_fX8_127_46, ↓hg_fX8_131_46, ↓hg_fX8_7_46, ↓hp_fX8_127_46, ↓hp_fX8_131_46, ↓hr_47, ↓hr_48, ↓hr_49, ↓hr_50, ↓hr_51, ↓hr_52, ↓hr_53, ↓hr_54, ↓hr_55, ↓hr_56, ↓hr_57, ↓hr_58, ↓hr_59, ↓hr_60, ↓hr_61, ↓hr_62, ↓hr_63, ↓hr_64, ↓hr_65, ↓hr_66, ↓hr_67, ↓hr_68, ↓hr_69, ↓hr_70, ↓hr_71, ↓hr_72, ↓hr_73, ↓hr_74, ↓hr_75, ↓hr_76, ↓hr_77, ↓hr_78, ↓hr_79, ↓hw_47, ↓hw_48, ↓hw_49, ↓hw_50, ↓hw_51, ↓hw_52, ↓hw_53, ↓hw_54, ↓hw_55, ↓hw_56, ↓hw_57, ↓hw_58, ↓hw_59, ↓hw_60, ↓hw_61, ↓hw_62, ↓hw_63, ↓hw_64, ↓hw_65, ↓hw_66, ↓hw_67, ↓hw_68, ↓hw_69, ↓hw_70, ↓hw_71, ↓hw_72, ↓hw_73, ↓hw_74, ↓hw_75, ↓hw_76, ↓hw_77, ↓hw_78, ↓hw_79, ↓reduceIte, zkeep_n, zkeep_i, zkeep_r, zkeep_l, zIR, zLR, List.length_cons, List.length_nil, Nat.reduceAdd, Nat.reduceLeDiff, Nat.reduceEqDiff, Nat.reduceSub, Int.reduceLE, Int.reduceLT, Int.reduceEq, Int.reduceNe, Int.reduceNeg, Int.reduceAdd, Int.reduceSub, Int.reduceMul, Int.reduceToNat, Nat.le_refl, Nat.zero_le, Nat.zero_add, Int.zero_add, Int.add_zero, and_true, true_and, and_false, false_and, not_true_eq_false, not_false_eq_true, eq_self, ne_eq, true_implies, false_implies, implies_true, or_true, true_or, or_false, false_or, reduceCtorEq, Option.some.injEq, Sum.inl.injEq, exists_eq_left', exists_eq_left, m47, zite]
            repeat' (first | with_reducible apply And.intro | with_reducible intro _)
            all_goals first | omega | (exact done _ (fun k i hki => by (repeat rw [zup_eq]); (repeat' split) <;> first | rfl | (exfalso; omega) | simp_all) (by simp [zup_eq]))
          · obtain ⟨d1, d2, d3⟩ := bb rfl c2
            have c' : ¬ S 0 0 ≤ 6 * (n : Int) + 5 := by omega
            try simp only [Int.zero_add] at d2
            have semi : S 1 (6 * n + 5) = 59 → ∀ x4, uX8_readsAll R 37 [some (.inr (.inr 46)), some (.inl 0), some (.inl ((n : Int) + 1)), some (.inl (6 * (n : Int) + 5 + 1)), x4] [] N' := fun e x4 => by
              have := ih (n + 1, N') ⟨by simp only; omega, fun i i0 i1 => ?_, fun k i a b d => (g4 k i a b).trans (hfr k i a b d), (g4 _ _ (by decide) (by decide)).trans hf0, fun i i0 i1 => hfg rfl i i0 (by simp only at i1; omega)⟩ (by simp only; omega) x4
              · rw [show 6 * (n : Int) + 5 + 1 = 6 * ((n + 1 : Nat) : Int) by omega]
                exact this
              · simp only at i1
                by_cases ei : i = 6 * n + 5
                · rw [ei, show (6 * (n : Int) + 5) % 6 = 5 by omega]
                  exact (hs2 _).mpr e
                · exact alg i i0 (by omega)
            have no : ¬ S 1 (6 * n + 5) = 59 → R (some (.inl (6 * (n : Int) + 5))) N' := fun e => by
              have e3 : qflaw S 0 = 6 * n + 5 := q.1 d1 (fun z => by
                rw [show (6 * (n : Int) + 5) % 6 = 5 by omega] at z
                exact e ((hs2 _).mp z))
              have := out (by omega) N' g4
              rw [e3] at this
              exact this
            simp only [↓rX8_readsAll_58, ↓rX8_readsAll_60, ↓rX8_readsAll_62, ↓rX8_readsAll_63, ↓rX8_readsAll_66, ↓rX8_readsAll_67, ↓rX8_readsAll_69, ↓rX8_readsAll_70, ↓rX8_readsAll_71, ↓rX8_readsAll_74, ↓rX8_readsAll_77, ↓rX8_readsAll_78, ↓rX8_readsAll_79, ↓rX8_readsAll_82, ↓rX8_readsAll_83, ↓rX8_readsAll_84, ↓rX8_readsAll_122, ↓rX8_readsAll_123, ↓rX8_readsAll_124, ↓rX8_readsAll_125, ↓rX8_readsAll_128, ↓rX8_readsAll_130, ↓rX8_readsAll_133, ↓rX8_readsAll_134, ↓rX8_readsAll_135, ↓rX8_readsAll_138, ↓hg_fX8_7_46, ↓hr_47, ↓hr_48, ↓hr_49, ↓hr_50, ↓hr_51, ↓hr_52, ↓hr_53, ↓hr_54, ↓hr_55, ↓hr_56, ↓hr_57, ↓hr_58, ↓hr_59, ↓hr_60, ↓hr_61, ↓hr_62, ↓hr_63, ↓hr_64, ↓hr_65, ↓hr_66, ↓hr_67, ↓hr_68, ↓hr_69, ↓hr_70, ↓hr_71, ↓hr_72, ↓hr_73, ↓hr_74, ↓hr_75, ↓hr_76, ↓hr_77, ↓hr_78, ↓hr_79, ↓hw_47, ↓hw_48, ↓hw_49, ↓hw_50, ↓hw_51, ↓hw_52, ↓hw_53, ↓hw_54, ↓hw_55, ↓hw_56, ↓hw_57, ↓hw_58, ↓hw_59, ↓hw_60, ↓hw_61, ↓hw_62, ↓hw_63, ↓hw_64, ↓hw_65, ↓hw_66, ↓hw_67, ↓hw_68, ↓hw_69, ↓hw_70, ↓hw_71, ↓hw_72, ↓hw_73, ↓hw_74, ↓hw_75, ↓hw_76, ↓hw_77, ↓hw_78, ↓hw_79, ↓reduceIte, ↓i_byteAt0, zkeep_n, zkeep_i, zkeep_r, zkeep_l, zIR, zLR, List.length_cons, List.length_nil, Nat.reduceAdd, Nat.reduceLeDiff, Nat.reduceEqDiff, Nat.reduceSub, Int.reduceLE, Int.reduceLT, Int.reduceEq, Int.reduceNe, Int.reduceNeg, Int.reduceAdd, Int.reduceSub, Int.reduceMul, Int.reduceToNat, Nat.le_refl, Nat.zero_le, Nat.zero_add, Int.zero_add, Int.add_zero, and_true, true_and, and_false, false_and, not_true_eq_false, not_false_eq_true, eq_self, ne_eq, true_implies, false_implies, implies_true, or_true, true_or, or_false, false_or, reduceCtorEq, Option.some.injEq, Sum.inl.injEq, exists_eq_left', exists_eq_left, m47, c', d2, zite]
            repeat' (first | with_reducible apply And.intro | with_reducible intro _)
            all_goals first | omega | (exact no (by omega)) | (exact semi (by omega) _)
        · have less := less (by omega)
          simp only [↓rX8_readsAll_58, ↓rX8_readsAll_60, ↓rX8_readsAll_62, ↓rX8_readsAll_63, ↓rX8_readsAll_66, ↓rX8_readsAll_67, ↓rX8_readsAll_69, ↓rX8_readsAll_70, ↓reduceIte, zkeep_n, zkeep_i, zkeep_r, zkeep_l, zup_eq, zIR, zLR, List.length_cons, List.length_nil, Nat.reduceAdd, Nat.reduceLeDiff, Nat.reduceEqDiff, Nat.reduceSub, Int.reduceLE, Int.reduceLT, Int.reduceEq, Int.reduceNe, Int.reduceNeg, Int.reduceAdd, Int.reduceSub, Int.reduceMul, Int.reduceToNat, Nat.le_refl, Nat.zero_le, Nat.zero_add, Int.zero_add, Int.add_zero, and_true, true_and, and_false, false_and, not_true_eq_false, not_false_eq_true, eq_self, ne_eq, true_implies, false_implies, implies_true, or_true, true_or, or_false, false_or, reduceCtorEq, Option.some.injEq, Sum.inl.injEq, exists_eq_left', exists_eq_left, zite]
          repeat' (first | with_reducible apply And.intro | with_reducible intro _)
          all_goals first | omega | (exact less)
      simp only [↓rX8_readsAll_38, ↓rX8_readsAll_39, ↓rX8_readsAll_42, ↓rX8_readsAll_43, ↓rX8_readsAll_44, ↓rX8_readsAll_47, ↓rX8_readsAll_48, ↓rX8_readsAll_51, ↓rX8_readsAll_52, ↓rX8_readsAll_53, ↓rX8_readsAll_54, ↓rX8_readsAll_55, ↓hg_fX8_7_46, ↓hr_47, ↓hr_48, ↓hr_49, ↓hr_50, ↓hr_51, ↓hr_52, ↓hr_53, ↓hr_54, ↓hr_55, ↓hr_56, ↓hr_57, ↓hr_58, ↓hr_59, ↓hr_60, ↓hr_61, ↓hr_62, ↓hr_63, ↓hr_64, ↓hr_65, ↓hr_66, ↓hr_67, ↓hr_68, ↓hr_69, ↓hr_70, ↓hr_71, ↓hr_72, ↓hr_73, ↓hr_74, ↓hr_75, ↓hr_76, ↓hr_77, ↓hr_78, ↓hr_79, ↓hw_47, ↓hw_48, ↓hw_49, ↓hw_50, ↓hw_51, ↓hw_52, ↓hw_53, ↓hw_54, ↓hw_55, ↓hw_56, ↓hw_57, ↓hw_58, ↓hw_59, ↓hw_60, ↓hw_61, ↓hw_62, ↓hw_63, ↓hw_64, ↓hw_65, ↓hw_66, ↓hw_67, ↓hw_68, ↓hw_69, ↓hw_70, ↓hw_71, ↓hw_72, ↓hw_73, ↓hw_74, ↓hw_75, ↓hw_76, ↓hw_77, ↓hw_78, ↓hw_79, ↓reduceIte, zkeep_n, zkeep_i, zkeep_r, zkeep_l, zup_eq, zIR, zLR, List.length_cons, List.length_nil, Nat.reduceAdd, Nat.reduceLeDiff, Nat.reduceEqDiff, Nat.reduceSub, Int.reduceLE, Int.reduceLT, Int.reduceEq, Int.reduceNe, Int.reduceNeg, Int.reduceAdd, Int.reduceSub, Int.reduceMul, Int.reduceToNat, Nat.le_refl, Nat.zero_le, Nat.zero_add, Int.zero_add, Int.add_zero, and_true, true_and, and_false, false_and, not_true_eq_false, not_false_eq_true, eq_self, ne_eq, true_implies, false_implies, implies_true, or_true, true_or, or_false, false_or, reduceCtorEq, Option.some.injEq, Sum.inl.injEq, exists_eq_left', exists_eq_left, n47, zite]
      repeat' (first | with_reducible apply And.intro | with_reducible intro _)
      all_goals first | omega | (exact call)
  have st : ∀ N x4, (∀ k i, (k = 46 → i ≠ 2) → N k i = M k i) → N 46 2 = 0 → uX8_readsAll R 37 [some (.inr (.inr 46)), some (.inl 0), some (.inl 0), some (.inl 0), x4] [] N := fun N x4 k1 k2 => by
    have := L (0, N) ⟨by simp only; omega, fun i a b => by simp only at b; omega, fun k i _ _ d => k1 k i d, k2, fun i a b => by simp only at b; omega⟩ x4
    exact this
  simp only [↓eX8_readsAll, ↓rX8_readsAll_0, ↓rX8_readsAll_1, ↓rX8_readsAll_2, ↓rX8_readsAll_3, ↓rX8_readsAll_4, ↓rX8_readsAll_5, ↓rX8_readsAll_6, ↓rX8_readsAll_9, ↓rX8_readsAll_10, ↓rX8_readsAll_17, ↓rX8_readsAll_20, ↓rX8_readsAll_21, ↓rX8_readsAll_22, ↓rX8_readsAll_23, ↓rX8_readsAll_26, ↓rX8_readsAll_27, ↓rX8_readsAll_34, ↓rX8_readsAll_30, ↓rX8_readsAll_31, ↓rX8_readsAll_13, ↓rX8_readsAll_14, ↓hg_fX8_127_46, ↓hg_fX8_131_46, ↓hp_fX8_127_46, ↓hp_fX8_131_46, ↓reduceIte, zkeep_n, zkeep_i, zkeep_r, zkeep_l, zIR, zLR, List.length_cons, List.length_nil, Nat.reduceAdd, Nat.reduceLeDiff, Nat.reduceEqDiff, Nat.reduceSub, Int.reduceLE, Int.reduceLT, Int.reduceEq, Int.reduceNe, Int.reduceNeg, Int.reduceAdd, Int.reduceSub, Int.reduceMul, Int.reduceToNat, Nat.le_refl, Nat.zero_le, Nat.zero_add, Int.zero_add, Int.add_zero, and_true, true_and, and_false, false_and, not_true_eq_false, not_false_eq_true, eq_self, ne_eq, true_implies, false_implies, implies_true, or_true, true_or, or_false, false_or, reduceCtorEq, Option.some.injEq, Sum.inl.injEq, exists_eq_left', exists_eq_left, zite]
  repeat' (first | with_reducible apply And.intro | with_reducible intro _)
  all_goals first | omega | (exact st _ _ (fun k i hki => by (repeat rw [zup_eq]); (repeat' split) <;> first | rfl | (exfalso; omega) | simp_all) (by simp [zup_eq]))
set_option maxRecDepth 100000 in
set_option maxHeartbeats 8000000 in
theorem s_readsAll1 {S M : zM} {R : zP} (hl : 0 ≤ S 0 1 ∧ S 0 1 ≤ 47) (hb : ∀ i, 0 ≤ i → i < S 0 1 → 0 ≤ S 2 i ∧ S 2 i ≤ 255) (h47 : M 47 1 = S 0 1) (h48 : ∀ i, 0 ≤ i → i < S 0 1 → M 48 (47 + i) = S 2 i)
    (hR : ∀ M', (∀ k i, k ≠ 51 → k ≠ 52 → (k = 46 → i ≠ 5) → M' k i = M k i) → M' 46 5 = qn S 1 → (∀ i, 0 ≤ i → i < qn S 1 → M' 51 i = qfact S 1 i 0 ∧ ∀ q, 0 ≤ q → q < 4 → M' 52 (4 * i + q) = qfact S 1 i (1 + q)) → R (some (.inl (qflaw S 1))) M') : tX8_readsAll [.inr (.inr 46), .inl 1] M R := by
  have qf : ∀ p, 0 ≤ p → p ≤ S 0 1 → (∀ i, 0 ≤ i → i < p → qfits 1 (i % 6) (S 2 i)) → (p < S 0 1 → ¬ qfits 1 (p % 6) (S 2 p) → qflaw S 1 = p) ∧ (p = S 0 1 → qflaw S 1 = if S 0 1 = 0 ∨ S 0 1 % 6 = 5 then -1 else S 0 1) := fun p h0 hp h => qflaw_at (S := S) (k := 1) h0 hp h
  have qnn : qflaw S 1 ≠ -1 → qn S 1 = 0 := fun q => by rw [qn_1, if_neg q]
  have L : ∀ t : Nat × zM, (6 * (t.1 : Int) ≤ S 0 1 ∧ (∀ i, 0 ≤ i → i < 6 * (t.1 : Int) → qfits 1 (i % 6) (S 2 i)) ∧ (∀ k i, k ≠ 51 → k ≠ 52 → (k = 46 → i ≠ 5) → t.2 k i = M k i) ∧ t.2 46 5 = 0 ∧ (∀ i, 0 ≤ i → i < (t.1 : Int) → t.2 51 i = qfact S 1 i 0 ∧ ∀ q, 0 ≤ q → q < 4 → t.2 52 (4 * i + q) = qfact S 1 i (1 + q))) → ∀ x4, uX8_readsAll R 37 [some (.inr (.inr 46)), some (.inl 1), some (.inl (t.1 : Int)), some (.inl (6 * (t.1 : Int))), x4] [] t.2 := by
    refine zind (fun t => 8 - t.1) ?_
    rintro ⟨n, N⟩ ⟨hn, hal, hfr, hf0, hx⟩ ih x4
    simp only at hn hal hfr hf0 hx ih
    have n47 : N 47 1 = S 0 1 := (hfr _ _ (by decide) (by decide) (by decide)).trans h47
    have n48 : ∀ i, 0 ≤ i → i < S 0 1 → N 48 (47 + i) = S 2 i := fun i a b => (hfr _ _ (by decide) (by decide) (fun q => absurd q (by decide))).trans (h48 i a b)
    have out : qflaw S 1 ≠ -1 → ∀ N', (∀ k i, k ≠ 51 → k ≠ 52 → N' k i = N k i) → R (some (.inl (qflaw S 1))) N' := fun q N' g1 => by
      have e0 := qnn q
      refine hR N' (fun k i a b c => (g1 k i a b).trans (hfr k i a b c)) ?_ (fun i a b => by omega)
      rw [g1 _ _ (by decide) (by decide), hf0, e0]
    refine rX8_readsAll_37.mpr ?_
    by_cases h00 : S 0 1 = 0
    · have hn0 : n = 0 := by omega
      subst hn0
      have e := (qf 0 (by decide) (by omega) (fun i a b => by omega)).2 (by omega)
      rw [if_pos (Or.inl h00)] at e
      have e2 : qn S 1 = 0 := by rw [qn_1, if_pos e, h00]; decide
      have fin := hR N hfr (by rw [hf0, e2]) (fun i a b => by omega)
      rw [e] at fin
      simp only [↓rX8_readsAll_38, ↓rX8_readsAll_39, ↓rX8_readsAll_42, ↓rX8_readsAll_43, ↓rX8_readsAll_44, ↓rX8_readsAll_47, ↓rX8_readsAll_48, ↓rX8_readsAll_141, ↓rX8_readsAll_142, ↓hg_fX8_7_46, ↓hr_47, ↓hr_48, ↓hr_49, ↓hr_50, ↓hr_51, ↓hr_52, ↓hr_53, ↓hr_54, ↓hr_55, ↓hr_56, ↓hr_57, ↓hr_58, ↓hr_59, ↓hr_60, ↓hr_61, ↓hr_62, ↓hr_63, ↓hr_64, ↓hr_65, ↓hr_66, ↓hr_67, ↓hr_68, ↓hr_69, ↓hr_70, ↓hr_71, ↓hr_72, ↓hr_73, ↓hr_74, ↓hr_75, ↓hr_76, ↓hr_77, ↓hr_78, ↓hr_79, ↓hw_47, ↓hw_48, ↓hw_49, ↓hw_50, ↓hw_51, ↓hw_52, ↓hw_53, ↓hw_54, ↓hw_55, ↓hw_56, ↓hw_57, ↓hw_58, ↓hw_59, ↓hw_60, ↓hw_61, ↓hw_62, ↓hw_63, ↓hw_64, ↓hw_65, ↓hw_66, ↓hw_67, ↓hw_68, ↓hw_69, ↓hw_70, ↓hw_71, ↓hw_72, ↓hw_73, ↓hw_74, ↓hw_75, ↓hw_76, ↓hw_77, ↓hw_78, ↓hw_79, ↓reduceIte, zkeep_n, zkeep_i, zkeep_r, zkeep_l, zup_eq, zIR, zLR, List.length_cons, List.length_nil, Nat.reduceAdd, Nat.reduceLeDiff, Nat.reduceEqDiff, Nat.reduceSub, Int.reduceLE, Int.reduceLT, Int.reduceEq, Int.reduceNe, Int.reduceNeg, Int.reduceAdd, Int.reduceSub, Int.reduceMul, Int.reduceToNat, Nat.le_refl, Nat.zero_le, Nat.zero_add, Int.zero_add, Int.add_zero, and_true, true_and, and_false, false_and, not_true_eq_false, not_false_eq_true, eq_self, ne_eq, true_implies, false_implies, implies_true, or_true, true_or, or_false, false_or, reduceCtorEq, Option.some.injEq, Sum.inl.injEq, exists_eq_left', exists_eq_left, n47, zite]
      repeat' (first | with_reducible apply And.intro | with_reducible intro _)
      all_goals first | omega | (exact fin)
    · have call : zcv (zv 8 tX8_readsOne) [.inr (.inr 46), .inl 1, .inl (n : Int), .inl (6 * (n : Int))] N (fun v N' => uX8_readsAll R 58 [some (.inr (.inr 46)), some (.inl 1), some (.inl (n : Int)), some (.inl (6 * (n : Int))), x4] [v] N') := by
        refine zcvv rfl (s_readsOne1 (S := S) hl hb n47 n48 (by omega) hn (fun g N' g0 g1 g2 g3 g4 g5 g6 g7 => ⟨_, rfl, ?_⟩))
        have m47 : N' 47 1 = S 0 1 := (g4 _ _ (by decide) (by decide)).trans n47
        have m48 : ∀ i, 0 ≤ i → i < S 0 1 → N' 48 (47 + i) = S 2 i := fun i a b => (g4 _ _ (by decide) (by decide)).trans (n48 i a b)
        have alg : ∀ i, 0 ≤ i → i < 6 * (n : Int) + g → qfits 1 (i % 6) (S 2 i) := fun i i0 i1 => by
          by_cases c : i < 6 * (n : Int)
          · exact hal i i0 c
          · have := (g2 (i - 6 * n) (by omega) (by omega)).2
            rw [show 6 * (n : Int) + (i - 6 * n) = i by omega] at this
            rw [show i % 6 = i - 6 * n by omega]
            exact this
        have gle : 6 * (n : Int) + g ≤ S 0 1 := by
          by_cases c : g = 0
          · omega
          · have := (g2 (g - 1) (by omega) (by omega)).1
            omega
        have q := qf (6 * n + g) (by omega) gle alg
        have less : g < 5 → R (some (.inl (6 * (n : Int) + g))) N' := fun c => by
          have e : qflaw S 1 = 6 * n + g := by
            by_cases c2 : 6 * (n : Int) + g < S 0 1
            · refine q.1 c2 (fun z => g3 c ⟨c2, ?_⟩)
              rw [show (6 * (n : Int) + g) % 6 = g by omega] at z
              exact z
            · rw [q.2 (by omega), if_neg (by omega)]
              omega
          rw [← e]
          exact out (by omega) N' g4
        have hfg : g = 5 → ∀ i, 0 ≤ i → i < (n : Int) + 1 → N' 51 i = qfact S 1 i 0 ∧ ∀ q, 0 ≤ q → q < 4 → N' 52 (4 * i + q) = qfact S 1 i (1 + q) := fun c i i0 i1 => by
          by_cases ei : i = n
          · obtain ⟨k1, k2⟩ := g7 c
            rw [ei]
            refine ⟨?_, fun q q0 q1 => ?_⟩
            · rw [k1]
              unfold qfact
              rw [if_pos rfl]
            · rw [k2 q q0 q1]
              unfold qfact
              rw [if_neg (by omega), show 6 * (n : Int) + (1 + q) = 6 * n + 1 + q by omega]
          · have := hx i i0 (by omega)
            refine ⟨(g5 i ei).trans this.1, fun q q0 q1 => (g6 _ (by omega)).trans (this.2 q q0 q1)⟩
        have done : g = 5 → 6 * (n : Int) + 5 = S 0 1 → ∀ N'', (∀ k i, (k = 46 → i ≠ 5) → N'' k i = N' k i) → N'' 46 5 = (n : Int) + 1 → R (some (.inl (-1))) N'' := fun c c2 N'' k1 k2 => by
          have e : qflaw S 1 = -1 := by
            rw [q.2 (by omega), if_pos (by omega)]
          have e2 : qn S 1 = (n : Int) + 1 := by
            rw [qn_1, if_pos e]
            omega
          have := hR N'' (fun k i a b d => (k1 k i d).trans ((g4 k i a b).trans (hfr k i a b d))) (by rw [k2, e2]) (fun i i0 i1 => by
            rw [k1 _ _ (fun q => absurd q (by decide))]
            refine ⟨(hfg c i i0 (by omega)).1, fun q q0 q1 => ?_⟩
            rw [k1 _ _ (fun q => absurd q (by decide))]
            exact (hfg c i i0 (by omega)).2 q q0 q1)
          rw [e] at this
          exact this
        have bb : g = 5 → 6 * (n : Int) + 5 ≠ S 0 1 → (6 * (n : Int) + 5 < S 0 1) ∧ (N' 48 (47 + (6 * (n : Int) + 5)) = S 2 (6 * n + 5)) ∧ (0 ≤ S 2 (6 * n + 5) ∧ S 2 (6 * n + 5) ≤ 255) := fun c c2 => by
          have : 6 * (n : Int) + 5 < S 0 1 := by omega
          exact ⟨this, m48 _ (by omega) this, hb _ (by omega) this⟩
        by_cases c5 : g = 5
        · subst c5
          have hs2 : ∀ b, qfits 1 5 b ↔ b = 59 := fun b => by unfold qfits; rw [if_neg (by decide), if_neg (by decide)]
          by_cases c2 : 6 * (n : Int) + 5 = S 0 1
          · have done := done rfl c2
            simp only [↓rX8_readsAll_58, ↓rX8_readsAll_60, ↓rX8_readsAll_62, ↓rX8_readsAll_63, ↓rX8_readsAll_66, ↓rX8_readsAll_67, ↓rX8_readsAll_69, ↓rX8_readsAll_70, ↓rX8_readsAll_71, ↓rX8_readsAll_74, ↓rX8_readsAll_77, ↓rX8_readsAll_78, ↓rX8_readsAll_79, ↓rX8_readsAll_82, ↓rX8_readsAll_83, ↓rX8_readsAll_84, ↓rX8_readsAll_87, ↓rX8_readsAll_88, ↓rX8_readsAll_89, ↓rX8_readsAll_92, ↓rX8_readsAll_93, ↓rX8_readsAll_100, ↓rX8_readsAll_103, ↓rX8_readsAll_104, ↓rX8_readsAll_105, ↓rX8_readsAll_106, ↓rX8_readsAll_109, ↓rX8_readsAll_110, ↓rX8_readsAll_117, ↓rX8_readsAll_120, ↓rX8_readsAll_121, ↓rX8_readsAll_113, ↓rX8_readsAll_114, ↓rX8_readsAll_96, ↓rX8_readsAll_97, ↓hg_fX8_127_46, ↓hg_fX8_131_46, ↓hg_fX8_7_46, ↓hp_fX8_127_46, ↓hp_fX8_131_46, ↓hr_47, ↓hr_48, ↓hr_49, ↓hr_50, ↓hr_51, ↓hr_52, ↓hr_53, ↓hr_54, ↓hr_55, ↓hr_56, ↓hr_57, ↓hr_58, ↓hr_59, ↓hr_60, ↓hr_61, ↓hr_62, ↓hr_63, ↓hr_64, ↓hr_65, ↓hr_66, ↓hr_67, ↓hr_68, ↓hr_69, ↓hr_70, ↓hr_71, ↓hr_72, ↓hr_73, ↓hr_74, ↓hr_75, ↓hr_76, ↓hr_77, ↓hr_78, ↓hr_79, ↓hw_47, ↓hw_48, ↓hw_49, ↓hw_50, ↓hw_51, ↓hw_52, ↓hw_53, ↓hw_54, ↓hw_55, ↓hw_56, ↓hw_57, ↓hw_58, ↓hw_59, ↓hw_60, ↓hw_61, ↓hw_62, ↓hw_63, ↓hw_64, ↓hw_65, ↓hw_66, ↓hw_67, ↓hw_68, ↓hw_69, ↓hw_70, ↓hw_71, ↓hw_72, ↓hw_73, ↓hw_74, ↓hw_75, ↓hw_76, ↓hw_77, ↓hw_78, ↓hw_79, ↓reduceIte, zkeep_n, zkeep_i, zkeep_r, zkeep_l, zIR, zLR, List.length_cons, List.length_nil, Nat.reduceAdd, Nat.reduceLeDiff, Nat.reduceEqDiff, Nat.reduceSub, Int.reduceLE, Int.reduceLT, Int.reduceEq, Int.reduceNe, Int.reduceNeg, Int.reduceAdd, Int.reduceSub, Int.reduceMul, Int.reduceToNat, Nat.le_refl, Nat.zero_le, Nat.zero_add, Int.zero_add, Int.add_zero, and_true, true_and, and_false, false_and, not_true_eq_false, not_false_eq_true, eq_self, ne_eq, true_implies, false_implies, implies_true, or_true, true_or, or_false, false_or, reduceCtorEq, Option.some.injEq, Sum.inl.injEq, exists_eq_left', exists_eq_left, m47, zite]
            repeat' (first | with_reducible apply And.intro | with_reducible intro _)
            all_goals first | omega | (exact done _ (fun k i hki => by (repeat rw [zup_eq]); (repeat' split) <;> first | rfl | (exfalso; omega) | simp_all) (by simp [zup_eq]))
          · obtain ⟨d1, d2, d3⟩ := bb rfl c2
            have c' : ¬ S 0 1 ≤ 6 * (n : Int) + 5 := by omega
            try simp only [Int.zero_add] at d2
            have semi : S 2 (6 * n + 5) = 59 → ∀ x4, uX8_readsAll R 37 [some (.inr (.inr 46)), some (.inl 1), some (.inl ((n : Int) + 1)), some (.inl (6 * (n : Int) + 5 + 1)), x4] [] N' := fun e x4 => by
              have := ih (n + 1, N') ⟨by simp only; omega, fun i i0 i1 => ?_, fun k i a b d => (g4 k i a b).trans (hfr k i a b d), (g4 _ _ (by decide) (by decide)).trans hf0, fun i i0 i1 => hfg rfl i i0 (by simp only at i1; omega)⟩ (by simp only; omega) x4
              · rw [show 6 * (n : Int) + 5 + 1 = 6 * ((n + 1 : Nat) : Int) by omega]
                exact this
              · simp only at i1
                by_cases ei : i = 6 * n + 5
                · rw [ei, show (6 * (n : Int) + 5) % 6 = 5 by omega]
                  exact (hs2 _).mpr e
                · exact alg i i0 (by omega)
            have no : ¬ S 2 (6 * n + 5) = 59 → R (some (.inl (6 * (n : Int) + 5))) N' := fun e => by
              have e3 : qflaw S 1 = 6 * n + 5 := q.1 d1 (fun z => by
                rw [show (6 * (n : Int) + 5) % 6 = 5 by omega] at z
                exact e ((hs2 _).mp z))
              have := out (by omega) N' g4
              rw [e3] at this
              exact this
            simp only [↓rX8_readsAll_58, ↓rX8_readsAll_60, ↓rX8_readsAll_62, ↓rX8_readsAll_63, ↓rX8_readsAll_66, ↓rX8_readsAll_67, ↓rX8_readsAll_69, ↓rX8_readsAll_70, ↓rX8_readsAll_71, ↓rX8_readsAll_74, ↓rX8_readsAll_77, ↓rX8_readsAll_78, ↓rX8_readsAll_79, ↓rX8_readsAll_82, ↓rX8_readsAll_83, ↓rX8_readsAll_84, ↓rX8_readsAll_122, ↓rX8_readsAll_123, ↓rX8_readsAll_124, ↓rX8_readsAll_125, ↓rX8_readsAll_128, ↓rX8_readsAll_130, ↓rX8_readsAll_133, ↓rX8_readsAll_134, ↓rX8_readsAll_135, ↓rX8_readsAll_138, ↓hg_fX8_7_46, ↓hr_47, ↓hr_48, ↓hr_49, ↓hr_50, ↓hr_51, ↓hr_52, ↓hr_53, ↓hr_54, ↓hr_55, ↓hr_56, ↓hr_57, ↓hr_58, ↓hr_59, ↓hr_60, ↓hr_61, ↓hr_62, ↓hr_63, ↓hr_64, ↓hr_65, ↓hr_66, ↓hr_67, ↓hr_68, ↓hr_69, ↓hr_70, ↓hr_71, ↓hr_72, ↓hr_73, ↓hr_74, ↓hr_75, ↓hr_76, ↓hr_77, ↓hr_78, ↓hr_79, ↓hw_47, ↓hw_48, ↓hw_49, ↓hw_50, ↓hw_51, ↓hw_52, ↓hw_53, ↓hw_54, ↓hw_55, ↓hw_56, ↓hw_57, ↓hw_58, ↓hw_59, ↓hw_60, ↓hw_61, ↓hw_62, ↓hw_63, ↓hw_64, ↓hw_65, ↓hw_66, ↓hw_67, ↓hw_68, ↓hw_69, ↓hw_70, ↓hw_71, ↓hw_72, ↓hw_73, ↓hw_74, ↓hw_75, ↓hw_76, ↓hw_77, ↓hw_78, ↓hw_79, ↓reduceIte, ↓i_byteAt1, zkeep_n, zkeep_i, zkeep_r, zkeep_l, zIR, zLR, List.length_cons, List.length_nil, Nat.reduceAdd, Nat.reduceLeDiff, Nat.reduceEqDiff, Nat.reduceSub, Int.reduceLE, Int.reduceLT, Int.reduceEq, Int.reduceNe, Int.reduceNeg, Int.reduceAdd, Int.reduceSub, Int.reduceMul, Int.reduceToNat, Nat.le_refl, Nat.zero_le, Nat.zero_add, Int.zero_add, Int.add_zero, and_true, true_and, and_false, false_and, not_true_eq_false, not_false_eq_true, eq_self, ne_eq, true_implies, false_implies, implies_true, or_true, true_or, or_false, false_or, reduceCtorEq, Option.some.injEq, Sum.inl.injEq, exists_eq_left', exists_eq_left, m47, c', d2, zite]
            repeat' (first | with_reducible apply And.intro | with_reducible intro _)
            all_goals first | omega | (exact no (by omega)) | (exact semi (by omega) _)
        · have less := less (by omega)
          simp only [↓rX8_readsAll_58, ↓rX8_readsAll_60, ↓rX8_readsAll_62, ↓rX8_readsAll_63, ↓rX8_readsAll_66, ↓rX8_readsAll_67, ↓rX8_readsAll_69, ↓rX8_readsAll_70, ↓reduceIte, zkeep_n, zkeep_i, zkeep_r, zkeep_l, zup_eq, zIR, zLR, List.length_cons, List.length_nil, Nat.reduceAdd, Nat.reduceLeDiff, Nat.reduceEqDiff, Nat.reduceSub, Int.reduceLE, Int.reduceLT, Int.reduceEq, Int.reduceNe, Int.reduceNeg, Int.reduceAdd, Int.reduceSub, Int.reduceMul, Int.reduceToNat, Nat.le_refl, Nat.zero_le, Nat.zero_add, Int.zero_add, Int.add_zero, and_true, true_and, and_false, false_and, not_true_eq_false, not_false_eq_true, eq_self, ne_eq, true_implies, false_implies, implies_true, or_true, true_or, or_false, false_or, reduceCtorEq, Option.some.injEq, Sum.inl.injEq, exists_eq_left', exists_eq_left, zite]
          repeat' (first | with_reducible apply And.intro | with_reducible intro _)
          all_goals first | omega | (exact less)
      simp only [↓rX8_readsAll_38, ↓rX8_readsAll_39, ↓rX8_readsAll_42, ↓rX8_readsAll_43, ↓rX8_readsAll_44, ↓rX8_readsAll_47, ↓rX8_readsAll_48, ↓rX8_readsAll_51, ↓rX8_readsAll_52, ↓rX8_readsAll_53, ↓rX8_readsAll_54, ↓rX8_readsAll_55, ↓hg_fX8_7_46, ↓hr_47, ↓hr_48, ↓hr_49, ↓hr_50, ↓hr_51, ↓hr_52, ↓hr_53, ↓hr_54, ↓hr_55, ↓hr_56, ↓hr_57, ↓hr_58, ↓hr_59, ↓hr_60, ↓hr_61, ↓hr_62, ↓hr_63, ↓hr_64, ↓hr_65, ↓hr_66, ↓hr_67, ↓hr_68, ↓hr_69, ↓hr_70, ↓hr_71, ↓hr_72, ↓hr_73, ↓hr_74, ↓hr_75, ↓hr_76, ↓hr_77, ↓hr_78, ↓hr_79, ↓hw_47, ↓hw_48, ↓hw_49, ↓hw_50, ↓hw_51, ↓hw_52, ↓hw_53, ↓hw_54, ↓hw_55, ↓hw_56, ↓hw_57, ↓hw_58, ↓hw_59, ↓hw_60, ↓hw_61, ↓hw_62, ↓hw_63, ↓hw_64, ↓hw_65, ↓hw_66, ↓hw_67, ↓hw_68, ↓hw_69, ↓hw_70, ↓hw_71, ↓hw_72, ↓hw_73, ↓hw_74, ↓hw_75, ↓hw_76, ↓hw_77, ↓hw_78, ↓hw_79, ↓reduceIte, zkeep_n, zkeep_i, zkeep_r, zkeep_l, zup_eq, zIR, zLR, List.length_cons, List.length_nil, Nat.reduceAdd, Nat.reduceLeDiff, Nat.reduceEqDiff, Nat.reduceSub, Int.reduceLE, Int.reduceLT, Int.reduceEq, Int.reduceNe, Int.reduceNeg, Int.reduceAdd, Int.reduceSub, Int.reduceMul, Int.reduceToNat, Nat.le_refl, Nat.zero_le, Nat.zero_add, Int.zero_add, Int.add_zero, and_true, true_and, and_false, false_and, not_true_eq_false, not_false_eq_true, eq_self, ne_eq, true_implies, false_implies, implies_true, or_true, true_or, or_false, false_or, reduceCtorEq, Option.some.injEq, Sum.inl.injEq, exists_eq_left', exists_eq_left, n47, zite]
      repeat' (first | with_reducible apply And.intro | with_reducible intro _)
      all_goals first | omega | (exact call)
  have st : ∀ N x4, (∀ k i, (k = 46 → i ≠ 5) → N k i = M k i) → N 46 5 = 0 → uX8_readsAll R 37 [some (.inr (.inr 46)), some (.inl 1), some (.inl 0), some (.inl 0), x4] [] N := fun N x4 k1 k2 => by
    have := L (0, N) ⟨by simp only; omega, fun i a b => by simp only at b; omega, fun k i _ _ d => k1 k i d, k2, fun i a b => by simp only at b; omega⟩ x4
    exact this
  simp only [↓eX8_readsAll, ↓rX8_readsAll_0, ↓rX8_readsAll_1, ↓rX8_readsAll_2, ↓rX8_readsAll_3, ↓rX8_readsAll_4, ↓rX8_readsAll_5, ↓rX8_readsAll_6, ↓rX8_readsAll_9, ↓rX8_readsAll_10, ↓rX8_readsAll_17, ↓rX8_readsAll_20, ↓rX8_readsAll_21, ↓rX8_readsAll_22, ↓rX8_readsAll_23, ↓rX8_readsAll_26, ↓rX8_readsAll_27, ↓rX8_readsAll_34, ↓rX8_readsAll_30, ↓rX8_readsAll_31, ↓rX8_readsAll_13, ↓rX8_readsAll_14, ↓hg_fX8_127_46, ↓hg_fX8_131_46, ↓hp_fX8_127_46, ↓hp_fX8_131_46, ↓reduceIte, zkeep_n, zkeep_i, zkeep_r, zkeep_l, zIR, zLR, List.length_cons, List.length_nil, Nat.reduceAdd, Nat.reduceLeDiff, Nat.reduceEqDiff, Nat.reduceSub, Int.reduceLE, Int.reduceLT, Int.reduceEq, Int.reduceNe, Int.reduceNeg, Int.reduceAdd, Int.reduceSub, Int.reduceMul, Int.reduceToNat, Nat.le_refl, Nat.zero_le, Nat.zero_add, Int.zero_add, Int.add_zero, and_true, true_and, and_false, false_and, not_true_eq_false, not_false_eq_true, eq_self, ne_eq, true_implies, false_implies, implies_true, or_true, true_or, or_false, false_or, reduceCtorEq, Option.some.injEq, Sum.inl.injEq, exists_eq_left', exists_eq_left, zite]
  repeat' (first | with_reducible apply And.intro | with_reducible intro _)
  all_goals first | omega | (exact st _ _ (fun k i hki => by (repeat rw [zup_eq]); (repeat' split) <;> first | rfl | (exfalso; omega) | simp_all) (by simp [zup_eq]))
