theorem gcd_step {a b : Nat} : Nat.gcd b (a % b) = Nat.gcd a b := by
  rw [Nat.gcd_comm a b, Nat.gcd_rec b a, Nat.gcd_comm]
set_option maxRecDepth 100000 in
set_option maxHeartbeats 4000000 in
theorem s_settle {M : zM} {R : zP} {x y : Nat} (hx2 : x ≤ 8589934591) (hy : 0 < y) (hy2 : y ≤ 8589934591)
    (hR : R none (zup (zup M 32 0 ((x / Nat.gcd x y : Nat) : Int)) 32 1 ((y / Nat.gcd x y : Nat) : Int))) : tX0_settle [.inr (.inr 32), .inr (.inl (x : Int)), .inr (.inl (y : Int))] M R := by
  simp only [↓eX0_settle, ↓rX0_settle_0, ↓rX0_settle_1, ↓rX0_settle_3, ↓rX0_settle_4, ↓rX0_settle_6, ↓rX0_settle_7, ↓reduceIte, zkeep_n, zkeep_i, zkeep_r, zkeep_l, zup_eq, zIR, zLR, List.length_cons, List.length_nil, Nat.reduceAdd, Nat.reduceLeDiff, Nat.reduceEqDiff, Nat.reduceSub, Int.reduceLE, Int.reduceLT, Int.reduceEq, Int.reduceNe, Int.reduceNeg, Int.reduceAdd, Int.reduceSub, Int.reduceMul, Int.reduceToNat, Nat.le_refl, Nat.zero_le, Nat.zero_add, Int.zero_add, Int.add_zero, and_true, true_and, and_false, false_and, not_true_eq_false, not_false_eq_true, eq_self, ne_eq, true_implies, false_implies, implies_true, or_true, true_or, or_false, false_or, reduceCtorEq, Option.some.injEq, Sum.inl.injEq, exists_eq_left', exists_eq_left, zite]
  have hg : 0 < Nat.gcd x y := Nat.gcd_pos_of_pos_right _ hy
  have hgy : Nat.gcd x y ≤ y := Nat.gcd_le_right _ hy
  have fin : ∀ r x10 x11, uX0_settle R 44 [some (.inr (.inr 32)), some (.inr (.inl (x : Int))), none, some (.inr (.inl (y : Int))), none, some (.inr (.inl ((Nat.gcd x y : Nat) : Int))), none, some (.inr (.inl 0)), none, some (.inl r), x10, x11] [] M := by
    intro r x10 x11
    have e1 : ((x : Int)).tdiv ((Nat.gcd x y : Nat) : Int) = ((x / Nat.gcd x y : Nat) : Int) := by rw [Int.tdiv_eq_ediv_of_nonneg (by omega), Int.natCast_ediv]
    have e2 : ((y : Int)).tdiv ((Nat.gcd x y : Nat) : Int) = ((y / Nat.gcd x y : Nat) : Int) := by rw [Int.tdiv_eq_ediv_of_nonneg (by omega), Int.natCast_ediv]
    have e3 : zcmp ((Nat.gcd x y : Nat) : Int) 0 = 1 := by unfold zcmp; rw [if_pos (by omega)]
    simp only [↓rX0_settle_44, ↓rX0_settle_46, ↓rX0_settle_47, ↓rX0_settle_48, ↓rX0_settle_51, ↓rX0_settle_52, ↓rX0_settle_53, ↓rX0_settle_55, ↓rX0_settle_56, ↓rX0_settle_59, ↓rX0_settle_60, ↓rX0_settle_61, ↓rX0_settle_63, ↓rX0_settle_64, ↓rX0_settle_67, ↓hp_fX0_13_32, ↓hp_fX0_7_32, ↓reduceIte, zkeep_n, zkeep_i, zkeep_r, zkeep_l, zup_eq, zIR, zLR, List.length_cons, List.length_nil, Nat.reduceAdd, Nat.reduceLeDiff, Nat.reduceEqDiff, Nat.reduceSub, Int.reduceLE, Int.reduceLT, Int.reduceEq, Int.reduceNe, Int.reduceNeg, Int.reduceAdd, Int.reduceSub, Int.reduceMul, Int.reduceToNat, Nat.le_refl, Nat.zero_le, Nat.zero_add, Int.zero_add, Int.add_zero, and_true, true_and, and_false, false_and, not_true_eq_false, not_false_eq_true, eq_self, ne_eq, true_implies, false_implies, implies_true, or_true, true_or, or_false, false_or, reduceCtorEq, Option.some.injEq, Sum.inl.injEq, exists_eq_left', exists_eq_left, e1, e2, e3, zite]
    repeat' (first | with_reducible apply And.intro | with_reducible intro _)
    all_goals first | omega | (exact hR)
  have stepc : ∀ (a b r : Nat), b ≤ 8589934591 → a ≤ 8589934591 → 0 < b → r ≤ 90 → (∀ x10, uX0_settle R 9 [some (.inr (.inr 32)), some (.inr (.inl (x : Int))), none, some (.inr (.inl (y : Int))), none, some (.inr (.inl (b : Int))), none, some (.inr (.inl ((a % b : Nat) : Int))), none, some (.inl ((r : Int) + 1)), x10, none] [] M) → ∀ x10 x11, uX0_settle R 9 [some (.inr (.inr 32)), some (.inr (.inl (x : Int))), none, some (.inr (.inl (y : Int))), none, some (.inr (.inl (a : Int))), none, some (.inr (.inl (b : Int))), none, some (.inl (r : Int)), x10, x11] [] M := by
    intro a b r hb ha hb0 hr nx x10 x11
    have e1 : ((a : Int)).tmod (b : Int) = ((a % b : Nat) : Int) := by rw [Int.tmod_eq_emod_of_nonneg (by omega), Int.natCast_emod]
    have e3 : zcmp (b : Int) 0 = 1 := by unfold zcmp; rw [if_pos (by omega)]
    refine rX0_settle_9.mpr ?_
    have nx := nx (some (.inr (.inl ((a % b : Nat) : Int))))
    simp only [↓rX0_settle_11, ↓rX0_settle_13, ↓rX0_settle_16, ↓rX0_settle_18, ↓rX0_settle_19, ↓rX0_settle_20, ↓rX0_settle_23, ↓rX0_settle_25, ↓rX0_settle_27, ↓rX0_settle_28, ↓rX0_settle_30, ↓rX0_settle_32, ↓rX0_settle_34, ↓rX0_settle_36, ↓rX0_settle_38, ↓rX0_settle_41, ↓reduceIte, zkeep_n, zkeep_i, zkeep_r, zkeep_l, zup_eq, zIR, zLR, List.length_cons, List.length_nil, Nat.reduceAdd, Nat.reduceLeDiff, Nat.reduceEqDiff, Nat.reduceSub, Int.reduceLE, Int.reduceLT, Int.reduceEq, Int.reduceNe, Int.reduceNeg, Int.reduceAdd, Int.reduceSub, Int.reduceMul, Int.reduceToNat, Nat.le_refl, Nat.zero_le, Nat.zero_add, Int.zero_add, Int.add_zero, and_true, true_and, and_false, false_and, not_true_eq_false, not_false_eq_true, eq_self, ne_eq, true_implies, false_implies, implies_true, or_true, true_or, or_false, false_or, reduceCtorEq, Option.some.injEq, Sum.inl.injEq, exists_eq_left', exists_eq_left, e1, e3, zite]
    repeat' (first | with_reducible apply And.intro | with_reducible intro _)
    all_goals first | omega | (exact nx)
  have stop : ∀ (a r : Nat), Nat.gcd a 0 = Nat.gcd x y → r ≤ 90 → ∀ x10 x11, uX0_settle R 9 [some (.inr (.inr 32)), some (.inr (.inl (x : Int))), none, some (.inr (.inl (y : Int))), none, some (.inr (.inl (a : Int))), none, some (.inr (.inl ((0 : Nat) : Int))), none, some (.inl (r : Int)), x10, x11] [] M := by
    intro a r hga hr x10 x11
    rw [Nat.gcd_zero_right] at hga
    subst hga
    have f := fin r x10 x11
    refine rX0_settle_9.mpr ?_
    simp only [↓rX0_settle_11, ↓rX0_settle_13, ↓rX0_settle_16, ↓rX0_settle_18, ↓rX0_settle_19, ↓rX0_settle_20, ↓reduceIte, zkeep_n, zkeep_i, zkeep_r, zkeep_l, zup_eq, zIR, zLR, List.length_cons, List.length_nil, Nat.reduceAdd, Nat.reduceLeDiff, Nat.reduceEqDiff, Nat.reduceSub, Int.reduceLE, Int.reduceLT, Int.reduceEq, Int.reduceNe, Int.reduceNeg, Int.reduceAdd, Int.reduceSub, Int.reduceMul, Int.reduceToNat, Nat.le_refl, Nat.zero_le, Nat.zero_add, Int.zero_add, Int.add_zero, and_true, true_and, and_false, false_and, not_true_eq_false, not_false_eq_true, eq_self, ne_eq, true_implies, false_implies, implies_true, or_true, true_or, or_false, false_or, reduceCtorEq, Option.some.injEq, Sum.inl.injEq, exists_eq_left', exists_eq_left, zcmp, zite]
    repeat' (first | with_reducible apply And.intro | with_reducible intro _)
    all_goals first | omega | (exact f)
  have L : ∀ (k a b r : Nat), b ≤ a → a < 2 ^ k → Nat.gcd a b = Nat.gcd x y → r + 2 * k ≤ 90 → a ≤ 8589934591 → 0 < a → ∀ x10 x11, uX0_settle R 9 [some (.inr (.inr 32)), some (.inr (.inl (x : Int))), none, some (.inr (.inl (y : Int))), none, some (.inr (.inl (a : Int))), none, some (.inr (.inl (b : Int))), none, some (.inl (r : Int)), x10, x11] [] M := by
    intro k
    induction k with
    | zero => intro a b r h1 h2 h3 h4 h5 h6; simp at h2; omega
    | succ k ih =>
      intro a b r h1 h2 h3 h4 h5 h6 x10 x11
      by_cases hb0 : b = 0
      · subst hb0
        exact stop a r h3 (by omega) x10 x11
      · refine stepc a b r (by omega) h5 (by omega) (by omega) (fun y10 => ?_) x10 x11
        have hm : a % b < b := Nat.mod_lt _ (by omega)
        have hg2 : Nat.gcd b (a % b) = Nat.gcd x y := gcd_step.trans h3
        have er : (r : Int) + 1 = ((r + 1 : Nat) : Int) := by omega
        rw [er]
        by_cases hc0 : a % b = 0
        · rw [hc0] at hg2 ⊢
          exact stop b (r + 1) hg2 (by omega) y10 none
        · refine stepc b (a % b) (r + 1) (by omega) (by omega) (by omega) (by omega) (fun z10 => ?_) y10 none
          have er2 : ((r + 1 : Nat) : Int) + 1 = ((r + 2 : Nat) : Int) := by omega
          rw [er2]
          have h2' : a < 2 * 2 ^ k := by rw [Nat.pow_succ] at h2; omega
          have hhalf : a % b < 2 ^ k := by
            have := Nat.div_add_mod a b
            have : 1 ≤ a / b := Nat.div_pos h1 (by omega)
            have : b * 1 ≤ b * (a / b) := Nat.mul_le_mul_left _ this
            omega
          exact ih (a % b) (b % (a % b)) (r + 2) (Nat.le_of_lt (Nat.mod_lt _ (by omega))) hhalf (gcd_step.trans hg2) (by omega) (by omega) (by omega) z10 none
  by_cases hxy : x ≤ y
  · exact L 33 y x 0 hxy (by omega) (Nat.gcd_comm y x) (by decide) hy2 hy none none
  · refine stepc y x 0 hx2 hy2 (by omega) (by decide) (fun x10 => ?_) none none
    rw [Nat.mod_eq_of_lt (show y < x by omega)]
    exact L 33 x y 1 (by omega) (by omega) rfl (by decide) hx2 (by omega) x10 none
