set_option maxRecDepth 100000 in
set_option maxHeartbeats 4000000 in
theorem s_lowest {M : zM} {F : zV → zM → Prop} {x y : Nat} {wh : Int} (hx2 : x ≤ 8589934591) (hy : 0 < y) (hy2 : y ≤ 8589934591) (hw : 0 ≤ wh ∧ wh < 2) (hR : F (.inr (.inl (if wh = 0 then ((x / Nat.gcd x y : Nat) : Int) else ((y / Nat.gcd x y : Nat) : Int)))) M) : zcv tX8_lowest [.inr (.inl (x : Int)), .inr (.inl (y : Int)), .inl wh] M F := by
  refine zcs ?_
  have hg : 0 < Nat.gcd x y := Nat.gcd_pos_of_pos_right _ hy
  have hgy : Nat.gcd x y ≤ y := Nat.gcd_le_right _ hy
  have e1 : ((x : Int)).tdiv ((Nat.gcd x y : Nat) : Int) = ((x / Nat.gcd x y : Nat) : Int) := by rw [Int.tdiv_eq_ediv_of_nonneg (by omega), Int.natCast_ediv]
  have e2 : ((y : Int)).tdiv ((Nat.gcd x y : Nat) : Int) = ((y / Nat.gcd x y : Nat) : Int) := by rw [Int.tdiv_eq_ediv_of_nonneg (by omega), Int.natCast_ediv]
  have L : ∀ s : Nat × Nat, (s.1 ≤ 8589934591 ∧ s.2 ≤ 8589934591 ∧ Nat.gcd s.1 s.2 = Nat.gcd x y) → ∀ x9, uX8_lowest (fun r M' => ∃ v, r = some v ∧ F v M') 6 [some (.inr (.inl (x : Int))), none, some (.inr (.inl (y : Int))), none, some (.inl wh), some (.inr (.inl (s.1 : Int))), none, some (.inr (.inl (s.2 : Int))), none, x9, none] [] M := by
    refine zind (fun s => s.2) ?_
    rintro ⟨a, b⟩ ⟨ha, hb, hgc⟩ ih x9
    simp only at ha hb hgc ih
    refine rX8_lowest_6.mpr ?_
    by_cases hb0 : b = 0
    · subst hb0
      rw [Nat.gcd_zero_right] at hgc
      subst hgc
      have ez : zcmp ((0 : Nat) : Int) 0 = 0 := by decide
      simp only [↓rX8_lowest_8, ↓rX8_lowest_9, ↓rX8_lowest_10, ↓rX8_lowest_31, ↓rX8_lowest_33, ↓rX8_lowest_36, ↓rX8_lowest_37, ↓rX8_lowest_39, ↓rX8_lowest_40, ↓rX8_lowest_47, ↓rX8_lowest_43, ↓rX8_lowest_44, ↓rX8_lowest_46, ↓reduceIte, zkeep_n, zkeep_i, zkeep_r, zkeep_l, zup_eq, zIR, zLR, List.length_cons, List.length_nil, Nat.reduceAdd, Nat.reduceLeDiff, Nat.reduceEqDiff, Nat.reduceSub, Int.reduceLE, Int.reduceLT, Int.reduceEq, Int.reduceNe, Int.reduceNeg, Int.reduceAdd, Int.reduceSub, Int.reduceMul, Int.reduceToNat, Nat.le_refl, Nat.zero_le, Nat.zero_add, Int.zero_add, Int.add_zero, and_true, true_and, and_false, false_and, not_true_eq_false, not_false_eq_true, eq_self, ne_eq, true_implies, false_implies, implies_true, or_true, true_or, or_false, false_or, reduceCtorEq, Option.some.injEq, Sum.inl.injEq, exists_eq_left', exists_eq_left, e1, e2, ez, zite]
      repeat' (first | with_reducible apply And.intro | with_reducible intro _)
      all_goals first | omega | (rw [if_pos (by omega)] at hR; exact hR) | (rw [if_neg (by omega)] at hR; exact hR)
    · have em : ((a : Int)).tmod (b : Int) = ((a % b : Nat) : Int) := by rw [Int.tmod_eq_emod_of_nonneg (by omega), Int.natCast_emod]
      have ez : zcmp (b : Int) 0 = 1 := by unfold zcmp; rw [if_pos (by omega)]
      have hm : a % b < b := Nat.mod_lt _ (by omega)
      have nx := fun x9 => ih (b, a % b) ⟨hb, by simp only; omega, gcd_step.trans hgc⟩ (by simp only; omega) x9
      simp only [↓rX8_lowest_8, ↓rX8_lowest_9, ↓rX8_lowest_10, ↓rX8_lowest_13, ↓rX8_lowest_15, ↓rX8_lowest_17, ↓rX8_lowest_18, ↓rX8_lowest_20, ↓rX8_lowest_22, ↓rX8_lowest_24, ↓rX8_lowest_26, ↓rX8_lowest_28, ↓reduceIte, zkeep_n, zkeep_i, zkeep_r, zkeep_l, zup_eq, zIR, zLR, List.length_cons, List.length_nil, Nat.reduceAdd, Nat.reduceLeDiff, Nat.reduceEqDiff, Nat.reduceSub, Int.reduceLE, Int.reduceLT, Int.reduceEq, Int.reduceNe, Int.reduceNeg, Int.reduceAdd, Int.reduceSub, Int.reduceMul, Int.reduceToNat, Nat.le_refl, Nat.zero_le, Nat.zero_add, Int.zero_add, Int.add_zero, and_true, true_and, and_false, false_and, not_true_eq_false, not_false_eq_true, eq_self, ne_eq, true_implies, false_implies, implies_true, or_true, true_or, or_false, false_or, reduceCtorEq, Option.some.injEq, Sum.inl.injEq, exists_eq_left', exists_eq_left, em, ez, zite]
      repeat' (first | with_reducible apply And.intro | with_reducible intro _)
      all_goals first | omega | (exact nx _)
  have st := fun x9 => L (x, y) ⟨hx2, hy2, rfl⟩ x9
  simp only [↓eX8_lowest, ↓rX8_lowest_0, ↓rX8_lowest_1, ↓rX8_lowest_3, ↓rX8_lowest_4, ↓reduceIte, zkeep_n, zkeep_i, zkeep_r, zkeep_l, zup_eq, zIR, zLR, List.length_cons, List.length_nil, Nat.reduceAdd, Nat.reduceLeDiff, Nat.reduceEqDiff, Nat.reduceSub, Int.reduceLE, Int.reduceLT, Int.reduceEq, Int.reduceNe, Int.reduceNeg, Int.reduceAdd, Int.reduceSub, Int.reduceMul, Int.reduceToNat, Nat.le_refl, Nat.zero_le, Nat.zero_add, Int.zero_add, Int.add_zero, and_true, true_and, and_false, false_and, not_true_eq_false, not_false_eq_true, eq_self, ne_eq, true_implies, false_implies, implies_true, or_true, true_or, or_false, false_or, reduceCtorEq, Option.some.injEq, Sum.inl.injEq, exists_eq_left', exists_eq_left, zite]
  exact st _
def wfac : Nat → Int
  | 0 => 1
  | n + 1 => wfac n * ((n + 1 : Nat) : Int)
theorem wfac_d : ∀ k : Fin 8, wfac k.val = zk104 k.val ∧ wfac (k.val + 1) = ((k.val + 1 : Nat) : Int) * zk104 k.val := by decide +kernel
set_option maxRecDepth 100000 in
set_option maxHeartbeats 4000000 in
theorem s_rows {M : zM} {F : zV → zM → Prop} {n : Nat} (hn : n ≤ 8) (hR : F (.inr (.inl (wfac n))) M) : zcv tX8_rows [.inl (n : Int)] M F := by
  refine zcs ?_
  have L : ∀ i : Nat, (1 ≤ i ∧ (i ≤ n ∨ (i = 1))) → uX8_rows (fun r M' => ∃ v, r = some v ∧ F v M') 4 [some (.inl (n : Int)), some (.inr (.inl (wfac i))), none, some (.inl ((i : Int) + 1))] [] M := by
    refine zind (fun i => n - i) ?_
    rintro i ⟨h1, h2⟩ ih
    refine rX8_rows_4.mpr ?_
    by_cases he : n ≤ i
    · have e : wfac i = wfac n := by
        have : n = i ∨ (n = 0 ∧ i = 1) := by omega
        rcases this with rfl | ⟨rfl, rfl⟩ <;> rfl
      rw [e]
      simp only [↓rX8_rows_5, ↓rX8_rows_6, ↓rX8_rows_20, ↓rX8_rows_21, ↓reduceIte, zkeep_n, zkeep_i, zkeep_r, zkeep_l, zup_eq, zIR, zLR, List.length_cons, List.length_nil, Nat.reduceAdd, Nat.reduceLeDiff, Nat.reduceEqDiff, Nat.reduceSub, Int.reduceLE, Int.reduceLT, Int.reduceEq, Int.reduceNe, Int.reduceNeg, Int.reduceAdd, Int.reduceSub, Int.reduceMul, Int.reduceToNat, Nat.le_refl, Nat.zero_le, Nat.zero_add, Int.zero_add, Int.add_zero, and_true, true_and, and_false, false_and, not_true_eq_false, not_false_eq_true, eq_self, ne_eq, true_implies, false_implies, implies_true, or_true, true_or, or_false, false_or, reduceCtorEq, Option.some.injEq, Sum.inl.injEq, exists_eq_left', exists_eq_left, zite]
      repeat' (first | with_reducible apply And.intro | with_reducible intro _)
      all_goals first | omega | (exact hR)
    · have nx := ih (i + 1) (by omega) (by omega)
      simp only [wfac] at nx
      rw [Int.natCast_add] at nx
      simp only [↓rX8_rows_5, ↓rX8_rows_6, ↓rX8_rows_9, ↓rX8_rows_10, ↓rX8_rows_11, ↓rX8_rows_12, ↓rX8_rows_13, ↓rX8_rows_14, ↓rX8_rows_17, ↓reduceIte, zkeep_n, zkeep_i, zkeep_r, zkeep_l, zup_eq, zIR, zLR, List.length_cons, List.length_nil, Nat.reduceAdd, Nat.reduceLeDiff, Nat.reduceEqDiff, Nat.reduceSub, Int.reduceLE, Int.reduceLT, Int.reduceEq, Int.reduceNe, Int.reduceNeg, Int.reduceAdd, Int.reduceSub, Int.reduceMul, Int.reduceToNat, Nat.le_refl, Nat.zero_le, Nat.zero_add, Int.zero_add, Int.add_zero, and_true, true_and, and_false, false_and, not_true_eq_false, not_false_eq_true, eq_self, ne_eq, true_implies, false_implies, implies_true, or_true, true_or, or_false, false_or, reduceCtorEq, Option.some.injEq, Sum.inl.injEq, exists_eq_left', exists_eq_left, zite]
      repeat' (first | with_reducible apply And.intro | with_reducible intro _)
      all_goals first | omega | (exact nx)
  have st := L 1 (by omega)
  simp only [↓eX8_rows, ↓rX8_rows_0, ↓rX8_rows_1, ↓rX8_rows_2, ↓rX8_rows_3, ↓reduceIte, zkeep_n, zkeep_i, zkeep_r, zkeep_l, zup_eq, zIR, zLR, List.length_cons, List.length_nil, Nat.reduceAdd, Nat.reduceLeDiff, Nat.reduceEqDiff, Nat.reduceSub, Int.reduceLE, Int.reduceLT, Int.reduceEq, Int.reduceNe, Int.reduceNeg, Int.reduceAdd, Int.reduceSub, Int.reduceMul, Int.reduceToNat, Nat.le_refl, Nat.zero_le, Nat.zero_add, Int.zero_add, Int.add_zero, and_true, true_and, and_false, false_and, not_true_eq_false, not_false_eq_true, eq_self, ne_eq, true_implies, false_implies, implies_true, or_true, true_or, or_false, false_or, reduceCtorEq, Option.some.injEq, Sum.inl.injEq, exists_eq_left', exists_eq_left, zite]
  exact st
set_option maxHeartbeats 4000000 in
theorem i_weight {k q : Int} {M : zM} {f : zV → zM → Prop} : zcv (zv 8 tX8_weight) [.inr (.inr 46), .inl k, .inl q] M f ↔ ((0 ≤ 608 + 4 * k + q ∧ 608 + 4 * k + q < 640) ∧ (0 ≤ 608 + 4 * k + q ∧ 608 + 4 * k + q < 640) ∧ f (.inl (M 66 (608 + 4 * k + q) - M 65 (608 + 4 * k + q) + 1)) M) := by
  refine Iff.trans (zcv_gv (F := fX8) (V := vX8_weight) (cc := cX8_weight) (nL := 3) (show zrcv _ _ from rfl)) ?_
  show tX8_weight _ _ _ ↔ _
  simp only [↓eX8_weight, ↓rX8_weight_0, ↓rX8_weight_1, ↓rX8_weight_4, ↓rX8_weight_7, ↓rX8_weight_8, ↓rX8_weight_9, ↓rX8_weight_10, ↓rX8_weight_11, ↓rX8_weight_12, ↓rX8_weight_13, ↓rX8_weight_14, ↓rX8_weight_15, ↓rX8_weight_18, ↓rX8_weight_21, ↓rX8_weight_22, ↓rX8_weight_23, ↓rX8_weight_24, ↓rX8_weight_25, ↓rX8_weight_26, ↓rX8_weight_27, ↓rX8_weight_28, ↓rX8_weight_29, ↓rX8_weight_30, ↓rX8_weight_31, ↓hg_fX8_64_46, ↓hg_fX8_67_46, ↓hr_47, ↓hr_48, ↓hr_49, ↓hr_50, ↓hr_51, ↓hr_52, ↓hr_53, ↓hr_54, ↓hr_55, ↓hr_56, ↓hr_57, ↓hr_58, ↓hr_59, ↓hr_60, ↓hr_61, ↓hr_62, ↓hr_63, ↓hr_64, ↓hr_65, ↓hr_66, ↓hr_67, ↓hr_68, ↓hr_69, ↓hr_70, ↓hr_71, ↓hr_72, ↓hr_73, ↓hr_74, ↓hr_75, ↓hr_76, ↓hr_77, ↓hr_78, ↓hr_79, ↓hw_47, ↓hw_48, ↓hw_49, ↓hw_50, ↓hw_51, ↓hw_52, ↓hw_53, ↓hw_54, ↓hw_55, ↓hw_56, ↓hw_57, ↓hw_58, ↓hw_59, ↓hw_60, ↓hw_61, ↓hw_62, ↓hw_63, ↓hw_64, ↓hw_65, ↓hw_66, ↓hw_67, ↓hw_68, ↓hw_69, ↓hw_70, ↓hw_71, ↓hw_72, ↓hw_73, ↓hw_74, ↓hw_75, ↓hw_76, ↓hw_77, ↓hw_78, ↓hw_79, ↓reduceIte, zkeep_n, zkeep_i, zkeep_r, zkeep_l, zup_eq, zIR, zLR, List.length_cons, List.length_nil, Nat.reduceAdd, Nat.reduceLeDiff, Nat.reduceEqDiff, Nat.reduceSub, Int.reduceLE, Int.reduceLT, Int.reduceEq, Int.reduceNe, Int.reduceNeg, Int.reduceAdd, Int.reduceSub, Int.reduceMul, Int.reduceToNat, Nat.le_refl, Nat.zero_le, Nat.zero_add, Int.zero_add, Int.add_zero, and_true, true_and, and_false, false_and, not_true_eq_false, not_false_eq_true, eq_self, ne_eq, true_implies, false_implies, implies_true, or_true, true_or, or_false, false_or, reduceCtorEq, Option.some.injEq, Sum.inl.injEq, exists_eq_left', exists_eq_left, zite]
theorem wsw_ones : ∀ k : Fin 9, ∀ s : Fin 256, s.val < 2 ^ k.val → wsw (fun _ => 1) s.val k.val = wones s.val := by decide +kernel
theorem nmach2_d : ∀ m : Fin 8, ∀ s : Fin 256, zand (zshr s.val m.val) 1 = ((s.val / 2 ^ m.val % 2 : Nat) : Int) := by decide +kernel
set_option maxRecDepth 100000 in
set_option maxHeartbeats 8000000 in
theorem s_powerOf {S M : zM} {F : zV → zM → Prop} {me qu wh : Int} (hW : WX S) (h : RM S M) (hg : (0 ≤ me ∧ me < qn S 0) ∧ (0 ≤ qu ∧ qu < 4) ∧ (0 ≤ wh ∧ wh < 2)) (hR : ∀ M', YQ M M' → RC S M' → F (.inr (.inl (aPower S me qu wh))) M') : zcv (zv 8 tX8_powerOf) [.inr (.inr 46), .inl me, .inl qu, .inl wh] M F := by
  refine zcvv rfl ?_
  have hk := W_k hW
  unfold aPower at hR
  rw [if_pos hg] at hR
  simp only [↓eX8_powerOf, ↓rX8_powerOf_0, ↓rX8_powerOf_1, ↓reduceIte, zkeep_n, zkeep_i, zkeep_r, zkeep_l, zup_eq, zIR, zLR, List.length_cons, List.length_nil, Nat.reduceAdd, Nat.reduceLeDiff, Nat.reduceEqDiff, Nat.reduceSub, Int.reduceLE, Int.reduceLT, Int.reduceEq, Int.reduceNe, Int.reduceNeg, Int.reduceAdd, Int.reduceSub, Int.reduceMul, Int.reduceToNat, Nat.le_refl, Nat.zero_le, Nat.zero_add, Int.zero_add, Int.add_zero, and_true, true_and, and_false, false_and, not_true_eq_false, not_false_eq_true, eq_self, ne_eq, true_implies, false_implies, implies_true, or_true, true_or, or_false, false_or, reduceCtorEq, Option.some.injEq, Sum.inl.injEq, exists_eq_left', exists_eq_left, zite]
  refine s_runsTold hW h (fun M1 f1 f2 f3 => ?_)
  have fin := hR M1 f1 f2
  have e2 := f2.1
  obtain ⟨m, rfl⟩ : ∃ m : Nat, me = m := ⟨me.toNat, by omega⟩
  have hwt : ∀ j : Nat, j < qk S → (0 ≤ wwt S qu j ∧ wwt S qu j ≤ 10) ∧ M1 66 (608 + 4 * j + qu) - M1 65 (608 + 4 * j + qu) + 1 = wwt S qu j := fun j hj => by
    have v := wV_R hW j (by omega) (by omega) 19 (by decide)
    have v1 := v.1 (4 + qu) (by omega) (by omega)
    have v2 := v.1 (8 + qu) (by omega) (by omega)
    have hle := lohi_V S j 19 qu hg.2.1.1 hg.2.1.2
    have ha := HV_at f3 (k := j) (t := 19) (q := qu) (by omega) (by omega) (by decide) (by decide) hg.2.1.1 hg.2.1.2
    have h65 : M1 65 (608 + 4 * j + qu) = wV S j 19 (4 + qu) := ha.2.1
    have h66 : M1 66 (608 + 4 * j + qu) = wV S j 19 (8 + qu) := ha.2.2
    rw [h65, h66]
    refine ⟨?_, rfl⟩
    unfold wwt
    omega
  have hqk8 := hk.2.2.2.2.2.1
  have hqk := hk.2.2.1
  have e2' : M1 46 2 = (qk S : Int) := by rw [e2, hqk]
  have hmq : m < qk S := by omega
  unfold pwX pwY at fin
  rw [Int.toNat_natCast] at fin
  generalize hwtd : wwt S qu = wt at *
  generalize qk S = k at *
  have hp8 := npow_le hqk8
  have esh := nshl_d ⟨k, by omega⟩
  simp only at esh
  have hA : 0 ≤ wsum wt k ∧ wsum wt k ≤ 80 := by
    have := wsum_R (f := wt) (B := 10) k (fun j hj => (hwt j hj).1)
    omega
  have L2 : ∀ s : Nat, s ≤ 2 ^ k → ∀ x8 x9 x10, uX8_powerOf (fun r M' => ∃ v, r = some v ∧ F v M') 43 [some (.inr (.inr 46)), some (.inl (m : Int)), some (.inl qu), some (.inl wh), some (.inl (wsum wt k)), some (.inr (.inl (wpw wt m k s))), none, some (.inl (s : Int)), x8, x9, x10] [] M1 := by
    refine zind (fun s => 2 ^ k - s) ?_
    intro s hs ih x8 x9 x10
    refine rX8_powerOf_43.mpr ?_
    by_cases he : s = 2 ^ k
    · subst he
      have hx := wpw_R wt m k (2 ^ k)
      have hfd := (wfac_d ⟨k - 1, by omega⟩).2
      simp only [show k - 1 + 1 = k by omega] at hfd
      rw [show ((k - 1 : Nat) : Int) = (k : Int) - 1 by omega] at hfd
      have hf := zk104_R ((k : Int) - 1)
      have hymul : (k : Int) * zk104 ((k : Int) - 1) ≤ 8 * 5040 := Int.mul_le_mul (by omega) hf.2 (by omega) (by decide)
      have hypos : 0 < (k : Int) * zk104 ((k : Int) - 1) := Int.mul_pos (by omega) (by omega)
      obtain ⟨X, hX⟩ : ∃ X : Nat, wpw wt m k (2 ^ k) = X := ⟨(wpw wt m k (2 ^ k)).toNat, by omega⟩
      obtain ⟨Y, hY⟩ : ∃ Y : Nat, (k : Int) * zk104 ((k : Int) - 1) = Y := ⟨((k : Int) * zk104 ((k : Int) - 1)).toNat, by omega⟩
      rw [hX, hY, Int.toNat_natCast, Int.toNat_natCast] at fin
      rw [hY] at hfd
      have rw1 : zcv tX8_rows [.inl (k : Int)] M1 (fun v M' => uX8_powerOf (fun r M' => ∃ v, r = some v ∧ F v M') 212 [some (.inr (.inr 46)), some (.inl (m : Int)), some (.inl qu), some (.inl wh), some (.inl (wsum wt k)), some (.inr (.inl (X : Int))), none, some (.inl ((2 ^ k : Nat) : Int)), x8, x9, x10] [v, .inr (.inl (X : Int))] M') := by
        refine s_rows hqk8 ?_
        rw [hfd]
        simp only [↓rX8_powerOf_212, ↓rX8_powerOf_213, ↓reduceIte, zkeep_n, zkeep_i, zkeep_r, zkeep_l, zup_eq, zIR, zLR, List.length_cons, List.length_nil, Nat.reduceAdd, Nat.reduceLeDiff, Nat.reduceEqDiff, Nat.reduceSub, Int.reduceLE, Int.reduceLT, Int.reduceEq, Int.reduceNe, Int.reduceNeg, Int.reduceAdd, Int.reduceSub, Int.reduceMul, Int.reduceToNat, Nat.le_refl, Nat.zero_le, Nat.zero_add, Int.zero_add, Int.add_zero, and_true, true_and, and_false, false_and, not_true_eq_false, not_false_eq_true, eq_self, ne_eq, true_implies, false_implies, implies_true, or_true, true_or, or_false, false_or, reduceCtorEq, Option.some.injEq, Sum.inl.injEq, exists_eq_left', exists_eq_left, zite]
        refine s_lowest (by omega) (by omega) (by omega) hg.2.2 ?_
        simp only [↓rX8_powerOf_216, ↓reduceIte, zkeep_n, zkeep_i, zkeep_r, zkeep_l, zup_eq, zIR, zLR, List.length_cons, List.length_nil, Nat.reduceAdd, Nat.reduceLeDiff, Nat.reduceEqDiff, Nat.reduceSub, Int.reduceLE, Int.reduceLT, Int.reduceEq, Int.reduceNe, Int.reduceNeg, Int.reduceAdd, Int.reduceSub, Int.reduceMul, Int.reduceToNat, Nat.le_refl, Nat.zero_le, Nat.zero_add, Int.zero_add, Int.add_zero, and_true, true_and, and_false, false_and, not_true_eq_false, not_false_eq_true, eq_self, ne_eq, true_implies, false_implies, implies_true, or_true, true_or, or_false, false_or, reduceCtorEq, Option.some.injEq, Sum.inl.injEq, exists_eq_left', exists_eq_left]
        exact fin
      rw [hX]
      simp only [↓rX8_powerOf_45, ↓rX8_powerOf_46, ↓rX8_powerOf_47, ↓rX8_powerOf_50, ↓rX8_powerOf_51, ↓rX8_powerOf_203, ↓rX8_powerOf_205, ↓rX8_powerOf_206, ↓rX8_powerOf_209, ↓hg_fX8_127_46, ↓reduceIte, zkeep_n, zkeep_i, zkeep_r, zkeep_l, zup_eq, zIR, zLR, List.length_cons, List.length_nil, Nat.reduceAdd, Nat.reduceLeDiff, Nat.reduceEqDiff, Nat.reduceSub, Int.reduceLE, Int.reduceLT, Int.reduceEq, Int.reduceNe, Int.reduceNeg, Int.reduceAdd, Int.reduceSub, Int.reduceMul, Int.reduceToNat, Nat.le_refl, Nat.zero_le, Nat.zero_add, Int.zero_add, Int.add_zero, and_true, true_and, and_false, false_and, not_true_eq_false, not_false_eq_true, eq_self, ne_eq, true_implies, false_implies, implies_true, or_true, true_or, or_false, false_or, reduceCtorEq, Option.some.injEq, Sum.inl.injEq, exists_eq_left', exists_eq_left, e2', esh, zite]
      repeat' (first | with_reducible apply And.intro | with_reducible intro _)
      all_goals first | omega | (exact rw1)
    · have nx := fun x8 x9 x10 => ih (s + 1) (by omega) (by omega) x8 x9 x10
      simp only [wpw] at nx
      have hs8 : s < 256 := by omega
      have hwR := wsw_R (wt := wt) s k (fun j hj => (hwt j hj).1)
      have hwO := wsw_ones ⟨k, by omega⟩ ⟨s, hs8⟩ (by show s < 2 ^ k; omega)
      simp only at hwO
      have bm := nmach2_d ⟨m, by omega⟩ ⟨s, hs8⟩
      simp only at bm
      have hwm := hwt m hmq
      have em := hwm.2
      have J165 : ∀ (b : Int) x8 , (b = if wpc wt m k s then 1 else 0) → uX8_powerOf (fun r M' => ∃ v, r = some v ∧ F v M') 165 [some (.inr (.inr 46)), some (.inl (m : Int)), some (.inl qu), some (.inl wh), some (.inl (wsum wt k)), some (.inr (.inl (wpw wt m k s))), none, some (.inl (s : Int)), x8, some (.inl (wones s)), some (.inl b)] [] M1 := by
        intro b x8 hb
        by_cases hc : wpc wt m k s
        · rw [if_pos hc] at hb
          subst hb
          have nx := nx x8 (some (.inl (wones s))) (some (.inl 1))
          rw [if_pos hc] at nx
          have hpop := npop_d ⟨k, by omega⟩ ⟨m, by omega⟩ ⟨s, hs8⟩ (by show s < 2 ^ k; omega) hmq hc.1
          simp only at hpop
          obtain ⟨o, ho⟩ : ∃ o : Nat, wones s = o := ⟨(wones s).toNat, by omega⟩
          rw [ho] at nx hpop ⊢
          have f1 := (wfac_d ⟨o, by omega⟩).1
          have f2 := (wfac_d ⟨k - 1 - o, by omega⟩).1
          simp only at f1 f2
          have e3 : (k : Int) - 1 - o = ((k - 1 - o : Nat) : Int) := by omega
          rw [e3, ← f1, ← f2] at nx
          have r1 : zcv tX8_rows [.inl (o : Int)] M1 (fun v M' => uX8_powerOf (fun r M' => ∃ v, r = some v ∧ F v M') 177 [some (.inr (.inr 46)), some (.inl (m : Int)), some (.inl qu), some (.inl wh), some (.inl (wsum wt k)), some (.inr (.inl (wpw wt m k s))), none, some (.inl (s : Int)), x8, some (.inl (o : Int)), some (.inl 1)] [v, .inr (.inl (wpw wt m k s))] M') := by
            refine s_rows (by omega) ?_
            simp only [↓rX8_powerOf_177, ↓rX8_powerOf_178, ↓rX8_powerOf_181, ↓rX8_powerOf_182, ↓rX8_powerOf_183, ↓rX8_powerOf_185, ↓rX8_powerOf_186, ↓hg_fX8_127_46, ↓reduceIte, zkeep_n, zkeep_i, zkeep_r, zkeep_l, zup_eq, zIR, zLR, List.length_cons, List.length_nil, Nat.reduceAdd, Nat.reduceLeDiff, Nat.reduceEqDiff, Nat.reduceSub, Int.reduceLE, Int.reduceLT, Int.reduceEq, Int.reduceNe, Int.reduceNeg, Int.reduceAdd, Int.reduceSub, Int.reduceMul, Int.reduceToNat, Nat.le_refl, Nat.zero_le, Nat.zero_add, Int.zero_add, Int.add_zero, and_true, true_and, and_false, false_and, not_true_eq_false, not_false_eq_true, eq_self, ne_eq, true_implies, false_implies, implies_true, or_true, true_or, or_false, false_or, reduceCtorEq, Option.some.injEq, Sum.inl.injEq, exists_eq_left', exists_eq_left, e2', e3, zite]
            refine s_rows (by omega) ?_
            simp only [↓rX8_powerOf_189, ↓rX8_powerOf_190, ↓rX8_powerOf_194, ↓rX8_powerOf_195, ↓rX8_powerOf_197, ↓rX8_powerOf_200, ↓reduceIte, zkeep_n, zkeep_i, zkeep_r, zkeep_l, zup_eq, zIR, zLR, List.length_cons, List.length_nil, Nat.reduceAdd, Nat.reduceLeDiff, Nat.reduceEqDiff, Nat.reduceSub, Int.reduceLE, Int.reduceLT, Int.reduceEq, Int.reduceNe, Int.reduceNeg, Int.reduceAdd, Int.reduceSub, Int.reduceMul, Int.reduceToNat, Nat.le_refl, Nat.zero_le, Nat.zero_add, Int.zero_add, Int.add_zero, and_true, true_and, and_false, false_and, not_true_eq_false, not_false_eq_true, eq_self, ne_eq, true_implies, false_implies, implies_true, or_true, true_or, or_false, false_or, reduceCtorEq, Option.some.injEq, Sum.inl.injEq, exists_eq_left', exists_eq_left, zite]
            exact nx
          simp only [↓rX8_powerOf_165, ↓rX8_powerOf_167, ↓rX8_powerOf_169, ↓rX8_powerOf_172, ↓rX8_powerOf_174, ↓reduceIte, zkeep_n, zkeep_i, zkeep_r, zkeep_l, zup_eq, zIR, zLR, List.length_cons, List.length_nil, Nat.reduceAdd, Nat.reduceLeDiff, Nat.reduceEqDiff, Nat.reduceSub, Int.reduceLE, Int.reduceLT, Int.reduceEq, Int.reduceNe, Int.reduceNeg, Int.reduceAdd, Int.reduceSub, Int.reduceMul, Int.reduceToNat, Nat.le_refl, Nat.zero_le, Nat.zero_add, Int.zero_add, Int.add_zero, and_true, true_and, and_false, false_and, not_true_eq_false, not_false_eq_true, eq_self, ne_eq, true_implies, false_implies, implies_true, or_true, true_or, or_false, false_or, reduceCtorEq, Option.some.injEq, Sum.inl.injEq, exists_eq_left', exists_eq_left, zite]
          exact r1
        · rw [if_neg hc] at hb
          subst hb
          have nx := nx x8 (some (.inl (wones s))) (some (.inl 0))
          rw [if_neg hc, Int.add_zero] at nx
          simp only [↓rX8_powerOf_165, ↓rX8_powerOf_167, ↓rX8_powerOf_169, ↓rX8_powerOf_193, ↓rX8_powerOf_194, ↓rX8_powerOf_195, ↓rX8_powerOf_197, ↓rX8_powerOf_200, ↓reduceIte, zkeep_n, zkeep_i, zkeep_r, zkeep_l, zup_eq, zIR, zLR, List.length_cons, List.length_nil, Nat.reduceAdd, Nat.reduceLeDiff, Nat.reduceEqDiff, Nat.reduceSub, Int.reduceLE, Int.reduceLT, Int.reduceEq, Int.reduceNe, Int.reduceNeg, Int.reduceAdd, Int.reduceSub, Int.reduceMul, Int.reduceToNat, Nat.le_refl, Nat.zero_le, Nat.zero_add, Int.zero_add, Int.add_zero, and_true, true_and, and_false, false_and, not_true_eq_false, not_false_eq_true, eq_self, ne_eq, true_implies, false_implies, implies_true, or_true, true_or, or_false, false_or, reduceCtorEq, Option.some.injEq, Sum.inl.injEq, exists_eq_left', exists_eq_left, zite]
          exact nx
      have J124 : ∀ x10, uX8_powerOf (fun r M' => ∃ v, r = some v ∧ F v M') 124 [some (.inr (.inr 46)), some (.inl (m : Int)), some (.inl qu), some (.inl wh), some (.inl (wsum wt k)), some (.inr (.inl (wpw wt m k s))), none, some (.inl (s : Int)), some (.inl (wsw wt s k)), some (.inl (wsw (fun _ => 1) s k)), x10] [] M1 := by
        intro x10
        rw [hwO]
        have J := fun b hb => J165 b (some (.inl (wsw wt s k))) hb
        rcases Nat.mod_two_eq_zero_or_one (s / 2 ^ m) with hb | hb
        · rw [hb] at bm
          have yes : 2 * wsw wt s k ≤ wsum wt k → wsum wt k < 2 * (wsw wt s k + wt m) → (1 : Int) = if wpc wt m k s then 1 else 0 := fun q1 q2 => by rw [if_pos ⟨hb, q1, q2⟩]
          have no : ¬ (2 * wsw wt s k ≤ wsum wt k ∧ wsum wt k < 2 * (wsw wt s k + wt m)) → (0 : Int) = if wpc wt m k s then 1 else 0 := fun q => by rw [if_neg (fun z => q z.2)]
          simp only [↓rX8_powerOf_124, ↓rX8_powerOf_126, ↓rX8_powerOf_127, ↓rX8_powerOf_130, ↓rX8_powerOf_133, ↓rX8_powerOf_134, ↓rX8_powerOf_136, ↓rX8_powerOf_137, ↓rX8_powerOf_139, ↓rX8_powerOf_142, ↓rX8_powerOf_143, ↓rX8_powerOf_145, ↓rX8_powerOf_146, ↓rX8_powerOf_147, ↓rX8_powerOf_148, ↓rX8_powerOf_151, ↓rX8_powerOf_152, ↓rX8_powerOf_153, ↓rX8_powerOf_155, ↓rX8_powerOf_158, ↓rX8_powerOf_159, ↓rX8_powerOf_163, ↓rX8_powerOf_162, ↓i_isIn, ↓reduceIte, ↓i_weight, zkeep_n, zkeep_i, zkeep_r, zkeep_l, zup_eq, zIR, zLR, List.length_cons, List.length_nil, Nat.reduceAdd, Nat.reduceLeDiff, Nat.reduceEqDiff, Nat.reduceSub, Int.reduceLE, Int.reduceLT, Int.reduceEq, Int.reduceNe, Int.reduceNeg, Int.reduceAdd, Int.reduceSub, Int.reduceMul, Int.reduceToNat, Nat.le_refl, Nat.zero_le, Nat.zero_add, Int.zero_add, Int.add_zero, and_true, true_and, and_false, false_and, not_true_eq_false, not_false_eq_true, eq_self, ne_eq, true_implies, false_implies, implies_true, or_true, true_or, or_false, false_or, reduceCtorEq, Option.some.injEq, Sum.inl.injEq, exists_eq_left', exists_eq_left, bm, em, zite]
          repeat' (first | with_reducible apply And.intro | with_reducible intro _)
          all_goals first | omega | (exact J 1 (yes (by omega) (by omega))) | (exact J 0 (no (by omega)))
        · rw [hb] at bm
          have no : (0 : Int) = if wpc wt m k s then 1 else 0 := by rw [if_neg (fun z => by have := z.1; omega)]
          simp only [↓rX8_powerOf_124, ↓rX8_powerOf_126, ↓rX8_powerOf_127, ↓rX8_powerOf_130, ↓rX8_powerOf_162, ↓rX8_powerOf_163, ↓i_isIn, ↓reduceIte, zkeep_n, zkeep_i, zkeep_r, zkeep_l, zup_eq, zIR, zLR, List.length_cons, List.length_nil, Nat.reduceAdd, Nat.reduceLeDiff, Nat.reduceEqDiff, Nat.reduceSub, Int.reduceLE, Int.reduceLT, Int.reduceEq, Int.reduceNe, Int.reduceNeg, Int.reduceAdd, Int.reduceSub, Int.reduceMul, Int.reduceToNat, Nat.le_refl, Nat.zero_le, Nat.zero_add, Int.zero_add, Int.add_zero, and_true, true_and, and_false, false_and, not_true_eq_false, not_false_eq_true, eq_self, ne_eq, true_implies, false_implies, implies_true, or_true, true_or, or_false, false_or, reduceCtorEq, Option.some.injEq, Sum.inl.injEq, exists_eq_left', exists_eq_left, bm, zite]
          repeat' (first | with_reducible apply And.intro | with_reducible intro _)
          all_goals first | omega | (exact J 0 no)
      have L3 : ∀ i : Nat, i ≤ k → uX8_powerOf (fun r M' => ∃ v, r = some v ∧ F v M') 63 [some (.inr (.inr 46)), some (.inl (m : Int)), some (.inl qu), some (.inl wh), some (.inl (wsum wt k)), some (.inr (.inl (wpw wt m k s))), none, some (.inl (s : Int)), some (.inl (wsw wt s i)), some (.inl (wsw (fun _ => 1) s i)), some (.inl (i : Int))] [] M1 := by
        refine zind (fun i => k - i) ?_
        intro i hi ih3
        refine rX8_powerOf_63.mpr ?_
        by_cases hie : i = k
        · subst hie
          have J := J124 (some (.inl (i : Int)))
          simp only [↓rX8_powerOf_65, ↓rX8_powerOf_66, ↓rX8_powerOf_69, ↓hg_fX8_127_46, ↓reduceIte, zkeep_n, zkeep_i, zkeep_r, zkeep_l, zup_eq, zIR, zLR, List.length_cons, List.length_nil, Nat.reduceAdd, Nat.reduceLeDiff, Nat.reduceEqDiff, Nat.reduceSub, Int.reduceLE, Int.reduceLT, Int.reduceEq, Int.reduceNe, Int.reduceNeg, Int.reduceAdd, Int.reduceSub, Int.reduceMul, Int.reduceToNat, Nat.le_refl, Nat.zero_le, Nat.zero_add, Int.zero_add, Int.add_zero, and_true, true_and, and_false, false_and, not_true_eq_false, not_false_eq_true, eq_self, ne_eq, true_implies, false_implies, implies_true, or_true, true_or, or_false, false_or, reduceCtorEq, Option.some.injEq, Sum.inl.injEq, exists_eq_left', exists_eq_left, e2', zite]
          repeat' (first | with_reducible apply And.intro | with_reducible intro _)
          all_goals first | omega | (exact J)
        · have nx3 := ih3 (i + 1) (by omega) (by omega)
          simp only [wsw] at nx3
          have bi := nmach2_d ⟨i, by omega⟩ ⟨s, hs8⟩
          simp only at bi
          have ei := (hwt i (by omega)).2
          rcases Nat.mod_two_eq_zero_or_one (s / 2 ^ i) with hb | hb
          · rw [hb] at bi
            rw [hb, if_neg (by decide), if_neg (by decide), Int.add_zero, Int.add_zero] at nx3
            simp only [↓rX8_powerOf_65, ↓rX8_powerOf_66, ↓rX8_powerOf_69, ↓rX8_powerOf_72, ↓rX8_powerOf_74, ↓rX8_powerOf_76, ↓rX8_powerOf_78, ↓rX8_powerOf_81, ↓rX8_powerOf_94, ↓rX8_powerOf_95, ↓rX8_powerOf_96, ↓rX8_powerOf_98, ↓rX8_powerOf_100, ↓rX8_powerOf_102, ↓rX8_powerOf_104, ↓rX8_powerOf_107, ↓rX8_powerOf_110, ↓rX8_powerOf_111, ↓rX8_powerOf_115, ↓rX8_powerOf_116, ↓rX8_powerOf_118, ↓rX8_powerOf_121, ↓rX8_powerOf_114, ↓hg_fX8_127_46, ↓i_isIn, ↓reduceIte, zkeep_n, zkeep_i, zkeep_r, zkeep_l, zup_eq, zIR, zLR, List.length_cons, List.length_nil, Nat.reduceAdd, Nat.reduceLeDiff, Nat.reduceEqDiff, Nat.reduceSub, Int.reduceLE, Int.reduceLT, Int.reduceEq, Int.reduceNe, Int.reduceNeg, Int.reduceAdd, Int.reduceSub, Int.reduceMul, Int.reduceToNat, Nat.le_refl, Nat.zero_le, Nat.zero_add, Int.zero_add, Int.add_zero, and_true, true_and, and_false, false_and, not_true_eq_false, not_false_eq_true, eq_self, ne_eq, true_implies, false_implies, implies_true, or_true, true_or, or_false, false_or, reduceCtorEq, Option.some.injEq, Sum.inl.injEq, exists_eq_left', exists_eq_left, e2', bi, zite]
            repeat' (first | with_reducible apply And.intro | with_reducible intro _)
            all_goals first | omega | (exact nx3)
          · rw [hb] at bi
            rw [hb, if_pos rfl, if_pos rfl] at nx3
            simp only [↓rX8_powerOf_65, ↓rX8_powerOf_66, ↓rX8_powerOf_69, ↓rX8_powerOf_72, ↓rX8_powerOf_74, ↓rX8_powerOf_76, ↓rX8_powerOf_78, ↓rX8_powerOf_81, ↓rX8_powerOf_84, ↓rX8_powerOf_85, ↓rX8_powerOf_87, ↓rX8_powerOf_88, ↓rX8_powerOf_91, ↓rX8_powerOf_95, ↓rX8_powerOf_96, ↓rX8_powerOf_98, ↓rX8_powerOf_100, ↓rX8_powerOf_102, ↓rX8_powerOf_104, ↓rX8_powerOf_107, ↓rX8_powerOf_110, ↓rX8_powerOf_111, ↓rX8_powerOf_115, ↓rX8_powerOf_116, ↓rX8_powerOf_118, ↓rX8_powerOf_121, ↓rX8_powerOf_114, ↓rX8_powerOf_94, ↓hg_fX8_127_46, ↓i_isIn, ↓reduceIte, ↓i_weight, zkeep_n, zkeep_i, zkeep_r, zkeep_l, zup_eq, zIR, zLR, List.length_cons, List.length_nil, Nat.reduceAdd, Nat.reduceLeDiff, Nat.reduceEqDiff, Nat.reduceSub, Int.reduceLE, Int.reduceLT, Int.reduceEq, Int.reduceNe, Int.reduceNeg, Int.reduceAdd, Int.reduceSub, Int.reduceMul, Int.reduceToNat, Nat.le_refl, Nat.zero_le, Nat.zero_add, Int.zero_add, Int.add_zero, and_true, true_and, and_false, false_and, not_true_eq_false, not_false_eq_true, eq_self, ne_eq, true_implies, false_implies, implies_true, or_true, true_or, or_false, false_or, reduceCtorEq, Option.some.injEq, Sum.inl.injEq, exists_eq_left', exists_eq_left, e2', bi, ei, zite]
            repeat' (first | with_reducible apply And.intro | with_reducible intro _)
            all_goals first | omega | (exact nx3)
      have st3 := L3 0 (Nat.zero_le _)
      simp only [↓rX8_powerOf_45, ↓rX8_powerOf_46, ↓rX8_powerOf_47, ↓rX8_powerOf_50, ↓rX8_powerOf_51, ↓rX8_powerOf_54, ↓rX8_powerOf_55, ↓rX8_powerOf_57, ↓rX8_powerOf_58, ↓rX8_powerOf_60, ↓rX8_powerOf_61, ↓hg_fX8_127_46, ↓reduceIte, zkeep_n, zkeep_i, zkeep_r, zkeep_l, zup_eq, zIR, zLR, List.length_cons, List.length_nil, Nat.reduceAdd, Nat.reduceLeDiff, Nat.reduceEqDiff, Nat.reduceSub, Int.reduceLE, Int.reduceLT, Int.reduceEq, Int.reduceNe, Int.reduceNeg, Int.reduceAdd, Int.reduceSub, Int.reduceMul, Int.reduceToNat, Nat.le_refl, Nat.zero_le, Nat.zero_add, Int.zero_add, Int.add_zero, and_true, true_and, and_false, false_and, not_true_eq_false, not_false_eq_true, eq_self, ne_eq, true_implies, false_implies, implies_true, or_true, true_or, or_false, false_or, reduceCtorEq, Option.some.injEq, Sum.inl.injEq, exists_eq_left', exists_eq_left, e2', esh, zite]
      repeat' (first | with_reducible apply And.intro | with_reducible intro _)
      all_goals first | omega | (exact st3)
  have L1 : ∀ i : Nat, i ≤ k → uX8_powerOf (fun r M' => ∃ v, r = some v ∧ F v M') 10 [some (.inr (.inr 46)), some (.inl (m : Int)), some (.inl qu), some (.inl wh), some (.inl (wsum wt i)), some (.inl (i : Int)), none, none, none, none, none] [] M1 := by
    refine zind (fun i => k - i) ?_
    intro i hi ih
    refine rX8_powerOf_10.mpr ?_
    by_cases hie : i = k
    · subst hie
      have J := L2 0 (Nat.zero_le _) none none none
      simp only [↓rX8_powerOf_12, ↓rX8_powerOf_13, ↓rX8_powerOf_16, ↓rX8_powerOf_37, ↓rX8_powerOf_38, ↓rX8_powerOf_40, ↓rX8_powerOf_41, ↓hg_fX8_127_46, ↓reduceIte, zkeep_n, zkeep_i, zkeep_r, zkeep_l, zup_eq, zIR, zLR, List.length_cons, List.length_nil, Nat.reduceAdd, Nat.reduceLeDiff, Nat.reduceEqDiff, Nat.reduceSub, Int.reduceLE, Int.reduceLT, Int.reduceEq, Int.reduceNe, Int.reduceNeg, Int.reduceAdd, Int.reduceSub, Int.reduceMul, Int.reduceToNat, Nat.le_refl, Nat.zero_le, Nat.zero_add, Int.zero_add, Int.add_zero, and_true, true_and, and_false, false_and, not_true_eq_false, not_false_eq_true, eq_self, ne_eq, true_implies, false_implies, implies_true, or_true, true_or, or_false, false_or, reduceCtorEq, Option.some.injEq, Sum.inl.injEq, exists_eq_left', exists_eq_left, e2', zite]
      repeat' (first | with_reducible apply And.intro | with_reducible intro _)
      all_goals first | omega | (exact J)
    · have nx := ih (i + 1) (by omega) (by omega)
      simp only [wsum] at nx
      have ei := (hwt i (by omega)).2
      simp only [↓rX8_powerOf_12, ↓rX8_powerOf_13, ↓rX8_powerOf_16, ↓rX8_powerOf_19, ↓rX8_powerOf_21, ↓rX8_powerOf_22, ↓rX8_powerOf_24, ↓rX8_powerOf_25, ↓rX8_powerOf_28, ↓rX8_powerOf_29, ↓rX8_powerOf_31, ↓rX8_powerOf_34, ↓hg_fX8_127_46, ↓reduceIte, ↓i_weight, zkeep_n, zkeep_i, zkeep_r, zkeep_l, zup_eq, zIR, zLR, List.length_cons, List.length_nil, Nat.reduceAdd, Nat.reduceLeDiff, Nat.reduceEqDiff, Nat.reduceSub, Int.reduceLE, Int.reduceLT, Int.reduceEq, Int.reduceNe, Int.reduceNeg, Int.reduceAdd, Int.reduceSub, Int.reduceMul, Int.reduceToNat, Nat.le_refl, Nat.zero_le, Nat.zero_add, Int.zero_add, Int.add_zero, and_true, true_and, and_false, false_and, not_true_eq_false, not_false_eq_true, eq_self, ne_eq, true_implies, false_implies, implies_true, or_true, true_or, or_false, false_or, reduceCtorEq, Option.some.injEq, Sum.inl.injEq, exists_eq_left', exists_eq_left, e2', ei, zite]
      repeat' (first | with_reducible apply And.intro | with_reducible intro _)
      all_goals first | omega | (exact nx)
  have st := L1 0 (Nat.zero_le _)
  simp only [↓rX8_powerOf_4, ↓rX8_powerOf_5, ↓rX8_powerOf_7, ↓rX8_powerOf_8, ↓reduceIte, zkeep_n, zkeep_i, zkeep_r, zkeep_l, zup_eq, zIR, zLR, List.length_cons, List.length_nil, Nat.reduceAdd, Nat.reduceLeDiff, Nat.reduceEqDiff, Nat.reduceSub, Int.reduceLE, Int.reduceLT, Int.reduceEq, Int.reduceNe, Int.reduceNeg, Int.reduceAdd, Int.reduceSub, Int.reduceMul, Int.reduceToNat, Nat.le_refl, Nat.zero_le, Nat.zero_add, Int.zero_add, Int.add_zero, and_true, true_and, and_false, false_and, not_true_eq_false, not_false_eq_true, eq_self, ne_eq, true_implies, false_implies, implies_true, or_true, true_or, or_false, false_or, reduceCtorEq, Option.some.injEq, Sum.inl.injEq, exists_eq_left', exists_eq_left, zite]
  exact st
set_option maxRecDepth 100000 in
set_option maxHeartbeats 4000000 in
theorem y_power {S M : zM} {R : zP} {me qu wh : Int} (hW : WX S) (h : RM S M) (z1 : zIR me) (z2 : zIR qu) (z4 : zIR wh) (hR : ∀ M', YQ M M' → R (some (.inr (.inl (aPower S me qu wh)))) M') : tX8_power [.inr (.inr 46), .inl me, .inl qu, .inl wh] M R := by
  have bad : ¬ ((0 ≤ me ∧ me < qn S 0) ∧ (0 ≤ qu ∧ qu < 4) ∧ (0 ≤ wh ∧ wh < 2)) → ∀ M', YQ M M' → R (some (.inr (.inl (-9223372036854775806)))) M' := fun hb M' q => by
    have := hR M' q
    unfold aPower at this
    rw [if_neg hb] at this
    exact this
  simp only [↓eX8_power, ↓rX8_power_0, ↓rX8_power_1, ↓rX8_power_2, ↓reduceIte, zkeep_n, zkeep_i, zkeep_r, zkeep_l, zup_eq, zIR, zLR, List.length_cons, List.length_nil, Nat.reduceAdd, Nat.reduceLeDiff, Nat.reduceEqDiff, Nat.reduceSub, Int.reduceLE, Int.reduceLT, Int.reduceEq, Int.reduceNe, Int.reduceNeg, Int.reduceAdd, Int.reduceSub, Int.reduceMul, Int.reduceToNat, Nat.le_refl, Nat.zero_le, Nat.zero_add, Int.zero_add, Int.add_zero, and_true, true_and, and_false, false_and, not_true_eq_false, not_false_eq_true, eq_self, ne_eq, true_implies, false_implies, implies_true, or_true, true_or, or_false, false_or, reduceCtorEq, Option.some.injEq, Sum.inl.injEq, exists_eq_left', exists_eq_left, zite]
  refine s_isMember hW h z1 (fun hm M1 f1 f2 => ?_) (fun hm M1 f1 f2 => ?_)
  · unfold zIR at z1 z2 z4
    have bad1 := fun q => bad q M1 f1.yq
    have go : (0 ≤ qu ∧ qu < 4) → (0 ≤ wh ∧ wh < 2) → zcv (zv 8 tX8_powerOf) [.inr (.inr 46), .inl me, .inl qu, .inl wh] M1 (fun v M' => uX8_power R 31 [some (.inr (.inr 46)), some (.inl me), some (.inl qu), some (.inl wh)] [v] M') := fun q1 q2 => by
      refine s_powerOf hW (RM_yq h f1.yq) ⟨hm, q1, q2⟩ (fun M2 g1 g2 => ?_)
      have fin := hR M2 (f1.yq.trans g1)
      simp only [↓rX8_power_31, ↓rX8_power_39, ↓reduceIte, zkeep_n, zkeep_i, zkeep_r, zkeep_l, zup_eq, zIR, zLR, List.length_cons, List.length_nil, Nat.reduceAdd, Nat.reduceLeDiff, Nat.reduceEqDiff, Nat.reduceSub, Int.reduceLE, Int.reduceLT, Int.reduceEq, Int.reduceNe, Int.reduceNeg, Int.reduceAdd, Int.reduceSub, Int.reduceMul, Int.reduceToNat, Nat.le_refl, Nat.zero_le, Nat.zero_add, Int.zero_add, Int.add_zero, and_true, true_and, and_false, false_and, not_true_eq_false, not_false_eq_true, eq_self, ne_eq, true_implies, false_implies, implies_true, or_true, true_or, or_false, false_or, reduceCtorEq, Option.some.injEq, Sum.inl.injEq, exists_eq_left', exists_eq_left, zite]
      exact fin
    simp only [↓rX8_power_5, ↓rX8_power_8, ↓rX8_power_9, ↓rX8_power_12, ↓rX8_power_15, ↓rX8_power_16, ↓rX8_power_17, ↓rX8_power_18, ↓rX8_power_21, ↓rX8_power_24, ↓rX8_power_25, ↓rX8_power_26, ↓rX8_power_27, ↓rX8_power_28, ↓rX8_power_34, ↓rX8_power_36, ↓rX8_power_39, ↓i_in, ↓i_isQuestion, ↓i_no, ↓reduceIte, zkeep_n, zkeep_i, zkeep_r, zkeep_l, zup_eq, zIR, zLR, List.length_cons, List.length_nil, Nat.reduceAdd, Nat.reduceLeDiff, Nat.reduceEqDiff, Nat.reduceSub, Int.reduceLE, Int.reduceLT, Int.reduceEq, Int.reduceNe, Int.reduceNeg, Int.reduceAdd, Int.reduceSub, Int.reduceMul, Int.reduceToNat, Nat.le_refl, Nat.zero_le, Nat.zero_add, Int.zero_add, Int.add_zero, and_true, true_and, and_false, false_and, not_true_eq_false, not_false_eq_true, eq_self, ne_eq, true_implies, false_implies, implies_true, or_true, true_or, or_false, false_or, reduceCtorEq, Option.some.injEq, Sum.inl.injEq, exists_eq_left', exists_eq_left, zite]
    repeat' (first | with_reducible apply And.intro | with_reducible intro _)
    all_goals first | omega | (exact bad1 (by omega)) | (exact go (by omega) (by omega))
  · have bad1 := bad (fun z => hm z.1) M1 f1.yq
    simp only [↓rX8_power_5, ↓rX8_power_34, ↓rX8_power_36, ↓rX8_power_39, ↓i_no, ↓reduceIte, zkeep_n, zkeep_i, zkeep_r, zkeep_l, zup_eq, zIR, zLR, List.length_cons, List.length_nil, Nat.reduceAdd, Nat.reduceLeDiff, Nat.reduceEqDiff, Nat.reduceSub, Int.reduceLE, Int.reduceLT, Int.reduceEq, Int.reduceNe, Int.reduceNeg, Int.reduceAdd, Int.reduceSub, Int.reduceMul, Int.reduceToNat, Nat.le_refl, Nat.zero_le, Nat.zero_add, Int.zero_add, Int.add_zero, and_true, true_and, and_false, false_and, not_true_eq_false, not_false_eq_true, eq_self, ne_eq, true_implies, false_implies, implies_true, or_true, true_or, or_false, false_or, reduceCtorEq, Option.some.injEq, Sum.inl.injEq, exists_eq_left', exists_eq_left, zite]
    exact bad1
