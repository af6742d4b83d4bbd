def mpr (c : Int) (x : Nat) : Nat → Int
  | 0 => 1
  | k + 1 => mpr c x k * (if nb x k = true then 16 - c else c)
def cm (k x : Nat) : zQ := fun i => decide (i < k) && !nb x i
theorem mpr_R {c : Int} (hc : 0 ≤ c ∧ c ≤ 16) (x : Nat) : ∀ k : Nat, 0 ≤ mpr c x k ∧ mpr c x k ≤ 16 ^ k
  | 0 => by simp [mpr]
  | k + 1 => by
    have ih := mpr_R hc x k
    unfold mpr
    have hy : ∀ y : Int, 0 ≤ y → y ≤ 16 → 0 ≤ mpr c x k * y ∧ mpr c x k * y ≤ 16 ^ (k + 1) := fun y y0 y1 => by
      refine ⟨Int.mul_nonneg ih.1 y0, ?_⟩
      rw [Int.pow_succ]
      exact Int.mul_le_mul ih.2 y1 y0 (Int.pow_nonneg (by decide))
    split
    · exact hy _ (by omega) (by omega)
    · exact hy _ (by omega) (by omega)
theorem mpr_hi {c : Int} {x k : Nat} : ∀ j : Nat, j ≤ k → x < 2 ^ k → mpr c (x + 2 ^ k) j = mpr c x j
  | 0, _, _ => rfl
  | j + 1, h, hx => by
    unfold mpr
    rw [mpr_hi j (by omega) hx, nb_set1 hx]
    have : qset (nb x) k true j = nb x j := by unfold qset; rw [if_neg (by omega)]
    rw [this]
theorem cm_lo {x k : Nat} (hx : x < 2 ^ k) : cm (k + 1) x = qset (cm k x) k true := by
  funext i
  unfold cm qset
  by_cases e : i = k
  · subst e
    rw [if_pos rfl, nb_low hx i (Nat.le_refl _)]
    simp
  · rw [if_neg e]
    congr 1
    apply decide_eq_decide.mpr
    omega
theorem cm_hi {x k : Nat} (hx : x < 2 ^ k) : cm (k + 1) (x + 2 ^ k) = qset (cm k x) k false := by
  funext i
  unfold cm
  rw [nb_set1 hx]
  unfold qset
  by_cases e : i = k
  · subst e
    rw [if_pos rfl, if_pos rfl]
    simp
  · rw [if_neg e, if_neg e]
    congr 1
    apply decide_eq_decide.mpr
    omega
theorem mc_sum {c : Int} : ∀ (k : Nat) (F : zQ → Int), gsum (fun x => mpr c x k * F (cm k x)) (2 ^ k) = eE c k F
  | 0, F => by
    show 0 + mpr c 0 0 * F (cm 0 0) = F (fun _ => false)
    have : cm 0 0 = fun _ => false := funext (fun i => by unfold cm; simp)
    rw [this]
    show 0 + 1 * _ = _
    omega
  | k + 1, F => by
    rw [Nat.pow_succ, Nat.mul_two, gsum_add]
    have i0 := mc_sum (c := c) k (fun s => F (qset s k true))
    have i1 := mc_sum (c := c) k (fun s => F (qset s k false))
    have g0 : gsum (fun x => mpr c x (k + 1) * F (cm (k + 1) x)) (2 ^ k) = c * eE c k (fun s => F (qset s k true)) := by
      rw [← i0, ← gsum_mul]
      refine gsum_congr _ (fun x hx => ?_)
      show mpr c x k * _ * _ = _
      rw [nb_low hx k (Nat.le_refl _), if_neg (by simp), cm_lo hx, Int.mul_comm (mpr c x k), Int.mul_assoc]
    have g1 : gsum (fun x => mpr c (x + 2 ^ k) (k + 1) * F (cm (k + 1) (x + 2 ^ k))) (2 ^ k) = (16 - c) * eE c k (fun s => F (qset s k false)) := by
      rw [← i1, ← gsum_mul]
      refine gsum_congr _ (fun x hx => ?_)
      show mpr c (x + 2 ^ k) k * _ * _ = _
      have e : nb (x + 2 ^ k) k = true := by rw [nb_set1 hx]; simp [qset]
      rw [e, if_pos rfl, cm_hi hx, mpr_hi k (Nat.le_refl _) hx, Int.mul_comm (mpr c x k), Int.mul_assoc]
    rw [g0, g1]
    rfl
theorem free_fcry {S : zM} {te k : Nat} {qu : Int} (h : nf S ≤ k) : free (fcry S te qu) k := by
  intro s b b'
  unfold fcry
  rw [wct_free (by unfold olt; rw [decide_eq_false_iff_not]; omega) s b b']
theorem eE_up {c : Int} {F : zQ → Int} {n : Nat} (h : ∀ k, n ≤ k → free F k) : ∀ d : Nat, eE c (n + d) F = 16 ^ d * eE c n F
  | 0 => by simp
  | d + 1 => by
    have ih := eE_up (c := c) h d
    have hf := h (n + d) (by omega)
    have e : (fun s => F (qset s (n + d) true)) = F := funext (fun s => by
      have : F (qset s (n + d) true) = F (qset s (n + d) (s (n + d))) := hf s _ _
      rw [this]
      congr 1
      funext i
      unfold qset
      split
      · rename_i q; rw [q]
      · rfl)
    rw [show n + (d + 1) = (n + d) + 1 by omega, eE_free hf, e, ih, Int.pow_succ, Int.mul_comm (16 ^ d) 16, Int.mul_assoc]
theorem p16n_d : ∀ k : Fin 9, zlshl 1 (4 * (k.val : Int)) = ((16 ^ k.val : Nat) : Int) := by decide +kernel
set_option maxRecDepth 100000 in
set_option maxHeartbeats 8000000 in
theorem s_creamOf {S M : zM} {F : zV → zM → Prop} {c te qu wh : Int} (hW : WX S) (h : RM S M) (hg : (0 ≤ c ∧ c < 17) ∧ (0 ≤ te ∧ te < 20) ∧ (0 ≤ qu ∧ qu < 4) ∧ (0 ≤ wh ∧ wh < 2)) (hR : ∀ M', YQ M M' → RC S M' → F (.inr (.inl (aCream S c te qu wh))) M') : zcv (zv 8 tX8_creamOf) [.inr (.inr 46), .inl c, .inl te, .inl qu, .inl wh] M F := by
  refine zcvv rfl ?_
  have hk := W_k hW
  have hc : 0 ≤ c ∧ c ≤ 16 := by omega
  have hnf := hk.2.2.2.2.1
  have hnf8 := hk.2.2.2.2.2.2.2
  have hqr : QR S := by obtain ⟨M0, hX⟩ := hW; exact hX.2.2.2.1.1
  obtain ⟨T, rfl⟩ : ∃ T : Nat, te = T := ⟨te.toNat, by omega⟩
  unfold aCream at hR
  rw [if_pos hg, Int.toNat_natCast] at hR
  simp only [↓eX8_creamOf, ↓rX8_creamOf_0, ↓rX8_creamOf_1, ↓reduceIte, zkeep_n, zkeep_i, zkeep_r, zkeep_l, zup_eq, zIR, zLR, List.length_cons, List.length_nil, Nat.reduceAdd, Nat.reduceLeDiff, Nat.reduceEqDiff, Nat.reduceSub, Int.reduceLE, Int.reduceLT, Int.reduceEq, Int.reduceNe, Int.reduceNeg, Int.reduceAdd, Int.reduceSub, Int.reduceMul, Int.reduceToNat, Nat.le_refl, Nat.zero_le, Nat.zero_add, Int.zero_add, Int.add_zero, and_true, true_and, and_false, false_and, not_true_eq_false, not_false_eq_true, eq_self, ne_eq, true_implies, false_implies, implies_true, or_true, true_or, or_false, false_or, reduceCtorEq, Option.some.injEq, Sum.inl.injEq, exists_eq_left', exists_eq_left, zite]
  refine zcnv rfl (s_asTold hW h (fun M1 f1 f2 f3 f4 f5 => ⟨rfl, ?_⟩))
  have hCT := told_CF hW f2 f3 f5
  have hM1 := RM_yq h f1.yq
  have e8 : M1 46 8 = (nf S : Int) := by rw [hnf]; exact hM1.2.2.2.1.1
  have esh := nshl_d ⟨nf S, by omega⟩
  simp only at esh
  have hp8 := npow_le hnf8
  have c3 := hCT.2.2.1
  have c7 := hCT.2.2.2.2.2.2
  generalize hG : (fun x => mpr c x (nf S) * fcry S T qu (cm (nf S) x)) = G
  have L : ∀ t : Nat × zM, (t.1 ≤ 2 ^ nf S ∧ YV M1 t.2) → ∀ x8 x9 x10, uX8_creamOf (fun r M' => ∃ v, r = some v ∧ F v M') 10 [some (.inr (.inr 46)), some (.inl c), some (.inl (T : Int)), some (.inl qu), some (.inl wh), some (.inr (.inl (gsum G t.1))), none, some (.inl (t.1 : Int)), x8, x9, x10] [] t.2 := by
    refine zind (fun t => 2 ^ nf S - t.1) ?_
    rintro ⟨x, N⟩ ⟨hx, hN⟩ ih x8 x9 x10
    simp only at hx hN ih
    have n8 : N 46 8 = (nf S : Int) := (hN _ _ (by decide) (by decide)).trans e8
    refine rX8_creamOf_10.mpr ?_
    by_cases he : x = 2 ^ nf S
    · subst he
      have fin := hR N (f1.yq.trans (fun k i a b => hN k i (by omega) (fun e => (b e).2.2.2))) (hN.rc f2)
      have hsum : gsum G (2 ^ nf S) = eE c (nf S) (fcry S T qu) := by rw [← hG]; exact mc_sum (nf S) (fcry S T qu)
      have hup := eE_up (c := c) (F := fcry S T qu) (n := nf S) (fun k hk => free_fcry hk) (8 - nf S)
      rw [show nf S + (8 - nf S) = 8 by omega] at hup
      have hup : crX S c T qu = 16 ^ (8 - nf S) * eE c (nf S) (fcry S T qu) := hup
      have hR2 := eE_R hc (nf S) (fcry S T qu) (fun s => by unfold fcry; split <;> omega)
      rw [← hsum] at hup hR2
      obtain ⟨X, hX⟩ : ∃ X : Nat, gsum G (2 ^ nf S) = X := ⟨(gsum G (2 ^ nf S)).toNat, by omega⟩
      rw [hX] at hup hR2 ⊢
      have pp : 0 < (16 : Nat) ^ (8 - nf S) := Nat.pow_pos (by decide)
      have ps : 0 < (16 : Nat) ^ nf S := Nat.pow_pos (by decide)
      have p8 : (16 : Nat) ^ nf S * 16 ^ (8 - nf S) = 4294967296 := by
        rw [← Nat.pow_add, show nf S + (8 - nf S) = 8 by omega]
      have hXn : (crX S c T qu).toNat = X * 16 ^ (8 - nf S) := by
        have : crX S c T qu = ((X * 16 ^ (8 - nf S) : Nat) : Int) := by
          rw [hup, Int.natCast_mul, Int.natCast_pow, Int.mul_comm]
          rfl
        rw [this, Int.toNat_natCast]
      have hsc := low_scale (a := X) (b := 16 ^ nf S) pp
      rw [p8, ← hXn] at hsc
      rw [hsc.1, hsc.2] at fin
      have hy2 : (16 : Nat) ^ nf S ≤ 4294967296 := by
        have : 16 ^ nf S * 1 ≤ 16 ^ nf S * 16 ^ (8 - nf S) := Nat.mul_le_mul_left _ pp
        omega
      have hx2 : X ≤ 4294967296 := by
        have h1 : ((X : Nat) : Int) ≤ ((16 ^ nf S : Nat) : Int) := by
          rw [Int.natCast_pow]
          exact hR2.2
        omega
      have e16 := p16n_d ⟨nf S, by omega⟩
      simp only at e16
      have lw : zcv tX8_lowest [.inr (.inl (X : Int)), .inr (.inl ((16 ^ nf S : Nat) : Int)), .inl wh] N (fun v M' => uX8_creamOf (fun r M' => ∃ v, r = some v ∧ F v M') 129 [some (.inr (.inr 46)), some (.inl c), some (.inl (T : Int)), some (.inl qu), some (.inl wh), some (.inr (.inl (X : Int))), none, some (.inl ((2 ^ nf S : Nat) : Int)), x8, x9, x10] [v] M') := by
        refine s_lowest (by omega) ps (by omega) hg.2.2.2 ?_
        simp only [↓rX8_creamOf_129, ↓reduceIte, zkeep_n, zkeep_i, zkeep_r, zkeep_l, zup_eq, zIR, zLR, List.length_cons, List.length_nil, Nat.reduceAdd, Nat.reduceLeDiff, Nat.reduceEqDiff, Nat.reduceSub, Int.reduceLE, Int.reduceLT, Int.reduceEq, Int.reduceNe, Int.reduceNeg, Int.reduceAdd, Int.reduceSub, Int.reduceMul, Int.reduceToNat, Nat.le_refl, Nat.zero_le, Nat.zero_add, Int.zero_add, Int.add_zero, and_true, true_and, and_false, false_and, not_true_eq_false, not_false_eq_true, eq_self, ne_eq, true_implies, false_implies, implies_true, or_true, true_or, or_false, false_or, reduceCtorEq, Option.some.injEq, Sum.inl.injEq, exists_eq_left', exists_eq_left]
        exact fin
      simp only [↓rX8_creamOf_12, ↓rX8_creamOf_13, ↓rX8_creamOf_14, ↓rX8_creamOf_17, ↓rX8_creamOf_18, ↓rX8_creamOf_114, ↓rX8_creamOf_116, ↓rX8_creamOf_117, ↓rX8_creamOf_118, ↓rX8_creamOf_119, ↓rX8_creamOf_122, ↓rX8_creamOf_123, ↓rX8_creamOf_124, ↓rX8_creamOf_126, ↓hg_fX8_166_46, ↓reduceIte, zkeep_n, zkeep_i, zkeep_r, zkeep_l, zup_eq, zIR, zLR, List.length_cons, List.length_nil, Nat.reduceAdd, Nat.reduceLeDiff, Nat.reduceEqDiff, Nat.reduceSub, Int.reduceLE, Int.reduceLT, Int.reduceEq, Int.reduceNe, Int.reduceNeg, Int.reduceAdd, Int.reduceSub, Int.reduceMul, Int.reduceToNat, Nat.le_refl, Nat.zero_le, Nat.zero_add, Int.zero_add, Int.add_zero, and_true, true_and, and_false, false_and, not_true_eq_false, not_false_eq_true, eq_self, ne_eq, true_implies, false_implies, implies_true, or_true, true_or, or_false, false_or, reduceCtorEq, Option.some.injEq, Sum.inl.injEq, exists_eq_left', exists_eq_left, n8, esh, e16, zite]
      repeat' (first | with_reducible apply And.intro | with_reducible intro _)
      all_goals first | omega | (exact lw) | (exact Int.le_trans (by decide) (Int.natCast_nonneg _))
    · have hx8 : x < 256 := by omega
      have nxs := fun N' q x8 x9 x10 => ih (x + 1, N') ⟨by simp only; omega, q⟩ (by simp only; omega) x8 x9 x10
      simp only [gsum] at nxs
      have hGx : G x = mpr c x (nf S) * fcry S T qu (cm (nf S) x) := by rw [← hG]
      have hmR := mpr_R hc x (nf S)
      have hm2 : (16 : Int) ^ nf S ≤ 4294967296 := by
        have : ∀ k : Fin 9, (16 : Int) ^ k.val ≤ 4294967296 := by decide
        exact this ⟨nf S, by omega⟩
      have J67 : ∀ x10, uX8_creamOf (fun r M' => ∃ v, r = some v ∧ F v M') 67 [some (.inr (.inr 46)), some (.inl c), some (.inl (T : Int)), some (.inl qu), some (.inl wh), some (.inr (.inl (gsum G x))), none, some (.inl (x : Int)), some (.inr (.inl (mpr c x (nf S)))), none, x10] [] N := by
        intro x10
        by_cases hz : mpr c x (nf S) = 0
        · have nx := nxs N hN (some (.inr (.inl (mpr c x (nf S))))) none x10
          rw [hGx, hz, Int.zero_mul, Int.add_zero] at nx
          have ez : zcmp (0 : Int) 0 = 0 := by decide
          rw [hz]
          simp only [↓rX8_creamOf_67, ↓rX8_creamOf_69, ↓rX8_creamOf_70, ↓rX8_creamOf_71, ↓rX8_creamOf_108, ↓rX8_creamOf_111, ↓reduceIte, zkeep_n, zkeep_i, zkeep_r, zkeep_l, zup_eq, zIR, zLR, List.length_cons, List.length_nil, Nat.reduceAdd, Nat.reduceLeDiff, Nat.reduceEqDiff, Nat.reduceSub, Int.reduceLE, Int.reduceLT, Int.reduceEq, Int.reduceNe, Int.reduceNeg, Int.reduceAdd, Int.reduceSub, Int.reduceMul, Int.reduceToNat, Nat.le_refl, Nat.zero_le, Nat.zero_add, Int.zero_add, Int.add_zero, and_true, true_and, and_false, false_and, not_true_eq_false, not_false_eq_true, eq_self, ne_eq, true_implies, false_implies, implies_true, or_true, true_or, or_false, false_or, reduceCtorEq, Option.some.injEq, Sum.inl.injEq, exists_eq_left', exists_eq_left, ez, zite]
          repeat' (first | with_reducible apply And.intro | with_reducible intro _)
          all_goals first | omega | (exact nx)
        · have ez : zcmp (mpr c x (nf S)) 0 = 1 := by unfold zcmp; rw [if_pos (by omega)]
          have hN2 : YV M1 (zup N 46 16 x) := hN.trans (fun k i a b => by rw [zup_eq, if_neg (fun z => b z.1 z.2)])
          have hkp : ∀ f : Nat, f < nf S → knt x f = kps (cm (nf S) x) f := fun f hf => by
            unfold knt kps cm
            rw [nb_mach (f := f) (x := x) (by omega) hx8, Int.toNat_natCast]
            cases nb x f <;> simp [hf]
          have call : zcn (zv 8 tX8_runs) [.inr (.inr 46)] (zup N 46 16 x) (fun N' => uX8_creamOf (fun r M' => ∃ v, r = some v ∧ F v M') 84 [some (.inr (.inr 46)), some (.inl c), some (.inl (T : Int)), some (.inl qu), some (.inl wh), some (.inr (.inl (gsum G x))), none, some (.inl (x : Int)), some (.inr (.inl (mpr c x (nf S)))), none, x10] [] N') := by
            refine zcnv rfl (s_runs hqr (hN2.cf hCT) (nt := x) (by rw [zup_in, if_pos rfl]) (fun N' q1 q2 => ⟨rfl, ?_⟩))
            have hH : HV S N' (wX S (kps (cm (nf S) x)) (so0 S) (fst S)) := HV_cg (V := wG S (gt S) (nf S) (knt x) (so0 S) (fst S)) q2 (fun k a b t ht => wseg_kp hkp _)
            have hV : VR S (wX S (kps (cm (nf S) x)) (so0 S) (fst S)) := fun k a b t ht => vokb_wG (g := gt S) (n := nf S) (kp := kps (cm (nf S) x)) (so := so0 S) (fi := fst S) (k := k) (T := t) hqr (fun q q0 q1 => ((c3 k a b).2 q q0 q1).2) (fun f hf => (c7 f hf).2.2.2.1) hCT.2.2.2.2.2.1 ht
            have m2 : N' 46 2 = qn S 0 := (q1 _ _ (by decide)).trans ((hN2 _ _ (by decide) (by decide)).trans f2.1)
            simp only [↓rX8_creamOf_84, ↓rX8_creamOf_86, ↓rX8_creamOf_87, ↓rX8_creamOf_88, ↓rX8_creamOf_89, ↓rX8_creamOf_90, ↓reduceIte, zkeep_n, zkeep_i, zkeep_r, zkeep_l, zup_eq, zIR, zLR, List.length_cons, List.length_nil, Nat.reduceAdd, Nat.reduceLeDiff, Nat.reduceEqDiff, Nat.reduceSub, Int.reduceLE, Int.reduceLT, Int.reduceEq, Int.reduceNe, Int.reduceNeg, Int.reduceAdd, Int.reduceSub, Int.reduceMul, Int.reduceToNat, Nat.le_refl, Nat.zero_le, Nat.zero_add, Int.zero_add, Int.add_zero, and_true, true_and, and_false, false_and, not_true_eq_false, not_false_eq_true, eq_self, ne_eq, true_implies, false_implies, implies_true, or_true, true_or, or_false, false_or, reduceCtorEq, Option.some.injEq, Sum.inl.injEq, exists_eq_left', exists_eq_left, zite]
            refine s_ayesNow hH hV m2 hk.1 hg.2.1 hg.2.2.1 ?_
            have ew : (fun m : Nat => decide (5 ≤ wX S (kps (cm (nf S) x)) (so0 S) (fst S) m (T : Int).toNat qu)) = pcr S T qu (cm (nf S) x) := by
              rw [Int.toNat_natCast]
              rfl
            rw [ew]
            have hw := wct_R (pcr S T qu (cm (nf S) x)) (qk S)
            have nx := nxs N' (hN2.trans (fun k i a b => q1 k i (by omega))) (some (.inr (.inl (mpr c x (nf S))))) none x10
            rw [hGx] at nx
            unfold fcry at nx
            simp only [↓rX8_creamOf_93, ↓rX8_creamOf_96, ↓rX8_creamOf_99, ↓rX8_creamOf_101, ↓rX8_creamOf_105, ↓rX8_creamOf_106, ↓rX8_creamOf_108, ↓rX8_creamOf_111, ↓rX8_creamOf_104, ↓reduceIte, ↓i_isCarried, zkeep_n, zkeep_i, zkeep_r, zkeep_l, zup_eq, zIR, zLR, List.length_cons, List.length_nil, Nat.reduceAdd, Nat.reduceLeDiff, Nat.reduceEqDiff, Nat.reduceSub, Int.reduceLE, Int.reduceLT, Int.reduceEq, Int.reduceNe, Int.reduceNeg, Int.reduceAdd, Int.reduceSub, Int.reduceMul, Int.reduceToNat, Nat.le_refl, Nat.zero_le, Nat.zero_add, Int.zero_add, Int.add_zero, and_true, true_and, and_false, false_and, not_true_eq_false, not_false_eq_true, eq_self, ne_eq, true_implies, false_implies, implies_true, or_true, true_or, or_false, false_or, reduceCtorEq, Option.some.injEq, Sum.inl.injEq, exists_eq_left', exists_eq_left, m2, zite]
            repeat' (first | with_reducible apply And.intro | with_reducible intro _)
            all_goals first | omega | (rw [if_pos (by omega), Int.mul_one] at nx; exact nx) | (rw [if_neg (by omega), Int.mul_zero, Int.add_zero] at nx; exact nx)
          simp only [↓rX8_creamOf_67, ↓rX8_creamOf_69, ↓rX8_creamOf_70, ↓rX8_creamOf_71, ↓rX8_creamOf_74, ↓rX8_creamOf_75, ↓rX8_creamOf_77, ↓rX8_creamOf_80, ↓rX8_creamOf_81, ↓hp_fX8_181_46, ↓reduceIte, zkeep_n, zkeep_i, zkeep_r, zkeep_l, zIR, zLR, List.length_cons, List.length_nil, Nat.reduceAdd, Nat.reduceLeDiff, Nat.reduceEqDiff, Nat.reduceSub, Int.reduceLE, Int.reduceLT, Int.reduceEq, Int.reduceNe, Int.reduceNeg, Int.reduceAdd, Int.reduceSub, Int.reduceMul, Int.reduceToNat, Nat.le_refl, Nat.zero_le, Nat.zero_add, Int.zero_add, Int.add_zero, and_true, true_and, and_false, false_and, not_true_eq_false, not_false_eq_true, eq_self, ne_eq, true_implies, false_implies, implies_true, or_true, true_or, or_false, false_or, reduceCtorEq, Option.some.injEq, Sum.inl.injEq, exists_eq_left', exists_eq_left, ez, zite]
          repeat' (first | with_reducible apply And.intro | with_reducible intro _)
          all_goals first | omega | (exact call)
      have L3 : ∀ i : Nat, i ≤ nf S → uX8_creamOf (fun r M' => ∃ v, r = some v ∧ F v M') 27 [some (.inr (.inr 46)), some (.inl c), some (.inl (T : Int)), some (.inl qu), some (.inl wh), some (.inr (.inl (gsum G x))), none, some (.inl (x : Int)), some (.inr (.inl (mpr c x i))), none, some (.inl (i : Int))] [] N := by
        refine zind (fun i => nf S - i) ?_
        intro i hi ih3
        refine rX8_creamOf_27.mpr ?_
        by_cases hie : i = nf S
        · subst hie
          have J := J67 (some (.inl (nf S : Int)))
          simp only [↓rX8_creamOf_29, ↓rX8_creamOf_30, ↓rX8_creamOf_33, ↓hg_fX8_166_46, ↓reduceIte, zkeep_n, zkeep_i, zkeep_r, zkeep_l, zup_eq, zIR, zLR, List.length_cons, List.length_nil, Nat.reduceAdd, Nat.reduceLeDiff, Nat.reduceEqDiff, Nat.reduceSub, Int.reduceLE, Int.reduceLT, Int.reduceEq, Int.reduceNe, Int.reduceNeg, Int.reduceAdd, Int.reduceSub, Int.reduceMul, Int.reduceToNat, Nat.le_refl, Nat.zero_le, Nat.zero_add, Int.zero_add, Int.add_zero, and_true, true_and, and_false, false_and, not_true_eq_false, not_false_eq_true, eq_self, ne_eq, true_implies, false_implies, implies_true, or_true, true_or, or_false, false_or, reduceCtorEq, Option.some.injEq, Sum.inl.injEq, exists_eq_left', exists_eq_left, n8, zite]
          repeat' (first | with_reducible apply And.intro | with_reducible intro _)
          all_goals first | omega | (exact J)
        · have nx3 := ih3 (i + 1) (by omega) (by omega)
          simp only [mpr] at nx3
          have bi := nb_mach (f := i) (x := x) (by omega) hx8
          cases hb : nb x i with
          | true =>
            rw [hb, if_pos rfl] at bi nx3
            simp only [↓rX8_creamOf_29, ↓rX8_creamOf_30, ↓rX8_creamOf_33, ↓rX8_creamOf_36, ↓rX8_creamOf_38, ↓rX8_creamOf_40, ↓rX8_creamOf_42, ↓rX8_creamOf_45, ↓rX8_creamOf_48, ↓rX8_creamOf_50, ↓rX8_creamOf_51, ↓rX8_creamOf_52, ↓rX8_creamOf_53, ↓rX8_creamOf_58, ↓rX8_creamOf_59, ↓rX8_creamOf_61, ↓rX8_creamOf_64, ↓rX8_creamOf_56, ↓rX8_creamOf_57, ↓hg_fX8_166_46, ↓i_isIn, ↓reduceIte, zkeep_n, zkeep_i, zkeep_r, zkeep_l, zup_eq, zIR, zLR, List.length_cons, List.length_nil, Nat.reduceAdd, Nat.reduceLeDiff, Nat.reduceEqDiff, Nat.reduceSub, Int.reduceLE, Int.reduceLT, Int.reduceEq, Int.reduceNe, Int.reduceNeg, Int.reduceAdd, Int.reduceSub, Int.reduceMul, Int.reduceToNat, Nat.le_refl, Nat.zero_le, Nat.zero_add, Int.zero_add, Int.add_zero, and_true, true_and, and_false, false_and, not_true_eq_false, not_false_eq_true, eq_self, ne_eq, true_implies, false_implies, implies_true, or_true, true_or, or_false, false_or, reduceCtorEq, Option.some.injEq, Sum.inl.injEq, exists_eq_left', exists_eq_left, n8, bi, zite]
            repeat' (first | with_reducible apply And.intro | with_reducible intro _)
            all_goals first | omega | (exact nx3)
          | false =>
            rw [hb, if_neg (by simp)] at bi nx3
            simp only [↓rX8_creamOf_29, ↓rX8_creamOf_30, ↓rX8_creamOf_33, ↓rX8_creamOf_36, ↓rX8_creamOf_38, ↓rX8_creamOf_40, ↓rX8_creamOf_42, ↓rX8_creamOf_45, ↓rX8_creamOf_48, ↓rX8_creamOf_50, ↓rX8_creamOf_51, ↓rX8_creamOf_52, ↓rX8_creamOf_53, ↓rX8_creamOf_58, ↓rX8_creamOf_59, ↓rX8_creamOf_61, ↓rX8_creamOf_64, ↓rX8_creamOf_56, ↓rX8_creamOf_57, ↓hg_fX8_166_46, ↓i_isIn, ↓reduceIte, zkeep_n, zkeep_i, zkeep_r, zkeep_l, zup_eq, zIR, zLR, List.length_cons, List.length_nil, Nat.reduceAdd, Nat.reduceLeDiff, Nat.reduceEqDiff, Nat.reduceSub, Int.reduceLE, Int.reduceLT, Int.reduceEq, Int.reduceNe, Int.reduceNeg, Int.reduceAdd, Int.reduceSub, Int.reduceMul, Int.reduceToNat, Nat.le_refl, Nat.zero_le, Nat.zero_add, Int.zero_add, Int.add_zero, and_true, true_and, and_false, false_and, not_true_eq_false, not_false_eq_true, eq_self, ne_eq, true_implies, false_implies, implies_true, or_true, true_or, or_false, false_or, reduceCtorEq, Option.some.injEq, Sum.inl.injEq, exists_eq_left', exists_eq_left, n8, bi, zite]
            repeat' (first | with_reducible apply And.intro | with_reducible intro _)
            all_goals first | omega | (exact nx3)
      have st3 := L3 0 (Nat.zero_le _)
      simp only [↓rX8_creamOf_12, ↓rX8_creamOf_13, ↓rX8_creamOf_14, ↓rX8_creamOf_17, ↓rX8_creamOf_18, ↓rX8_creamOf_21, ↓rX8_creamOf_22, ↓rX8_creamOf_24, ↓rX8_creamOf_25, ↓hg_fX8_166_46, ↓reduceIte, zkeep_n, zkeep_i, zkeep_r, zkeep_l, zup_eq, zIR, zLR, List.length_cons, List.length_nil, Nat.reduceAdd, Nat.reduceLeDiff, Nat.reduceEqDiff, Nat.reduceSub, Int.reduceLE, Int.reduceLT, Int.reduceEq, Int.reduceNe, Int.reduceNeg, Int.reduceAdd, Int.reduceSub, Int.reduceMul, Int.reduceToNat, Nat.le_refl, Nat.zero_le, Nat.zero_add, Int.zero_add, Int.add_zero, and_true, true_and, and_false, false_and, not_true_eq_false, not_false_eq_true, eq_self, ne_eq, true_implies, false_implies, implies_true, or_true, true_or, or_false, false_or, reduceCtorEq, Option.some.injEq, Sum.inl.injEq, exists_eq_left', exists_eq_left, n8, esh, zite]
      repeat' (first | with_reducible apply And.intro | with_reducible intro _)
      all_goals first | omega | (exact st3)
  have st := fun x8 x9 x10 => L (0, M1) ⟨Nat.zero_le _, YV.rfl⟩ x8 x9 x10
  simp only [↓rX8_creamOf_4, ↓rX8_creamOf_5, ↓rX8_creamOf_7, ↓rX8_creamOf_8, ↓reduceIte, zkeep_n, zkeep_i, zkeep_r, zkeep_l, zup_eq, zIR, zLR, List.length_cons, List.length_nil, Nat.reduceAdd, Nat.reduceLeDiff, Nat.reduceEqDiff, Nat.reduceSub, Int.reduceLE, Int.reduceLT, Int.reduceEq, Int.reduceNe, Int.reduceNeg, Int.reduceAdd, Int.reduceSub, Int.reduceMul, Int.reduceToNat, Nat.le_refl, Nat.zero_le, Nat.zero_add, Int.zero_add, Int.add_zero, and_true, true_and, and_false, false_and, not_true_eq_false, not_false_eq_true, eq_self, ne_eq, true_implies, false_implies, implies_true, or_true, true_or, or_false, false_or, reduceCtorEq, Option.some.injEq, Sum.inl.injEq, exists_eq_left', exists_eq_left, zite]
  exact st _ _ _
set_option maxRecDepth 100000 in
set_option maxHeartbeats 4000000 in
theorem y_cream {S M : zM} {R : zP} {c te qu wh : Int} (hW : WX S) (h : RM S M) (z0 : zIR c) (z1 : zIR te) (z2 : zIR qu) (z4 : zIR wh) (hR : ∀ M', YQ M M' → R (some (.inr (.inl (aCream S c te qu wh)))) M') : tX8_cream [.inr (.inr 46), .inl c, .inl te, .inl qu, .inl wh] M R := by
  unfold zIR at z0 z1 z2 z4
  have bad : ¬ ((0 ≤ c ∧ c < 17) ∧ (0 ≤ te ∧ te < 20) ∧ (0 ≤ qu ∧ qu < 4) ∧ (0 ≤ wh ∧ wh < 2)) → R (some (.inr (.inl (-9223372036854775806)))) M := fun hb => by
    have := hR M YQ.rfl
    unfold aCream at this
    rw [if_neg hb] at this
    exact this
  have go : ((0 ≤ c ∧ c < 17) ∧ (0 ≤ te ∧ te < 20) ∧ (0 ≤ qu ∧ qu < 4) ∧ (0 ≤ wh ∧ wh < 2)) → zcv (zv 8 tX8_creamOf) [.inr (.inr 46), .inl c, .inl te, .inl qu, .inl wh] M (fun v M' => uX8_cream R 43 [some (.inr (.inr 46)), some (.inl c), some (.inl te), some (.inl qu), some (.inl wh)] [v] M') := fun q => by
    refine s_creamOf hW h q (fun M2 g1 g2 => ?_)
    have fin := hR M2 g1
    simp only [↓rX8_cream_43, ↓rX8_cream_51, ↓reduceIte, zkeep_n, zkeep_i, zkeep_r, zkeep_l, zup_eq, zIR, zLR, List.length_cons, List.length_nil, Nat.reduceAdd, Nat.reduceLeDiff, Nat.reduceEqDiff, Nat.reduceSub, Int.reduceLE, Int.reduceLT, Int.reduceEq, Int.reduceNe, Int.reduceNeg, Int.reduceAdd, Int.reduceSub, Int.reduceMul, Int.reduceToNat, Nat.le_refl, Nat.zero_le, Nat.zero_add, Int.zero_add, Int.add_zero, and_true, true_and, and_false, false_and, not_true_eq_false, not_false_eq_true, eq_self, ne_eq, true_implies, false_implies, implies_true, or_true, true_or, or_false, false_or, reduceCtorEq, Option.some.injEq, Sum.inl.injEq, exists_eq_left', exists_eq_left, zite]
    exact fin
  simp only [↓eX8_cream, ↓rX8_cream_0, ↓rX8_cream_1, ↓rX8_cream_2, ↓rX8_cream_4, ↓rX8_cream_7, ↓rX8_cream_10, ↓rX8_cream_11, ↓rX8_cream_14, ↓rX8_cream_17, ↓rX8_cream_18, ↓rX8_cream_21, ↓rX8_cream_24, ↓rX8_cream_26, ↓rX8_cream_27, ↓rX8_cream_28, ↓rX8_cream_31, ↓rX8_cream_34, ↓rX8_cream_35, ↓rX8_cream_36, ↓rX8_cream_37, ↓rX8_cream_38, ↓rX8_cream_40, ↓rX8_cream_46, ↓rX8_cream_48, ↓rX8_cream_51, ↓i_in, ↓i_isQuestion, ↓i_isTerm, ↓i_no, ↓reduceIte, zkeep_n, zkeep_i, zkeep_r, zkeep_l, zup_eq, zIR, zLR, List.length_cons, List.length_nil, Nat.reduceAdd, Nat.reduceLeDiff, Nat.reduceEqDiff, Nat.reduceSub, Int.reduceLE, Int.reduceLT, Int.reduceEq, Int.reduceNe, Int.reduceNeg, Int.reduceAdd, Int.reduceSub, Int.reduceMul, Int.reduceToNat, Nat.le_refl, Nat.zero_le, Nat.zero_add, Int.zero_add, Int.add_zero, and_true, true_and, and_false, false_and, not_true_eq_false, not_false_eq_true, eq_self, ne_eq, true_implies, false_implies, implies_true, or_true, true_or, or_false, false_or, reduceCtorEq, Option.some.injEq, Sum.inl.injEq, exists_eq_left', exists_eq_left, zite]
  repeat' (first | with_reducible apply And.intro | with_reducible intro _)
  all_goals first | omega | (exact bad (by omega)) | (exact go (by omega))
